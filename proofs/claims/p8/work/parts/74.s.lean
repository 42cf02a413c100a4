/-! the lines of a tower -/
noncomputable def ux_gl (B : Nat → Nat) (g p : Nat) : Nat × Nat := if 8 ≤ g then (2, ux_tb B p) else ux_bn (ux_bn (ux_bn (0, ux_te B p) (ux_nm B 9)) (ux_nm B 9)) (ux_nm B 99)
noncomputable def ux_fm (B : Nat → Nat) (g q : Nat) : Nat × Nat := if ux_tk B q = 2 ∧ ux_tn B q ≤ 9999 ∧ g ≤ ux_tn B q then (3, ux_tb B q) else ux_nm B 9999 q
noncomputable def ux_of (B : Nat → Nat) (g q : Nat) : Nat × Nat := ux_if (ux_mw B q 3) (ux_fm B g (ux_te B q)) (0, q)
noncomputable def ux_pl (B : Nat → Nat) (g h p : Nat) : Nat × Nat := if 8 ≤ h then (2, ux_tb B p) else ux_bn (ux_bn (ux_bn (ux_bn (0, ux_te B p) (ux_nm B 9)) (ux_nm B 9)) (ux_nm B 99)) (ux_of B g)
noncomputable def ux_r1 (B : Nat → Nat) (k p : Nat) : Nat × Nat := if 8 ≤ k then (2, ux_tb B p) else ux_nm B 9 p
def ux_rc (B : Nat → Nat) (s : (Nat × Nat) × Nat) : Prop := s.1.1 = 0 ∧ (ux_tk B s.1.2 = 2 ∨ s.2 = 0)
noncomputable def ux_rF (B : Nat → Nat) (s : (Nat × Nat) × Nat) : (Nat × Nat) × Nat := (ux_r1 B s.2 s.1.2, s.2 + 1)
noncomputable def ux_rl (B : Nat → Nat) (p : Nat) : Nat × Nat := (ux_lp (ux_rc B) (ux_rF B) ((0, ux_te B p), 0)).1
noncomputable def ux_ce (B : Nat → Nat) (p : Nat) : Nat × Nat := ux_nm B 99 (ux_te B p)
/-- said once -/
noncomputable def ux_on (B : Nat → Nat) (d : Nat) (F : Nat → Nat × Nat) (p : Nat) : Nat × Nat := if d = 0 then F p else (5, ux_tb B p)
noncomputable def ux_ru (B : Nat → Nat) (V : Nat → Prop) (p : Nat) : Nat × Nat := ux_ex B V 6 (ux_te B p)
def ux_lc (B : Nat → Nat) (s : (Nat × Nat) × Nat × Nat × Nat × Nat × Nat × Nat) : Prop := s.1.1 = 0 ∧ ux_tk B s.1.2 ≠ 0
noncomputable def ux_li (B : Nat → Nat) : (Nat × Nat) × Nat × Nat × Nat × Nat × Nat × Nat → (Nat × Nat) × Nat × Nat × Nat × Nat × Nat × Nat
  | (r, g, h, d1, d2, d3, d4) =>
    ux_if (ux_mw B r.2 0) (ux_bn (ux_gl B g r.2) (ux_mk B 59), g + 1, h, d1, d2, d3, d4)
    (ux_if (ux_mw B r.2 1 ∨ ux_mw B r.2 2) (ux_bn (ux_pl B g h r.2) (ux_mk B 59), g, h + 1, d1, d2, d3, d4)
    (ux_if (ux_mw B r.2 10) (ux_bn (ux_on B d1 (ux_rl B) r.2) (ux_mk B 59), g, h, 1, d2, d3, d4)
    (ux_if (ux_mw B r.2 4) (ux_bn (ux_on B d2 (ux_ce B) r.2) (ux_mk B 59), g, h, d1, 1, d3, d4)
    (ux_if (ux_mw B r.2 5) (ux_bn (ux_on B d3 (ux_ru B ux_VW) r.2) (ux_mk B 59), g, h, d1, d2, 1, d4)
    (ux_if (ux_mw B r.2 6) (ux_bn (ux_on B d4 (ux_ru B ux_VS) r.2) (ux_mk B 59), g, h, d1, d2, d3, 1)
    (ux_bn (1, ux_tb B r.2) (ux_mk B 59), g, h, d1, d2, d3, d4))))))
/-- the whole text's fault (which, where), or (0, ..) -/
noncomputable def ux_tw (B : Nat → Nat) : Nat × Nat := (ux_lp (ux_lc B) (ux_li B) ((0, 0), 0, 0, 0, 0, 0, 0)).1
section UXL
variable {B : Nat → Nat} {r r' : Nat × Nat} {g h d1 d2 d3 d4 p k j : Nat} {X : Nat × Nat}
theorem ux_tw_s {s s' : (Nat × Nat) × Nat × Nat × Nat × Nat × Nat × Nat} (q : X = (ux_lp (ux_lc B) (ux_li B) s).1) (hc : ux_lc B s) (e : ux_li B s = s') : X = (ux_lp (ux_lc B) (ux_li B) s').1 := by
  rw [q, ux_lp_t hc, e]
theorem ux_tw_e {s : (Nat × Nat) × Nat × Nat × Nat × Nat × Nat × Nat} (q : X = (ux_lp (ux_lc B) (ux_li B) s).1) (hc : ¬ ux_lc B s) : X = s.1 := by
  rw [q, ux_lp_f hc]
theorem ux_mwn (h1 : ux_mw B p j) (hj : j < 17) (hk : k < 17) (n : j ≠ k) : ¬ ux_mw B p k := fun w => n (ux_mw_inj hj hk h1 w)
theorem ux_li0 (hm : ux_mw B r.2 0) : ux_li B (r, g, h, d1, d2, d3, d4) = (ux_bn (ux_gl B g r.2) (ux_mk B 59), g + 1, h, d1, d2, d3, d4) := ux_ip hm
theorem ux_li1 (hm : ux_mw B r.2 1 ∨ ux_mw B r.2 2) : ux_li B (r, g, h, d1, d2, d3, d4) = (ux_bn (ux_pl B g h r.2) (ux_mk B 59), g, h + 1, d1, d2, d3, d4) := by
  have n0 : ¬ ux_mw B r.2 0 := hm.elim (fun w => ux_mwn w (by decide) (by decide) (by decide)) (fun w => ux_mwn w (by decide) (by decide) (by decide))
  exact (ux_in n0).trans (ux_ip hm)
theorem ux_lin (hj : j < 17) (hm : ux_mw B r.2 j) (h0 : j ≠ 0) (h1 : j ≠ 1) (h2 : j ≠ 2) : ux_li B (r, g, h, d1, d2, d3, d4) = (ux_if (ux_mw B r.2 10) (ux_bn (ux_on B d1 (ux_rl B) r.2) (ux_mk B 59), g, h, 1, d2, d3, d4)
    (ux_if (ux_mw B r.2 4) (ux_bn (ux_on B d2 (ux_ce B) r.2) (ux_mk B 59), g, h, d1, 1, d3, d4)
    (ux_if (ux_mw B r.2 5) (ux_bn (ux_on B d3 (ux_ru B ux_VW) r.2) (ux_mk B 59), g, h, d1, d2, 1, d4)
    (ux_if (ux_mw B r.2 6) (ux_bn (ux_on B d4 (ux_ru B ux_VS) r.2) (ux_mk B 59), g, h, d1, d2, d3, 1)
    (ux_bn (1, ux_tb B r.2) (ux_mk B 59), g, h, d1, d2, d3, d4))))) :=
  (ux_in (ux_mwn hm hj (by decide) h0)).trans (ux_in (fun w => w.elim (ux_mwn hm hj (by decide) h1) (ux_mwn hm hj (by decide) h2)))
theorem ux_li10 (hm : ux_mw B r.2 10) : ux_li B (r, g, h, d1, d2, d3, d4) = (ux_bn (ux_on B d1 (ux_rl B) r.2) (ux_mk B 59), g, h, 1, d2, d3, d4) := (ux_lin (by decide) hm (by decide) (by decide) (by decide)).trans (ux_ip hm)
theorem ux_li4 (hm : ux_mw B r.2 4) : ux_li B (r, g, h, d1, d2, d3, d4) = (ux_bn (ux_on B d2 (ux_ce B) r.2) (ux_mk B 59), g, h, d1, 1, d3, d4) := (ux_lin (by decide) hm (by decide) (by decide) (by decide)).trans ((ux_in (ux_mwn hm (by decide) (by decide) (by decide))).trans (ux_ip hm))
theorem ux_li5 (hm : ux_mw B r.2 5) : ux_li B (r, g, h, d1, d2, d3, d4) = (ux_bn (ux_on B d3 (ux_ru B ux_VW) r.2) (ux_mk B 59), g, h, d1, d2, 1, d4) := (ux_lin (by decide) hm (by decide) (by decide) (by decide)).trans ((ux_in (ux_mwn hm (by decide) (by decide) (by decide))).trans ((ux_in (ux_mwn hm (by decide) (by decide) (by decide))).trans (ux_ip hm)))
theorem ux_li6 (hm : ux_mw B r.2 6) : ux_li B (r, g, h, d1, d2, d3, d4) = (ux_bn (ux_on B d4 (ux_ru B ux_VS) r.2) (ux_mk B 59), g, h, d1, d2, d3, 1) := (ux_lin (by decide) hm (by decide) (by decide) (by decide)).trans ((ux_in (ux_mwn hm (by decide) (by decide) (by decide))).trans ((ux_in (ux_mwn hm (by decide) (by decide) (by decide))).trans ((ux_in (ux_mwn hm (by decide) (by decide) (by decide))).trans (ux_ip hm))))
theorem ux_lix (n0 : ¬ ux_mw B r.2 0) (n1 : ¬ ux_mw B r.2 1) (n2 : ¬ ux_mw B r.2 2) (n10 : ¬ ux_mw B r.2 10) (n4 : ¬ ux_mw B r.2 4) (n5 : ¬ ux_mw B r.2 5) (n6 : ¬ ux_mw B r.2 6) : ux_li B (r, g, h, d1, d2, d3, d4) = (ux_bn (1, ux_tb B r.2) (ux_mk B 59), g, h, d1, d2, d3, d4) :=
  (ux_in n0).trans ((ux_in (fun w => w.elim n1 n2)).trans ((ux_in n10).trans ((ux_in n4).trans ((ux_in n5).trans (ux_in n6)))))
/-! rains -/
theorem ux_rl_x {s : Nat} (hr : r.1 ≠ 0) : (ux_lp (ux_rc B) (ux_rF B) (r, s)).1 = r := by rw [ux_lp_f (fun w => hr w.1)]
theorem ux_rl_s {s t : Nat} (q : X = (ux_lp (ux_rc B) (ux_rF B) (r, s)).1) (hc : ux_rc B (r, s)) (ht : (ux_r1 B s r.2).1 = 0 → t = s + 1) : X = (ux_lp (ux_rc B) (ux_rF B) (ux_r1 B s r.2, t)).1 := by
  rw [q, ux_lp_t hc]
  show (ux_lp (ux_rc B) (ux_rF B) (ux_r1 B s r.2, s + 1)).1 = _
  by_cases w : (ux_r1 B s r.2).1 = 0
  · rw [ht w]
  · rw [ux_rl_x w, ux_rl_x w]
theorem ux_rl_e {s : Nat} (q : X = (ux_lp (ux_rc B) (ux_rF B) (r, s)).1) (hc : ¬ ux_rc B (r, s)) : X = r := by rw [q, ux_lp_f hc]
end UXL
section UXC
variable {f : Nat → Int32} {n a st kd nb fd pl g hh : Int32} {wd : Option Nat} {r : Nat × Nat} {p q k j : Nat} {ad : Nat → Nat} {F G : Nat → Nat × Nat} {B : Nat → Nat}
theorem ux_glA (h : 8 ≤ g.toInt) : ux_gl B g.toInt.toNat p = ux_w B (2 : Int32).toInt.toNat (0, p) := by
  unfold ux_gl; rw [if_pos (by omega)]; rfl
theorem ux_glB (h : g.toInt < 8) : ux_gl B g.toInt.toNat p = ux_bn (ux_bn (ux_bn (0, ux_te B p) (ux_nm B (9 : Int32).toInt.toNat)) (ux_nm B (9 : Int32).toInt.toNat)) (ux_nm B (99 : Int32).toInt.toNat) := by
  unfold ux_gl; rw [if_neg (by omega)]; rfl
theorem ux_plA (h : 8 ≤ hh.toInt) : ux_pl B k hh.toInt.toNat p = ux_w B (2 : Int32).toInt.toNat (0, p) := by
  unfold ux_pl; rw [if_pos (by omega)]; rfl
theorem ux_plB (h : hh.toInt < 8) : ux_pl B k hh.toInt.toNat p = ux_bn (ux_bn (ux_bn (ux_bn (0, ux_te B p) (ux_nm B (9 : Int32).toInt.toNat)) (ux_nm B (9 : Int32).toInt.toNat)) (ux_nm B (99 : Int32).toInt.toNat)) (ux_of B k) := by
  unfold ux_pl; rw [if_neg (by omega)]; rfl
theorem ux_ofy (h : ux_S f n a st kd wd nb fd pl r) (inj : ∀ i j : Nat, i < 17 → j < 17 → ad i = ad j → i = j) (hw : ew wd) (c : wd.map ad = some (ad 3)) : ux_bn r (ux_of (ux_B f n) k) = ux_bn r (fun p => ux_fm (ux_B f n) k (ux_te (ux_B f n) p)) := by
  refine ux_split h (fun hf => ?_) (fun hb => ?_)
  · rw [ux_bnO (ux_S_1 h hf), ux_bnO (ux_S_1 h hf)]
    exact ux_ip (ux_S_w h hf inj (by decide) hw c)
  · rw [ux_bnB hb, ux_bnB hb]
theorem ux_ofn (h : ux_S f n a st kd wd nb fd pl r) (c : ¬ wd.map ad = some (ad 3)) : ux_bn r (ux_of (ux_B f n) k) = r := by
  refine ux_split h (fun hf => ?_) (fun hb => ?_)
  · rw [ux_bnO (ux_S_1 h hf)]
    exact (ux_in (ux_S_wn (ad := ad) h hf (by decide) c)).trans (ux_r_z (ux_S_1 h hf)).symm
  · rw [ux_bnB hb]
theorem ux_tfA (h : ux_S f n a st kd wd nb fd pl (0, q)) (hf : fd.toInt = 0) (hk : kd.toInt = 2) (hn : nb.toInt ≤ 9999) (hg : g.toInt ≤ nb.toInt) : ux_fm (ux_B f n) g.toInt.toNat q = ux_bn (ux_w (ux_B f n) (3 : Int32).toInt.toNat (0, q)) (ux_nm (ux_B f n) (9999 : Int32).toInt.toNat) := by
  obtain ⟨k1, k2⟩ : ux_tk (ux_B f n) q = 2 ∧ nb.toInt = (ux_tn (ux_B f n) q : Int) := ux_S_n h hf hk
  unfold ux_fm
  rw [if_pos ⟨k1, by omega, by omega⟩]; rfl
theorem ux_tfB (h : ux_S f n a st kd wd nb fd pl (0, q)) (hf : fd.toInt = 0) (hn : kd.toInt ≠ 2 ∨ 9999 < nb.toInt ∨ nb.toInt < g.toInt) : ux_fm (ux_B f n) g.toInt.toNat q = ux_bn (0, q) (ux_nm (ux_B f n) (9999 : Int32).toInt.toNat) := by
  have k0 : kd.toInt = (ux_tk (ux_B f n) q : Int) := ux_S_k h hf
  unfold ux_fm
  refine (if_neg ?_).trans rfl
  rintro ⟨k1, k2, k3⟩
  have k4 : nb.toInt = (ux_tn (ux_B f n) q : Int) := (ux_S_n h hf (by omega)).2
  omega
theorem ux_tfC (hb : r.1 ≠ 0) : ux_bn r F = ux_bn (ux_w B k r) G := by
  unfold ux_w; rw [ux_bnB hb, ux_bnB hb, ux_bnB hb]
theorem ux_tfD (hb : r.1 ≠ 0) : ux_bn r F = ux_bn r G := by rw [ux_bnB hb, ux_bnB hb]
theorem ux_r1A (h : 8 ≤ g.toInt) : ux_r1 B g.toInt.toNat p = ux_w B (2 : Int32).toInt.toNat (0, p) := by
  unfold ux_r1; rw [if_pos (by omega)]; rfl
theorem ux_r1B (h : g.toInt < 8) : ux_r1 B g.toInt.toNat p = ux_bn (0, p) (ux_nm B (9 : Int32).toInt.toNat) := by
  unfold ux_r1; rw [if_neg (by omega)]; rfl
theorem ux_onA (h : 1 ≤ g.toInt) : ux_on B g.toInt.toNat F p = ux_w B (5 : Int32).toInt.toNat (0, p) := by
  unfold ux_on; rw [if_neg (by omega)]; rfl
theorem ux_onB (h : g.toInt = 0) : ux_on B g.toInt.toNat F p = F p := by
  unfold ux_on; rw [if_pos (by omega)]
theorem ux_on_c {d e : Nat} (h : d = 0 ↔ e = 0) : ux_on B d F p = ux_on B e F p := by
  unfold ux_on
  by_cases w : d = 0
  · rw [if_pos w, if_pos (h.mp w)]
  · rw [if_neg w, if_neg (fun t => w (h.mpr t))]
theorem ux_VWv {u : Nat} : ∀ i : Nat, i < 17 → (ux_VW i ↔ ux_V u u i) := by
  have t : ∀ i : Nat, i < 17 → ((i = 10 ∨ i = 11 ∨ i = 12 ∨ i = 13) ↔ wdW.getD i 0 ≠ 0) := by decide
  intro i hi
  exact (t i hi).trans ⟨fun h => Or.inl ⟨rfl, h⟩, fun h => h.elim (fun h => h.2) (fun h => absurd rfl h.1)⟩
theorem ux_VSv {u v : Nat} (n : u ≠ v) : ∀ i : Nat, i < 17 → (ux_VS i ↔ ux_V u v i) := by
  have t : ∀ i : Nat, i < 17 → ((i = 14 ∨ i = 15 ∨ i = 11 ∨ i = 16 ∨ i = 13) ↔ wdS.getD i 0 ≠ 0) := by decide
  intro i hi
  exact (t i hi).trans ⟨fun h => Or.inr ⟨n, h⟩, fun h => h.elim (fun h => absurd h.1 n) (fun h => h.2)⟩
theorem ux_S_wk (h : ux_S f n a st kd wd nb fd pl r) (hf : fd.toInt = 0) (inj : ∀ i j : Nat, i < 17 → j < 17 → ad i = ad j → i = j) (hj : j < 17) (hw : ew wd) (c : wd.map ad = some (ad j)) : kd.toInt = 1 := by
  have m := ux_S_w h hf inj hj hw c
  have k := ux_S_k h hf
  have := m.1
  omega
end UXC
/-- the rule that was read has signs, the other one is as it was -/
def ux_rp (P : Prop) (fd w w' s s' : Int32) : Prop := (P ∧ (1 ≤ w'.toInt ∨ 1 ≤ fd.toInt) ∧ s' = s) ∨ (¬ P ∧ (1 ≤ s'.toInt ∨ 1 ≤ fd.toInt) ∧ w' = w)
/-- the fault that was found: as the text says -/
def ux_fin (fd pl : Int32) (t : Nat × Nat) : Prop := fd.toInt = (t.1 : Int) ∧ (t.1 ≠ 0 → pl.toInt = (t.2 : Int)) ∧ (t.1 = 0 → pl.toInt = -1)
section UXW
variable {f : Nat → Int32} {n n' a st kd nb fd pl g hh rr x y z : Int32} {wd : Option Nat} {r X : Nat × Nat} {p q k j g0 h0 d1 d2 d3 d4 : Nat} {ad : Nat → Nat} {F G : Nat → Nat × Nat} {B : Nat → Nat}
theorem ux_fin_of (h : ux_S f n a st kd wd nb fd pl r) (hp : 1 ≤ fd.toInt ∨ pl.toInt = -1) : ux_fin fd pl r := by
  refine ⟨ux_S_f h, fun w => ?_, fun w => ?_⟩
  · rcases h with h | h
    · exact absurd h.1 w
    · exact h.2.2
  · have := ux_S_f h; omega
theorem ux_fin_c (h : n.toInt = n'.toInt) (e : X = ux_tw (ux_B f n)) (hf : ux_fin fd pl X) : ux_fin fd pl (ux_tw (ux_B f n')) := by
  have e2 : n = n' := Int32.toInt_inj.mp h
  rw [← e2, ← e]; exact hf
theorem ux_lc_of (h : ux_S f n a st kd wd nb fd pl r) (hf : fd.toInt = 0) (hk : kd.toInt ≠ 0) : ux_lc (ux_B f n) (r, g0, h0, d1, d2, d3, d4) := by
  have k := ux_S_k h hf
  exact ⟨ux_S_1 h hf, fun w => by have w : ux_tk (ux_B f n) r.2 = 0 := w; omega⟩
theorem ux_lc_no (h : ux_S f n a st kd wd nb fd pl r) (hq : fd.toInt = 0 → kd.toInt = 0) : ¬ ux_lc (ux_B f n) (r, g0, h0, d1, d2, d3, d4) := by
  rintro ⟨h1, h2⟩
  have h1 : r.1 = 0 := h1
  have h2 : ux_tk (ux_B f n) r.2 ≠ 0 := h2
  have hf : fd.toInt = 0 := by have := ux_S_f h; omega
  have k := ux_S_k h hf
  have := hq hf
  omega
theorem ux_liG (hm : ux_mw B r.2 0) (hg : g.toInt = (g0 : Int)) : ux_li B (r, g0, h0, d1, d2, d3, d4) = (ux_bn (ux_gl B g.toInt.toNat r.2) (ux_mk B (59 : Int32).toInt.toNat), g0 + 1, h0, d1, d2, d3, d4) := by
  rw [show g.toInt.toNat = g0 by omega]; exact ux_li0 hm
theorem ux_liP (hm : ux_mw B r.2 1 ∨ ux_mw B r.2 2) (hg : g.toInt = (g0 : Int)) (hp : hh.toInt = (h0 : Int)) : ux_li B (r, g0, h0, d1, d2, d3, d4) = (ux_bn (ux_pl B g.toInt.toNat hh.toInt.toNat r.2) (ux_mk B (59 : Int32).toInt.toNat), g0, h0 + 1, d1, d2, d3, d4) := by
  rw [show g.toInt.toNat = g0 by omega, show hh.toInt.toNat = h0 by omega]; exact ux_li1 hm
theorem ux_liR (hm : ux_mw B r.2 10) (hd : (rr.toInt = 0 ∧ d1 = 0) ∨ (1 ≤ rr.toInt ∧ d1 = 1)) : ux_li B (r, g0, h0, d1, d2, d3, d4) = (ux_bn (ux_on B rr.toInt.toNat (ux_rl B) r.2) (ux_mk B (59 : Int32).toInt.toNat), g0, h0, 1, d2, d3, d4) := by
  rw [ux_on_c (d := rr.toInt.toNat) (e := d1) (by omega)]; exact ux_li10 hm
theorem ux_liC (hm : ux_mw B r.2 4) (hd : (rr.toInt = 0 ∧ d2 = 0) ∨ (1 ≤ rr.toInt ∧ d2 = 1)) : ux_li B (r, g0, h0, d1, d2, d3, d4) = (ux_bn (ux_on B rr.toInt.toNat (ux_ce B) r.2) (ux_mk B (59 : Int32).toInt.toNat), g0, h0, d1, 1, d3, d4) := by
  rw [ux_on_c (d := rr.toInt.toNat) (e := d2) (by omega)]; exact ux_li4 hm
theorem ux_liW (hm : ux_mw B r.2 5) (hd : (rr.toInt = 0 ∧ d3 = 0) ∨ (1 ≤ rr.toInt ∧ d3 = 1)) : ux_li B (r, g0, h0, d1, d2, d3, d4) = (ux_bn (ux_if (ux_mw B r.2 5) (ux_on B rr.toInt.toNat (ux_ru B ux_VW) r.2) X) (ux_mk B (59 : Int32).toInt.toNat), g0, h0, d1, d2, 1, d4) := by
  rw [ux_ip (P := ux_mw B r.2 5) hm, ux_on_c (d := rr.toInt.toNat) (e := d3) (by omega)]; exact ux_li5 hm
theorem ux_liS (n5 : ¬ ux_mw B r.2 5) (hm : ux_mw B r.2 6) (hd : (rr.toInt = 0 ∧ d4 = 0) ∨ (1 ≤ rr.toInt ∧ d4 = 1)) : ux_li B (r, g0, h0, d1, d2, d3, d4) = (ux_bn (ux_if (ux_mw B r.2 5) X (ux_on B rr.toInt.toNat (ux_ru B ux_VS) r.2)) (ux_mk B (59 : Int32).toInt.toNat), g0, h0, d1, d2, d3, 1) := by
  rw [ux_in (P := ux_mw B r.2 5) n5, ux_on_c (d := rr.toInt.toNat) (e := d4) (by omega)]; exact ux_li6 hm
theorem ux_liX (q : r.1 = 0) (n0 : ¬ ux_mw B r.2 0) (n1 : ¬ ux_mw B r.2 1) (n2 : ¬ ux_mw B r.2 2) (n10 : ¬ ux_mw B r.2 10) (n4 : ¬ ux_mw B r.2 4) (n5 : ¬ ux_mw B r.2 5) (n6 : ¬ ux_mw B r.2 6) : ux_li B (r, g0, h0, d1, d2, d3, d4) = (ux_bn (ux_w B (1 : Int32).toInt.toNat r) (ux_mk B (59 : Int32).toInt.toNat), g0, h0, d1, d2, d3, d4) := by
  rw [show ux_w B (1 : Int32).toInt.toNat r = (1, ux_tb B r.2) from ux_bnO q]
  exact ux_lix n0 n1 n2 n10 n4 n5 n6
theorem ux_rp_t {P : Prop} {w w' s s' : Int32} (h : ux_rp P fd w w' s s') (hp : P) : (1 ≤ w'.toInt ∨ 1 ≤ fd.toInt) ∧ s'.toInt = s.toInt := h.elim (fun h => ⟨h.2.1, by rw [h.2.2]⟩) (fun h => absurd hp h.1)
theorem ux_rp_f {P : Prop} {w w' s s' : Int32} (h : ux_rp P fd w w' s s') (hp : ¬ P) : (1 ≤ s'.toInt ∨ 1 ≤ fd.toInt) ∧ w'.toInt = w.toInt := h.elim (fun h => absurd h.1 hp) (fun h => ⟨h.2.1, by rw [h.2.2]⟩)
theorem ux_mn (q : z = if y < x then y else x) (h : x.toInt ≤ y.toInt) : z.toInt = x.toInt := by
  by_cases w : y < x
  · have := lt_i w; omega
  · rw [q, if_neg w]
theorem ux_mx (q : z = if x < y then y else x) (h : x.toInt ≤ y.toInt) : z.toInt = y.toInt := by
  by_cases w : x < y
  · rw [q, if_pos w]
  · have := le_i (iv_nlt w); rw [q, if_neg w]; omega
end UXW
