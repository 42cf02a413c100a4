/-! what a text tells: the values of its lines -/
abbrev PV := (Nat → Nat → Int32) × List Int × List Int
noncomputable def ux_nN (B : Nat → Nat) (q : Nat) : Int32 := Int32.ofNat (ux_tn B q)
theorem ux_nN_of {x : Int32} {B : Nat → Nat} {q : Nat} (h : x.toInt = (ux_tn B q : Int)) : x = ux_nN B q := by
  have h1 := iv_rng x
  refine Int32.toInt_inj.mp ?_
  unfold ux_nN
  have e : (Int32.ofNat (ux_tn B q)).toInt = (ux_tn B q : Int) := nI_toInt (by omega)
  rw [e]; exact h
def ux_u2 (V : Nat → Nat → Int32) (i k : Nat) (x : Int32) : Nat → Nat → Int32 := fun a b => if a = i ∧ b = k then x else V a b
theorem ux_u2s {V : Nat → Nat → Int32} {i k : Nat} {x : Int32} : ux_u2 V i k x i k = x := if_pos ⟨rfl, rfl⟩
theorem ux_u2i {V : Nat → Nat → Int32} {i k a b : Nat} {x : Int32} (h : a ≠ i) : ux_u2 V i k x a b = V a b := if_neg (fun w => h w.1)
theorem ux_u2k {V : Nat → Nat → Int32} {i k a b : Nat} {x : Int32} (h : b ≠ k) : ux_u2 V i k x a b = V a b := if_neg (fun w => h w.2)
noncomputable def ux_ti (B : Nat → Nat) : Nat → Nat → Nat
  | 0, p => p
  | k + 1, p => ux_te B (ux_ti B k p)
/-- a gargoyle (0 jaw, 1 brow, 2 stone), as told -/
noncomputable def ux_vG (B : Nat → Nat) (g p : Nat) (V : Nat → Nat → Int32) : Nat → Nat → Int32 := ux_u2 (ux_u2 (ux_u2 V 0 g (ux_nN B (ux_te B p))) 1 g (ux_nN B (ux_te B (ux_te B p)))) 2 g (ux_nN B (ux_te B (ux_te B (ux_te B p))))
/-- the family told at q, if one is -/
noncomputable def ux_vF (B : Nat → Nat) (q : Nat) : Int32 := ux_if (ux_mw B q 3) (ux_nN B (ux_te B q)) (-1)
/-- somebody (3 an orphan, 4 jaw, 5 brow, 6 age, 7 family) -/
noncomputable def ux_vP (B : Nat → Nat) (h p : Nat) (V : Nat → Nat → Int32) : Nat → Nat → Int32 := ux_u2 (ux_u2 (ux_u2 (ux_u2 (ux_u2 V 3 h (ux_if (ux_mw B p 2) 1 0)) 4 h (ux_nN B (ux_te B p))) 5 h (ux_nN B (ux_te B (ux_te B p)))) 6 h (ux_nN B (ux_te B (ux_te B (ux_te B p))))) 7 h (ux_vF B (ux_te B (ux_te B (ux_te B (ux_te B p)))))
/-- how many rains -/
noncomputable def ux_rn (B : Nat → Nat) (p : Nat) : Nat := (ux_lp (ux_rc B) (ux_rF B) ((0, ux_te B p), 0)).2
/-- rains (8, how many at 9 1) -/
noncomputable def ux_vR (B : Nat → Nat) (p : Nat) (V : Nat → Nat → Int32) : Nat → Nat → Int32 := fun a b => if a = 8 then ux_nN B (ux_ti B (b + 1) p) else if a = 9 ∧ b = 1 then Int32.ofNat (ux_rn B p) else V a b
noncomputable def ux_vC (B : Nat → Nat) (p : Nat) (V : Nat → Nat → Int32) : Nat → Nat → Int32 := ux_u2 V 9 0 (ux_nN B (ux_te B p))
/-- what a line adds -/
noncomputable def ux_lv (B : Nat → Nat) : (Nat × Nat) × Nat × Nat × Nat × Nat × Nat × Nat → PV → PV
  | (r, g, h, _), z =>
    ux_if (ux_mw B r.2 0) (ux_vG B g r.2 z.1, z.2)
    (ux_if (ux_mw B r.2 1 ∨ ux_mw B r.2 2) (ux_vP B h r.2 z.1, z.2)
    (ux_if (ux_mw B r.2 10) (ux_vR B r.2 z.1, z.2)
    (ux_if (ux_mw B r.2 4) (ux_vC B r.2 z.1, z.2)
    (ux_if (ux_mw B r.2 5) (z.1, uc_ex B ux_VW ux_WW 6 (ux_te B r.2) [], z.2.2)
    (ux_if (ux_mw B r.2 6) (z.1, z.2.1, uc_ex B ux_VS ux_WS 6 (ux_te B r.2) [])
    z)))))
def ux_V0 : PV := (fun a b => if a = 9 ∧ b = 0 then 30 else 0, [], [])
/-- both loops side by side -/
noncomputable def ux_pw (B : Nat → Nat) (s : (Nat × Nat) × Nat × Nat × Nat × Nat × Nat × Nat) (z : PV) : ((Nat × Nat) × Nat × Nat × Nat × Nat × Nat × Nat) × PV := ux_lp (fun z => ux_lc B z.1) (fun z => (ux_li B z.1, ux_lv B z.1 z.2)) (s, z)
noncomputable def ux_pv (B : Nat → Nat) : ((Nat × Nat) × Nat × Nat × Nat × Nat × Nat × Nat) × PV := ux_pw B ((0, 0), 0, 0, 0, 0, 0, 0) ux_V0
section UXVA
variable {B : Nat → Nat} {s s' : (Nat × Nat) × Nat × Nat × Nat × Nat × Nat × Nat} {z z' : PV} {X : ((Nat × Nat) × Nat × Nat × Nat × Nat × Nat × Nat) × PV} {r : Nat × Nat} {p k j m g h : Nat} {x : Int32}
theorem ux_pw_s (q : X = ux_pw B s z) (hc : ux_lc B s) (e : ux_li B s = s') (e2 : ux_lv B s z = z') : X = ux_pw B s' z' := by
  rw [q]; unfold ux_pw
  rw [ux_lp_t (c := fun z : ((Nat × Nat) × Nat × Nat × Nat × Nat × Nat × Nat) × PV => ux_lc B z.1) (r := (s, z)) hc]
  rw [show (ux_li B (s, z).1, ux_lv B (s, z).1 (s, z).2) = (s', z') from by rw [← e, ← e2]]
theorem ux_pw_e (q : X = ux_pw B s z) (hc : ¬ ux_lc B s) : X = (s, z) := by
  rw [q]; unfold ux_pw
  rw [ux_lp_f (c := fun z : ((Nat × Nat) × Nat × Nat × Nat × Nat × Nat × Nat) × PV => ux_lc B z.1) (r := (s, z)) hc]
theorem ux_lv0 (hm : ux_mw B s.1.2 0) : ux_lv B s z = (ux_vG B s.2.1 s.1.2 z.1, z.2) := ux_ip hm
theorem ux_lv1 (hm : ux_mw B s.1.2 1 ∨ ux_mw B s.1.2 2) : ux_lv B s z = (ux_vP B s.2.2.1 s.1.2 z.1, z.2) := by
  have n0 : ¬ ux_mw B s.1.2 0 := hm.elim (fun w => ux_mwn w (by decide) (by decide) (by decide)) (fun w => ux_mwn w (by decide) (by decide) (by decide))
  exact (ux_in n0).trans (ux_ip hm)
theorem ux_lvn (hj : j < 17) (hm : ux_mw B s.1.2 j) (h0 : j ≠ 0) (h1 : j ≠ 1) (h2 : j ≠ 2) : ux_lv B s z = (ux_if (ux_mw B s.1.2 10) (ux_vR B s.1.2 z.1, z.2)
    (ux_if (ux_mw B s.1.2 4) (ux_vC B s.1.2 z.1, z.2)
    (ux_if (ux_mw B s.1.2 5) (z.1, uc_ex B ux_VW ux_WW 6 (ux_te B s.1.2) [], z.2.2)
    (ux_if (ux_mw B s.1.2 6) (z.1, z.2.1, uc_ex B ux_VS ux_WS 6 (ux_te B s.1.2) []) z)))) :=
  (ux_in (ux_mwn hm hj (by decide) h0)).trans (ux_in (fun w => w.elim (ux_mwn hm hj (by decide) h1) (ux_mwn hm hj (by decide) h2)))
theorem ux_lv10 (hm : ux_mw B s.1.2 10) : ux_lv B s z = (ux_vR B s.1.2 z.1, z.2) := (ux_lvn (by decide) hm (by decide) (by decide) (by decide)).trans (ux_ip hm)
theorem ux_lv4 (hm : ux_mw B s.1.2 4) : ux_lv B s z = (ux_vC B s.1.2 z.1, z.2) := (ux_lvn (by decide) hm (by decide) (by decide) (by decide)).trans ((ux_in (ux_mwn hm (by decide) (by decide) (by decide))).trans (ux_ip hm))
theorem ux_lv5 (hm : ux_mw B s.1.2 5) : ux_lv B s z = (z.1, uc_ex B ux_VW ux_WW 6 (ux_te B s.1.2) [], z.2.2) := (ux_lvn (by decide) hm (by decide) (by decide) (by decide)).trans ((ux_in (ux_mwn hm (by decide) (by decide) (by decide))).trans ((ux_in (ux_mwn hm (by decide) (by decide) (by decide))).trans (ux_ip hm)))
theorem ux_lv6 (hm : ux_mw B s.1.2 6) : ux_lv B s z = (z.1, z.2.1, uc_ex B ux_VS ux_WS 6 (ux_te B s.1.2) []) := (ux_lvn (by decide) hm (by decide) (by decide) (by decide)).trans ((ux_in (ux_mwn hm (by decide) (by decide) (by decide))).trans ((ux_in (ux_mwn hm (by decide) (by decide) (by decide))).trans ((ux_in (ux_mwn hm (by decide) (by decide) (by decide))).trans (ux_ip hm))))
/-! places of numbers -/
theorem ux_nm_e (q : (ux_bn r (ux_nm B m)).1 = 0) : r.1 = 0 ∧ ux_tk B r.2 = 2 ∧ ux_tn B r.2 ≤ m ∧ (ux_bn r (ux_nm B m)).2 = ux_te B r.2 := by
  by_cases q1 : r.1 = 0
  · rw [ux_bnO q1] at q ⊢
    unfold ux_nm at q ⊢
    by_cases w : ux_tk B r.2 = 2
    · rw [if_pos w] at q ⊢
      by_cases v : m < ux_tn B r.2
      · rw [if_pos v] at q; exact absurd (show (2 : Nat) = 0 from q) (by decide)
      · rw [if_neg v]; exact ⟨q1, w, by omega, rfl⟩
    · rw [if_neg w] at q; exact absurd (show (1 : Nat) = 0 from q) (by decide)
  · rw [ux_bnB q1] at q; exact absurd q q1
end UXVA
