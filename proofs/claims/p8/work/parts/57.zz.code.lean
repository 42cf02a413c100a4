/-! the signs that a rule's grammar lays (the reference's signs; the class's items by cen), beside 57.z.pure's functions: DRAFT, not yet compiled.
   E, EC: an expression within: where it ends, what it lays -/
/-- the word that stands at p -/
noncomputable def ux_ci (B : Nat → Nat) (p : Nat) : Nat := @Classical.epsilon Nat ⟨0⟩ (fun i => i < 17 ∧ ux_mw B p i)
theorem ux_ci_eq {B : Nat → Nat} {p i : Nat} (hi : i < 17) (h : ux_mw B p i) : ux_ci B p = i := by
  have s : ux_ci B p < 17 ∧ ux_mw B p (ux_ci B p) := Classical.epsilon_spec (p := fun i => i < 17 ∧ ux_mw B p i) ⟨i, hi, h⟩
  exact ux_mw_inj s.1 hi s.2 h
noncomputable def uc_pt (B : Nat → Nat) (W : Nat → Int) (EC : Nat → List Int → List Int) (p : Nat) (l : List Int) : List Int := if ux_tk B p = 40 then EC (ux_te B p) l else if ux_tk B p = 1 then l ++ [W (ux_ci B p)] else l ++ [(ux_tn B p : Int)]
/-- a loop over parts: c whether it goes on, F the next part, FC its signs, op the joining one's -/
noncomputable def uc_st (B : Nat → Nat) (F : Nat → Nat × Nat) (FC : Nat → List Int → List Int) (op : Nat → Int) (s : (Nat × Nat) × List Int) : (Nat × Nat) × List Int := (F (ux_te B s.1.2), FC (ux_te B s.1.2) s.2 ++ [op s.1.2])
noncomputable def uc_lp (B : Nat → Nat) (c : Nat × Nat → Prop) (F : Nat → Nat × Nat) (FC : Nat → List Int → List Int) (op : Nat → Int) (s : (Nat × Nat) × List Int) : List Int := (ux_lp (fun s => c s.1) (uc_st B F FC op) s).2
noncomputable def uc_o1 (B : Nat → Nat) (p : Nat) : Int := if ux_tk B p = 42 then -22 else -23
theorem uc_o1y {B : Nat → Nat} {p : Nat} (h : ux_tk B p = 42) : (-22 : Int32).toInt = uc_o1 B p := by unfold uc_o1; rw [if_pos h]; rfl
theorem uc_o1n {B : Nat → Nat} {p : Nat} (h : ux_tk B p ≠ 42) : (-23 : Int32).toInt = uc_o1 B p := by unfold uc_o1; rw [if_neg h]; rfl
noncomputable def uc_o2 (B : Nat → Nat) (p : Nat) : Int := if ux_tk B p = 43 then -20 else -21
theorem uc_o2y {B : Nat → Nat} {p : Nat} (h : ux_tk B p = 43) : (-20 : Int32).toInt = uc_o2 B p := by unfold uc_o2; rw [if_pos h]; rfl
theorem uc_o2n {B : Nat → Nat} {p : Nat} (h : ux_tk B p ≠ 43) : (-21 : Int32).toInt = uc_o2 B p := by unfold uc_o2; rw [if_neg h]; rfl
noncomputable def uc_o3 (B : Nat → Nat) (p : Nat) : Int := if ux_tk B p = 60 then -24 else -25
theorem uc_o3y {B : Nat → Nat} {p : Nat} (h : ux_tk B p = 60) : (-24 : Int32).toInt = uc_o3 B p := by unfold uc_o3; rw [if_pos h]; rfl
theorem uc_o3n {B : Nat → Nat} {p : Nat} (h : ux_tk B p ≠ 60) : (-25 : Int32).toInt = uc_o3 B p := by unfold uc_o3; rw [if_neg h]; rfl
noncomputable def uc_pr (B : Nat → Nat) (V : Nat → Prop) (W : Nat → Int) (E : Nat → Nat × Nat) (EC : Nat → List Int → List Int) (p : Nat) (l : List Int) : List Int := uc_lp B (ux_cp B 42 47) (ux_pt B V E) (uc_pt B W EC) (uc_o1 B) (ux_pt B V E p, uc_pt B W EC p l)
noncomputable def uc_sm (B : Nat → Nat) (V : Nat → Prop) (W : Nat → Int) (E : Nat → Nat × Nat) (EC : Nat → List Int → List Int) (p : Nat) (l : List Int) : List Int := uc_lp B (ux_cp B 43 45) (ux_pr B V E) (uc_pr B V W E EC) (uc_o2 B) (ux_pr B V E p, uc_pr B V W E EC p l)
noncomputable def uc_ts (B : Nat → Nat) (V : Nat → Prop) (W : Nat → Int) (E : Nat → Nat × Nat) (EC : Nat → List Int → List Int) (p : Nat) (l : List Int) : List Int := ux_if (ux_cp B 60 61 (ux_sm B V E p)) (uc_sm B V W E EC (ux_te B (ux_sm B V E p).2) (uc_sm B V W E EC p l) ++ [uc_o3 B (ux_sm B V E p).2]) (uc_sm B V W E EC p l)
noncomputable def uc_nt (B : Nat → Nat) (V : Nat → Prop) (W : Nat → Int) (E : Nat → Nat × Nat) (EC : Nat → List Int → List Int) : Nat → Nat → List Int → List Int
  | 0, p, l => uc_ts B V W E EC p l
  | k + 1, p, l => ux_if (ux_mw B p 9) (uc_nt B V W E EC k (ux_te B p) l ++ [-28]) (uc_ts B V W E EC p l)
noncomputable def uc_an (B : Nat → Nat) (V : Nat → Prop) (W : Nat → Int) (E : Nat → Nat × Nat) (EC : Nat → List Int → List Int) (p : Nat) (l : List Int) : List Int := uc_lp B (ux_cw B 8) (ux_nt B V E 6) (uc_nt B V W E EC 6) (fun _ => -26) (ux_nt B V E 6 p, uc_nt B V W E EC 6 p l)
noncomputable def uc_or (B : Nat → Nat) (V : Nat → Prop) (W : Nat → Int) (E : Nat → Nat × Nat) (EC : Nat → List Int → List Int) (p : Nat) (l : List Int) : List Int := uc_lp B (ux_cw B 7) (ux_an B V E) (uc_an B V W E EC) (fun _ => -27) (ux_an B V E p, uc_an B V W E EC p l)
noncomputable def uc_ex (B : Nat → Nat) (V : Nat → Prop) (W : Nat → Int) : Nat → Nat → List Int → List Int
  | 0, _, l => l
  | d + 1, p, l => uc_or B V W (ux_ex B V d) (uc_ex B V W d) p l
/-- a loop's signs: one step on, the end -/
theorem uc_lp_t {B : Nat → Nat} {c : Nat × Nat → Prop} {F : Nat → Nat × Nat} {FC : Nat → List Int → List Int} {op : Nat → Int} {r r' : Nat × Nat} {l l' X : List Int} (q : X = uc_lp B c F FC op (r, l)) (h : c r) (e1 : r' = F (ux_te B r.2)) (e2 : l' = FC (ux_te B r.2) l ++ [op r.2]) : X = uc_lp B c F FC op (r', l') := by
  rw [q, e1, e2]
  unfold uc_lp
  rw [ux_lp_t (c := fun s : (Nat × Nat) × List Int => c s.1) (r := (r, l)) h]; rfl
theorem uc_lp_f {B : Nat → Nat} {c : Nat × Nat → Prop} {F : Nat → Nat × Nat} {FC : Nat → List Int → List Int} {op : Nat → Int} {r : Nat × Nat} {l X : List Int} (q : X = uc_lp B c F FC op (r, l)) (h : ¬ c r) : X = l := by
  rw [q]
  unfold uc_lp
  rw [ux_lp_f (c := fun s : (Nat × Nat) × List Int => c s.1) (r := (r, l)) h]
/-- the signs of words: of wears, of sits -/
def ux_WW (i : Nat) : Int := if i = 10 then -1 else if i = 11 then -2 else if i = 12 then -3 else -4
def ux_WS (i : Nat) : Int := if i = 14 then -1 else if i = 15 then -2 else if i = 11 then -3 else if i = 16 then -4 else -5
/-- the class's items hold the signs laid (the first 700 of them) -/
def ux_K (J : Nat) (vm : Nat → Nat) (items : Nat → Int32) (len : Int32) (l : List Int) : Prop := len.toInt = ((min l.length 700 : Nat) : Int) ∧ ∀ k : Nat, (k : Int) < len.toInt → ∃ y : Int32, y.toInt = l.getD k 0 ∧ cen J vm (items k) y
/-- unless there was a fault -/
def ux_Kf (fd : Int32) (J : Nat) (vm : Nat → Nat) (items : Nat → Int32) (len : Int32) (l : List Int) : Prop := fd.toInt = 0 → ux_K J vm items len l
theorem gd_l {l : List Int} {s : Int} {k : Nat} (h : k < l.length) : (l ++ [s]).getD k 0 = l.getD k 0 := by rw [List.getD_eq_getElem?_getD, List.getD_eq_getElem?_getD, List.getElem?_append_left h]
theorem gd_r {l : List Int} {s : Int} : (l ++ [s]).getD l.length 0 = s := by rw [List.getD_eq_getElem?_getD, List.getElem?_append_right (Nat.le_refl _), Nat.sub_self]; rfl
/-- an item is added -/
def ux_ra (items : Nat → Int32) (len x : Int32) (items' : Nat → Int32) (len' : Int32) : Prop := (len.toInt < 700 ∧ items' = upd items len.toNatClampNeg x ∧ len'.toInt = len.toInt + 1) ∨ (700 ≤ len.toInt ∧ items' = items ∧ len' = len)
theorem ux_K_add {J : Nat} {vm : Nat → Nat} {items items' : Nat → Int32} {len len' x y : Int32} {l : List Int} {s : Int} (h : ux_K J vm items len l) (ha : ux_ra items len x items' len') (hy : y.toInt = s) (hc : cen J vm x y) : ux_K J vm items' len' (l ++ [s]) := by
  obtain ⟨h1, h2⟩ := h
  have hl : (l ++ [s]).length = l.length + 1 := by rw [List.length_append]; rfl
  rcases ha with ⟨a1, a2, a3⟩ | ⟨a1, a2, a3⟩
  · have e : len.toInt = (l.length : Int) := by omega
    have en : len.toNatClampNeg = l.length := ct_n e
    refine ⟨by rw [a3, hl]; omega, fun k hk => ?_⟩
    rw [a2, en]
    by_cases q : k = l.length
    · refine ⟨y, ?_, by rw [q, pk_us]; exact hc⟩
      rw [q, hy, gd_r]
    · obtain ⟨z, z1, z2⟩ := h2 k (by omega)
      refine ⟨z, ?_, by rw [pk_un q]; exact z2⟩
      rw [z1, gd_l (by omega)]
  · rw [a2, a3]
    refine ⟨by rw [hl]; omega, fun k hk => ?_⟩
    obtain ⟨z, z1, z2⟩ := h2 k hk
    exact ⟨z, by rw [z1, gd_l (by omega)], z2⟩
/-- the reference's signs, behind the half's beginning -/
def ux_KM (signs : Nat → Int32) (len : Int32) (l : List Int) : Prop := len.toInt = (l.length : Int) ∧ ∀ k : Nat, (k : Int) < len.toInt → (signs (700 + k)).toInt = l.getD k 0
/-- a number that was taken -/
def ux_nx (B : Nat → Nat) (fd x m : Int32) (r : Nat × Nat) : Prop := fd.toInt = 0 → x.toInt = (ux_tn B r.2 : Int) ∧ (ux_bn r (ux_nm B m.toInt.toNat)).1 = 0
