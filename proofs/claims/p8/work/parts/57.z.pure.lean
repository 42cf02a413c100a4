/-! what a text says: both readings are held against this -/
noncomputable def ux_if {α : Type} (P : Prop) (a b : α) : α := @ite α P (Classical.propDecidable P) a b
theorem ux_ip {α : Type} {P : Prop} {a b : α} (h : P) : ux_if P a b = a := @if_pos P (Classical.propDecidable P) h α a b
theorem ux_in {α : Type} {P : Prop} {a b : α} (h : ¬ P) : ux_if P a b = b := @if_neg P (Classical.propDecidable P) h α a b
/-- a loop's end -/
def ux_it {α : Type} (F : α → α) : Nat → α → α
  | 0, r => r
  | n + 1, r => ux_it F n (F r)
def ux_LP {α : Type} (c : α → Prop) (F : α → α) (r r' : α) : Prop := ∃ n : Nat, (∀ k : Nat, k < n → c (ux_it F k r)) ∧ ¬ c r' ∧ r' = ux_it F n r
noncomputable def ux_lp {α : Type} (c : α → Prop) (F : α → α) (r : α) : α := @Classical.epsilon α ⟨r⟩ (fun r' => ux_LP c F r r')
theorem ux_lp_t {α : Type} {c : α → Prop} {F : α → α} {r : α} (h : c r) : ux_lp c F r = ux_lp c F (F r) := by
  have e : (fun r' => ux_LP c F r r') = (fun r' => ux_LP c F (F r) r') := by
    funext r'
    refine propext ⟨?_, ?_⟩
    · rintro ⟨n, h1, h2, h3⟩
      cases n with
      | zero => exact absurd h (by rw [h3] at h2; exact h2)
      | succ n => exact ⟨n, fun k hk => h1 (k + 1) (by omega), h2, h3⟩
    · rintro ⟨n, h1, h2, h3⟩
      refine ⟨n + 1, fun k hk => ?_, h2, h3⟩
      cases k with
      | zero => exact h
      | succ k => exact h1 k (by omega)
  exact congrArg (@Classical.epsilon α ⟨r⟩) e
theorem ux_lp_f {α : Type} {c : α → Prop} {F : α → α} {r : α} (h : ¬ c r) : ux_lp c F r = r := by
  have q : ∃ r', ux_LP c F r r' := ⟨r, 0, fun k hk => absurd hk (Nat.not_lt_zero k), h, rfl⟩
  have s : ux_LP c F r (ux_lp c F r) := Classical.epsilon_spec q
  obtain ⟨n, h1, h2, h3⟩ := s
  cases n with
  | zero => exact h3
  | succ n => exact absurd (h1 0 (Nat.succ_pos n)) h
/-- the text's bytes: 0 behind its end, 1 for what no sign is -/
def ux_B (f : Nat → Int32) (n : Int32) (k : Nat) : Nat := if (k : Int) < n.toInt then (if 0 < (f k).toInt ∧ (f k).toInt < 128 then (f k).toInt.toNat else 1) else 0
def ux_k (c : Nat) : Nat := if c = 0 then 0 else if c = 32 ∨ c = 10 then 3 else if c = 59 ∨ c = 40 ∨ c = 41 ∨ c = 43 ∨ c = 45 ∨ c = 42 ∨ c = 47 ∨ c = 60 ∨ c = 61 then c else if 97 ≤ c ∧ c ≤ 122 then 1 else if 48 ≤ c ∧ c ≤ 57 then 2 else 4
def ux_kb (x : Int32) : Nat := ux_k (if 0 < x.toInt ∧ x.toInt < 128 then x.toInt.toNat else 1)
theorem ux_kB {f : Nat → Int32} {n : Int32} {k : Nat} (h : (k : Int) < n.toInt) : ux_k (ux_B f n k) = ux_kb (f k) := by
  unfold ux_B ux_kb; rw [if_pos h]
theorem ux_kE {f : Nat → Int32} {n : Int32} {k : Nat} (h : ¬ (k : Int) < n.toInt) : ux_k (ux_B f n k) = 0 := by
  unfold ux_B; rw [if_neg h]; rfl
theorem ux_k0 {c : Nat} (h : c ≠ 0) : ux_k c ≠ 0 := by
  unfold ux_k
  rw [if_neg h]
  (repeat' split) <;> omega
theorem ux_kb0 (x : Int32) : ux_kb x ≠ 0 := by
  unfold ux_kb
  refine ux_k0 ?_
  split <;> omega
theorem ux_kb_of {x r : Int32} (h : (r.toInt = 3 ∧ (x.toInt = 32 ∨ x.toInt = 10)) ∨ (r.toInt = x.toInt ∧ (x.toInt = 59 ∨ x.toInt = 40 ∨ x.toInt = 41 ∨ x.toInt = 43 ∨ x.toInt = 45 ∨ x.toInt = 42 ∨ x.toInt = 47 ∨ x.toInt = 60 ∨ x.toInt = 61)) ∨ (r.toInt = 1 ∧ 97 ≤ x.toInt ∧ x.toInt ≤ 122) ∨ (r.toInt = 2 ∧ 48 ≤ x.toInt ∧ x.toInt ≤ 57) ∨ (r.toInt = 4 ∧ x.toInt ≠ 32 ∧ x.toInt ≠ 10 ∧ x.toInt ≠ 59 ∧ x.toInt ≠ 40 ∧ x.toInt ≠ 41 ∧ x.toInt ≠ 43 ∧ x.toInt ≠ 45 ∧ x.toInt ≠ 42 ∧ x.toInt ≠ 47 ∧ x.toInt ≠ 60 ∧ x.toInt ≠ 61 ∧ (x.toInt < 97 ∨ 122 < x.toInt) ∧ (x.toInt < 48 ∨ 57 < x.toInt))) : r.toInt = (ux_kb x : Int) := by
  unfold ux_kb ux_k
  by_cases q : 0 < x.toInt ∧ x.toInt < 128
  · rw [if_pos q]
    have e : ((x.toInt.toNat : Nat) : Int) = x.toInt := by omega
    generalize x.toInt.toNat = c at e ⊢
    (repeat' split) <;> omega
  · rw [if_neg q]
    have e : r.toInt = 4 := by omega
    rw [e]; rfl
/-- a row of one kind -/
def ux_R (B : Nat → Nat) (c a e : Nat) : Prop := a ≤ e ∧ (∀ j : Nat, a ≤ j → j < e → ux_k (B j) = c) ∧ ux_k (B e) ≠ c
noncomputable def ux_run (B : Nat → Nat) (c a : Nat) : Nat := @Classical.epsilon Nat ⟨0⟩ (fun e => ux_R B c a e)
theorem ux_run_eq {B : Nat → Nat} {c a e : Nat} (h : ux_R B c a e) : ux_run B c a = e := by
  have s : ux_R B c a (ux_run B c a) := Classical.epsilon_spec (p := fun e => ux_R B c a e) ⟨e, h⟩
  rcases Nat.lt_trichotomy (ux_run B c a) e with q | q | q
  · exact absurd (h.2.1 _ s.1 q) s.2.2
  · exact q
  · exact absurd (s.2.1 _ h.1 q) h.2.2
noncomputable def ux_tb (B : Nat → Nat) (p : Nat) : Nat := ux_run B 3 p
noncomputable def ux_tk (B : Nat → Nat) (p : Nat) : Nat := ux_k (B (ux_tb B p))
noncomputable def ux_te (B : Nat → Nat) (p : Nat) : Nat := if ux_tk B p = 1 ∨ ux_tk B p = 2 then ux_run B (ux_tk B p) (ux_tb B p) else if ux_tk B p = 0 then ux_tb B p else ux_tb B p + 1
def ux_dv (B : Nat → Nat) (b : Nat) : Nat → Nat
  | 0 => 0
  | k + 1 => 10 * ux_dv B b k + (B (b + k) - 48)
noncomputable def ux_tn (B : Nat → Nat) (p : Nat) : Nat := if 4 < ux_te B p - ux_tb B p then 10000 else ux_dv B (ux_tb B p) (ux_te B p - ux_tb B p)
/-- the words: gargoyle, person, orphan, of, certain, wears, sits, or, and, not, rain, stone, beside, year, unlike, age, family -/
def ux_W : List (List Nat) := [[103, 97, 114, 103, 111, 121, 108, 101], [112, 101, 114, 115, 111, 110], [111, 114, 112, 104, 97, 110], [111, 102], [99, 101, 114, 116, 97, 105, 110], [119, 101, 97, 114, 115], [115, 105, 116, 115], [111, 114], [97, 110, 100], [110, 111, 116], [114, 97, 105, 110], [115, 116, 111, 110, 101], [98, 101, 115, 105, 100, 101], [121, 101, 97, 114], [117, 110, 108, 105, 107, 101], [97, 103, 101], [102, 97, 109, 105, 108, 121]]
def ux_wl (i : Nat) : Nat := (ux_W.getD i []).length
def ux_wc (i k : Nat) : Nat := (ux_W.getD i []).getD k 0
def ux_wf (i : Nat) (k : Nat) : Int32 := Int32.ofNat (ux_wc i k)
set_option maxRecDepth 20000 in
theorem ux_wl_b : ∀ i : Nat, i < 17 → 1 ≤ ux_wl i ∧ ux_wl i ≤ 8 := by decide +kernel
set_option maxRecDepth 20000 in
theorem ux_wc_b : ∀ i : Nat, i < 17 → ∀ k : Nat, k < 8 → k < ux_wl i → 97 ≤ ux_wc i k ∧ ux_wc i k ≤ 122 ∧ (ux_wf i k &&& 255).toInt = (ux_wc i k : Int) := by decide +kernel
set_option maxRecDepth 20000 in
theorem ux_w_inj : ∀ i : Nat, i < 17 → ∀ j : Nat, j < 17 → ux_wl i = ux_wl j → (∀ k : Nat, k < 8 → k < ux_wl i → ux_wc i k = ux_wc j k) → i = j := by decide +kernel
/-- the word from b to e is word i -/
def ux_mt (B : Nat → Nat) (b e i : Nat) : Prop := e = b + ux_wl i ∧ ∀ k : Nat, k < ux_wl i → B (b + k) = ux_wc i k
theorem ux_mt_inj {B : Nat → Nat} {b e i j : Nat} (hi : i < 17) (hj : j < 17) (h1 : ux_mt B b e i) (h2 : ux_mt B b e j) : i = j := by
  have hl : ux_wl i = ux_wl j := by have := h1.1; have := h2.1; omega
  exact ux_w_inj i hi j hj hl (fun k _ hk => by rw [← h1.2 k hk, ← h2.2 k (by omega)])
def ux_mw (B : Nat → Nat) (p i : Nat) : Prop := ux_tk B p = 1 ∧ ux_mt B (ux_tb B p) (ux_te B p) i
theorem ux_mw_inj {B : Nat → Nat} {p i j : Nat} (hi : i < 17) (hj : j < 17) (h1 : ux_mw B p i) (h2 : ux_mw B p j) : i = j := ux_mt_inj hi hj h1.2 h2.2
/-! the grammar: where a reading stands (0, place ahead of the token), or its fault (which, where) -/
def ux_bn (r : Nat × Nat) (F : Nat → Nat × Nat) : Nat × Nat := if r.1 = 0 then F r.2 else r
theorem ux_bn0 {p : Nat} {F : Nat → Nat × Nat} : ux_bn (0, p) F = F p := rfl
theorem ux_bnO {r : Nat × Nat} {F : Nat → Nat × Nat} (h : r.1 = 0) : ux_bn r F = F r.2 := if_pos h
theorem ux_bnB {r : Nat × Nat} {F : Nat → Nat × Nat} (h : r.1 ≠ 0) : ux_bn r F = r := if_neg h
/-- a fault here, unless there was one -/
noncomputable def ux_w (B : Nat → Nat) (c : Nat) (r : Nat × Nat) : Nat × Nat := ux_bn r (fun p => (c, ux_tb B p))
noncomputable def ux_mk (B : Nat → Nat) (c p : Nat) : Nat × Nat := if ux_tk B p = c then (0, ux_te B p) else (1, ux_tb B p)
noncomputable def ux_nm (B : Nat → Nat) (m p : Nat) : Nat × Nat := if ux_tk B p = 2 then (if m < ux_tn B p then (2, ux_tb B p) else (0, ux_te B p)) else (1, ux_tb B p)
noncomputable def ux_vl (B : Nat → Nat) (V : Nat → Prop) (p : Nat) : Nat × Nat := ux_if (∃ i : Nat, i < 17 ∧ V i ∧ ux_mw B p i) (0, ux_te B p) (3, ux_tb B p)
noncomputable def ux_pt (B : Nat → Nat) (V : Nat → Prop) (E : Nat → Nat × Nat) (p : Nat) : Nat × Nat := if ux_tk B p = 40 then ux_bn (E (ux_te B p)) (ux_mk B 41) else if ux_tk B p = 1 then ux_vl B V p else ux_nm B 9999 p
def ux_cp (B : Nat → Nat) (a b : Nat) (r : Nat × Nat) : Prop := r.1 = 0 ∧ (ux_tk B r.2 = a ∨ ux_tk B r.2 = b)
noncomputable def ux_pr (B : Nat → Nat) (V : Nat → Prop) (E : Nat → Nat × Nat) (p : Nat) : Nat × Nat := ux_lp (ux_cp B 42 47) (fun r => ux_pt B V E (ux_te B r.2)) (ux_pt B V E p)
noncomputable def ux_sm (B : Nat → Nat) (V : Nat → Prop) (E : Nat → Nat × Nat) (p : Nat) : Nat × Nat := ux_lp (ux_cp B 43 45) (fun r => ux_pr B V E (ux_te B r.2)) (ux_pr B V E p)
noncomputable def ux_t2 (B : Nat → Nat) (V : Nat → Prop) (E : Nat → Nat × Nat) (q : Nat) : Nat × Nat := if ux_tk B q = 60 ∨ ux_tk B q = 61 then ux_sm B V E (ux_te B q) else (0, q)
noncomputable def ux_ts (B : Nat → Nat) (V : Nat → Prop) (E : Nat → Nat × Nat) (p : Nat) : Nat × Nat := ux_bn (ux_sm B V E p) (ux_t2 B V E)
noncomputable def ux_nt (B : Nat → Nat) (V : Nat → Prop) (E : Nat → Nat × Nat) : Nat → Nat → Nat × Nat
  | 0, p => ux_if (ux_mw B p 9) (2, ux_tb B p) (ux_ts B V E p)
  | k + 1, p => ux_if (ux_mw B p 9) (ux_nt B V E k (ux_te B p)) (ux_ts B V E p)
def ux_cw (B : Nat → Nat) (i : Nat) (r : Nat × Nat) : Prop := r.1 = 0 ∧ ux_mw B r.2 i
noncomputable def ux_an (B : Nat → Nat) (V : Nat → Prop) (E : Nat → Nat × Nat) (p : Nat) : Nat × Nat := ux_lp (ux_cw B 8) (fun r => ux_nt B V E 6 (ux_te B r.2)) (ux_nt B V E 6 p)
noncomputable def ux_or (B : Nat → Nat) (V : Nat → Prop) (E : Nat → Nat × Nat) (p : Nat) : Nat × Nat := ux_lp (ux_cw B 7) (fun r => ux_an B V E (ux_te B r.2)) (ux_an B V E p)
noncomputable def ux_ex (B : Nat → Nat) (V : Nat → Prop) : Nat → Nat → Nat × Nat
  | 0, p => if ux_tk B p = 1 ∨ ux_tk B p = 2 ∨ ux_tk B p = 40 then (2, ux_tb B p) else (1, ux_tb B p)
  | d + 1, p => ux_or B V (ux_ex B V d) p
/-- the values of wears, of sits -/
def ux_VW (i : Nat) : Prop := i = 10 ∨ i = 11 ∨ i = 12 ∨ i = 13
def ux_VS (i : Nat) : Prop := i = 14 ∨ i = 15 ∨ i = 11 ∨ i = 16 ∨ i = 13
