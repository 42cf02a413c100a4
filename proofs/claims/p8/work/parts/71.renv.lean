/-! the reader: its words -/
abbrev wdN : List String := ["GARGOYLE", "PERSON", "ORPHAN", "OF", "CERTAIN", "WEARS", "SITS", "OR", "AND", "NOT", "RAIN", "STONE", "BESIDE", "YEAR", "UNLIKE", "AGE", "FAMILY"]
abbrev wdV : List Int32 := [-1, -1, -1, -1, -1, -1, -1, -1, -1, -1, 0, 1, 2, 3, 4, 5, 6]
abbrev wdW : List Int32 := [0, 0, 0, 0, 0, 0, 0, 0, 0, 0, 1, 1, 1, 1, 0, 0, 0]
abbrev wdS : List Int32 := [0, 0, 0, 0, 0, 0, 0, 0, 0, 0, 0, 1, 0, 1, 1, 1, 1]
abbrev wdF : List (String × String × String × List Int32) := [("GutterSeats$Word", "value", "I", wdV), ("GutterSeats$Word", "isOfWears", "Z", wdW), ("GutterSeats$Word", "isOfSits", "Z", wdS)]
def ER (ad sw : Nat → Nat) (wa : Nat) : EV := fun A U H => SB A U H ∧ va_En "GutterSeats$Word" "LGutterSeats$Word;" wdN wdF ad A U H ∧ va_Ef 17 "GutterSeats$Word" "letters" "Ljava/lang/String;" (fun i => .ref (sw i)) ad A U H ∧ (∀ i : Nat, i < 17 → ST (sw i) i A U H) ∧ va_Z "GutterSeats$Reader" "WORDS" "[LGutterSeats$Word;" (.ref wa) A U H ∧ va_T (.object "GutterSeats$Word") wa 17 (fun j => .ref (ad j)) A U H ∧ (∀ i j : Nat, i < 17 → j < 17 → ad i = ad j → i = j)
theorem ER_ok (ad sw : Nat → Nat) (wa : Nat) : EOK (ER ad sw wa) := by
  refine ⟨fun A B s U H locs h hS hB hW hU => ?_, fun A U g mk b h => ?_⟩
  · obtain ⟨h1, h2, h3, h4, h5, h6, h7⟩ := h
    refine ⟨h1.go hS hB hW hU, ?_, ?_, fun i hi => ?_, ?_, ?_, h7⟩
    · rw [hU]; exact va_En.moved hW.alike ((h2.kept hS.2.1).narrow hB)
    · rw [hU]; exact va_Ef.moved hW.alike ((h3.kept hS.2.1).narrow hB)
    · exact (h4 i hi).go hS hB hW hU
    · rw [hU]; exact va_Z.moved hW.alike ((h5.kept hS.2.1).narrow hB)
    · rw [hU]; exact va_T.moved hW.alike ((h6.kept hS.2.1).narrow hB)
  · obtain ⟨h1, h2, h3, h4, h5, h6, h7⟩ := h
    refine ⟨h1.call g mk b, va_En.moved (u := U) (Vm.Alike.refl U.vm) h2, va_Ef.moved (u := U) (Vm.Alike.refl U.vm) h3, fun i hi => ?_, va_Z.moved (u := U) (Vm.Alike.refl U.vm) h5, va_T.moved (u := U) (Vm.Alike.refl U.vm) h6, h7⟩
    exact (h4 i hi).call g mk b
/-- a word, or none -/
def ew (w : Option Nat) : Prop := ∀ i : Nat, w = some i → i < 17
theorem ew_none : ew none := fun _ h => by cases h
theorem ew_some {i : Nat} (h : i < 17) : ew (some i) := fun _ q => by cases q; exact h
theorem ew_cases {w : Option Nat} (h : ew w) : w = none ∨ ∃ i : Nat, i < 17 ∧ w = some i := by
  cases w with
  | none => exact Or.inl rfl
  | some i => exact Or.inr ⟨i, h i rfl, rfl⟩
theorem re_nar {ad : Nat → Nat} {r : Option Nat} {C : String} : narrow (.object C) (va_re ad r) = va_re ad r := by cases r <;> rfl
theorem re_fit {ad : Nat → Nat} {r : Option Nat} {C : String} : fits (.object C) (va_re ad r) = true := by cases r <;> rfl
theorem wd_v {i : Nat} {x : Int32} (h : i < 17) (e : x = wdV.getD i 0) : iv x (-1) 6 := by
  rw [e]
  exact (by decide : ∀ i : Nat, i < 17 → (-1 : Int) ≤ (wdV.getD i 0).toInt ∧ (wdV.getD i 0).toInt ≤ 6) i h
theorem wd_w {i : Nat} {x : Int32} (h : i < 17) (e : x = wdW.getD i 0) : iv x 0 1 := by
  rw [e]
  exact (by decide : ∀ i : Nat, i < 17 → (0 : Int) ≤ (wdW.getD i 0).toInt ∧ (wdW.getD i 0).toInt ≤ 1) i h
theorem wd_s {i : Nat} {x : Int32} (h : i < 17) (e : x = wdS.getD i 0) : iv x 0 1 := by
  rw [e]
  exact (by decide : ∀ i : Nat, i < 17 → (0 : Int) ≤ (wdS.getD i 0).toInt ∧ (wdS.getD i 0).toInt ≤ 1) i h
/-- the families that are told so far, unless there is a fault -/
def fr (b : Int32) (f : Nat → Int32) (t : Int32) : Prop := b.toInt = 0 → ∀ k : Nat, (k : Int) < t.toInt → iv (f k) (-1) 7
theorem fr_mono {b b' t : Int32} {f : Nat → Int32} (h : fr b f t) (hb : b.toInt ≤ 5 * b'.toInt ∧ 0 ≤ b.toInt) : fr b' f t := fun e => h (by omega)
theorem fr_nil {b t : Int32} {f : Nat → Int32} (h : t.toInt = 0) : fr b f t := fun _ k hk => by omega
theorem fr_inc {b b' t t' i v : Int32} {f g : Nat → Int32} (h : fr b f t) (eg : g = upd f i.toNatClampNeg v) (hi : i.toInt = t.toInt) (hv : b'.toInt = 0 → -1 ≤ v.toInt ∧ v.toInt ≤ 7) (ht : t'.toInt = t.toInt + 1) (hb : b.toInt ≤ 5 * b'.toInt ∧ 0 ≤ b.toInt) : fr b' g t' := by
  intro e k hk
  by_cases q : k = i.toNatClampNeg
  · rw [q, eg, pk_us]; exact hv e
  · rw [eg, pk_un q]
    refine h (by omega) k ?_
    have : k ≠ i.toInt.toNat := q
    omega
section KW
variable {E E' : EV} {p : Program} {l : Launch} {e : Env} {R : Room} {s : State} {m : MethodId} {args : Array Value} {below : List Frame} {meth : Method} {c : Code} {H : Heap} {locs : List Loc} {cells slots : Nat} {Q : State → Prop} {cc : ByteArray} {nL : Nat} {Ts : List Cond} {own C : String} {pc : Nat} {ls : Array Slot} {rest st0 : List Value}
variable {y : MethodName} {ws ws' : List Cond} {rm : Room} {D : va_G} {ct : Nat → ClassId} {wc w wr : va_W} {b index maxL n sz ci : Nat} {As : List Value} {bytes : ByteArray} {ret : Option FieldType} {A : Nat → Prop} {H0 : Heap}
theorem lv_topv {v v' : Value} (h : v = v') (k : W p l e R s m args below meth c H locs cells slots Q (F0 m pc ls (v' :: rest))) : W p l e R s m args below meth c H locs cells slots Q (F0 m pc ls (v :: rest)) := by
  rw [h]; exact k
def eE (E : EV) (l : Launch) (y : MethodName) (ws : List Cond) (rm : Room) (D : va_G) (ct : Nat → ClassId) (ad : Nat → Nat) (wc : va_W) (As : List Value) (post : Option Nat → Prop) : Prop :=
  Met l y ws rm (va_Pc As (fun U => va_P D vwCl wc U.heap ∧ va_K D vwCl (tyl ct) U ∧ E (fun _ => False) U U.heap)) (va_Se ad post) 0 0 (fun _ => False)
theorem eE_of {ad : Nat → Nat} {post : Option Nat → Prop} (hy : plainName y.cls = true) (hw : ws = Cond.code y cc maxL (some (.object C)) :: ws') (hA : (lg_sl As).length ≤ maxL)
    (body : ∀ (p : Program) (e : Env) (s : State) (m : MethodId) (args : Array Value) (below : List Frame) (meth : Method) (c : Code) (Q : State → Prop), p.tables.exec = Jvm.exec → c.code = cc → c.maxLocals = maxL → (∀ w ∈ ws, w.before args s = true) → s.vm.findClass y.cls = some m.cls →
      va_K D vwCl (tyl ct) s → va_P D vwCl wc s.heap → E (fun _ => False) s s.heap → (∀ (v : Option Nat) (pc : Nat) (ls : Array Slot), post v → decode cc pc = .ok (.areturn, 1) → W p l e rm s m args below meth c s.heap [] 0 0 Q (F0 m pc ls [va_re ad v])) → ∀ ls : Array Slot, lv_has ls maxL (lv_args 0 As) →
      W p l e rm s m args below meth c s.heap [] 0 0 Q (F0 m 0 ls [])) : eE E l y ws rm D ct ad wc As post := by
  refine Met.ofW (cc := cc) (maxL := maxL) (ret := some (.object C)) hy hw ?_
  intro p e s m args below meth c s₁ B hml hv
  obtain ⟨rfl, hP, hK, hX⟩ := hv
  rw [lg_entry_eq]
  exact body p e s m _ below meth c _ B.exec B.bytes hml (atoms_spec (ws := ws) B.pre) (findClass_of_methodNamed B.named) hK hP hX (fun v pc ls hv d => W.aret B.exec B.bytes B.returns (Or.inl ⟨_, rfl⟩) (by cases v with
    | none => exact Or.inl rfl
    | some i => exact Or.inr ⟨_, rfl⟩) (fun t ht _ => ⟨v, rfl, hv, ht⟩) (fun _ h => by cases h) d B.notSynchronized) _ (lv_entry As hA)
theorem keEV {ad : Nat → Nat} {post : Option Nat → Prop} {q : vw_C} {fs : List Value} (S : CallFix p m c cc nL s args Ts own) (hM : eE E' l y ws rm D ct ad wc (.ref b :: As) post) (cw : CallW R s args own C index y bytes maxL ret ws rm 0 0 n)
    (hok : EOK E) (hok' : EOK E') (hEE : E A s s.heap → E' A s s.heap) (hX : E A s s.heap) (hS : va_S A s.heap H locs)
    (hK : va_K D vwCl (tyl ct) s) (hP : va_P D vwCl w H) (isC : List Nat) (hC : isC.filterMap (fun i => w[i]?) = wc) (hc : vwCl[ci]? = some q) (hq : q.1 = C) (he : wc[0]? = some (b, .inr (ci, fs)))
    (hn : As.length = n) (hsize : ls.size = nL) (hst : st0 = As.reverse ++ .ref b :: rest) (hW : (rest.map fun v => v.category).sum ≤ 8) (hdg : decode cc pc = .ok (.invokevirtual index, 3)) (hf : cells ≤ R.cells ∧ slots ≤ R.slots)
    (kk : ∀ r : Option Nat, post r → W p l e R s m args below meth c H locs cells slots Q (F0 m (pc + 3) ls (va_re ad r :: rest))) : W p l e R s m args below meth c H locs cells slots Q (F0 m pc ls st0) := by
  have hPc := hP.sub (ws' := wc) isC hC
  have hX' := hEE hX
  have hrec : ∃ cellB : Cell, H[b]? = some cellB ∧ cellB.vm.isStatics = false ∧ s.vm.findClass C = some cellB.cls := by
    obtain ⟨cell, h1, h2, h3⟩ := va_recv hK hPc hc he
    exact ⟨cell, h1, h2, by rw [← hq]; exact h3⟩
  exact va_cse (va_Run.run (va_runV (As := As) (rest := rest) S hM cw ⟨fun a U g mk q => by obtain ⟨q0, qP, qK, qX⟩ := q; exact ⟨q0, qP, va_K.moved (u := U) (U := U.calling g mk a) (Vm.Alike.refl U.vm) qK, hok'.call g mk a qX⟩, hrec, fun U hU hW => ⟨rfl, by rw [hU]; exact hPc, va_K.moved hW.alike hK, hok'.go hX' hS (fun _ h => h.elim) hW hU⟩⟩ rfl hn hsize hst (lv_room hW) hdg hf)) kk
end KW
/-- digits from a up to b -/
def dg (f : Nat → Int32) (a b : Nat) : Prop := ∀ j : Nat, a ≤ j → j < b → iv (f j) 48 57
theorem dg_at {f : Nat → Int32} {a b i x : Int32} (h : dg f a.toNatClampNeg b.toNatClampNeg) (e : x = f i.toNatClampNeg) (h0 : 0 ≤ i.toInt) (h1 : a.toInt ≤ i.toInt) (h2 : i.toInt < b.toInt) : iv x 48 57 := by
  have e1 : b.toNatClampNeg = b.toInt.toNat := rfl
  have e2 : i.toNatClampNeg = i.toInt.toNat := rfl
  have e3 : a.toNatClampNeg = a.toInt.toNat := rfl
  rw [e]
  exact h _ (by omega) (by omega)
