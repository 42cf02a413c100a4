/-! contracts over what lies outside the world: texts, constants -/
abbrev EV := (Nat → Prop) → State → Heap → Prop
def EOK (E : EV) : Prop := (∀ (A B : Nat → Prop) (s U : State) (H : Heap) (locs : List Loc), E A s s.heap → va_S A s.heap H locs → (∀ q, B q → A q) → s.WarmedH U.vm → U.heap = H → E B U U.heap) ∧ (∀ (A : Nat → Prop) (U : State) (g : JFrame) (mk : MethodId) (a : Array Value), E A U U.heap → E A (U.calling g mk a) (U.calling g mk a).heap)
theorem EOK.go {E : EV} (h : EOK E) {A B : Nat → Prop} {s U : State} {H : Heap} {locs : List Loc} (h1 : E A s s.heap) (h2 : va_S A s.heap H locs) (h3 : ∀ q, B q → A q) (h4 : s.WarmedH U.vm) (h5 : U.heap = H) : E B U U.heap := h.1 A B s U H locs h1 h2 h3 h4 h5
theorem EOK.call {E : EV} (h : EOK E) {A : Nat → Prop} {U : State} (g : JFrame) (mk : MethodId) (a : Array Value) (h1 : E A U U.heap) : E A (U.calling g mk a) (U.calling g mk a).heap := h.2 A U g mk a h1
/-- a text outside: word n -/
def ST (a n : Nat) (A : Nat → Prop) (U : State) (H : Heap) : Prop :=
  (1 ≤ ux_wl n ∧ ux_wl n ≤ 40) ∧ va_O "java/lang/String" a A U H ∧ va_OF "java/lang/String" "coder" "B" (.int 0) a A U H ∧ ∃ v : Nat, va_OF "java/lang/String" "value" "[B" (.ref v) a A U H ∧ va_T .byte v (ux_wl n) (fun j => .int (ux_wf n j)) A U H
def SB (A : Nat → Prop) (U : State) (H : Heap) : Prop := va_Z "java/lang/String" "COMPACT_STRINGS" "Z" (.int 1) A U H ∧ va_Zq "jdk/internal/util/Preconditions" "SIOOBE_FORMATTER" "Ljava/util/function/BiFunction;" A U H
theorem ST.go {a n : Nat} {A B : Nat → Prop} {s U : State} {H : Heap} {locs : List Loc} (h : ST a n A s s.heap) (hS : va_S A s.heap H locs) (hB : ∀ q, B q → A q) (hW : s.WarmedH U.vm) (hU : U.heap = H) : ST a n B U U.heap := by
  rw [hU]
  obtain ⟨h0, h1, h2, v, h3, h4⟩ := h
  exact ⟨h0, va_O.moved hW.alike ((h1.kept hS.2.1).narrow hB), va_OF.moved hW.alike ((h2.kept hS.2.1).narrow hB), v, va_OF.moved hW.alike ((h3.kept hS.2.1).narrow hB), va_T.moved hW.alike ((h4.kept hS.2.1).narrow hB)⟩
theorem ST.call {a n : Nat} {A : Nat → Prop} {U : State} (h : ST a n A U U.heap) (g : JFrame) (mk : MethodId) (b : Array Value) : ST a n A (U.calling g mk b) (U.calling g mk b).heap := by
  obtain ⟨h0, h1, h2, v, h3, h4⟩ := h
  exact ⟨h0, va_O.moved (u := U) (Vm.Alike.refl U.vm) h1, va_OF.moved (u := U) (Vm.Alike.refl U.vm) h2, v, va_OF.moved (u := U) (Vm.Alike.refl U.vm) h3, va_T.moved (u := U) (Vm.Alike.refl U.vm) h4⟩
theorem SB.go {A B : Nat → Prop} {s U : State} {H : Heap} {locs : List Loc} (h : SB A s s.heap) (hS : va_S A s.heap H locs) (hB : ∀ q, B q → A q) (hW : s.WarmedH U.vm) (hU : U.heap = H) : SB B U U.heap := by
  rw [hU]
  exact ⟨va_Z.moved hW.alike ((h.1.kept hS.2.1).narrow hB), va_Zq.moved hW.alike ((h.2.kept hS.2.1).narrow hB)⟩
theorem SB.call {A : Nat → Prop} {U : State} (h : SB A U U.heap) (g : JFrame) (mk : MethodId) (b : Array Value) : SB A (U.calling g mk b) (U.calling g mk b).heap :=
  ⟨va_Z.moved (u := U) (Vm.Alike.refl U.vm) h.1, va_Zq.moved (u := U) (Vm.Alike.refl U.vm) h.2⟩
def ES (a n : Nat) : EV := fun A U H => SB A U H ∧ ST a n A U H
theorem ES_ok (a n : Nat) : EOK (ES a n) := ⟨fun _ _ _ _ _ _ h hS hB hW hU => ⟨h.1.go hS hB hW hU, h.2.go hS hB hW hU⟩, fun _ _ g mk b h => ⟨h.1.call g mk b, h.2.call g mk b⟩⟩
theorem SB_ok : EOK SB := ⟨fun _ _ _ _ _ _ h hS hB hW hU => h.go hS hB hW hU, fun _ _ g mk b h => h.call g mk b⟩
def eP (E : EV) (l : Launch) (y : MethodName) (ws : List Cond) (rm : Room) (D : va_G) (ct : Nat → ClassId) (wc : va_W) (As : List Value) (post : Int32 → Prop) : Prop :=
  Met l y ws rm (va_Pc As (fun U => va_P D vwCl wc U.heap ∧ va_K D vwCl (tyl ct) U ∧ E (fun _ => False) U U.heap)) (vp_Si post) 0 0 (fun _ => False)
def eI (E : EV) (l : Launch) (y : MethodName) (ws : List Cond) (rm : Room) (D : va_G) (ct : Nat → ClassId) (wc : va_W) (sz : Nat) (As : List Value) {S : Type} (post : Int32 → S → Prop) (w1 : S → va_W) : Prop :=
  Met l y ws rm (va_Pc As (fun U => U.heap.size = sz ∧ va_P D vwCl wc U.heap ∧ va_K D vwCl (tyl ct) U ∧ va_D (fun _ => True) wc ∧ E (va_A wc sz) U U.heap)) (va_Qi post (fun u t => va_P D vwCl (w1 u) t.heap ∧ va_K D vwCl (tyl ct) t ∧ va_D (va_A wc sz) (w1 u)) (va_A wc sz)) rm.cells rm.slots (va_A wc sz)
def eV (E : EV) (l : Launch) (y : MethodName) (ws : List Cond) (rm : Room) (D : va_G) (ct : Nat → ClassId) (wc : va_W) (sz : Nat) (As : List Value) {S : Type} (post : S → Prop) (w1 : S → va_W) : Prop :=
  Met l y ws rm (va_Pc As (fun U => U.heap.size = sz ∧ va_P D vwCl wc U.heap ∧ va_K D vwCl (tyl ct) U ∧ va_D (fun _ => True) wc ∧ E (va_A wc sz) U U.heap)) (va_Qv post (fun u t => va_P D vwCl (w1 u) t.heap ∧ va_K D vwCl (tyl ct) t ∧ va_D (va_A wc sz) (w1 u)) (va_A wc sz)) rm.cells rm.slots (va_A wc sz)
section KE
variable {E E' : EV} {p : Program} {l : Launch} {e : Env} {R : Room} {s : State} {m : MethodId} {args : Array Value} {below : List Frame} {meth : Method} {c : Code} {H : Heap} {locs : List Loc} {cells slots : Nat} {Q : State → Prop} {cc : ByteArray} {nL : Nat} {Ts : List Cond} {own C : String} {pc : Nat} {ls : Array Slot} {rest st0 : List Value}
variable {y : MethodName} {ws ws' : List Cond} {rm : Room} {D : va_G} {ct : Nat → ClassId} {wc w wr : va_W} {b index maxL n sz ci : Nat} {As : List Value} {bytes : ByteArray} {ret : Option FieldType} {A : Nat → Prop} {H0 : Heap}
theorem eP_of {ty : FieldType} {post : Int32 → Prop} (hy : plainName y.cls = true) (hw : ws = Cond.code y cc maxL (some ty) :: ws') (hA : (lg_sl As).length ≤ maxL)
    (body : ∀ (p : Program) (e : Env) (s : State) (m : MethodId) (args : Array Value) (below : List Frame) (meth : Method) (c : Code) (Q : State → Prop), p.tables.exec = Jvm.exec → c.code = cc → c.maxLocals = maxL → (∀ w ∈ ws, w.before args s = true) → s.vm.findClass y.cls = some m.cls →
      va_K D vwCl (tyl ct) s → va_P D vwCl wc s.heap → E (fun _ => False) s s.heap → (∀ (v : Int32) (pc : Nat) (ls : Array Slot), narrow ty (.int v) = .int v → post v → decode cc pc = .ok (.ireturn, 1) → W p l e rm s m args below meth c s.heap [] 0 0 Q (F0 m pc ls [.int v])) → ∀ ls : Array Slot, lv_has ls maxL (lv_args 0 As) →
      W p l e rm s m args below meth c s.heap [] 0 0 Q (F0 m 0 ls [])) : eP E l y ws rm D ct wc As post := by
  refine Met.ofW (cc := cc) (maxL := maxL) (ret := some ty) hy hw ?_
  intro p e s m args below meth c s₁ B hml hv
  obtain ⟨rfl, hP, hK, hX⟩ := hv
  rw [lg_entry_eq]
  exact body p e s m _ below meth c _ B.exec B.bytes hml (atoms_spec (ws := ws) B.pre) (findClass_of_methodNamed B.named) hK hP hX (fun v pc ls hz hv d => W.zret (v := v) B.exec B.bytes B.returns hz (fun t ht _ => ⟨v, rfl, hv, ht⟩) (fun _ h => by cases h) d B.notSynchronized) _ (lv_entry As hA)
theorem eI_of {ty : FieldType} {S : Type} {post : Int32 → S → Prop} {w1 : S → va_W} (hy : plainName y.cls = true) (hw : ws = Cond.code y cc maxL (some ty) :: ws') (hA : (lg_sl As).length ≤ maxL)
    (body : ∀ (p : Program) (e : Env) (s : State) (m : MethodId) (args : Array Value) (below : List Frame) (meth : Method) (c : Code) (Q : State → Prop) (A : Nat → Prop), p.tables.exec = Jvm.exec → c.code = cc → c.maxLocals = maxL → (∀ w ∈ ws, w.before args s = true) → s.vm.findClass y.cls = some m.cls →
      va_K D vwCl (tyl ct) s → va_P D vwCl wc s.heap → va_D A wc → (∀ q : Nat, s.heap.size ≤ q → A q) → E A s s.heap →
      (∀ (v : Int32) (u : S) (pc : Nat) (ls : Array Slot) (H : Heap) (locs : List Loc), narrow ty (.int v) = .int v → post v u → va_P D vwCl (w1 u) H → va_D A (w1 u) → va_S A s.heap H locs → decode cc pc = .ok (.ireturn, 1) → W p l e rm s m args below meth c H locs rm.cells rm.slots Q (F0 m pc ls [.int v])) → ∀ ls : Array Slot, lv_has ls maxL (lv_args 0 As) →
      W p l e rm s m args below meth c s.heap [] 0 0 Q (F0 m 0 ls [])) : eI E l y ws rm D ct wc sz As post w1 := by
  refine Met.ofW (cc := cc) (maxL := maxL) (ret := (some ty)) hy hw ?_
  intro p e s m args below meth c s₁ B hml hv
  obtain ⟨rfl, hsz, hP, hK, hD, hX⟩ := hv
  subst hsz
  rw [lg_entry_eq]
  exact body p e s m _ below meth c _ _ B.exec B.bytes hml (atoms_spec (ws := ws) B.pre) (findClass_of_methodNamed B.named) hK hP hD.self (fun q h => Or.inr h) hX (fun v u pc ls H locs hz hv hP hD hS d => W.zret (v := v) B.exec B.bytes B.returns hz (fun t ht hW => ⟨⟨v, u, rfl, hv, by rw [ht]; exact hP, va_K.moved hW.alike hK, hD⟩, hS.F ht⟩) hS.2.2 d B.notSynchronized) _ (lv_entry As hA)
theorem eV_of {S : Type} {post : S → Prop} {w1 : S → va_W} (hy : plainName y.cls = true) (hw : ws = Cond.code y cc maxL none :: ws') (hA : (lg_sl As).length ≤ maxL)
    (body : ∀ (p : Program) (e : Env) (s : State) (m : MethodId) (args : Array Value) (below : List Frame) (meth : Method) (c : Code) (Q : State → Prop) (A : Nat → Prop), p.tables.exec = Jvm.exec → c.code = cc → c.maxLocals = maxL → (∀ w ∈ ws, w.before args s = true) → s.vm.findClass y.cls = some m.cls →
      va_K D vwCl (tyl ct) s → va_P D vwCl wc s.heap → va_D A wc → (∀ q : Nat, s.heap.size ≤ q → A q) → E A s s.heap →
      (∀ (u : S) (pc : Nat) (ls : Array Slot) (H : Heap) (locs : List Loc), post u → va_P D vwCl (w1 u) H → va_D A (w1 u) → va_S A s.heap H locs → decode cc pc = .ok (.return_, 1) → W p l e rm s m args below meth c H locs rm.cells rm.slots Q (F0 m pc ls [])) → ∀ ls : Array Slot, lv_has ls maxL (lv_args 0 As) →
      W p l e rm s m args below meth c s.heap [] 0 0 Q (F0 m 0 ls [])) : eV E l y ws rm D ct wc sz As post w1 := by
  refine Met.ofW (cc := cc) (maxL := maxL) (ret := none) hy hw ?_
  intro p e s m args below meth c s₁ B hml hv
  obtain ⟨rfl, hsz, hP, hK, hD, hX⟩ := hv
  subst hsz
  rw [lg_entry_eq]
  exact body p e s m _ below meth c _ _ B.exec B.bytes hml (atoms_spec (ws := ws) B.pre) (findClass_of_methodNamed B.named) hK hP hD.self (fun q h => Or.inr h) hX (fun u pc ls H locs hv hP hD hS d => W.vret B.exec B.bytes B.returns (fun t ht hW => ⟨⟨u, rfl, hv, by rw [ht]; exact hP, va_K.moved hW.alike hK, hD⟩, hS.F ht⟩) hS.2.2 d B.notSynchronized) _ (lv_entry As hA)
/-- a call that writes nothing, on an object outside -/
theorem kePO {post : Int32 → Prop} (S : CallFix p m c cc nL s args Ts own) (hM : eP E' l y ws rm D ct wc (.ref b :: As) post) (cw : CallW R s args own C index y bytes maxL ret ws rm 0 0 n)
    (hok : EOK E) (hok' : EOK E') (hEE : E A s s.heap → E' A s s.heap) (hX : E A s s.heap) (hS : va_S A s.heap H locs) (hrec : ∃ cellB : Cell, H[b]? = some cellB ∧ cellB.vm.isStatics = false ∧ s.vm.findClass C = some cellB.cls)
    (hK : va_K D vwCl (tyl ct) s) (hP : va_P D vwCl w H) (isC : List Nat) (hC : isC.filterMap (fun i => w[i]?) = wc)
    (hn : As.length = n) (hsize : ls.size = nL) (hst : st0 = As.reverse ++ .ref b :: rest) (hW : (rest.map fun v => v.category).sum ≤ 8) (hdg : decode cc pc = .ok (.invokevirtual index, 3)) (hf : cells ≤ R.cells ∧ slots ≤ R.slots)
    (kk : ∀ r : Int32, post r → W p l e R s m args below meth c H locs cells slots Q (F0 m (pc + 3) ls (.int r :: rest))) : W p l e R s m args below meth c H locs cells slots Q (F0 m pc ls st0) := by
  have hPc := hP.sub (ws' := wc) isC hC
  have hX' := hEE hX
  exact vp_callSi (va_Run.run (va_runV (As := As) (rest := rest) S hM cw ⟨fun a U g mk q => by obtain ⟨q0, qP, qK, qX⟩ := q; exact ⟨q0, qP, va_K.moved (u := U) (U := U.calling g mk a) (Vm.Alike.refl U.vm) qK, hok'.call g mk a qX⟩, hrec, fun U hU hW => ⟨rfl, by rw [hU]; exact hPc, va_K.moved hW.alike hK, hok'.go hX' hS (fun _ h => h.elim) hW hU⟩⟩ rfl hn hsize hst (lv_room hW) hdg hf)) kk
theorem kePV {post : Int32 → Prop} {q : vw_C} {fs : List Value} (S : CallFix p m c cc nL s args Ts own) (hM : eP E' l y ws rm D ct wc (.ref b :: As) post) (cw : CallW R s args own C index y bytes maxL ret ws rm 0 0 n)
    (hok : EOK E) (hok' : EOK E') (hEE : E A s s.heap → E' A s s.heap) (hX : E A s s.heap) (hS : va_S A s.heap H locs)
    (hK : va_K D vwCl (tyl ct) s) (hP : va_P D vwCl w H) (isC : List Nat) (hC : isC.filterMap (fun i => w[i]?) = wc) (hc : vwCl[ci]? = some q) (hq : q.1 = C) (he : wc[0]? = some (b, .inr (ci, fs)))
    (hn : As.length = n) (hsize : ls.size = nL) (hst : st0 = As.reverse ++ .ref b :: rest) (hW : (rest.map fun v => v.category).sum ≤ 8) (hdg : decode cc pc = .ok (.invokevirtual index, 3)) (hf : cells ≤ R.cells ∧ slots ≤ R.slots)
    (kk : ∀ r : Int32, post r → W p l e R s m args below meth c H locs cells slots Q (F0 m (pc + 3) ls (.int r :: rest))) : W p l e R s m args below meth c H locs cells slots Q (F0 m pc ls st0) := by
  have hPc := hP.sub (ws' := wc) isC hC
  refine kePO S hM cw hok hok' hEE hX hS ?_ hK hP isC hC hn hsize hst hW hdg hf kk
  obtain ⟨cell, h1, h2, h3⟩ := va_recv hK hPc hc he
  exact ⟨cell, h1, h2, by rw [← hq]; exact h3⟩
theorem kePS {post : Int32 → Prop} (S : CallFix p m c cc nL s args Ts own) (hM : eP E' l y ws rm D ct wc As post) (cw : CallB R s args own index y bytes maxL ret ws rm 0 0 n ∧ (Cond.static y).before args s = true)
    (hok : EOK E) (hok' : EOK E') (hEE : E A s s.heap → E' A s s.heap) (hX : E A s s.heap) (hS : va_S A s.heap H locs)
    (hK : va_K D vwCl (tyl ct) s) (hP : va_P D vwCl w H) (isC : List Nat) (hC : isC.filterMap (fun i => w[i]?) = wc)
    (hn : As.length = n) (hsize : ls.size = nL) (hst : st0 = As.reverse ++ rest) (hW : (rest.map fun v => v.category).sum ≤ 8) (hdg : decode cc pc = .ok (.invokestatic index, 3)) (hf : cells ≤ R.cells ∧ slots ≤ R.slots)
    (kk : ∀ r : Int32, post r → W p l e R s m args below meth c H locs cells slots Q (F0 m (pc + 3) ls (.int r :: rest))) : W p l e R s m args below meth c H locs cells slots Q (F0 m pc ls st0) := by
  have hPc := hP.sub (ws' := wc) isC hC
  have hX' := hEE hX
  exact vp_callSi (va_Run.run (va_runS (As := As) (rest := rest) S hM cw ⟨fun a U g mk q => by obtain ⟨q0, qP, qK, qX⟩ := q; exact ⟨q0, qP, va_K.moved (u := U) (U := U.calling g mk a) (Vm.Alike.refl U.vm) qK, hok'.call g mk a qX⟩, fun U hU hW => ⟨rfl, by rw [hU]; exact hPc, va_K.moved hW.alike hK, hok'.go hX' hS (fun _ h => h.elim) hW hU⟩⟩ rfl hn hsize hst (lv_room hW) hdg hf)) kk
theorem keIV {S0 : Type} {post : Int32 → S0 → Prop} {w1 : S0 → va_W} {q : vw_C} {fs : List Value} (S : CallFix p m c cc nL s args Ts own) (hM : eI E' l y ws rm D ct wc H.size (.ref b :: As) post w1) (cw : CallW R s args own C index y bytes maxL ret ws rm rm.cells rm.slots n)
    (hok : EOK E) (hok' : EOK E') (hEE : E A s s.heap → E' A s s.heap) (hX : E A s s.heap)
    (hK : va_K D vwCl (tyl ct) s) (hP : va_P D vwCl w H) (hD : va_D A w) (hS : va_S A s.heap H locs) (hA : ∀ q, s.heap.size ≤ q → A q) (isC isR : List Nat) (hC : isC.map (fun i => w[i]?) = wc.map some) (hR : isR.map (fun i => w[i]?) = wr.map some) (hnC : va_nd isC = true) (hnR : va_nd isR = true) (hdis : ∀ i ∈ isR, i ∉ isC)
    (hc : vwCl[ci]? = some q) (hq : q.1 = C) (he : wc[0]? = some (b, .inr (ci, fs)))
    (hn : As.length = n) (hsize : ls.size = nL) (hst : st0 = As.reverse ++ .ref b :: rest) (hW : (rest.map fun v => v.category).sum ≤ 8) (hdg : decode cc pc = .ok (.invokevirtual index, 3)) (hf : cells + rm.cells ≤ R.cells ∧ slots + rm.slots ≤ R.slots)
    (kk : ∀ (r : Int32) (u : S0) (H1 : Heap) (locs1 : List Loc), post r u → va_P D vwCl (wr ++ w1 u) H1 → va_D A (wr ++ w1 u) → va_S A s.heap H1 locs1 → W p l e R s m args below meth c H1 locs1 (cells + rm.cells) (slots + rm.slots) Q (F0 m (pc + 3) ls (.int r :: rest))) : W p l e R s m args below meth c H locs cells slots Q (F0 m pc ls st0) := by
  have hDc : va_D A wc := hD.sub isC hnC hC
  have hPc : va_P D vwCl wc H := hP.by (fun k => isC.getD k 0) (fun k q hk => by
    have h1 : (isC.map (fun i => w[i]?))[k]? = some (some q) := by rw [hC, List.getElem?_map, hk]; rfl
    rw [List.getElem?_map] at h1
    cases hi : isC[k]? with
    | none => rw [hi] at h1; cases h1
    | some i => rw [hi] at h1; rw [List.getD_eq_getElem?_getD, hi]; exact Option.some.inj h1)
  have hFc := va_free (wc := wc) hD hS hA isC hC
  have hX' := hEE hX
  have hrec : ∃ cellB : Cell, H[b]? = some cellB ∧ cellB.vm.isStatics = false ∧ s.vm.findClass C = some cellB.cls := by
    obtain ⟨cell, h1, h2, h3⟩ := va_recv hK hPc hc he
    exact ⟨cell, h1, h2, by rw [← hq]; exact h3⟩
  refine va_calli (va_runV (As := As) (rest := rest) S hM cw ⟨fun a U g mk q => by obtain ⟨q0, q1, qP, qK, qD, qX⟩ := q; exact ⟨q0, q1, qP, va_K.moved (u := U) (U := U.calling g mk a) (Vm.Alike.refl U.vm) qK, qD, hok'.call g mk a qX⟩, hrec, fun U hU hW => ⟨rfl, by rw [hU], by rw [hU]; exact hPc, va_K.moved hW.alike hK, hDc.weaken (fun _ _ _ _ => trivial), hok'.go hX' hS hFc hW hU⟩⟩ rfl hn hsize hst (lv_room hW) hdg hf) hS (fun q _ h => hFc q h) hFc (fun r u t H1 locs1 ht hvm hw hB hz1 hk1 hS1 => ?_)
  obtain ⟨hP1, hK1, hD1⟩ := hB
  rw [ht] at hP1
  obtain ⟨hP2, hD2⟩ := va_join (wr := wr) (w1 := w1 u) hP hD isC isR hC hR hnR hdis hk1 hFc hP1 hD1
  exact kk r u H1 locs1 hw hP2 hD2 hS1
theorem keVV {S0 : Type} {post : S0 → Prop} {w1 : S0 → va_W} {q : vw_C} {fs : List Value} (S : CallFix p m c cc nL s args Ts own) (hM : eV E' l y ws rm D ct wc H.size (.ref b :: As) post w1) (cw : CallW R s args own C index y bytes maxL ret ws rm rm.cells rm.slots n)
    (hok : EOK E) (hok' : EOK E') (hEE : E A s s.heap → E' A s s.heap) (hX : E A s s.heap)
    (hK : va_K D vwCl (tyl ct) s) (hP : va_P D vwCl w H) (hD : va_D A w) (hS : va_S A s.heap H locs) (hA : ∀ q, s.heap.size ≤ q → A q) (isC isR : List Nat) (hC : isC.map (fun i => w[i]?) = wc.map some) (hR : isR.map (fun i => w[i]?) = wr.map some) (hnC : va_nd isC = true) (hnR : va_nd isR = true) (hdis : ∀ i ∈ isR, i ∉ isC)
    (hc : vwCl[ci]? = some q) (hq : q.1 = C) (he : wc[0]? = some (b, .inr (ci, fs)))
    (hn : As.length = n) (hsize : ls.size = nL) (hst : st0 = As.reverse ++ .ref b :: rest) (hW : (rest.map fun v => v.category).sum ≤ 8) (hdg : decode cc pc = .ok (.invokevirtual index, 3)) (hf : cells + rm.cells ≤ R.cells ∧ slots + rm.slots ≤ R.slots)
    (kk : ∀ (u : S0) (H1 : Heap) (locs1 : List Loc), post u → va_P D vwCl (wr ++ w1 u) H1 → va_D A (wr ++ w1 u) → va_S A s.heap H1 locs1 → W p l e R s m args below meth c H1 locs1 (cells + rm.cells) (slots + rm.slots) Q (F0 m (pc + 3) ls rest)) : W p l e R s m args below meth c H locs cells slots Q (F0 m pc ls st0) := by
  have hDc : va_D A wc := hD.sub isC hnC hC
  have hPc : va_P D vwCl wc H := hP.by (fun k => isC.getD k 0) (fun k q hk => by
    have h1 : (isC.map (fun i => w[i]?))[k]? = some (some q) := by rw [hC, List.getElem?_map, hk]; rfl
    rw [List.getElem?_map] at h1
    cases hi : isC[k]? with
    | none => rw [hi] at h1; cases h1
    | some i => rw [hi] at h1; rw [List.getD_eq_getElem?_getD, hi]; exact Option.some.inj h1)
  have hFc := va_free (wc := wc) hD hS hA isC hC
  have hX' := hEE hX
  have hrec : ∃ cellB : Cell, H[b]? = some cellB ∧ cellB.vm.isStatics = false ∧ s.vm.findClass C = some cellB.cls := by
    obtain ⟨cell, h1, h2, h3⟩ := va_recv hK hPc hc he
    exact ⟨cell, h1, h2, by rw [← hq]; exact h3⟩
  refine va_callv (va_runV (As := As) (rest := rest) S hM cw ⟨fun a U g mk q => by obtain ⟨q0, q1, qP, qK, qD, qX⟩ := q; exact ⟨q0, q1, qP, va_K.moved (u := U) (U := U.calling g mk a) (Vm.Alike.refl U.vm) qK, qD, hok'.call g mk a qX⟩, hrec, fun U hU hW => ⟨rfl, by rw [hU], by rw [hU]; exact hPc, va_K.moved hW.alike hK, hDc.weaken (fun _ _ _ _ => trivial), hok'.go hX' hS hFc hW hU⟩⟩ rfl hn hsize hst (lv_room hW) hdg hf) hS (fun q _ h => hFc q h) hFc (fun u t H1 locs1 ht hvm hw hB hz1 hk1 hS1 => ?_)
  obtain ⟨hP1, hK1, hD1⟩ := hB
  rw [ht] at hP1
  obtain ⟨hP2, hD2⟩ := va_join (wr := wr) (w1 := w1 u) hP hD isC isR hC hR hnR hdis hk1 hFc hP1 hD1
  exact kk u H1 locs1 hw hP2 hD2 hS1
end KE
/-! String.length, String.charAt -/
abbrev rm_J0_0 : Room := { frames := 0, cells := 0, slots := 0, locals := 0 }
abbrev rm_J0_1 : Room := { frames := 1, cells := 0, slots := 0, locals := 40 }
abbrev rm_J0_2 : Room := { frames := 2, cells := 0, slots := 0, locals := 80 }
abbrev rm_J0_3 : Room := { frames := 3, cells := 0, slots := 0, locals := 120 }
theorem c_J0_coder (l : Launch) (D : va_G) (ct : Nat → ClassId) (a n : Nat) : eP (ES a n) l yJ0_coder_7d493 wsJ0_coder_7d493 rm_J0_0 D ct [] [.ref a] (fun r : Int32 => r = 0) := by
  refine eP_of (ty := .byte) (cc := cJ0_coder_7d493) (maxL := 1) (by decide) rfl (Nat.le_of_ble_eq_true rfl) ?_
  intro p e s m args below meth c Q hx hb hml hts hown hK hP hX hE ls hl
  have hl : lv_has ls 1 [(0, .ref a)] := hl
  refine va_gets hx hb hX.1.1 va_S.rf hown (hts (.fieldLink RJ0 38 "java/lang/String" "COMPACT_STRINGS" "Z") (by decide +kernel)) (fun _ h => h) dJ0_coder_7d493_0 ?_
  refine lv_if_eq (tgt := 13) hx hb dJ0_coder_7d493_3 (by decide) (fun c1 => absurd c1 (by decide)) (fun c1 => ?_)
  refine lv_aload_n hx hb dJ0_coder_7d493_6 rfl (lv_at hl 0 rfl) ?_
  refine vk_getf hx hb hX.2.2.2.1 va_S.rf hown (hts (.fieldLink RJ0 15 "java/lang/String" "coder" "B") (by decide +kernel)) (fun _ h => h) dJ0_coder_7d493_7 ?_
  refine lv_goto (tgt := 14) hx hb dJ0_coder_7d493_10 (by decide) ?_
  exact hE _ _ _ (by decide) rfl dJ0_coder_7d493_14
theorem c_J0_isLatin1 (l : Launch) (D : va_G) (ct : Nat → ClassId) (a n : Nat) : eP (ES a n) l yJ0_isLatin1_aae02 wsJ0_isLatin1_aae02 rm_J0_0 D ct [] [.ref a] (fun r : Int32 => r = 1) := by
  refine eP_of (ty := .boolean) (cc := cJ0_isLatin1_aae02) (maxL := 1) (by decide) rfl (Nat.le_of_ble_eq_true rfl) ?_
  intro p e s m args below meth c Q hx hb hml hts hown hK hP hX hE ls hl
  have hl : lv_has ls 1 [(0, .ref a)] := hl
  refine va_gets hx hb hX.1.1 va_S.rf hown (hts (.fieldLink RJ0 38 "java/lang/String" "COMPACT_STRINGS" "Z") (by decide +kernel)) (fun _ h => h) dJ0_isLatin1_aae02_0 ?_
  refine lv_if_eq (tgt := 17) hx hb dJ0_isLatin1_aae02_3 (by decide) (fun c1 => absurd c1 (by decide)) (fun c1 => ?_)
  refine lv_aload_n hx hb dJ0_isLatin1_aae02_6 rfl (lv_at hl 0 rfl) ?_
  refine vk_getf hx hb hX.2.2.2.1 va_S.rf hown (hts (.fieldLink RJ0 15 "java/lang/String" "coder" "B") (by decide +kernel)) (fun _ h => h) dJ0_isLatin1_aae02_7 ?_
  refine lv_if_ne (tgt := 17) hx hb dJ0_isLatin1_aae02_10 (by decide) (fun c1 => absurd rfl c1) (fun c1 => ?_)
  refine lv_iconst (v := 1) hx hb dJ0_isLatin1_aae02_13 (by decide) ?_
  refine lv_goto (tgt := 18) hx hb dJ0_isLatin1_aae02_14 (by decide) ?_
  exact hE _ _ _ (by decide) rfl dJ0_isLatin1_aae02_18
theorem ST.rec {a n : Nat} {A : Nat → Prop} {s : State} {H : Heap} {locs : List Loc} (h : ST a n A s s.heap) (hS : va_S A s.heap H locs) : ∃ cellB : Cell, H[a]? = some cellB ∧ cellB.vm.isStatics = false ∧ s.vm.findClass "java/lang/String" = some cellB.cls := by
  obtain ⟨cell, h1, h2, h3, -⟩ := h.2.1.kept hS.2.1
  exact ⟨cell, h1, h2, h3⟩
theorem nI_iv {n : Nat} {b : Int} (h : n ≤ 40) (hb : (n : Int) ≤ b) : iv (nI n) 0 b := by
  have e := nI_toInt (n := n) (by omega)
  exact ⟨by rw [e]; omega, by rw [e]; exact hb⟩
theorem c_J0_length (l : Launch) (D : va_G) (ct : Nat → ClassId) (a n : Nat) : eP (ES a n) l yJ0_length_8abf5 wsJ0_length_8abf5 rm_J0_1 D ct [] [.ref a] (fun r : Int32 => r = nI (ux_wl n)) := by
  refine eP_of (ty := .int) (cc := cJ0_length_8abf5) (maxL := 1) (by decide) rfl (Nat.le_of_ble_eq_true rfl) ?_
  intro p e s m args below meth c Q hx hb hml hts hown hK hP hX hE ls hl
  have hl : lv_has ls 1 [(0, .ref a)] := hl
  obtain ⟨hn, -, -, v, h3, h4⟩ := hX.2
  refine lv_aload_n hx hb dJ0_length_8abf5_0 rfl (lv_at hl 0 rfl) ?_
  refine vk_getf hx hb h3 va_S.rf hown (hts (.fieldLink RJ0 9 "java/lang/String" "value" "[B") (by decide +kernel)) (fun _ h => h) dJ0_length_8abf5_1 ?_
  refine va_tlen (v := nI (ux_wl n)) hx hb h4 va_S.rf rfl dJ0_length_8abf5_4 ?_
  refine lv_aload_n hx hb dJ0_length_8abf5_5 rfl (lv_at hl 0 rfl) ?_
  refine kePO (E := ES a n) (A := fun _ => False) (rest := [.int (nI (ux_wl n))]) ⟨hx, hb, hml, hown, hts⟩ (c_J0_coder l D ct a n) (cwV 0 hts gJ0_length_8abf5_J0_coder_7d493 rfl rfl rfl (by decide +kernel) ⟨Nat.le_of_ble_eq_true rfl, Nat.le_of_ble_eq_true rfl⟩) (ES_ok a n) (ES_ok a n) id hX va_S.rf (hX.2.rec va_S.rf) hK hP [] rfl rfl hl.1 rfl (Nat.le_of_ble_eq_true rfl) dJ0_length_8abf5_6 ⟨Nat.le_of_ble_eq_true rfl, Nat.le_of_ble_eq_true rfl⟩ (fun r hr => ?_)
  subst hr
  refine lv_ishr hx hb dJ0_length_8abf5_9 ?_
  refine lv_topi (fun x1 ex1 => ?_)
  exact hE _ _ _ rfl (by rw [ex1]; exact Int32.shiftRight_zero) dJ0_length_8abf5_10
theorem c_J3_checkIndex (l : Launch) (D : va_G) (ct : Nat → ClassId) (v : Value) (k n : Nat) (hv : v = .null ∨ ∃ t : Nat, v = .ref t) (hk : k < n) (hn : n ≤ 40) : cP l yJ3_checkIndex_8e157 wsJ3_checkIndex_8e157 rm_J0_0 D ct [] [.int (nI k), .int (nI n), v] (fun _ => True) := by
  rcases hv with rfl | ⟨t, rfl⟩
  all_goals
    refine cP_of (cc := cJ3_checkIndex_8e157) (maxL := 3) (by decide) rfl (Nat.le_of_ble_eq_true rfl) ?_
    intro p e s m args below meth c Q hx hb hml hts hown hK hP hE ls hl
    refine lv_iload_n hx hb dJ3_checkIndex_8e157_0 rfl (lv_at hl 0 rfl) ?_
    refine lv_if_lt (tgt := 9) hx hb dJ3_checkIndex_8e157_1 (by decide) (fun c1 => absurd c1 (nI_pos (by omega))) (fun c1 => ?_)
    refine lv_iload_n hx hb dJ3_checkIndex_8e157_4 rfl (lv_at hl 0 rfl) ?_
    refine lv_iload_n hx hb dJ3_checkIndex_8e157_5 rfl (lv_at hl 1 rfl) ?_
    refine lv_icmp_lt (tgt := 16) hx hb dJ3_checkIndex_8e157_6 (by decide) (fun c2 => ?_) (fun c2 => absurd (nI_lt hk (by omega)) c2)
    refine lv_iload_n hx hb dJ3_checkIndex_8e157_16 rfl (lv_at hl 0 rfl) ?_
    exact hE _ _ _ trivial dJ3_checkIndex_8e157_17
