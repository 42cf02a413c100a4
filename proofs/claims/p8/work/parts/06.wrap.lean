/-! contracts of three forms (nothing written; written, an int; written, nothing), how they are begun, ended, called -/
abbrev tyl (ct : Nat → ClassId) : List (ClassId × FieldType) := [(ct 0, .int), (ct 1, .byte), (ct 2, .object "java/lang/String"), (ct 3, .long)]
def cP (l : Launch) (y : MethodName) (ws : List Cond) (rm : Room) (D : va_G) (ct : Nat → ClassId) (wc : va_W) (As : List Value) (post : Int32 → Prop) : Prop :=
  Met l y ws rm (va_Pc As (fun U => va_P D vwCl wc U.heap ∧ va_K D vwCl (tyl ct) U)) (vp_Si post) 0 0 (fun _ => False)
def cI (l : Launch) (y : MethodName) (ws : List Cond) (rm : Room) (D : va_G) (ct : Nat → ClassId) (wc : va_W) (sz : Nat) (As : List Value) {S : Type} (post : Int32 → S → Prop) (w1 : S → va_W) : Prop :=
  Met l y ws rm (va_Pc As (fun U => U.heap.size = sz ∧ va_P D vwCl wc U.heap ∧ va_K D vwCl (tyl ct) U ∧ va_D (fun _ => True) wc)) (va_Qi post (fun u t => va_P D vwCl (w1 u) t.heap ∧ va_K D vwCl (tyl ct) t ∧ va_D (va_A wc sz) (w1 u)) (va_A wc sz)) rm.cells rm.slots (va_A wc sz)
def cV (l : Launch) (y : MethodName) (ws : List Cond) (rm : Room) (D : va_G) (ct : Nat → ClassId) (wc : va_W) (sz : Nat) (As : List Value) {S : Type} (post : S → Prop) (w1 : S → va_W) : Prop :=
  Met l y ws rm (va_Pc As (fun U => U.heap.size = sz ∧ va_P D vwCl wc U.heap ∧ va_K D vwCl (tyl ct) U ∧ va_D (fun _ => True) wc)) (va_Qv post (fun u t => va_P D vwCl (w1 u) t.heap ∧ va_K D vwCl (tyl ct) t ∧ va_D (va_A wc sz) (w1 u)) (va_A wc sz)) rm.cells rm.slots (va_A wc sz)
section KW
variable {p : Program} {l : Launch} {e : Env} {R : Room} {s : State} {m : MethodId} {args : Array Value} {below : List Frame} {meth : Method} {c : Code} {H : Heap} {locs : List Loc} {cells slots : Nat} {Q : State → Prop} {cc : ByteArray} {nL : Nat} {Ts : List Cond} {own C : String} {pc : Nat} {ls : Array Slot} {rest st0 : List Value}
variable {y : MethodName} {ws ws' : List Cond} {rm : Room} {D : va_G} {ct : Nat → ClassId} {wc w wr : va_W} {b index maxL n sz ci : Nat} {As : List Value} {bytes : ByteArray} {ret : Option FieldType} {A : Nat → Prop} {H0 : Heap}
theorem iv01 {v : Int32} (hz : iv v 0 1) : narrow .boolean (.int v) = .int v := by
  have h01 : v = 0 ∨ v = 1 := by
    have h := hz
    unfold iv at h
    rcases (show v.toInt = 0 ∨ v.toInt = 1 by omega) with q | q
    · exact Or.inl (Int32.toInt_inj.mp q)
    · exact Or.inr (Int32.toInt_inj.mp q)
  rcases h01 with rfl | rfl <;> decide
theorem cP_of {post : Int32 → Prop} (hy : plainName y.cls = true) (hw : ws = Cond.code y cc maxL (some .int) :: ws') (hA : (lg_sl As).length ≤ maxL)
    (body : ∀ (p : Program) (e : Env) (s : State) (m : MethodId) (args : Array Value) (below : List Frame) (meth : Method) (c : Code) (Q : State → Prop), p.tables.exec = Jvm.exec → c.code = cc → c.maxLocals = maxL → (∀ w ∈ ws, w.before args s = true) → s.vm.findClass y.cls = some m.cls →
      va_K D vwCl (tyl ct) s → va_P D vwCl wc s.heap → (∀ (v : Int32) (pc : Nat) (ls : Array Slot), post v → decode cc pc = .ok (.ireturn, 1) → W p l e rm s m args below meth c s.heap [] 0 0 Q (F0 m pc ls [.int v])) → ∀ ls : Array Slot, lv_has ls maxL (lv_args 0 As) →
      W p l e rm s m args below meth c s.heap [] 0 0 Q (F0 m 0 ls [])) : cP l y ws rm D ct wc As post := by
  refine Met.ofW (cc := cc) (maxL := maxL) (ret := some .int) hy hw ?_
  intro p e s m args below meth c s₁ B hml hv
  obtain ⟨rfl, hP, hK⟩ := hv
  rw [lg_entry_eq]
  exact body p e s m _ below meth c _ B.exec B.bytes hml (atoms_spec (ws := ws) B.pre) (findClass_of_methodNamed B.named) hK hP (fun v pc ls hv d => W.iret (v := v) B.exec B.bytes B.returns (fun t ht _ => ⟨v, rfl, hv, ht⟩) (fun _ h => by cases h) d B.notSynchronized) _ (lv_entry As hA)
theorem cPz_of {post : Int32 → Prop} (hy : plainName y.cls = true) (hw : ws = Cond.code y cc maxL (some .boolean) :: ws') (hA : (lg_sl As).length ≤ maxL)
    (body : ∀ (p : Program) (e : Env) (s : State) (m : MethodId) (args : Array Value) (below : List Frame) (meth : Method) (c : Code) (Q : State → Prop), p.tables.exec = Jvm.exec → c.code = cc → c.maxLocals = maxL → (∀ w ∈ ws, w.before args s = true) → s.vm.findClass y.cls = some m.cls →
      va_K D vwCl (tyl ct) s → va_P D vwCl wc s.heap → (∀ (v : Int32) (pc : Nat) (ls : Array Slot), iv v 0 1 → post v → decode cc pc = .ok (.ireturn, 1) → W p l e rm s m args below meth c s.heap [] 0 0 Q (F0 m pc ls [.int v])) → ∀ ls : Array Slot, lv_has ls maxL (lv_args 0 As) →
      W p l e rm s m args below meth c s.heap [] 0 0 Q (F0 m 0 ls [])) : cP l y ws rm D ct wc As post := by
  refine Met.ofW (cc := cc) (maxL := maxL) (ret := some .boolean) hy hw ?_
  intro p e s m args below meth c s₁ B hml hv
  obtain ⟨rfl, hP, hK⟩ := hv
  rw [lg_entry_eq]
  exact body p e s m _ below meth c _ B.exec B.bytes hml (atoms_spec (ws := ws) B.pre) (findClass_of_methodNamed B.named) hK hP (fun v pc ls hz hv d => W.zret (v := v) B.exec B.bytes B.returns (iv01 hz) (fun t ht _ => ⟨v, rfl, hv, ht⟩) (fun _ h => by cases h) d B.notSynchronized) _ (lv_entry As hA)
theorem cI_of {S : Type} {post : Int32 → S → Prop} {w1 : S → va_W} (hy : plainName y.cls = true) (hw : ws = Cond.code y cc maxL (some .int) :: ws') (hA : (lg_sl As).length ≤ maxL)
    (body : ∀ (p : Program) (e : Env) (s : State) (m : MethodId) (args : Array Value) (below : List Frame) (meth : Method) (c : Code) (Q : State → Prop) (A : Nat → Prop), p.tables.exec = Jvm.exec → c.code = cc → c.maxLocals = maxL → (∀ w ∈ ws, w.before args s = true) → s.vm.findClass y.cls = some m.cls →
      va_K D vwCl (tyl ct) s → va_P D vwCl wc s.heap → va_D A wc → (∀ q : Nat, s.heap.size ≤ q → A q) → A = va_A wc s.heap.size → sz = s.heap.size → meth.name = y.name →
      (∀ (v : Int32) (u : S) (pc : Nat) (ls : Array Slot) (H : Heap) (locs : List Loc), post v u → va_P D vwCl (w1 u) H → va_D A (w1 u) → va_S A s.heap H locs → decode cc pc = .ok (.ireturn, 1) → W p l e rm s m args below meth c H locs rm.cells rm.slots Q (F0 m pc ls [.int v])) → ∀ ls : Array Slot, lv_has ls maxL (lv_args 0 As) →
      W p l e rm s m args below meth c s.heap [] 0 0 Q (F0 m 0 ls [])) : cI l y ws rm D ct wc sz As post w1 := by
  refine Met.ofW (cc := cc) (maxL := maxL) (ret := (some .int)) hy hw ?_
  intro p e s m args below meth c s₁ B hml hv
  obtain ⟨rfl, hsz, hP, hK, hD⟩ := hv
  subst hsz
  rw [lg_entry_eq]
  exact body p e s m _ below meth c _ _ B.exec B.bytes hml (atoms_spec (ws := ws) B.pre) (findClass_of_methodNamed B.named) hK hP hD.self (fun q h => Or.inr h) rfl rfl (name_of_methodNamed B.named B.method).1 (fun v u pc ls H locs hv hP hD hS d => W.iret (v := v) B.exec B.bytes B.returns (fun t ht hW => ⟨⟨v, u, rfl, hv, by rw [ht]; exact hP, va_K.moved hW.alike hK, hD⟩, hS.F ht⟩) hS.2.2 d B.notSynchronized) _ (lv_entry As hA)
theorem cIz_of {S : Type} {post : Int32 → S → Prop} {w1 : S → va_W} (hy : plainName y.cls = true) (hw : ws = Cond.code y cc maxL (some .boolean) :: ws') (hA : (lg_sl As).length ≤ maxL)
    (body : ∀ (p : Program) (e : Env) (s : State) (m : MethodId) (args : Array Value) (below : List Frame) (meth : Method) (c : Code) (Q : State → Prop) (A : Nat → Prop), p.tables.exec = Jvm.exec → c.code = cc → c.maxLocals = maxL → (∀ w ∈ ws, w.before args s = true) → s.vm.findClass y.cls = some m.cls →
      va_K D vwCl (tyl ct) s → va_P D vwCl wc s.heap → va_D A wc → (∀ q : Nat, s.heap.size ≤ q → A q) → A = va_A wc s.heap.size → sz = s.heap.size → meth.name = y.name →
      (∀ (v : Int32) (u : S) (pc : Nat) (ls : Array Slot) (H : Heap) (locs : List Loc), iv v 0 1 → post v u → va_P D vwCl (w1 u) H → va_D A (w1 u) → va_S A s.heap H locs → decode cc pc = .ok (.ireturn, 1) → W p l e rm s m args below meth c H locs rm.cells rm.slots Q (F0 m pc ls [.int v])) → ∀ ls : Array Slot, lv_has ls maxL (lv_args 0 As) →
      W p l e rm s m args below meth c s.heap [] 0 0 Q (F0 m 0 ls [])) : cI l y ws rm D ct wc sz As post w1 := by
  refine Met.ofW (cc := cc) (maxL := maxL) (ret := (some .boolean)) hy hw ?_
  intro p e s m args below meth c s₁ B hml hv
  obtain ⟨rfl, hsz, hP, hK, hD⟩ := hv
  subst hsz
  rw [lg_entry_eq]
  exact body p e s m _ below meth c _ _ B.exec B.bytes hml (atoms_spec (ws := ws) B.pre) (findClass_of_methodNamed B.named) hK hP hD.self (fun q h => Or.inr h) rfl rfl (name_of_methodNamed B.named B.method).1 (fun v u pc ls H locs hz hv hP hD hS d => W.zret (v := v) B.exec B.bytes B.returns (iv01 hz) (fun t ht hW => ⟨⟨v, u, rfl, hv, by rw [ht]; exact hP, va_K.moved hW.alike hK, hD⟩, hS.F ht⟩) hS.2.2 d B.notSynchronized) _ (lv_entry As hA)
theorem cV_of {S : Type} {post : S → Prop} {w1 : S → va_W} (hy : plainName y.cls = true) (hw : ws = Cond.code y cc maxL none :: ws') (hA : (lg_sl As).length ≤ maxL)
    (body : ∀ (p : Program) (e : Env) (s : State) (m : MethodId) (args : Array Value) (below : List Frame) (meth : Method) (c : Code) (Q : State → Prop) (A : Nat → Prop), p.tables.exec = Jvm.exec → c.code = cc → c.maxLocals = maxL → (∀ w ∈ ws, w.before args s = true) → s.vm.findClass y.cls = some m.cls →
      va_K D vwCl (tyl ct) s → va_P D vwCl wc s.heap → va_D A wc → (∀ q : Nat, s.heap.size ≤ q → A q) → A = va_A wc s.heap.size → sz = s.heap.size → meth.name = y.name →
      (∀ (u : S) (pc : Nat) (ls : Array Slot) (H : Heap) (locs : List Loc), post u → va_P D vwCl (w1 u) H → va_D A (w1 u) → va_S A s.heap H locs → decode cc pc = .ok (.return_, 1) → W p l e rm s m args below meth c H locs rm.cells rm.slots Q (F0 m pc ls [])) → ∀ ls : Array Slot, lv_has ls maxL (lv_args 0 As) →
      W p l e rm s m args below meth c s.heap [] 0 0 Q (F0 m 0 ls [])) : cV l y ws rm D ct wc sz As post w1 := by
  refine Met.ofW (cc := cc) (maxL := maxL) (ret := none) hy hw ?_
  intro p e s m args below meth c s₁ B hml hv
  obtain ⟨rfl, hsz, hP, hK, hD⟩ := hv
  subst hsz
  rw [lg_entry_eq]
  exact body p e s m _ below meth c _ _ B.exec B.bytes hml (atoms_spec (ws := ws) B.pre) (findClass_of_methodNamed B.named) hK hP hD.self (fun q h => Or.inr h) rfl rfl (name_of_methodNamed B.named B.method).1 (fun u pc ls H locs hv hP hD hS d => W.vret B.exec B.bytes B.returns (fun t ht hW => ⟨⟨u, rfl, hv, by rw [ht]; exact hP, va_K.moved hW.alike hK, hD⟩, hS.F ht⟩) hS.2.2 d B.notSynchronized) _ (lv_entry As hA)
/-- a call that writes nothing, on an object -/
theorem kPV {post : Int32 → Prop} {q : vw_C} {fs : List Value} (S : CallFix p m c cc nL s args Ts own) (hM : cP l y ws rm D ct wc (.ref b :: As) post) (cw : CallW R s args own C index y bytes maxL ret ws rm 0 0 n)
    (hK : va_K D vwCl (tyl ct) s) (hP : va_P D vwCl w H) (isC : List Nat) (hC : isC.filterMap (fun i => w[i]?) = wc) (hc : vwCl[ci]? = some q) (hq : q.1 = C) (he : wc[0]? = some (b, .inr (ci, fs)))
    (hn : As.length = n) (hsize : ls.size = nL) (hst : st0 = As.reverse ++ .ref b :: rest) (hW : (rest.map fun v => v.category).sum ≤ 8) (hdg : decode cc pc = .ok (.invokevirtual index, 3)) (hf : cells ≤ R.cells ∧ slots ≤ R.slots)
    (kk : ∀ r : Int32, post r → W p l e R s m args below meth c H locs cells slots Q (F0 m (pc + 3) ls (.int r :: rest))) : W p l e R s m args below meth c H locs cells slots Q (F0 m pc ls st0) := by
  have hPc := hP.sub (ws' := wc) isC hC
  refine vp_callSi (va_Run.run (va_runV (As := As) (rest := rest) S hM cw ⟨fun a U g mk q => by obtain ⟨q0, qP, qK⟩ := q; exact ⟨q0, qP, va_K.moved (u := U) (U := U.calling g mk a) (Vm.Alike.refl U.vm) qK⟩, ?_, fun U hU hW => ⟨rfl, by rw [hU]; exact hPc, va_K.moved hW.alike hK⟩⟩ rfl hn hsize hst (lv_room hW) hdg hf)) kk
  obtain ⟨cell, h1, h2, h3⟩ := va_recv hK hPc hc he
  exact ⟨cell, h1, h2, by rw [← hq]; exact h3⟩
theorem kPS {post : Int32 → Prop} (S : CallFix p m c cc nL s args Ts own) (hM : cP l y ws rm D ct wc As post) (cw : CallB R s args own index y bytes maxL ret ws rm 0 0 n ∧ (Cond.static y).before args s = true)
    (hK : va_K D vwCl (tyl ct) s) (hP : va_P D vwCl w H) (isC : List Nat) (hC : isC.filterMap (fun i => w[i]?) = wc)
    (hn : As.length = n) (hsize : ls.size = nL) (hst : st0 = As.reverse ++ rest) (hW : (rest.map fun v => v.category).sum ≤ 8) (hdg : decode cc pc = .ok (.invokestatic index, 3)) (hf : cells ≤ R.cells ∧ slots ≤ R.slots)
    (kk : ∀ r : Int32, post r → W p l e R s m args below meth c H locs cells slots Q (F0 m (pc + 3) ls (.int r :: rest))) : W p l e R s m args below meth c H locs cells slots Q (F0 m pc ls st0) := by
  have hPc := hP.sub (ws' := wc) isC hC
  exact vp_callSi (va_Run.run (va_runS (As := As) (rest := rest) S hM cw ⟨fun a U g mk q => by obtain ⟨q0, qP, qK⟩ := q; exact ⟨q0, qP, va_K.moved (u := U) (U := U.calling g mk a) (Vm.Alike.refl U.vm) qK⟩, fun U hU hW => ⟨rfl, by rw [hU]; exact hPc, va_K.moved hW.alike hK⟩⟩ rfl hn hsize hst (lv_room hW) hdg hf)) kk
/-- a call that writes, on an object: its cells are at isC, the others at isR -/
theorem kIV {S0 : Type} {post : Int32 → S0 → Prop} {w1 : S0 → va_W} {q : vw_C} {fs : List Value} (S : CallFix p m c cc nL s args Ts own) (hM : cI l y ws rm D ct wc H.size (.ref b :: As) post w1) (cw : CallW R s args own C index y bytes maxL ret ws rm rm.cells rm.slots n)
    (hK : va_K D vwCl (tyl ct) s) (hP : va_P D vwCl w H) (hD : va_D A w) (hS : va_S A s.heap H locs) (hA : ∀ q, s.heap.size ≤ q → A q) (isC isR : List Nat) (hC : isC.map (fun i => w[i]?) = wc.map some) (hR : isR.map (fun i => w[i]?) = wr.map some) (hnC : va_nd isC = true) (hnR : va_nd isR = true) (hdis : ∀ i ∈ isR, i ∉ isC)
    (hc : vwCl[ci]? = some q) (hq : q.1 = C) (he : wc[0]? = some (b, .inr (ci, fs)))
    (hn : As.length = n) (hsize : ls.size = nL) (hst : st0 = As.reverse ++ .ref b :: rest) (hW : (rest.map fun v => v.category).sum ≤ 8) (hdg : decode cc pc = .ok (.invokevirtual index, 3)) (hf : cells + rm.cells ≤ R.cells ∧ slots + rm.slots ≤ R.slots)
    (kk : ∀ (r : Int32) (u : S0) (H1 : Heap) (locs1 : List Loc), post r u → va_P D vwCl (wr ++ w1 u) H1 → va_D A (wr ++ w1 u) → va_S A s.heap H1 locs1 → W p l e R s m args below meth c H1 locs1 (cells + rm.cells) (slots + rm.slots) Q (F0 m (pc + 3) ls (.int r :: rest))) : W p l e R s m args below meth c H locs cells slots Q (F0 m pc ls st0) := by
  have hDc : va_D A wc := hD.sub isC hnC hC
  have hPc : va_P D vwCl wc H := hP.by (fun k => isC.getD k 0) (fun k q hk => by
    have h1 : (isC.map (fun i => w[i]?))[k]? = some (some q) := by rw [hC, List.getElem?_map, hk]; rfl
    rw [List.getElem?_map] at h1
    cases hi : isC[k]? with
    | none => rw [hi] at h1; cases h1
    | some i => rw [hi] at h1; rw [List.getD_eq_getElem?_getD, hi]; exact Option.some.inj h1)
  have hFc := va_free (wc := wc) hD hS hA isC hC
  have hrec : ∃ cellB : Cell, H[b]? = some cellB ∧ cellB.vm.isStatics = false ∧ s.vm.findClass C = some cellB.cls := by
    obtain ⟨cell, h1, h2, h3⟩ := va_recv hK hPc hc he
    exact ⟨cell, h1, h2, by rw [← hq]; exact h3⟩
  refine va_calli (va_runV (As := As) (rest := rest) S hM cw ⟨fun a U g mk q => by obtain ⟨q0, q1, qP, qK, qD⟩ := q; exact ⟨q0, q1, qP, va_K.moved (u := U) (U := U.calling g mk a) (Vm.Alike.refl U.vm) qK, qD⟩, hrec, fun U hU hW => ⟨rfl, by rw [hU], by rw [hU]; exact hPc, va_K.moved hW.alike hK, hDc.weaken (fun _ _ _ _ => trivial)⟩⟩ rfl hn hsize hst (lv_room hW) hdg hf) hS (fun q _ h => hFc q h) hFc (fun r u t H1 locs1 ht hvm hw hB hz1 hk1 hS1 => ?_)
  obtain ⟨hP1, hK1, hD1⟩ := hB
  rw [ht] at hP1
  obtain ⟨hP2, hD2⟩ := va_join (wr := wr) (w1 := w1 u) hP hD isC isR hC hR hnR hdis hk1 hFc hP1 hD1
  exact kk r u H1 locs1 hw hP2 hD2 hS1
theorem kVV {S0 : Type} {post : S0 → Prop} {w1 : S0 → va_W} {q : vw_C} {fs : List Value} (S : CallFix p m c cc nL s args Ts own) (hM : cV l y ws rm D ct wc H.size (.ref b :: As) post w1) (cw : CallW R s args own C index y bytes maxL ret ws rm rm.cells rm.slots n)
    (hK : va_K D vwCl (tyl ct) s) (hP : va_P D vwCl w H) (hD : va_D A w) (hS : va_S A s.heap H locs) (hA : ∀ q, s.heap.size ≤ q → A q) (isC isR : List Nat) (hC : isC.map (fun i => w[i]?) = wc.map some) (hR : isR.map (fun i => w[i]?) = wr.map some) (hnC : va_nd isC = true) (hnR : va_nd isR = true) (hdis : ∀ i ∈ isR, i ∉ isC)
    (hc : vwCl[ci]? = some q) (hq : q.1 = C) (he : wc[0]? = some (b, .inr (ci, fs)))
    (hn : As.length = n) (hsize : ls.size = nL) (hst : st0 = As.reverse ++ .ref b :: rest) (hW : (rest.map fun v => v.category).sum ≤ 8) (hdg : decode cc pc = .ok (.invokevirtual index, 3)) (hf : cells + rm.cells ≤ R.cells ∧ slots + rm.slots ≤ R.slots)
    (kk : ∀ (u : S0) (H1 : Heap) (locs1 : List Loc), post u → va_P D vwCl (wr ++ w1 u) H1 → va_D A (wr ++ w1 u) → va_S A s.heap H1 locs1 → W p l e R s m args below meth c H1 locs1 (cells + rm.cells) (slots + rm.slots) Q (F0 m (pc + 3) ls rest)) : W p l e R s m args below meth c H locs cells slots Q (F0 m pc ls st0) := by
  have hDc : va_D A wc := hD.sub isC hnC hC
  have hPc : va_P D vwCl wc H := hP.by (fun k => isC.getD k 0) (fun k q hk => by
    have h1 : (isC.map (fun i => w[i]?))[k]? = some (some q) := by rw [hC, List.getElem?_map, hk]; rfl
    rw [List.getElem?_map] at h1
    cases hi : isC[k]? with
    | none => rw [hi] at h1; cases h1
    | some i => rw [hi] at h1; rw [List.getD_eq_getElem?_getD, hi]; exact Option.some.inj h1)
  have hFc := va_free (wc := wc) hD hS hA isC hC
  have hrec : ∃ cellB : Cell, H[b]? = some cellB ∧ cellB.vm.isStatics = false ∧ s.vm.findClass C = some cellB.cls := by
    obtain ⟨cell, h1, h2, h3⟩ := va_recv hK hPc hc he
    exact ⟨cell, h1, h2, by rw [← hq]; exact h3⟩
  refine va_callv (va_runV (As := As) (rest := rest) S hM cw ⟨fun a U g mk q => by obtain ⟨q0, q1, qP, qK, qD⟩ := q; exact ⟨q0, q1, qP, va_K.moved (u := U) (U := U.calling g mk a) (Vm.Alike.refl U.vm) qK, qD⟩, hrec, fun U hU hW => ⟨rfl, by rw [hU], by rw [hU]; exact hPc, va_K.moved hW.alike hK, hDc.weaken (fun _ _ _ _ => trivial)⟩⟩ rfl hn hsize hst (lv_room hW) hdg hf) hS (fun q _ h => hFc q h) hFc (fun u t H1 locs1 ht hvm hw hB hz1 hk1 hS1 => ?_)
  obtain ⟨hP1, hK1, hD1⟩ := hB
  rw [ht] at hP1
  obtain ⟨hP2, hD2⟩ := va_join (wr := wr) (w1 := w1 u) hP hD isC isR hC hR hnR hdis hk1 hFc hP1 hD1
  exact kk u H1 locs1 hw hP2 hD2 hS1
theorem kVS {S0 : Type} {post : S0 → Prop} {w1 : S0 → va_W} (S : CallFix p m c cc nL s args Ts own) (hM : cV l y ws rm D ct wc H.size As post w1) (cw : CallB R s args own index y bytes maxL ret ws rm rm.cells rm.slots n ∧ (Cond.static y).before args s = true)
    (hK : va_K D vwCl (tyl ct) s) (hP : va_P D vwCl w H) (hD : va_D A w) (hS : va_S A s.heap H locs) (hA : ∀ q, s.heap.size ≤ q → A q) (isC isR : List Nat) (hC : isC.map (fun i => w[i]?) = wc.map some) (hR : isR.map (fun i => w[i]?) = wr.map some) (hnC : va_nd isC = true) (hnR : va_nd isR = true) (hdis : ∀ i ∈ isR, i ∉ isC)
    (hn : As.length = n) (hsize : ls.size = nL) (hst : st0 = As.reverse ++ rest) (hW : (rest.map fun v => v.category).sum ≤ 8) (hdg : decode cc pc = .ok (.invokestatic index, 3)) (hf : cells + rm.cells ≤ R.cells ∧ slots + rm.slots ≤ R.slots)
    (kk : ∀ (u : S0) (H1 : Heap) (locs1 : List Loc), post u → va_P D vwCl (wr ++ w1 u) H1 → va_D A (wr ++ w1 u) → va_S A s.heap H1 locs1 → W p l e R s m args below meth c H1 locs1 (cells + rm.cells) (slots + rm.slots) Q (F0 m (pc + 3) ls rest)) : W p l e R s m args below meth c H locs cells slots Q (F0 m pc ls st0) := by
  have hDc : va_D A wc := hD.sub isC hnC hC
  have hPc : va_P D vwCl wc H := hP.by (fun k => isC.getD k 0) (fun k q hk => by
    have h1 : (isC.map (fun i => w[i]?))[k]? = some (some q) := by rw [hC, List.getElem?_map, hk]; rfl
    rw [List.getElem?_map] at h1
    cases hi : isC[k]? with
    | none => rw [hi] at h1; cases h1
    | some i => rw [hi] at h1; rw [List.getD_eq_getElem?_getD, hi]; exact Option.some.inj h1)
  have hFc := va_free (wc := wc) hD hS hA isC hC
  refine va_callv (va_runS (As := As) (rest := rest) S hM cw ⟨fun a U g mk q => by obtain ⟨q0, q1, qP, qK, qD⟩ := q; exact ⟨q0, q1, qP, va_K.moved (u := U) (U := U.calling g mk a) (Vm.Alike.refl U.vm) qK, qD⟩, fun U hU hW => ⟨rfl, by rw [hU], by rw [hU]; exact hPc, va_K.moved hW.alike hK, hDc.weaken (fun _ _ _ _ => trivial)⟩⟩ rfl hn hsize hst (lv_room hW) hdg hf) hS (fun q _ h => hFc q h) hFc (fun u t H1 locs1 ht hvm hw hB hz1 hk1 hS1 => ?_)
  obtain ⟨hP1, hK1, hD1⟩ := hB
  rw [ht] at hP1
  obtain ⟨hP2, hD2⟩ := va_join (wr := wr) (w1 := w1 u) hP hD isC isR hC hR hnR hdis hk1 hFc hP1 hD1
  exact kk u H1 locs1 hw hP2 hD2 hS1
theorem lv_tope {x z : Int32} (h : x = z) (k : W p l e R s m args below meth c H locs cells slots Q (F0 m pc ls (.int z :: rest))) : W p l e R s m args below meth c H locs cells slots Q (F0 m pc ls (.int x :: rest)) := by rw [h]; exact k
end KW
