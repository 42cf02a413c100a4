/-! methods that return or throw: their contracts, begun, ended, called -/
def xss : List (Nat × String) := [(92, "the tape has not so many bytes"), (175, "no such count"), (196, "no such thing of a gargoyle"), (216, "no such thing of a person"), (305, "no such years or tenths"), (315, "both are one"), (337, "no such gargoyle"), (339, "no such person"), (341, "no such what"), (343, "not so many years")]
abbrev xI : String := "java/lang/IllegalArgumentException"
abbrev xN : String := "java/util/NoSuchElementException"
def XS (U : State) : Prop := (∀ q ∈ xss, ∃ a : Nat, vk_R RX11 q.1 q.2 a U) ∧ va_Nw (.castable xI xI) U ∧ va_Nw (.castable xN xN) U ∧ va_Nw (.declares (Bundle.initS "java/lang/RuntimeException")) U ∧ va_Nw (.declares (Bundle.initS "java/lang/Exception")) U ∧ va_Nw (.declares (Bundle.initS Bundle.tN)) U
theorem XS.warm {s U : State} (hW : s.WarmedH U.vm) (h : XS s) : XS U := ⟨fun q hq => by
  obtain ⟨a, ha⟩ := h.1 q hq; exact ⟨a, ha.warm hW⟩, h.2.1.warmC hW, h.2.2.1.warmC hW, h.2.2.2.1.warmD hW, h.2.2.2.2.1.warmD hW, h.2.2.2.2.2.warmD hW⟩
theorem XS.same {s U : State} (hv : U.vm = s.vm) (h : XS s) : XS U := ⟨fun q hq => by
  obtain ⟨a, ha⟩ := h.1 q hq; exact ⟨a, ha.same hv⟩, h.2.1.same rfl hv.symm, h.2.2.1.same rfl hv.symm, h.2.2.2.1.same rfl hv.symm, h.2.2.2.2.1.same rfl hv.symm, h.2.2.2.2.2.same rfl hv.symm⟩
/-- what a throw needs of the heap: two statics of Throwable, the texts -/
def XE (A : Nat → Prop) (U : State) (H : Heap) : Prop := vx_Zq Bundle.tN "UNASSIGNED_STACK" Bundle.steD A U H ∧ vx_Zq Bundle.tN "SUPPRESSED_SENTINEL" Bundle.listD A U H ∧ XS U
abbrev xNm : List String := ["java/lang/RuntimeException", "java/lang/Exception"]
def xXC (D : va_G) (ct : Nat → ClassId) (wc : va_W) (A : Nat → Prop) (Es : List String) : String → State → State → Prop :=
  vx_X (fun _ : Unit => True) (fun E _ t => E ∈ Es ∧ va_P D vwCl wc t.heap ∧ va_K D vwCl (tyl ct) t ∧ va_D A wc) A
def cXI (l : Launch) (y : MethodName) (ws : List Cond) (rm : Room) (D : va_G) (ct : Nat → ClassId) (wc : va_W) (sz : Nat) (As : List Value) (Es : List String) {S : Type} (post : Int32 → S → Prop) (w1 : S → va_W) : Prop :=
  vx_Met l y ws rm (va_Pc As (fun U => U.heap.size = sz ∧ va_P D vwCl wc U.heap ∧ va_K D vwCl (tyl ct) U ∧ va_D (fun _ => True) wc ∧ XE (va_A wc sz) U U.heap)) (va_Qi post (fun u t => va_P D vwCl (w1 u) t.heap ∧ va_K D vwCl (tyl ct) t ∧ va_D (va_A wc sz) (w1 u)) (va_A wc sz)) (xXC D ct wc (va_A wc sz) Es) rm.cells rm.slots (va_A wc sz)
def cXV (l : Launch) (y : MethodName) (ws : List Cond) (rm : Room) (D : va_G) (ct : Nat → ClassId) (wc : va_W) (sz : Nat) (As : List Value) (Es : List String) {S : Type} (post : S → Prop) (w1 : S → va_W) : Prop :=
  vx_Met l y ws rm (va_Pc As (fun U => U.heap.size = sz ∧ va_P D vwCl wc U.heap ∧ va_K D vwCl (tyl ct) U ∧ va_D (fun _ => True) wc ∧ XE (va_A wc sz) U U.heap)) (va_Qv post (fun u t => va_P D vwCl (w1 u) t.heap ∧ va_K D vwCl (tyl ct) t ∧ va_D (va_A wc sz) (w1 u)) (va_A wc sz)) (xXC D ct wc (va_A wc sz) Es) rm.cells rm.slots (va_A wc sz)
section KX
variable {p : Program} {l : Launch} {e : Env} {R : Room} {s : State} {m : MethodId} {args : Array Value} {below : List Frame} {meth : Method} {c : Code} {H : Heap} {locs : List Loc} {cells slots : Nat} {Q : State → Prop} {cc : ByteArray} {nL : Nat} {Ts : List Cond} {own C : String} {pc : Nat} {ls : Array Slot} {rest st0 : List Value}
variable {y : MethodName} {ws ws' : List Cond} {rm : Room} {D : va_G} {ct : Nat → ClassId} {wc w wr : va_W} {b index maxL n sz ci : Nat} {As : List Value} {bytes : ByteArray} {ret : Option FieldType} {A : Nat → Prop} {H0 : Heap} {Es : List String}
theorem XE.go {B : Nat → Prop} {U : State} (h : XE A s s.heap) (hS : va_S A s.heap H locs) (hB : ∀ q, B q → A q) (hW : s.WarmedH U.vm) (hU : U.heap = H) : XE B U U.heap := by
  rw [hU]
  exact ⟨vx_Zq.moved hW.alike ((h.1.kept hS.2.1).narrow hB), vx_Zq.moved hW.alike ((h.2.1.kept hS.2.1).narrow hB), h.2.2.warm hW⟩
theorem XE.call {U : State} (h : XE A U U.heap) (g : JFrame) (mk : MethodId) (a : Array Value) : XE A (U.calling g mk a) (U.calling g mk a).heap :=
  ⟨vx_Zq.moved (u := U) (Vm.Alike.refl U.vm) h.1, vx_Zq.moved (u := U) (Vm.Alike.refl U.vm) h.2.1, h.2.2.same rfl⟩
theorem cXI_of {S : Type} {post : Int32 → S → Prop} {w1 : S → va_W} (hy : plainName y.cls = true) (hw : ws = Cond.code y cc maxL (some .int) :: ws') (hA : (lg_sl As).length ≤ maxL)
    (body : ∀ (p : Program) (e : Env) (s : State) (m : MethodId) (args : Array Value) (below : List Frame) (meth : Method) (c : Code) (Q : State → Prop) (A : Nat → Prop), p.tables.exec = Jvm.exec → c.code = cc → c.maxLocals = maxL → (∀ w ∈ ws, w.before args s = true) → s.vm.findClass y.cls = some m.cls →
      va_K D vwCl (tyl ct) s → va_P D vwCl wc s.heap → va_D A wc → (∀ q : Nat, s.heap.size ≤ q → A q) → XE A s s.heap → (∀ x ∈ c.exceptionTable.toList, False) → meth.locks = false →
      Q = vx_MQ below (va_Qi post (fun u t => va_P D vwCl (w1 u) t.heap ∧ va_K D vwCl (tyl ct) t ∧ va_D A (w1 u)) A) (xXC D ct wc A Es) args s rm.cells rm.slots A →
      (∀ (v : Int32) (u : S) (pc : Nat) (ls : Array Slot) (H : Heap) (locs : List Loc), post v u → va_P D vwCl (w1 u) H → va_D A (w1 u) → va_S A s.heap H locs → decode cc pc = .ok (.ireturn, 1) → W p l e rm s m args below meth c H locs rm.cells rm.slots Q (F0 m pc ls [.int v])) → ∀ ls : Array Slot, lv_has ls maxL (lv_args 0 As) →
      W p l e rm s m args below meth c s.heap [] 0 0 Q (F0 m 0 ls [])) : cXI l y ws rm D ct wc sz As Es post w1 := by
  refine vx_ofW (cc := cc) (maxL := maxL) (ret := some .int) hy hw ?_
  intro p e s m args below meth c s₁ B hml ht hv
  obtain ⟨rfl, hsz, hP, hK, hD, hX⟩ := hv
  subst hsz
  rw [lg_entry_eq]
  exact body p e s m _ below meth c _ _ B.exec B.bytes hml (atoms_spec (ws := ws) B.pre) (findClass_of_methodNamed B.named) hK hP hD.self (fun q h => Or.inr h) hX ht B.notSynchronized rfl (fun v u pc ls H locs hv hP hD hS d => vx_ret (W.iret (v := v) B.exec B.bytes B.returns (fun t ht hW => ⟨⟨v, u, rfl, hv, by rw [ht]; exact hP, va_K.moved hW.alike hK, hD⟩, hS.F ht⟩) hS.2.2 d B.notSynchronized)) _ (lv_entry As hA)
theorem cXIz_of {S : Type} {post : Int32 → S → Prop} {w1 : S → va_W} (hy : plainName y.cls = true) (hw : ws = Cond.code y cc maxL (some .boolean) :: ws') (hA : (lg_sl As).length ≤ maxL)
    (body : ∀ (p : Program) (e : Env) (s : State) (m : MethodId) (args : Array Value) (below : List Frame) (meth : Method) (c : Code) (Q : State → Prop) (A : Nat → Prop), p.tables.exec = Jvm.exec → c.code = cc → c.maxLocals = maxL → (∀ w ∈ ws, w.before args s = true) → s.vm.findClass y.cls = some m.cls →
      va_K D vwCl (tyl ct) s → va_P D vwCl wc s.heap → va_D A wc → (∀ q : Nat, s.heap.size ≤ q → A q) → XE A s s.heap → (∀ x ∈ c.exceptionTable.toList, False) → meth.locks = false →
      Q = vx_MQ below (va_Qi post (fun u t => va_P D vwCl (w1 u) t.heap ∧ va_K D vwCl (tyl ct) t ∧ va_D A (w1 u)) A) (xXC D ct wc A Es) args s rm.cells rm.slots A →
      (∀ (v : Int32) (u : S) (pc : Nat) (ls : Array Slot) (H : Heap) (locs : List Loc), iv v 0 1 → post v u → va_P D vwCl (w1 u) H → va_D A (w1 u) → va_S A s.heap H locs → decode cc pc = .ok (.ireturn, 1) → W p l e rm s m args below meth c H locs rm.cells rm.slots Q (F0 m pc ls [.int v])) → ∀ ls : Array Slot, lv_has ls maxL (lv_args 0 As) →
      W p l e rm s m args below meth c s.heap [] 0 0 Q (F0 m 0 ls [])) : cXI l y ws rm D ct wc sz As Es post w1 := by
  refine vx_ofW (cc := cc) (maxL := maxL) (ret := some .boolean) hy hw ?_
  intro p e s m args below meth c s₁ B hml ht hv
  obtain ⟨rfl, hsz, hP, hK, hD, hX⟩ := hv
  subst hsz
  rw [lg_entry_eq]
  exact body p e s m _ below meth c _ _ B.exec B.bytes hml (atoms_spec (ws := ws) B.pre) (findClass_of_methodNamed B.named) hK hP hD.self (fun q h => Or.inr h) hX ht B.notSynchronized rfl (fun v u pc ls H locs hz hv hP hD hS d => vx_ret (W.zret (v := v) B.exec B.bytes B.returns (iv01 hz) (fun t ht hW => ⟨⟨v, u, rfl, hv, by rw [ht]; exact hP, va_K.moved hW.alike hK, hD⟩, hS.F ht⟩) hS.2.2 d B.notSynchronized)) _ (lv_entry As hA)
theorem cXV_of {S : Type} {post : S → Prop} {w1 : S → va_W} (hy : plainName y.cls = true) (hw : ws = Cond.code y cc maxL none :: ws') (hA : (lg_sl As).length ≤ maxL)
    (body : ∀ (p : Program) (e : Env) (s : State) (m : MethodId) (args : Array Value) (below : List Frame) (meth : Method) (c : Code) (Q : State → Prop) (A : Nat → Prop), p.tables.exec = Jvm.exec → c.code = cc → c.maxLocals = maxL → (∀ w ∈ ws, w.before args s = true) → s.vm.findClass y.cls = some m.cls →
      va_K D vwCl (tyl ct) s → va_P D vwCl wc s.heap → va_D A wc → (∀ q : Nat, s.heap.size ≤ q → A q) → XE A s s.heap → (∀ x ∈ c.exceptionTable.toList, False) → meth.locks = false →
      Q = vx_MQ below (va_Qv post (fun u t => va_P D vwCl (w1 u) t.heap ∧ va_K D vwCl (tyl ct) t ∧ va_D A (w1 u)) A) (xXC D ct wc A Es) args s rm.cells rm.slots A →
      (∀ (u : S) (pc : Nat) (ls : Array Slot) (H : Heap) (locs : List Loc), post u → va_P D vwCl (w1 u) H → va_D A (w1 u) → va_S A s.heap H locs → decode cc pc = .ok (.return_, 1) → W p l e rm s m args below meth c H locs rm.cells rm.slots Q (F0 m pc ls [])) → ∀ ls : Array Slot, lv_has ls maxL (lv_args 0 As) →
      W p l e rm s m args below meth c s.heap [] 0 0 Q (F0 m 0 ls [])) : cXV l y ws rm D ct wc sz As Es post w1 := by
  refine vx_ofW (cc := cc) (maxL := maxL) (ret := none) hy hw ?_
  intro p e s m args below meth c s₁ B hml ht hv
  obtain ⟨rfl, hsz, hP, hK, hD, hX⟩ := hv
  subst hsz
  rw [lg_entry_eq]
  exact body p e s m _ below meth c _ _ B.exec B.bytes hml (atoms_spec (ws := ws) B.pre) (findClass_of_methodNamed B.named) hK hP hD.self (fun q h => Or.inr h) hX ht B.notSynchronized rfl (fun u pc ls H locs hv hP hD hS d => vx_ret (W.vret B.exec B.bytes B.returns (fun t ht hW => ⟨⟨u, rfl, hv, by rw [ht]; exact hP, va_K.moved hW.alike hK, hD⟩, hS.F ht⟩) hS.2.2 d B.notSynchronized)) _ (lv_entry As hA)
/-- a throw of one's own: the world is as at the entry -/
theorem xTh {Qc : Array Value → State → Outcome → State → Prop} {cls text : String} {ik is ic : Nat} (hQ : Q = vx_MQ below Qc (xXC D ct wc A Es) args s R.cells R.slots A) (hE : cls ∈ Es) (hx : p.tables.exec = Jvm.exec) (hb : c.code = cc) (hst : l.stackTraces = false) (hown : s.vm.findClass RX11 = some m.cls) (hcls : Bundle.fit cls = true)
    (hk : (Cond.classLink RX11 ik cls).before args s = true) (hini : (Cond.initialized cls).before args s = true) (htx : (is, text) ∈ xss) (hat : ∀ w ∈ (vx_atS RX11 ic cls xNm).filter goodWord, w.before args s = true) (hng : ∀ w ∈ (vx_atS RX11 ic cls xNm).filter (fun w => !goodWord w), w ∈ ([.castable cls cls, .declares (Bundle.initS "java/lang/RuntimeException"), .declares (Bundle.initS "java/lang/Exception"), .declares (Bundle.initS Bundle.tN)] : List Cond)) (hcs : XS s → va_Nw (.castable cls cls) s)
    (hgood : ∀ w ∈ Cond.classLink RX11 ik cls :: Cond.initialized cls :: vx_atS RX11 ic cls xNm, vx_ot w = true) (hX : XE A s s.heap) (hK : va_K D vwCl (tyl ct) s) (hP : va_P D vwCl wc H) (hD : va_D A wc) (hS : va_S A s.heap H locs) (hsize : ls.size = c.maxLocals) (hT : ∀ x ∈ c.exceptionTable.toList, False) (hlk : meth.locks = false)
    (d0 : decode cc pc = .ok (.new ik, 3)) (d3 : decode cc (pc + 3) = .ok (.dup, 1)) (d4 : decode cc (pc + 4) = .ok (.ldc is, 2)) (d6 : decode cc (pc + 6) = .ok (.invokespecial ic, 3)) (d9 : decode cc (pc + 9) = .ok (.athrow, 1))
    (hRf : 5 < R.frames) (hRl : (rest.map fun v => v.category).sum + 82 ≤ R.locals) (hRc : cells + 1 ≤ R.cells) (hRs : slots + 6 ≤ R.slots) : W p l e R s m args below meth c H locs cells slots Q (F0 m pc ls rest) := by
  obtain ⟨sa, hsa⟩ := hX.2.2.1 _ htx
  rw [hQ]
  exact vx_throwS (names := xNm) hx hb hst hown hcls (by decide) hk hini hsa (vx_hat hat hng (fun w h => by
    simp only [List.mem_cons, List.not_mem_nil, or_false] at h
    rcases h with rfl | rfl | rfl | rfl
    · exact (hcs hX.2.2).use rfl
    · exact hX.2.2.2.2.2.1.use rfl
    · exact hX.2.2.2.2.2.2.1.use rfl
    · exact hX.2.2.2.2.2.2.2.use rfl)) hgood hX.1 hX.2.1 hS hsize d0 d3 d4 d6 d9 (fun x h => (hT x h).elim) hRf hRl hRc hRs hlk
    (fun t hv hz hk2 => ⟨(), trivial, ⟨hE, hP.kept (fun k q hq => hk2 q.1 (hP k q hq).lt), va_K.moved hv hK, hD⟩, ⟨Nat.le_trans hS.1 hz, fun q h1 h2 => by rw [hk2 q (Nat.lt_of_lt_of_le h1 hS.1)]; exact hS.2.1 q h1 h2⟩⟩) hS.2.2 hRc hRs
theorem xThW {Qc : Array Value → State → Outcome → State → Prop} {cls text : String} {ik is ic : Nat} (hQ : Q = vx_MQ below Qc (xXC D ct wc A Es) args s R.cells R.slots A) (hE : cls ∈ Es) (hx : p.tables.exec = Jvm.exec) (hb : c.code = cc) (hst : l.stackTraces = false) (hown : s.vm.findClass RX11 = some m.cls) (hcls : Bundle.fit cls = true)
    (hk : (Cond.classLink RX11 ik cls).before args s = true) (hini : (Cond.initialized cls).before args s = true) (htx : (is, text) ∈ xss) (hat : ∀ w ∈ (vx_atS RX11 ic cls xNm).filter goodWord, w.before args s = true) (hng : ∀ w ∈ (vx_atS RX11 ic cls xNm).filter (fun w => !goodWord w), w ∈ ([.castable cls cls, .declares (Bundle.initS "java/lang/RuntimeException"), .declares (Bundle.initS "java/lang/Exception"), .declares (Bundle.initS Bundle.tN)] : List Cond)) (hcs : XS s → va_Nw (.castable cls cls) s)
    (hgood : ∀ w ∈ Cond.classLink RX11 ik cls :: Cond.initialized cls :: vx_atS RX11 ic cls xNm, vx_ot w = true) (hX : XE A s s.heap) (hK : va_K D vwCl (tyl ct) s) (hP : va_P D vwCl wc H) (hD : va_D A wc) (hS : va_S A s.heap H locs) (hsize : ls.size = c.maxLocals) (hT : ∀ x ∈ c.exceptionTable.toList, False) (hlk : meth.locks = false)
    (d0 : decode cc pc = .ok (.new ik, 3)) (d3 : decode cc (pc + 3) = .ok (.dup, 1)) (d4 : decode cc (pc + 4) = .ok (.ldc_w is, 3)) (d7 : decode cc (pc + 7) = .ok (.invokespecial ic, 3)) (d10 : decode cc (pc + 10) = .ok (.athrow, 1))
    (hRf : 5 < R.frames) (hRl : (rest.map fun v => v.category).sum + 82 ≤ R.locals) (hRc : cells + 1 ≤ R.cells) (hRs : slots + 6 ≤ R.slots) : W p l e R s m args below meth c H locs cells slots Q (F0 m pc ls rest) := by
  obtain ⟨sa, hsa⟩ := hX.2.2.1 _ htx
  rw [hQ]
  exact vx_throwSW (names := xNm) hx hb hst hown hcls (by decide) hk hini hsa (vx_hat hat hng (fun w h => by
    simp only [List.mem_cons, List.not_mem_nil, or_false] at h
    rcases h with rfl | rfl | rfl | rfl
    · exact (hcs hX.2.2).use rfl
    · exact hX.2.2.2.2.2.1.use rfl
    · exact hX.2.2.2.2.2.2.1.use rfl
    · exact hX.2.2.2.2.2.2.2.use rfl)) hgood hX.1 hX.2.1 hS hsize d0 d3 d4 d7 d10 (fun x h => (hT x h).elim) hRf hRl hRc hRs hlk
    (fun t hv hz hk2 => ⟨(), trivial, ⟨hE, hP.kept (fun k q hq => hk2 q.1 (hP k q hq).lt), va_K.moved hv hK, hD⟩, ⟨Nat.le_trans hS.1 hz, fun q h1 h2 => by rw [hk2 q (Nat.lt_of_lt_of_le h1 hS.1)]; exact hS.2.1 q h1 h2⟩⟩) hS.2.2 hRc hRs
theorem ngI : ∀ w ∈ (vx_atS RX11 94 xI xNm).filter (fun w => !goodWord w), w ∈ ([.castable xI xI, .declares (Bundle.initS "java/lang/RuntimeException"), .declares (Bundle.initS "java/lang/Exception"), .declares (Bundle.initS Bundle.tN)] : List Cond) := by decide +kernel
theorem gdI : ∀ w ∈ Cond.classLink RX11 90 xI :: Cond.initialized xI :: vx_atS RX11 94 xI xNm, vx_ot w = true := by decide +kernel
theorem ngN : ∀ w ∈ atN.filter (fun w => !goodWord w), w ∈ ([.castable xN xN, .declares (Bundle.initS "java/lang/RuntimeException"), .declares (Bundle.initS "java/lang/Exception"), .declares (Bundle.initS Bundle.tN)] : List Cond) := by decide +kernel
theorem gdN : ∀ w ∈ Cond.classLink RX11 173 xN :: Cond.initialized xN :: atN, vx_ot w = true := by decide +kernel
theorem xThN {Qc : Array Value → State → Outcome → State → Prop} {text : String} {is : Nat} (hQ : Q = vx_MQ below Qc (xXC D ct wc A Es) args s R.cells R.slots A) (hE : xN ∈ Es) (hx : p.tables.exec = Jvm.exec) (hb : c.code = cc) (hst : l.stackTraces = false) (hown : s.vm.findClass RX11 = some m.cls) (hcls : Bundle.fit xN = true)
    (hk : (Cond.classLink RX11 173 xN).before args s = true) (hini : (Cond.initialized xN).before args s = true) (htx : (is, text) ∈ xss) (hat : ∀ w ∈ atN.filter goodWord, w.before args s = true) (hng : ∀ w ∈ atN.filter (fun w => !goodWord w), w ∈ ([.castable xN xN, .declares (Bundle.initS "java/lang/RuntimeException"), .declares (Bundle.initS "java/lang/Exception"), .declares (Bundle.initS Bundle.tN)] : List Cond)) (hcs : XS s → va_Nw (.castable xN xN) s)
    (hgood : ∀ w ∈ Cond.classLink RX11 173 xN :: Cond.initialized xN :: atN, vx_ot w = true) (hX : XE A s s.heap) (hK : va_K D vwCl (tyl ct) s) (hP : va_P D vwCl wc H) (hD : va_D A wc) (hS : va_S A s.heap H locs) (hsize : ls.size = c.maxLocals) (hT : ∀ x ∈ c.exceptionTable.toList, False) (hlk : meth.locks = false)
    (d0 : decode cc pc = .ok (.new 173, 3)) (d3 : decode cc (pc + 3) = .ok (.dup, 1)) (d4 : decode cc (pc + 4) = .ok (.ldc is, 2)) (d6 : decode cc (pc + 6) = .ok (.invokespecial 177, 3)) (d9 : decode cc (pc + 9) = .ok (.athrow, 1))
    (hRf : 5 < R.frames) (hRl : (rest.map fun v => v.category).sum + 82 ≤ R.locals) (hRc : cells + 1 ≤ R.cells) (hRs : slots + 6 ≤ R.slots) : W p l e R s m args below meth c H locs cells slots Q (F0 m pc ls rest) := by
  obtain ⟨sa, hsa⟩ := hX.2.2.1 _ htx
  rw [hQ]
  refine xn_make hx hb hst hown hk hini hsa (vx_hat hat hng (fun w h => by
    simp only [List.mem_cons, List.not_mem_nil, or_false] at h
    rcases h with rfl | rfl | rfl | rfl
    · exact (hcs hX.2.2).use rfl
    · exact hX.2.2.2.2.2.1.use rfl
    · exact hX.2.2.2.2.2.2.1.use rfl
    · exact hX.2.2.2.2.2.2.2.use rfl)) hgood hX.1 hX.2.1 hS hsize d0 d3 d4 d6 hRf hRl hRc hRs (fun q ce H1 e1 e2 e3 e4 e5 => ?_)
  refine vx_athrow hx hb d9 ?_
  exact vx_out (fun x h => (hT x h).elim) hlk e1 e2 e3 (fun t ht hv => ⟨(), trivial, ⟨hE, by rw [ht]; exact hP.kept (fun k q hq => e5 q.1 (hP k q hq).lt), va_K.moved hv hK, hD⟩, ⟨by rw [ht]; exact Nat.le_trans hS.1 e4, fun q h1 h2 => by rw [ht, e5 q (Nat.lt_of_lt_of_le h1 hS.1)]; exact hS.2.1 q h1 h2⟩⟩) hS.2.2 hRc hRs
theorem xThWN {Qc : Array Value → State → Outcome → State → Prop} {text : String} {is : Nat} (hQ : Q = vx_MQ below Qc (xXC D ct wc A Es) args s R.cells R.slots A) (hE : xN ∈ Es) (hx : p.tables.exec = Jvm.exec) (hb : c.code = cc) (hst : l.stackTraces = false) (hown : s.vm.findClass RX11 = some m.cls) (hcls : Bundle.fit xN = true)
    (hk : (Cond.classLink RX11 173 xN).before args s = true) (hini : (Cond.initialized xN).before args s = true) (htx : (is, text) ∈ xss) (hat : ∀ w ∈ atN.filter goodWord, w.before args s = true) (hng : ∀ w ∈ atN.filter (fun w => !goodWord w), w ∈ ([.castable xN xN, .declares (Bundle.initS "java/lang/RuntimeException"), .declares (Bundle.initS "java/lang/Exception"), .declares (Bundle.initS Bundle.tN)] : List Cond)) (hcs : XS s → va_Nw (.castable xN xN) s)
    (hgood : ∀ w ∈ Cond.classLink RX11 173 xN :: Cond.initialized xN :: atN, vx_ot w = true) (hX : XE A s s.heap) (hK : va_K D vwCl (tyl ct) s) (hP : va_P D vwCl wc H) (hD : va_D A wc) (hS : va_S A s.heap H locs) (hsize : ls.size = c.maxLocals) (hT : ∀ x ∈ c.exceptionTable.toList, False) (hlk : meth.locks = false)
    (d0 : decode cc pc = .ok (.new 173, 3)) (d3 : decode cc (pc + 3) = .ok (.dup, 1)) (d4 : decode cc (pc + 4) = .ok (.ldc_w is, 3)) (d7 : decode cc (pc + 7) = .ok (.invokespecial 177, 3)) (d10 : decode cc (pc + 10) = .ok (.athrow, 1))
    (hRf : 5 < R.frames) (hRl : (rest.map fun v => v.category).sum + 82 ≤ R.locals) (hRc : cells + 1 ≤ R.cells) (hRs : slots + 6 ≤ R.slots) : W p l e R s m args below meth c H locs cells slots Q (F0 m pc ls rest) := by
  obtain ⟨sa, hsa⟩ := hX.2.2.1 _ htx
  rw [hQ]
  refine xn_makeW hx hb hst hown hk hini hsa (vx_hat hat hng (fun w h => by
    simp only [List.mem_cons, List.not_mem_nil, or_false] at h
    rcases h with rfl | rfl | rfl | rfl
    · exact (hcs hX.2.2).use rfl
    · exact hX.2.2.2.2.2.1.use rfl
    · exact hX.2.2.2.2.2.2.1.use rfl
    · exact hX.2.2.2.2.2.2.2.use rfl)) hgood hX.1 hX.2.1 hS hsize d0 d3 d4 d7 hRf hRl hRc hRs (fun q ce H1 e1 e2 e3 e4 e5 => ?_)
  refine vx_athrow hx hb d10 ?_
  exact vx_out (fun x h => (hT x h).elim) hlk e1 e2 e3 (fun t ht hv => ⟨(), trivial, ⟨hE, by rw [ht]; exact hP.kept (fun k q hq => e5 q.1 (hP k q hq).lt), va_K.moved hv hK, hD⟩, ⟨by rw [ht]; exact Nat.le_trans hS.1 e4, fun q h1 h2 => by rw [ht, e5 q (Nat.lt_of_lt_of_le h1 hS.1)]; exact hS.2.1 q h1 h2⟩⟩) hS.2.2 hRc hRs
/-- what goes on up from a callee: the caller's world is as at its entry -/
theorem xUp {Qc : Array Value → State → Outcome → State → Prop} {E : String} {ce : Cell} {q9 : Addr} {w0 : va_W} (hQ : Q = vx_MQ below Qc (xXC D ct w0 A Es) args s R.cells R.slots A) (hE : E ∈ Es) (hT : ∀ x ∈ c.exceptionTable.toList, False) (hlk : meth.locks = false) (hc9 : H[q9]? = some ce) (hv9 : ce.vm = .none) (hcl : s.vm.findClass E = some ce.cls)
    (hK : va_K D vwCl (tyl ct) s) (hP : va_P D vwCl w0 H) (hD : va_D A w0) (hS : va_S A s.heap H locs) (hc : cells ≤ R.cells) (hs : slots ≤ R.slots) : vx_W p l e R s m args below meth c H locs cells slots Q (F0 m pc ls rest) q9 := by
  rw [hQ]
  exact vx_out (fun x h => (hT x h).elim) hlk hc9 hv9 hcl (fun t ht hv => ⟨(), trivial, ⟨hE, by rw [ht]; exact hP, va_K.moved hv hK, hD⟩, hS.F ht⟩) hS.2.2 hc hs
theorem kXVV {S0 : Type} {post : S0 → Prop} {w1 : S0 → va_W} {Es' : List String} {q : vw_C} {fs : List Value} (S : CallFix p m c cc nL s args Ts own) (hM : cXV l y ws rm D ct wc H.size (.ref b :: As) Es' post w1) (cw : CallW R s args own C index y bytes maxL ret ws rm rm.cells rm.slots n)
    (hK : va_K D vwCl (tyl ct) s) (hX : XE A s s.heap) (hP : va_P D vwCl w H) (hD : va_D A w) (hS : va_S A s.heap H locs) (hA : ∀ q, s.heap.size ≤ q → A q) (isC isR : List Nat) (hC : isC.map (fun i => w[i]?) = wc.map some) (hR : isR.map (fun i => w[i]?) = wr.map some) (hnC : va_nd isC = true) (hnR : va_nd isR = true) (hdis : ∀ i ∈ isR, i ∉ isC)
    (hc : vwCl[ci]? = some q) (hq : q.1 = C) (he : wc[0]? = some (b, .inr (ci, fs)))
    (hn : As.length = n) (hsize : ls.size = nL) (hst : st0 = As.reverse ++ .ref b :: rest) (hW : (rest.map fun v => v.category).sum ≤ 8) (hdg : decode cc pc = .ok (.invokevirtual index, 3)) (hf : cells + rm.cells ≤ R.cells ∧ slots + rm.slots ≤ R.slots)
    (kx : ∀ (E : String) (ce : Cell) (q9 : Addr) (H1 : Heap) (locs1 : List Loc), E ∈ Es' → H1[q9]? = some ce → ce.vm = .none → s.vm.findClass E = some ce.cls → va_P D vwCl (wr ++ wc) H1 → va_D A (wr ++ wc) → va_S A s.heap H1 locs1 → vx_W p l e R s m args below meth c H1 locs1 (cells + rm.cells) (slots + rm.slots) Q (F0 m pc ls rest) q9)
    (kk : ∀ (u : S0) (H1 : Heap) (locs1 : List Loc), post u → va_P D vwCl (wr ++ w1 u) H1 → va_D A (wr ++ w1 u) → va_S A s.heap H1 locs1 → W p l e R s m args below meth c H1 locs1 (cells + rm.cells) (slots + rm.slots) Q (F0 m (pc + 3) ls rest)) : W p l e R s m args below meth c H locs cells slots Q (F0 m pc ls st0) := by
  have hDc : va_D A wc := hD.sub isC hnC hC
  have hPc : va_P D vwCl wc H := hP.by (fun k => isC.getD k 0) (fun k q hk => by
    have h1 : (isC.map (fun i => w[i]?))[k]? = some (some q) := by rw [hC, List.getElem?_map, hk]; rfl
    rw [List.getElem?_map] at h1
    cases hi : isC[k]? with
    | none => rw [hi] at h1; cases h1
    | some i => rw [hi] at h1; rw [List.getD_eq_getElem?_getD, hi]; exact Option.some.inj h1)
  have hFc := va_free (wc := wc) hD hS hA isC hC
  have hrec : ∃ cellB : Cell, H[b]? = some cellB ∧ cellB.vm.isStatics = false ∧ s.vm.findClass C = some cellB.cls := by
    obtain ⟨cell, h1, h2, h3⟩ := va_recv hK hPc hc he
    exact ⟨cell, h1, h2, by rw [← hq]; exact h3⟩
  refine vx_callv (vx_runV (As := As) (rest := rest) S hM cw ⟨fun a U g mk q => by obtain ⟨q0, q1, qP, qK, qD, qX⟩ := q; exact ⟨q0, q1, qP, va_K.moved (u := U) (U := U.calling g mk a) (Vm.Alike.refl U.vm) qK, qD, qX.call g mk a⟩, hrec, fun U hU hW => ⟨rfl, by rw [hU], by rw [hU]; exact hPc, va_K.moved hW.alike hK, hDc.weaken (fun _ _ _ _ => trivial), hX.go hS hFc hW hU⟩⟩ rfl hn hsize hst (lv_room hW) hdg hf) hS (fun q _ h => hFc q h) hFc (fun q _ h => hFc q h) (fun E ce q9 u t H1 locs1 ht hvm hu hB hz1 hk1 hS1 h9 hv9 hcl => ?_) (fun u t H1 locs1 ht hvm hw hB hz1 hk1 hS1 => ?_)
  · obtain ⟨hE, hP1, hK1, hD1⟩ := hB
    rw [ht] at hP1
    obtain ⟨hP2, hD2⟩ := va_join (wr := wr) (w1 := wc) hP hD isC isR hC hR hnR hdis hk1 hFc hP1 hD1
    exact kx E ce q9 H1 locs1 hE h9 hv9 hcl hP2 hD2 hS1
  · obtain ⟨hP1, hK1, hD1⟩ := hB
    rw [ht] at hP1
    obtain ⟨hP2, hD2⟩ := va_join (wr := wr) (w1 := w1 u) hP hD isC isR hC hR hnR hdis hk1 hFc hP1 hD1
    exact kk u H1 locs1 hw hP2 hD2 hS1
theorem kXVS {S0 : Type} {post : S0 → Prop} {w1 : S0 → va_W} {Es' : List String} (S : CallFix p m c cc nL s args Ts own) (hM : cXV l y ws rm D ct wc H.size As Es' post w1) (cw : CallB R s args own index y bytes maxL ret ws rm rm.cells rm.slots n ∧ (Cond.static y).before args s = true)
    (hK : va_K D vwCl (tyl ct) s) (hX : XE A s s.heap) (hP : va_P D vwCl w H) (hD : va_D A w) (hS : va_S A s.heap H locs) (hA : ∀ q, s.heap.size ≤ q → A q) (isC isR : List Nat) (hC : isC.map (fun i => w[i]?) = wc.map some) (hR : isR.map (fun i => w[i]?) = wr.map some) (hnC : va_nd isC = true) (hnR : va_nd isR = true) (hdis : ∀ i ∈ isR, i ∉ isC)
    (hn : As.length = n) (hsize : ls.size = nL) (hst : st0 = As.reverse ++ rest) (hW : (rest.map fun v => v.category).sum ≤ 8) (hdg : decode cc pc = .ok (.invokestatic index, 3)) (hf : cells + rm.cells ≤ R.cells ∧ slots + rm.slots ≤ R.slots)
    (kx : ∀ (E : String) (ce : Cell) (q9 : Addr) (H1 : Heap) (locs1 : List Loc), E ∈ Es' → H1[q9]? = some ce → ce.vm = .none → s.vm.findClass E = some ce.cls → va_P D vwCl (wr ++ wc) H1 → va_D A (wr ++ wc) → va_S A s.heap H1 locs1 → vx_W p l e R s m args below meth c H1 locs1 (cells + rm.cells) (slots + rm.slots) Q (F0 m pc ls rest) q9)
    (kk : ∀ (u : S0) (H1 : Heap) (locs1 : List Loc), post u → va_P D vwCl (wr ++ w1 u) H1 → va_D A (wr ++ w1 u) → va_S A s.heap H1 locs1 → W p l e R s m args below meth c H1 locs1 (cells + rm.cells) (slots + rm.slots) Q (F0 m (pc + 3) ls rest)) : W p l e R s m args below meth c H locs cells slots Q (F0 m pc ls st0) := by
  have hDc : va_D A wc := hD.sub isC hnC hC
  have hPc : va_P D vwCl wc H := hP.by (fun k => isC.getD k 0) (fun k q hk => by
    have h1 : (isC.map (fun i => w[i]?))[k]? = some (some q) := by rw [hC, List.getElem?_map, hk]; rfl
    rw [List.getElem?_map] at h1
    cases hi : isC[k]? with
    | none => rw [hi] at h1; cases h1
    | some i => rw [hi] at h1; rw [List.getD_eq_getElem?_getD, hi]; exact Option.some.inj h1)
  have hFc := va_free (wc := wc) hD hS hA isC hC
  refine vx_callv (vx_runS (As := As) (rest := rest) S hM cw ⟨fun a U g mk q => by obtain ⟨q0, q1, qP, qK, qD, qX⟩ := q; exact ⟨q0, q1, qP, va_K.moved (u := U) (U := U.calling g mk a) (Vm.Alike.refl U.vm) qK, qD, qX.call g mk a⟩, fun U hU hW => ⟨rfl, by rw [hU], by rw [hU]; exact hPc, va_K.moved hW.alike hK, hDc.weaken (fun _ _ _ _ => trivial), hX.go hS hFc hW hU⟩⟩ rfl hn hsize hst (lv_room hW) hdg hf) hS (fun q _ h => hFc q h) hFc (fun q _ h => hFc q h) (fun E ce q9 u t H1 locs1 ht hvm hu hB hz1 hk1 hS1 h9 hv9 hcl => ?_) (fun u t H1 locs1 ht hvm hw hB hz1 hk1 hS1 => ?_)
  · obtain ⟨hE, hP1, hK1, hD1⟩ := hB
    rw [ht] at hP1
    obtain ⟨hP2, hD2⟩ := va_join (wr := wr) (w1 := wc) hP hD isC isR hC hR hnR hdis hk1 hFc hP1 hD1
    exact kx E ce q9 H1 locs1 hE h9 hv9 hcl hP2 hD2 hS1
  · obtain ⟨hP1, hK1, hD1⟩ := hB
    rw [ht] at hP1
    obtain ⟨hP2, hD2⟩ := va_join (wr := wr) (w1 := w1 u) hP hD isC isR hC hR hnR hdis hk1 hFc hP1 hD1
    exact kk u H1 locs1 hw hP2 hD2 hS1
end KX
