/-! the law: what lies outside; a method with handlers, called -/
theorem XE_ok : EOK XE := ⟨fun _ _ _ _ _ _ h hS hB hW hU => XE.go h hS hB hW hU, fun _ _ g mk a h => XE.call h g mk a⟩
def EL (ad sw : Nat → Nat) (wa : Nat) : EV := fun A U H => XE A U H ∧ ER ad sw wa A U H ∧ va_Nc xI xN U
theorem EL_ok (ad sw : Nat → Nat) (wa : Nat) : EOK (EL ad sw wa) := ⟨fun A B s U H locs h hS hB hW hU => ⟨XE_ok.1 A B s U H locs h.1 hS hB hW hU, (ER_ok ad sw wa).1 A B s U H locs h.2.1 hS hB hW hU, va_Nc.moved hW.alike h.2.2⟩, fun A U g mk a h => ⟨XE_ok.2 A U g mk a h.1, (ER_ok ad sw wa).2 A U g mk a h.2.1, va_Nc.moved (u := U) (Vm.Alike.refl U.vm) h.2.2⟩⟩
abbrev oc (ct : Nat → ClassId) (qo : Nat) (fo : Nat → Int64) : Nat × va_E := (qo, .inl (ct 3, 1, .inr (.inl fo)))
abbrev rmW : Room := { frames := 60, cells := 5, slots := 30, locals := 1400 }
theorem of_WHm {l : Launch} {y : MethodName} {ws ws' : List Cond} {rm : Room} {Pc : Array Value → State → Prop} {Qc : Array Value → State → Outcome → State → Prop} {mc ms : Nat} {free : Addr → Prop} {cc : ByteArray} {maxL : Nat} {ret : Option FieldType} {hh : List (Nat × Nat × Nat × Nat)}
    (hy : plainName y.cls = true) (hw : ws = Cond.codeWith y cc maxL ret hh :: ws')
    (body : ∀ p e s m args below meth c s₁, BodyLoose p l y (headSpec ws rm) cc maxL ret e s m args below meth c s₁ → c.maxLocals = maxL → Pc args s →
      W p l e (headSpec ws rm).room s m args below meth c s.heap [] 0 0 (MQ below Qc args s mc ms free) (entryFrame m args maxL)) : Met l y ws rm Pc Qc mc ms free := by
  refine MetFree.of_bodyS (code := cc) (maxLocals := maxL) (ret := ret) hy ?_ ?_
  · intro args s m h hn
    obtain ⟨m9, meth, c, hn9, h1, h2, h3, h4, -, h5, h6, -⟩ := Cond.codeWith_spec (atoms_spec (ws := ws) h _ (by rw [hw]; exact List.mem_cons_self))
    cases hn.symm.trans hn9
    exact ⟨meth, c, h1, h2, h3, h4, h5, h6⟩
  · intro p e s m args below meth c s₁ B hml hP _
    have hh0 : s₁.heap = s.heap := by rw [B.state]; rfl
    obtain ⟨t, a1, o, b1, b2, b3⟩ := body p e s m args below meth c s₁ B hml hP s₁ hh0 (Stand.of_body B)
    exact ⟨t, o, a1, b1, b2, ⟨b3.1, b3.2⟩⟩
section KH
variable {E E' : EV} {p : Program} {l : Launch} {e : Env} {R : Room} {s : State} {m : MethodId} {args : Array Value} {below : List Frame} {meth : Method} {c : Code} {H : Heap} {locs : List Loc} {cells slots : Nat} {Q : State → Prop} {cc : ByteArray} {nL : Nat} {Ts : List Cond} {own C : String} {pc : Nat} {ls : Array Slot} {rest st0 : List Value}
variable {y : MethodName} {ws ws' : List Cond} {rm : Room} {D : va_G} {ct : Nat → ClassId} {wc w wr : va_W} {b index maxL n sz ci : Nat} {As : List Value} {bytes : ByteArray} {ret : Option FieldType} {A : Nat → Prop} {H0 : Heap}
theorem eIH_of {ty : FieldType} {S : Type} {post : Int32 → S → Prop} {w1 : S → va_W} {hh : List (Nat × Nat × Nat × Nat)} (hy : plainName y.cls = true) (hw : ws = Cond.codeWith y cc maxL (some ty) hh :: ws') (hA : (lg_sl As).length ≤ maxL)
    (body : ∀ (p : Program) (e : Env) (s : State) (m : MethodId) (args : Array Value) (below : List Frame) (meth : Method) (c : Code) (Q : State → Prop) (A : Nat → Prop), p.tables.exec = Jvm.exec → c.code = cc → c.maxLocals = maxL → (∀ w ∈ ws, w.before args s = true) → s.vm.findClass y.cls = some m.cls →
      va_K D vwCl (tyl ct) s → va_P D vwCl wc s.heap → va_D A wc → (∀ q : Nat, s.heap.size ≤ q → A q) → E A s s.heap → c.exceptionTable.toList = tableOf hh →
      (∀ (v : Int32) (u : S) (pc : Nat) (ls : Array Slot) (H : Heap) (locs : List Loc), narrow ty (.int v) = .int v → post v u → va_P D vwCl (w1 u) H → va_D A (w1 u) → va_S A s.heap H locs → decode cc pc = .ok (.ireturn, 1) → W p l e rm s m args below meth c H locs rm.cells rm.slots Q (F0 m pc ls [.int v])) → ∀ ls : Array Slot, lv_has ls maxL (lv_args 0 As) →
      W p l e rm s m args below meth c s.heap [] 0 0 Q (F0 m 0 ls [])) : eI E l y ws rm D ct wc sz As post w1 := by
  refine of_WHm (cc := cc) (maxL := maxL) (ret := (some ty)) (hh := hh) hy hw ?_
  intro p e s m args below meth c s₁ B hml hv
  obtain ⟨rfl, hsz, hP, hK, hD, hX⟩ := hv
  subst hsz
  rw [lg_entry_eq]
  have ht : c.exceptionTable.toList = tableOf hh := vx_table (x := y) B (atoms_spec (ws := ws) B.pre _ (by rw [hw]; exact List.mem_cons_self))
  exact body p e s m _ below meth c _ _ B.exec B.bytes hml (atoms_spec (ws := ws) B.pre) (findClass_of_methodNamed B.named) hK hP hD.self (fun q h => Or.inr h) hX ht (fun v u pc ls H locs hz hv hP hD hS d => W.zret (v := v) B.exec B.bytes B.returns hz (fun t ht hW => ⟨⟨v, u, rfl, hv, by rw [ht]; exact hP, va_K.moved hW.alike hK, hD⟩, hS.F ht⟩) hS.2.2 d B.notSynchronized) _ (lv_entry As hA)
/-- a call of a static method with handlers; the callee's world is X whole -/
theorem kHS {X pl : va_W} {S0 : Type} {post : Int32 → S0 → Prop} {w1 : S0 → va_W} {hh : List (Nat × Nat × Nat × Nat)} (S : CallFix p m c cc nL s args Ts own) (hM : eI E' l y ws rm D ct X H.size As post w1) (cw : vx_CSW R s args own index y bytes maxL ret hh ws rm rm.cells rm.slots n)
    (hok' : EOK E') (hX' : E' A s s.heap)
    (hK : va_K D vwCl (tyl ct) s) (hP : va_P D vwCl (X ++ pl) H) (hD : va_D A (X ++ pl)) (hS : va_S A s.heap H locs) (hA : ∀ q, s.heap.size ≤ q → A q)
    (hn : As.length = n) (hsize : ls.size = nL) (hst : st0 = As.reverse ++ rest) (hW : (rest.map fun v => v.category).sum ≤ 8) (hdg : decode cc pc = .ok (.invokestatic index, 3)) (hf : cells + rm.cells ≤ R.cells ∧ slots + rm.slots ≤ R.slots)
    (kk : ∀ (r : Int32) (u : S0) (H1 : Heap) (locs1 : List Loc), post r u → va_P D vwCl (w1 u ++ pl) H1 → va_D A (w1 u ++ pl) → va_S A s.heap H1 locs1 → W p l e R s m args below meth c H1 locs1 (cells + rm.cells) (slots + rm.slots) Q (F0 m (pc + 3) ls (.int r :: rest))) : W p l e R s m args below meth c H locs cells slots Q (F0 m pc ls st0) := by
  have hC := rgC X
  have hC2 := ap_C (pl := pl) hC
  have hDc : va_D A X := hD.sub (List.range X.length) (rgN _) hC2
  have hPc : va_P D vwCl X H := hP.by (fun k => (List.range X.length).getD k 0) (fun k q hk => by
    have h1 : ((List.range X.length).map (fun i => (X ++ pl)[i]?))[k]? = some (some q) := by rw [hC2, List.getElem?_map, hk]; rfl
    rw [List.getElem?_map] at h1
    cases hi : (List.range X.length)[k]? with
    | none => rw [hi] at h1; cases h1
    | some i => rw [hi] at h1; rw [List.getD_eq_getElem?_getD, hi]; exact Option.some.inj h1)
  have hFc := va_free (wc := X) hD hS hA (List.range X.length) hC2
  refine va_calli (vx_runSW (As := As) (rest := rest) S hM cw ⟨fun a U g mk q => by obtain ⟨q0, q1, qP, qK, qD, qX⟩ := q; exact ⟨q0, q1, qP, va_K.moved (u := U) (U := U.calling g mk a) (Vm.Alike.refl U.vm) qK, qD, hok'.call g mk a qX⟩, fun U hU hW => ⟨rfl, by rw [hU], by rw [hU]; exact hPc, va_K.moved hW.alike hK, hDc.weaken (fun _ _ _ _ => trivial), hok'.go hX' hS hFc hW hU⟩⟩ rfl hn hsize hst (lv_room hW) hdg hf) hS (fun q _ h => hFc q h) hFc (fun r u t H1 locs1 ht hvm hw hB hz1 hk1 hS1 => ?_)
  obtain ⟨hP1, hK1, hD1⟩ := hB
  rw [ht] at hP1
  obtain ⟨hP2, hD2⟩ := va_joinQ (wr := []) (w1 := w1 u) hP hD (List.range X.length) [] hC rfl rfl (fun _ h => by cases h) hk1 hFc hP1 hD1
  exact kk r u H1 locs1 hw hP2 hD2 hS1
end KH
theorem as1 {D : va_G} {cl : List vw_C} {X Y Z : va_W} {H : Heap} (h : va_P D cl ((X ++ Y) ++ Z) H) : va_P D cl (X ++ (Y ++ Z)) H := by rw [← List.append_assoc]; exact h
theorem as2 {D : va_G} {cl : List vw_C} {X Y Z : va_W} {H : Heap} (h : va_P D cl (X ++ (Y ++ Z)) H) : va_P D cl ((X ++ Y) ++ Z) H := by rw [List.append_assoc]; exact h
theorem ad1 {A : Nat → Prop} {X Y Z : va_W} (h : va_D A ((X ++ Y) ++ Z)) : va_D A (X ++ (Y ++ Z)) := by rw [← List.append_assoc]; exact h
theorem ad2 {A : Nat → Prop} {X Y Z : va_W} (h : va_D A (X ++ (Y ++ Z))) : va_D A ((X ++ Y) ++ Z) := by rw [List.append_assoc]; exact h
def gTL0 : List Cond := [.classLink RL 13 "java/lang/IllegalArgumentException", .classLink RL 18 "java/util/NoSuchElementException", .initialized RX11, .methodLink RL 7 yX11_tower, .instanceMethod yX11_tower, .selects RX11 yX11_tower yX11_tower, .methodLink RL 15 yX11_count, .instanceMethod yX11_count, .selects RX11 yX11_count yX11_count, .methodLink RL 20 yX11_gargoyle, .instanceMethod yX11_gargoyle, .selects RX11 yX11_gargoyle yX11_gargoyle, .methodLink RL 24 yX11_person, .instanceMethod yX11_person, .selects RX11 yX11_person yX11_person, .methodLink RL 27 yX11_cut, .instanceMethod yX11_cut, .selects RX11 yX11_cut yX11_cut, .methodLink RL 31 yX11_call, .instanceMethod yX11_call, .selects RX11 yX11_call yX11_call, .methodLink RL 34 yX11_lift, .instanceMethod yX11_lift, .selects RX11 yX11_lift yX11_lift, .methodLink RL 38 yX11_leave, .instanceMethod yX11_leave, .selects RX11 yX11_leave yX11_leave, .methodLink RL 41 yX11_then, .instanceMethod yX11_then, .selects RX11 yX11_then yX11_then, .methodLink RL 44 yX11_where, .instanceMethod yX11_where, .selects RX11 yX11_where yX11_where, .methodLink RL 47 yX11_loaf, .instanceMethod yX11_loaf, .selects RX11 yX11_loaf yX11_loaf, .methodLink RL 50 yX11_later, .instanceMethod yX11_later, .selects RX11 yX11_later yX11_later, .methodLink RL 53 yX11_sat, .instanceMethod yX11_sat, .selects RX11 yX11_sat yX11_sat, .methodLink RL 56 yX11_fits, .instanceMethod yX11_fits, .selects RX11 yX11_fits yX11_fits, .methodLink RL 59 yX11_unlike, .instanceMethod yX11_unlike, .selects RX11 yX11_unlike yX11_unlike, .methodLink RL 62 yX11_seats, .instanceMethod yX11_seats, .selects RX11 yX11_seats yX11_seats, .methodLink RL 65 yX11_turn, .instanceMethod yX11_turn, .selects RX11 yX11_turn yX11_turn, .methodLink RL 68 yX11_lasts, .instanceMethod yX11_lasts, .selects RX11 yX11_lasts yX11_lasts, .methodLink RL 71 yX11_best, .instanceMethod yX11_best, .selects RX11 yX11_best yX11_best, .methodLink RL 74 yX11_greatest, .instanceMethod yX11_greatest, .selects RX11 yX11_greatest yX11_greatest, .methodLink RL 77 yX11_empty, .instanceMethod yX11_empty, .selects RX11 yX11_empty yX11_empty, .methodLink RL 80 yX11_see, .instanceMethod yX11_see, .selects RX11 yX11_see yX11_see, .methodLink RL 83 yX11_old, .instanceMethod yX11_old, .selects RX11 yX11_old yX11_old, .methodLink RL 86 yX11_look, .instanceMethod yX11_look, .selects RX11 yX11_look yX11_look, .methodLink RL 89 yX11_wet, .instanceMethod yX11_wet, .selects RX11 yX11_wet yX11_wet, .methodLink RL 92 yX11_game, .instanceMethod yX11_game, .selects RX11 yX11_game yX11_game, .methodLink RL 95 yX11_ages, .instanceMethod yX11_ages, .selects RX11 yX11_ages yX11_ages]
def gTL : List Cond := gTL0 ++ gT11
theorem gTL0_good : gTL0.all goodWord = true := by decide +kernel
theorem gTL_good : gTL.all goodWord = true := by
  show (gTL0 ++ gT11).all goodWord = true
  rw [List.all_append, gTL0_good, gT11_good]; rfl
theorem gTL_11 {c0 c1 : Cond} (i : Nat) (h : gT11[i]? = some c1) : GoodIn (c0 :: gTL) (c1 :: gT11) := fun w hw => by
  have hm : w ∈ gT11 := by
    rcases List.mem_cons.mp hw with e | h'
    · rw [e]; exact List.mem_of_getElem? h
    · exact h'
  exact ⟨List.mem_cons_of_mem _ (List.mem_append_right _ hm), good_of_word (List.all_eq_true.mp gT11_good w hm)⟩
theorem inT {c0 w : Cond} (i : Nat) (h : gTL0[i]? = some w) : w ∈ c0 :: gTL := List.mem_cons_of_mem _ (List.mem_append_left _ (List.mem_of_getElem? h))
abbrev wwL_tower : List Cond := .codeWith yL_tower cL_tower 4 (some .int) [(0, 9, 12, 13)] :: gTL
abbrev wwL_count : List Cond := .codeWith yL_count cL_count 4 (some .int) [(0, 9, 12, 18)] :: gTL
abbrev wwL_gargoyle : List Cond := .codeWith yL_gargoyle cL_gargoyle 5 (some .int) [(0, 10, 13, 18)] :: gTL
abbrev wwL_person : List Cond := .codeWith yL_person cL_person 5 (some .int) [(0, 10, 13, 18)] :: gTL
abbrev wwL_cut : List Cond := .codeWith yL_cut cL_cut 6 (some .int) [(0, 12, 15, 18)] :: gTL
abbrev wwL_call : List Cond := .codeWith yL_call cL_call 4 (some .int) [(0, 9, 12, 18)] :: gTL
abbrev wwL_lift : List Cond := .codeWith yL_lift cL_lift 5 (some .int) [(0, 17, 20, 18)] :: gTL
abbrev wwL_leave : List Cond := .codeWith yL_leave cL_leave 5 (some .int) [(0, 10, 13, 18)] :: gTL
abbrev wwL_then : List Cond := .codeWith yL_then cL_then 6 (some .int) [(0, 12, 15, 18), (0, 12, 19, 13)] :: gTL
abbrev wwL_where : List Cond := .codeWith yL_where cL_where 6 (some .int) [(0, 12, 15, 18), (0, 12, 19, 13)] :: gTL
abbrev wwL_loaf : List Cond := .codeWith yL_loaf cL_loaf 4 (some .int) [(0, 9, 12, 18)] :: gTL
abbrev wwL_later : List Cond := .codeWith yL_later cL_later 5 (some .int) [(0, 10, 13, 18), (0, 10, 17, 13)] :: gTL
abbrev wwL_sat : List Cond := .codeWith yL_sat cL_sat 5 (some .int) [(0, 10, 13, 18), (0, 10, 17, 13)] :: gTL
abbrev wwL_fits : List Cond := .codeWith yL_fits cL_fits 5 (some .int) [(0, 10, 13, 18)] :: gTL
abbrev wwL_unlike : List Cond := .codeWith yL_unlike cL_unlike 6 (some .int) [(0, 12, 15, 18)] :: gTL
abbrev wwL_seats : List Cond := .codeWith yL_seats cL_seats 4 (some .int) [(0, 9, 12, 18)] :: gTL
abbrev wwL_turn : List Cond := .codeWith yL_turn cL_turn 4 (some .int) [(0, 9, 12, 18)] :: gTL
abbrev wwL_lasts : List Cond := .codeWith yL_lasts cL_lasts 5 (some .int) [(0, 10, 13, 18)] :: gTL
abbrev wwL_best : List Cond := .codeWith yL_best cL_best 6 (some .int) [(0, 12, 15, 18), (0, 12, 19, 13)] :: gTL
abbrev wwL_greatest : List Cond := .codeWith yL_greatest cL_greatest 5 (some .int) [(0, 10, 13, 18), (0, 10, 17, 13)] :: gTL
abbrev wwL_empty : List Cond := .codeWith yL_empty cL_empty 4 (some .int) [(0, 9, 12, 13)] :: gTL
abbrev wwL_see : List Cond := .codeWith yL_see cL_see 6 (some .int) [(0, 12, 15, 18)] :: gTL
abbrev wwL_old : List Cond := .codeWith yL_old cL_old 4 (some .int) [(0, 9, 12, 18)] :: gTL
abbrev wwL_look : List Cond := .codeWith yL_look cL_look 4 (some .int) [(0, 9, 12, 18)] :: gTL
abbrev wwL_wet : List Cond := .codeWith yL_wet cL_wet 6 (some .int) [(0, 12, 15, 18), (0, 12, 19, 13)] :: gTL
abbrev wwL_game : List Cond := .codeWith yL_game cL_game 6 (some .int) [(0, 12, 15, 18), (0, 12, 19, 13)] :: gTL
abbrev wwL_ages : List Cond := .codeWith yL_ages cL_ages 6 (some .int) [(0, 12, 15, 18), (0, 12, 19, 13)] :: gTL
