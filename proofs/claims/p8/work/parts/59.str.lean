/-! String.charAt; the reference's texts -/
def vp_S0 : Array Value → State → Outcome → State → Prop := fun _ st o t => o = .returned none ∧ t.heap = st.heap
def eP0 (E : EV) (l : Launch) (y : MethodName) (ws : List Cond) (rm : Room) (D : va_G) (ct : Nat → ClassId) (wc : va_W) (As : List Value) : Prop :=
  Met l y ws rm (va_Pc As (fun U => va_P D vwCl wc U.heap ∧ va_K D vwCl (tyl ct) U ∧ E (fun _ => False) U U.heap)) vp_S0 0 0 (fun _ => False)
section KE0
variable {E E' : EV} {p : Program} {l : Launch} {e : Env} {R : Room} {s : State} {m : MethodId} {args : Array Value} {below : List Frame} {meth : Method} {c : Code} {H : Heap} {locs : List Loc} {cells slots : Nat} {Q : State → Prop} {cc : ByteArray} {nL : Nat} {Ts : List Cond} {own C : String} {pc : Nat} {ls : Array Slot} {rest st0 : List Value}
variable {y : MethodName} {ws ws' : List Cond} {rm : Room} {D : va_G} {ct : Nat → ClassId} {wc w wr : va_W} {b index maxL n sz ci : Nat} {As : List Value} {bytes : ByteArray} {ret : Option FieldType} {A : Nat → Prop} {H0 : Heap}
theorem va_ldcSW (hexec : p.tables.exec = Jvm.exec) (hb : c.code = cc) {own tx : String} {index q : Nat} (hown : s.vm.findClass own = some m.cls) (hZ : vk_R own index tx q s) (hdg : decode cc pc = .ok (.ldc_w index, 3))
    (k : W p l e R s m args below meth c H locs cells slots Q (F0 m (pc + 3) ls (.ref q :: rest))) : W p l e R s m args below meth c H locs cells slots Q (F0 m pc ls rest) := by
  intro T hT X
  obtain ⟨t, a1, b1⟩ := k T hT X
  exact ⟨t, X.ldcStringW hexec hown (text := tx) (a := q) hZ.1 hZ.2 (g := F0 m pc ls rest) rfl (by rw [hb]; exact hdg) t a1, b1⟩
theorem eP0_of (hy : plainName y.cls = true) (hw : ws = Cond.code y cc maxL none :: ws') (hA : (lg_sl As).length ≤ maxL)
    (body : ∀ (p : Program) (e : Env) (s : State) (m : MethodId) (args : Array Value) (below : List Frame) (meth : Method) (c : Code) (Q : State → Prop), p.tables.exec = Jvm.exec → c.code = cc → c.maxLocals = maxL → (∀ w ∈ ws, w.before args s = true) → s.vm.findClass y.cls = some m.cls →
      va_K D vwCl (tyl ct) s → va_P D vwCl wc s.heap → E (fun _ => False) s s.heap → (∀ (pc : Nat) (ls : Array Slot), decode cc pc = .ok (.return_, 1) → W p l e rm s m args below meth c s.heap [] 0 0 Q (F0 m pc ls [])) → ∀ ls : Array Slot, lv_has ls maxL (lv_args 0 As) →
      W p l e rm s m args below meth c s.heap [] 0 0 Q (F0 m 0 ls [])) : eP0 E l y ws rm D ct wc As := by
  refine Met.ofW (cc := cc) (maxL := maxL) (ret := none) hy hw ?_
  intro p e s m args below meth c s₁ B hml hv
  obtain ⟨rfl, hP, hK, hX⟩ := hv
  rw [lg_entry_eq]
  exact body p e s m _ below meth c _ B.exec B.bytes hml (atoms_spec (ws := ws) B.pre) (findClass_of_methodNamed B.named) hK hP hX (fun pc ls d => W.vret B.exec B.bytes B.returns (fun t ht _ => ⟨rfl, ht⟩) (fun _ h => by cases h) d B.notSynchronized) _ (lv_entry As hA)
theorem ke0S (S : CallFix p m c cc nL s args Ts own) (hM : eP0 E' l y ws rm D ct wc As) (cw : CallB R s args own index y bytes maxL ret ws rm 0 0 n ∧ (Cond.static y).before args s = true)
    (hok' : EOK E') (hX' : E' A s s.heap) (hS : va_S A s.heap H locs)
    (hK : va_K D vwCl (tyl ct) s) (hP : va_P D vwCl w H) (isC : List Nat) (hC : isC.filterMap (fun i => w[i]?) = wc)
    (hn : As.length = n) (hsize : ls.size = nL) (hst : st0 = As.reverse ++ rest) (hW : (rest.map fun v => v.category).sum ≤ 8) (hdg : decode cc pc = .ok (.invokestatic index, 3)) (hf : cells ≤ R.cells ∧ slots ≤ R.slots)
    (kk : W p l e R s m args below meth c H locs cells slots Q (F0 m (pc + 3) ls rest)) : W p l e R s m args below meth c H locs cells slots Q (F0 m pc ls st0) := by
  have hPc := hP.sub (ws' := wc) isC hC
  have hr := va_runS (As := As) (rest := rest) (p := p) (l := l) (e := e) (below := below) (meth := meth) (locs := locs) (cells := cells) (slots := slots) (g := F0 m pc ls st0) S hM cw ⟨fun a U g mk q => by obtain ⟨q0, qP, qK, qX⟩ := q; exact ⟨q0, qP, va_K.moved (u := U) (U := U.calling g mk a) (Vm.Alike.refl U.vm) qK, hok'.call g mk a qX⟩, fun U hU hW => ⟨rfl, by rw [hU]; exact hPc, va_K.moved hW.alike hK, hok'.go hX' hS (fun _ h => h.elim) hW hU⟩⟩ rfl hn hsize hst (lv_room hW) hdg hf
  intro T hT X
  obtain ⟨v, st₀, t, T', L, h0, X', hL, e1, e2, ⟨hv, hh⟩, st⟩ := hr T hT X
  cases hv
  obtain ⟨t2, a1, b1⟩ := kk T' (by rw [e1, hh, h0]) (Stand.forget X' (fun q h => (hL q h).elim))
  exact ⟨t2, st t2 a1, b1⟩
end KE0
theorem c_J0_checkIndex (l : Launch) (D : va_G) (ct : Nat → ClassId) (k n : Nat) (hk : k < n) (hn : n ≤ 40) : eP0 SB l yJ0_checkIndex_df160 wsJ0_checkIndex_df160 rm_J0_1 D ct [] [.int (nI k), .int (nI n)] := by
  refine eP0_of (cc := cJ0_checkIndex_df160) (maxL := 2) (by decide) rfl (Nat.le_of_ble_eq_true rfl) ?_
  intro p e s m args below meth c Q hx hb hml hts hown hK hP hX hE ls hl
  have hl : lv_has ls 2 [(0, .int (nI k)), (1, .int (nI n))] := hl
  refine lv_iload_n hx hb dJ0_checkIndex_df160_0 rfl (lv_at hl 0 rfl) ?_
  refine lv_iload_n hx hb dJ0_checkIndex_df160_1 rfl (lv_at hl 1 rfl) ?_
  rcases hX.2 with hZ | ⟨t, hZ⟩
  all_goals
    refine va_gets hx hb hZ va_S.rf hown (hts (.fieldLink RJ0 1053 "jdk/internal/util/Preconditions" "SIOOBE_FORMATTER" "Ljava/util/function/BiFunction;") (by decide +kernel)) (fun _ h => h) dJ0_checkIndex_df160_2 ?_
    refine kPS (rest := []) ⟨hx, hb, hml, hown, hts⟩ (c_J3_checkIndex l D ct _ k n (by first | exact Or.inl rfl | exact Or.inr ⟨_, rfl⟩) hk hn) (va_cwS 3 hts gJ0_checkIndex_df160_J3_checkIndex_8e157 rfl rfl rfl (by decide +kernel) ⟨(Nat.le_of_ble_eq_true rfl), (Nat.le_of_ble_eq_true rfl)⟩) hK hP [] rfl rfl hl.1 rfl (Nat.le_of_ble_eq_true rfl) dJ0_checkIndex_df160_5 ⟨(Nat.le_of_ble_eq_true rfl), (Nat.le_of_ble_eq_true rfl)⟩ (fun r hr => ?_)
    refine lv_pop hx hb dJ0_checkIndex_df160_8 rfl ?_
    exact hE _ _ dJ0_checkIndex_df160_9
def EB (v n : Nat) (f : Nat → Int32) : EV := fun A U H => SB A U H ∧ va_T .byte v n (fun j => .int (f j)) A U H
theorem EB_ok (v n : Nat) (f : Nat → Int32) : EOK (EB v n f) := ⟨fun _ _ _ _ _ _ h hS hB hW hU => ⟨h.1.go hS hB hW hU, by rw [hU]; exact va_T.moved hW.alike ((h.2.kept hS.2.1).narrow hB)⟩, fun _ U g mk b h => ⟨h.1.call g mk b, va_T.moved (u := U) (Vm.Alike.refl U.vm) h.2⟩⟩
theorem c_J1_charAt (l : Launch) (D : va_G) (ct : Nat → ClassId) (v k n : Nat) (f : Nat → Int32) (hk : k < n) (hn : n ≤ 40) : eP (EB v n f) l yJ1_charAt_3b067 wsJ1_charAt_3b067 rm_J0_2 D ct [] [.ref v, .int (nI k)] (fun r => r = f k &&& 255) := by
  refine eP_of (ty := .char) (cc := cJ1_charAt_3b067) (maxL := 2) (by decide) rfl (Nat.le_of_ble_eq_true rfl) ?_
  intro p e s m args below meth c Q hx hb hml hts hown hK hP hX hE ls hl
  have hl : lv_has ls 2 [(0, .ref v), (1, .int (nI k))] := hl
  refine lv_iload_n hx hb dJ1_charAt_3b067_0 rfl (lv_at hl 1 rfl) ?_
  refine lv_aload_n hx hb dJ1_charAt_3b067_1 rfl (lv_at hl 0 rfl) ?_
  refine va_tlen (v := nI n) hx hb hX.2 va_S.rf rfl dJ1_charAt_3b067_2 ?_
  refine ke0S (A := fun _ => False) (rest := []) ⟨hx, hb, hml, hown, hts⟩ (c_J0_checkIndex l D ct k n hk hn) (va_cwS 2 hts gJ1_charAt_3b067_J0_checkIndex_df160 rfl rfl rfl (by decide +kernel) ⟨(Nat.le_of_ble_eq_true rfl), (Nat.le_of_ble_eq_true rfl)⟩) SB_ok hX.1 va_S.rf hK hP [] rfl rfl hl.1 rfl (Nat.le_of_ble_eq_true rfl) dJ1_charAt_3b067_3 ⟨(Nat.le_of_ble_eq_true rfl), (Nat.le_of_ble_eq_true rfl)⟩ ?_
  refine lv_aload_n hx hb dJ1_charAt_3b067_6 rfl (lv_at hl 0 rfl) ?_
  refine lv_iload_n hx hb dJ1_charAt_3b067_7 rfl (lv_at hl 1 rfl) ?_
  refine va_tb hx hb hX.2 va_S.rf (vp_in_nI hk (by omega)) (v := .int (f k)) (by show Value.int (f (nI k).toNatClampNeg) = _; rw [nI_clamp (by omega)]) dJ1_charAt_3b067_8 ?_
  refine lv_sipush (v := 255) hx hb dJ1_charAt_3b067_9 (by decide) ?_
  refine lv_iand hx hb dJ1_charAt_3b067_12 ?_
  refine lv_i2c hx hb dJ1_charAt_3b067_13 (sc_c2 (f k)) ?_
  exact hE _ _ _ (sc_nar (f k)) rfl dJ1_charAt_3b067_14
theorem c_J0_charAtN (l : Launch) (D : va_G) (ct : Nat → ClassId) (a k n : Nat) (hk : k < ux_wl n) (hn : ux_wl n ≤ 40) : eP (ES a n) l yJ0_charAt_5068e wsJ0_charAt_5068e rm_J0_3 D ct [] [.ref a, .int (nI k)] (fun r : Int32 => r = ux_wf n k &&& 255) := by
  refine eP_of (ty := .char) (cc := cJ0_charAt_5068e) (maxL := 2) (by decide) rfl (Nat.le_of_ble_eq_true rfl) ?_
  intro p e s m args below meth c Q hx hb hml hts hown hK hP hX hE ls hl
  have hl : lv_has ls 2 [(0, .ref a), (1, .int (nI k))] := hl
  obtain ⟨-, -, -, v, h3, h4⟩ := hX.2
  refine lv_aload_n hx hb dJ0_charAt_5068e_0 rfl (lv_at hl 0 rfl) ?_
  refine kePO (E := ES a n) (A := fun _ => False) (rest := []) ⟨hx, hb, hml, hown, hts⟩ (c_J0_isLatin1 l D ct a n) (cwV 0 hts gJ0_charAt_5068e_J0_isLatin1_aae02 rfl rfl rfl (by decide +kernel) ⟨(Nat.le_of_ble_eq_true rfl), (Nat.le_of_ble_eq_true rfl)⟩) (ES_ok a n) (ES_ok a n) id hX va_S.rf (hX.2.rec va_S.rf) hK hP [] rfl rfl hl.1 rfl (Nat.le_of_ble_eq_true rfl) dJ0_charAt_5068e_1 ⟨(Nat.le_of_ble_eq_true rfl), (Nat.le_of_ble_eq_true rfl)⟩ (fun r hr => ?_)
  subst hr
  refine lv_if_eq (tgt := 16) hx hb dJ0_charAt_5068e_4 (by decide) (fun c1 => absurd c1 (by decide)) (fun c1 => ?_)
  refine lv_aload_n hx hb dJ0_charAt_5068e_7 rfl (lv_at hl 0 rfl) ?_
  refine vk_getf hx hb h3 va_S.rf hown (hts (.fieldLink RJ0 9 "java/lang/String" "value" "[B") (by decide +kernel)) (fun _ h => h) dJ0_charAt_5068e_8 ?_
  refine lv_iload_n hx hb dJ0_charAt_5068e_11 rfl (lv_at hl 1 rfl) ?_
  refine kePS (E := ES a n) (A := fun _ => False) (rest := []) ⟨hx, hb, hml, hown, hts⟩ (c_J1_charAt l D ct v k (ux_wl n) (ux_wf n) hk hn) (va_cwS 2 hts gJ0_charAt_5068e_J1_charAt_3b067 rfl rfl rfl (by decide +kernel) ⟨(Nat.le_of_ble_eq_true rfl), (Nat.le_of_ble_eq_true rfl)⟩) (ES_ok a n) (EB_ok v (ux_wl n) (ux_wf n)) (fun h => ⟨h.1, h4⟩) hX va_S.rf hK hP [] rfl rfl hl.1 rfl (Nat.le_of_ble_eq_true rfl) dJ0_charAt_5068e_12 ⟨(Nat.le_of_ble_eq_true rfl), (Nat.le_of_ble_eq_true rfl)⟩ (fun r hr => ?_)
  subst hr
  exact hE _ _ _ (sc_nar (ux_wf n k)) rfl dJ0_charAt_5068e_15
theorem c_J0_charAt (l : Launch) (D : va_G) (ct : Nat → ClassId) (a n : Nat) (k : Int32) (h0 : 0 ≤ k.toInt) (hk : k.toInt < (ux_wl n : Int)) (hn : ux_wl n ≤ 40) : eP (ES a n) l yJ0_charAt_5068e wsJ0_charAt_5068e rm_J0_3 D ct [] [.ref a, .int k] (fun r : Int32 => r = ux_wf n k.toNatClampNeg &&& 255) := by
  obtain ⟨j, hj, rfl⟩ := nI_of (x := k) (by intro w; have := lt_i w; have e : (0 : Int32).toInt = 0 := rfl; omega)
  rw [nI_toInt hj] at hk
  rw [nI_clamp hj]
  exact c_J0_charAtN l D ct a j n (by omega) hn
/-- the reference's texts, by their places in its pool -/
def mstr : List (Nat × String × Nat) := [(11, "person", 1), (13, "orphan", 2), (19, "rain", 10), (21, "stone", 11), (23, "beside", 12), (25, "year", 13), (30, "unlike", 14), (32, "age", 15), (34, "family", 16), (269, "not", 9), (277, "and", 8), (282, "or", 7), (288, "of", 3), (293, "certain", 4), (295, "wears", 5), (297, "sits", 6), (305, "gargoyle", 0)]
def EM (sad : Nat → Nat) : EV := fun A U H => SB A U H ∧ ∀ q ∈ mstr, vk_R RX12 q.1 q.2.1 (sad q.1) U ∧ ST (sad q.1) q.2.2 A U H
theorem EM_ok (sad : Nat → Nat) : EOK (EM sad) := ⟨fun _ _ _ _ _ _ h hS hB hW hU => ⟨h.1.go hS hB hW hU, fun q hq => ⟨(h.2 q hq).1.warm hW, (h.2 q hq).2.go hS hB hW hU⟩⟩, fun _ U g mk b h => ⟨h.1.call g mk b, fun q hq => ⟨(h.2 q hq).1.same rfl, (h.2 q hq).2.call g mk b⟩⟩⟩
set_option maxRecDepth 20000 in
theorem mstr_lt : ∀ q ∈ mstr, q.2.2 < 17 := by decide +kernel
/-- which words: sorts, of wears, of sits -/
def ux_ws (N : Nat) : List Nat := if N = 2 then [1, 2] else if N = 4 then [10, 11, 12, 13] else [14, 15, 11, 16, 13]
/-- a row of such texts -/
def strs (sad : Nat → Nat) (f : Nat → Option Nat) (N : Nat) : Prop := ∀ j : Nat, j < N → ∃ q ∈ mstr, f j = some (sad q.1) ∧ q.2.2 = (ux_ws N).getD j 0
set_option maxRecDepth 20000 in
theorem gg12_J0_length_8abf5 : GoodIn gT12 wsJ0_length_8abf5 := goodIn_r _ [97, 98, 99, 100, 101, 96, 102, 103, 104] (by decide +kernel) (by decide +kernel)
set_option maxRecDepth 20000 in
theorem gg12_J0_charAt_5068e : GoodIn gT12 wsJ0_charAt_5068e := goodIn_r _ [108, 98, 109, 110, 111, 96, 112, 103, 104, 113, 114, 115, 116, 117, 118, 119, 120, 121, 122, 123, 124, 125, 126, 127, 128, 129, 130, 131, 132, 133, 134, 135, 136, 137, 138, 139, 140, 141] (by decide +kernel) (by decide +kernel)
