/-! calls over a world that has a rest -/
theorem ap_C {X pl wc : va_W} {isC : List Nat} (hC : isC.map (fun i => X[i]?) = wc.map some) : isC.map (fun i => (X ++ pl)[i]?) = wc.map some := by
  induction isC generalizing wc with
  | nil => cases wc with
    | nil => rfl
    | cons a t => cases hC
  | cons i is ih => cases wc with
    | nil => cases hC
    | cons a t =>
      have h1 : X[i]? = some a := (List.cons.inj hC).1
      have h2 := ih (List.cons.inj hC).2
      show (X ++ pl)[i]? :: _ = some a :: _
      rw [h2, List.getElem?_append_left (List.getElem?_eq_some_iff.mp h1).1, h1]
theorem px {D : va_G} {cl : List vw_C} {X Y pl : va_W} {H : Heap} (hP : va_P D cl (Y ++ pl) H) (is : List Nat) (h : is.map (fun i => Y[i]?) = X.map some) : va_P D cl (X ++ pl) H := fun k q hk => hP _ q (va_part is h k q hk)
theorem is_lt {X Y : va_W} {is : List Nat} (h : is.map (fun i => Y[i]?) = X.map some) {k : Nat} (hk : k < X.length) : ∃ i, is[k]? = some i ∧ i < Y.length := by
  have h1 : (is.map (fun i => Y[i]?))[k]? = some (some X[k]) := by rw [h, List.getElem?_map, List.getElem?_eq_getElem hk]; rfl
  rw [List.getElem?_map] at h1
  cases hi : is[k]? with
  | none => rw [hi] at h1; cases h1
  | some i =>
    rw [hi] at h1
    exact ⟨i, rfl, (List.getElem?_eq_some_iff.mp (Option.some.inj h1)).1⟩
theorem dx {A : Nat → Prop} {X Y pl : va_W} (hD : va_D A (Y ++ pl)) (is : List Nat) (hn : va_nd is = true) (h : is.map (fun i => Y[i]?) = X.map some) : va_D A (X ++ pl) := by
  refine ⟨fun i j p q hi hj e => ?_, fun k q hk => hD.2 _ q (va_part is h k q hk)⟩
  have g := hD.1 _ _ p q (va_part is h i p hi) (va_part is h j q hj) e
  by_cases h1 : i < X.length
  · obtain ⟨a, ea, la⟩ := is_lt h h1
    by_cases h2 : j < X.length
    · obtain ⟨b, eb, lb⟩ := is_lt h h2
      rw [if_pos h1, if_pos h2, ea, eb] at g
      have g' : a = b := g
      subst g'
      exact va_nd_inj _ hn i j a ea eb
    · rw [if_pos h1, if_neg h2, ea] at g
      have g' : a = Y.length + (j - X.length) := g
      omega
  · by_cases h2 : j < X.length
    · obtain ⟨b, eb, lb⟩ := is_lt h h2
      rw [if_neg h1, if_pos h2, eb] at g
      have g' : Y.length + (i - X.length) = b := g
      omega
    · rw [if_neg h1, if_neg h2] at g
      omega
theorem pc_ {D : va_G} {cl : List vw_C} {X Y : va_W} {H : Heap} (hP : va_P D cl (X ++ Y) H) : va_P D cl (Y ++ X) H := fun k q hk => by
  by_cases h : k < Y.length
  · rw [List.getElem?_append_left h] at hk
    refine hP (X.length + k) q ?_
    rw [List.getElem?_append_right (by omega)]
    rw [show X.length + k - X.length = k by omega]; exact hk
  · rw [List.getElem?_append_right (by omega)] at hk
    refine hP (k - Y.length) q ?_
    rw [List.getElem?_append_left (List.getElem?_eq_some_iff.mp hk).1]; exact hk
theorem dc_ {A : Nat → Prop} {X Y : va_W} (hD : va_D A (X ++ Y)) : va_D A (Y ++ X) := by
  have tr : ∀ (k : Nat) (q : Nat × va_E), (Y ++ X)[k]? = some q → (X ++ Y)[if k < Y.length then X.length + k else k - Y.length]? = some q ∧ (k < Y.length ∨ k - Y.length < X.length) := by
    intro k q hk
    by_cases h : k < Y.length
    · rw [List.getElem?_append_left h] at hk
      rw [if_pos h, List.getElem?_append_right (by omega), show X.length + k - X.length = k by omega]
      exact ⟨hk, Or.inl h⟩
    · rw [List.getElem?_append_right (by omega)] at hk
      have l := (List.getElem?_eq_some_iff.mp hk).1
      rw [if_neg h, List.getElem?_append_left l]
      exact ⟨hk, Or.inr l⟩
  refine ⟨fun i j p q hi hj e => ?_, fun k q hk => hD.2 _ q (tr k q hk).1⟩
  have g := hD.1 _ _ p q (tr i p hi).1 (tr j q hj).1 e
  have a := (tr i p hi).2
  have b := (tr j q hj).2
  by_cases h1 : i < Y.length
  · by_cases h2 : j < Y.length
    · rw [if_pos h1, if_pos h2] at g; omega
    · rw [if_pos h1, if_neg h2] at g; omega
  · by_cases h2 : j < Y.length
    · rw [if_neg h1, if_pos h2] at g; omega
    · rw [if_neg h1, if_neg h2] at g; omega
theorem rgC (X : va_W) : (List.range X.length).map (fun i => X[i]?) = X.map some := by
  apply List.ext_getElem?
  intro i
  rw [List.getElem?_map, List.getElem?_map]
  by_cases h : i < X.length
  · rw [List.getElem?_range h]
    show some X[i]? = (X[i]?).map some
    rw [List.getElem?_eq_getElem h]; rfl
  · rw [List.getElem?_eq_none (by rw [List.length_range]; omega), List.getElem?_eq_none (by omega)]; rfl
theorem nd_of : ∀ (l : List Nat), l.Nodup → va_nd l = true
  | [], _ => rfl
  | a :: t, h => by
    have h1 := List.nodup_cons.mp h
    show (decide (a ∉ t) && va_nd t) = true
    rw [nd_of t h1.2]
    simp [h1.1]
theorem rgN (n : Nat) : va_nd (List.range n) = true := nd_of _ List.nodup_range
section KX2
variable {E E' : EV} {p : Program} {l : Launch} {e : Env} {R : Room} {s : State} {m : MethodId} {args : Array Value} {below : List Frame} {meth : Method} {c : Code} {H : Heap} {locs : List Loc} {cells slots : Nat} {Q : State → Prop} {cc : ByteArray} {nL : Nat} {Ts : List Cond} {own C : String} {pc : Nat} {ls : Array Slot} {rest st0 : List Value}
variable {y : MethodName} {ws ws' : List Cond} {rm : Room} {D : va_G} {ct : Nat → ClassId} {wc w wr : va_W} {b index maxL n sz ci : Nat} {As : List Value} {bytes : ByteArray} {ret : Option FieldType} {A : Nat → Prop} {H0 : Heap}

theorem kIVx {X pl : va_W} {S0 : Type} {post : Int32 → S0 → Prop} {w1 : S0 → va_W} {q : vw_C} {fs : List Value} (S : CallFix p m c cc nL s args Ts own) (hM : cI l y ws rm D ct wc H.size (.ref b :: As) post w1) (cw : CallW R s args own C index y bytes maxL ret ws rm rm.cells rm.slots n)
    (hK : va_K D vwCl (tyl ct) s) (hP : va_P D vwCl (X ++ pl) H) (hD : va_D A (X ++ pl)) (hS : va_S A s.heap H locs) (hA : ∀ q, s.heap.size ≤ q → A q) (isC isR : List Nat) (hC : isC.map (fun i => X[i]?) = wc.map some) (hR : isR.map (fun i => X[i]?) = wr.map some) (hnC : va_nd isC = true) (hnR : va_nd isR = true) (hdis : ∀ i ∈ isR, i ∉ isC)
    (hc : vwCl[ci]? = some q) (hq : q.1 = C) (he : wc[0]? = some (b, .inr (ci, fs)))
    (hn : As.length = n) (hsize : ls.size = nL) (hst : st0 = As.reverse ++ .ref b :: rest) (hW : (rest.map fun v => v.category).sum ≤ 8) (hdg : decode cc pc = .ok (.invokevirtual index, 3)) (hf : cells + rm.cells ≤ R.cells ∧ slots + rm.slots ≤ R.slots)
    (kk : ∀ (r : Int32) (u : S0) (H1 : Heap) (locs1 : List Loc), post r u → va_P D vwCl ((wr ++ w1 u) ++ pl) H1 → va_D A ((wr ++ w1 u) ++ pl) → va_S A s.heap H1 locs1 → W p l e R s m args below meth c H1 locs1 (cells + rm.cells) (slots + rm.slots) Q (F0 m (pc + 3) ls (.int r :: rest))) : W p l e R s m args below meth c H locs cells slots Q (F0 m pc ls st0) := by
  have hC2 := ap_C (pl := pl) hC
  have hDc : va_D A wc := hD.sub isC hnC hC2
  have hPc : va_P D vwCl wc H := hP.by (fun k => isC.getD k 0) (fun k q hk => by
    have h1 : (isC.map (fun i => (X ++ pl)[i]?))[k]? = some (some q) := by rw [hC2, List.getElem?_map, hk]; rfl
    rw [List.getElem?_map] at h1
    cases hi : isC[k]? with
    | none => rw [hi] at h1; cases h1
    | some i => rw [hi] at h1; rw [List.getD_eq_getElem?_getD, hi]; exact Option.some.inj h1)
  have hFc := va_free (wc := wc) hD hS hA isC hC2
  have hrec : ∃ cellB : Cell, H[b]? = some cellB ∧ cellB.vm.isStatics = false ∧ s.vm.findClass C = some cellB.cls := by
    obtain ⟨cell, h1, h2, h3⟩ := va_recv hK hPc hc he
    exact ⟨cell, h1, h2, by rw [← hq]; exact h3⟩
  refine va_calli (va_runV (As := As) (rest := rest) S hM cw ⟨fun a U g mk q => by obtain ⟨q0, q1, qP, qK, qD⟩ := q; exact ⟨q0, q1, qP, va_K.moved (u := U) (U := U.calling g mk a) (Vm.Alike.refl U.vm) qK, qD⟩, hrec, fun U hU hW => ⟨rfl, by rw [hU], by rw [hU]; exact hPc, va_K.moved hW.alike hK, hDc.weaken (fun _ _ _ _ => trivial)⟩⟩ rfl hn hsize hst (lv_room hW) hdg hf) hS (fun q _ h => hFc q h) hFc (fun r u t H1 locs1 ht hvm hw hB hz1 hk1 hS1 => ?_)
  obtain ⟨hP1, hK1, hD1⟩ := hB
  rw [ht] at hP1
  obtain ⟨hP2, hD2⟩ := va_joinQ (wr := wr) (w1 := w1 u) hP hD isC isR hC hR hnR hdis hk1 hFc hP1 hD1
  exact kk r u H1 locs1 hw hP2 hD2 hS1

theorem kVVx {X pl : va_W} {S0 : Type} {post : S0 → Prop} {w1 : S0 → va_W} {q : vw_C} {fs : List Value} (S : CallFix p m c cc nL s args Ts own) (hM : cV l y ws rm D ct wc H.size (.ref b :: As) post w1) (cw : CallW R s args own C index y bytes maxL ret ws rm rm.cells rm.slots n)
    (hK : va_K D vwCl (tyl ct) s) (hP : va_P D vwCl (X ++ pl) H) (hD : va_D A (X ++ pl)) (hS : va_S A s.heap H locs) (hA : ∀ q, s.heap.size ≤ q → A q) (isC isR : List Nat) (hC : isC.map (fun i => X[i]?) = wc.map some) (hR : isR.map (fun i => X[i]?) = wr.map some) (hnC : va_nd isC = true) (hnR : va_nd isR = true) (hdis : ∀ i ∈ isR, i ∉ isC)
    (hc : vwCl[ci]? = some q) (hq : q.1 = C) (he : wc[0]? = some (b, .inr (ci, fs)))
    (hn : As.length = n) (hsize : ls.size = nL) (hst : st0 = As.reverse ++ .ref b :: rest) (hW : (rest.map fun v => v.category).sum ≤ 8) (hdg : decode cc pc = .ok (.invokevirtual index, 3)) (hf : cells + rm.cells ≤ R.cells ∧ slots + rm.slots ≤ R.slots)
    (kk : ∀ (u : S0) (H1 : Heap) (locs1 : List Loc), post u → va_P D vwCl ((wr ++ w1 u) ++ pl) H1 → va_D A ((wr ++ w1 u) ++ pl) → va_S A s.heap H1 locs1 → W p l e R s m args below meth c H1 locs1 (cells + rm.cells) (slots + rm.slots) Q (F0 m (pc + 3) ls rest)) : W p l e R s m args below meth c H locs cells slots Q (F0 m pc ls st0) := by
  have hC2 := ap_C (pl := pl) hC
  have hDc : va_D A wc := hD.sub isC hnC hC2
  have hPc : va_P D vwCl wc H := hP.by (fun k => isC.getD k 0) (fun k q hk => by
    have h1 : (isC.map (fun i => (X ++ pl)[i]?))[k]? = some (some q) := by rw [hC2, List.getElem?_map, hk]; rfl
    rw [List.getElem?_map] at h1
    cases hi : isC[k]? with
    | none => rw [hi] at h1; cases h1
    | some i => rw [hi] at h1; rw [List.getD_eq_getElem?_getD, hi]; exact Option.some.inj h1)
  have hFc := va_free (wc := wc) hD hS hA isC hC2
  have hrec : ∃ cellB : Cell, H[b]? = some cellB ∧ cellB.vm.isStatics = false ∧ s.vm.findClass C = some cellB.cls := by
    obtain ⟨cell, h1, h2, h3⟩ := va_recv hK hPc hc he
    exact ⟨cell, h1, h2, by rw [← hq]; exact h3⟩
  refine va_callv (va_runV (As := As) (rest := rest) S hM cw ⟨fun a U g mk q => by obtain ⟨q0, q1, qP, qK, qD⟩ := q; exact ⟨q0, q1, qP, va_K.moved (u := U) (U := U.calling g mk a) (Vm.Alike.refl U.vm) qK, qD⟩, hrec, fun U hU hW => ⟨rfl, by rw [hU], by rw [hU]; exact hPc, va_K.moved hW.alike hK, hDc.weaken (fun _ _ _ _ => trivial)⟩⟩ rfl hn hsize hst (lv_room hW) hdg hf) hS (fun q _ h => hFc q h) hFc (fun u t H1 locs1 ht hvm hw hB hz1 hk1 hS1 => ?_)
  obtain ⟨hP1, hK1, hD1⟩ := hB
  rw [ht] at hP1
  obtain ⟨hP2, hD2⟩ := va_joinQ (wr := wr) (w1 := w1 u) hP hD isC isR hC hR hnR hdis hk1 hFc hP1 hD1
  exact kk u H1 locs1 hw hP2 hD2 hS1

theorem keIVx {X pl : va_W} {S0 : Type} {post : Int32 → S0 → Prop} {w1 : S0 → va_W} {q : vw_C} {fs : List Value} (S : CallFix p m c cc nL s args Ts own) (hM : eI E' l y ws rm D ct wc H.size (.ref b :: As) post w1) (cw : CallW R s args own C index y bytes maxL ret ws rm rm.cells rm.slots n)
    (hok : EOK E) (hok' : EOK E') (hEE : E A s s.heap → E' A s s.heap) (hX : E A s s.heap)
    (hK : va_K D vwCl (tyl ct) s) (hP : va_P D vwCl (X ++ pl) H) (hD : va_D A (X ++ pl)) (hS : va_S A s.heap H locs) (hA : ∀ q, s.heap.size ≤ q → A q) (isC isR : List Nat) (hC : isC.map (fun i => X[i]?) = wc.map some) (hR : isR.map (fun i => X[i]?) = wr.map some) (hnC : va_nd isC = true) (hnR : va_nd isR = true) (hdis : ∀ i ∈ isR, i ∉ isC)
    (hc : vwCl[ci]? = some q) (hq : q.1 = C) (he : wc[0]? = some (b, .inr (ci, fs)))
    (hn : As.length = n) (hsize : ls.size = nL) (hst : st0 = As.reverse ++ .ref b :: rest) (hW : (rest.map fun v => v.category).sum ≤ 8) (hdg : decode cc pc = .ok (.invokevirtual index, 3)) (hf : cells + rm.cells ≤ R.cells ∧ slots + rm.slots ≤ R.slots)
    (kk : ∀ (r : Int32) (u : S0) (H1 : Heap) (locs1 : List Loc), post r u → va_P D vwCl ((wr ++ w1 u) ++ pl) H1 → va_D A ((wr ++ w1 u) ++ pl) → va_S A s.heap H1 locs1 → W p l e R s m args below meth c H1 locs1 (cells + rm.cells) (slots + rm.slots) Q (F0 m (pc + 3) ls (.int r :: rest))) : W p l e R s m args below meth c H locs cells slots Q (F0 m pc ls st0) := by
  have hC2 := ap_C (pl := pl) hC
  have hDc : va_D A wc := hD.sub isC hnC hC2
  have hPc : va_P D vwCl wc H := hP.by (fun k => isC.getD k 0) (fun k q hk => by
    have h1 : (isC.map (fun i => (X ++ pl)[i]?))[k]? = some (some q) := by rw [hC2, List.getElem?_map, hk]; rfl
    rw [List.getElem?_map] at h1
    cases hi : isC[k]? with
    | none => rw [hi] at h1; cases h1
    | some i => rw [hi] at h1; rw [List.getD_eq_getElem?_getD, hi]; exact Option.some.inj h1)
  have hFc := va_free (wc := wc) hD hS hA isC hC2
  have hX' := hEE hX
  have hrec : ∃ cellB : Cell, H[b]? = some cellB ∧ cellB.vm.isStatics = false ∧ s.vm.findClass C = some cellB.cls := by
    obtain ⟨cell, h1, h2, h3⟩ := va_recv hK hPc hc he
    exact ⟨cell, h1, h2, by rw [← hq]; exact h3⟩
  refine va_calli (va_runV (As := As) (rest := rest) S hM cw ⟨fun a U g mk q => by obtain ⟨q0, q1, qP, qK, qD, qX⟩ := q; exact ⟨q0, q1, qP, va_K.moved (u := U) (U := U.calling g mk a) (Vm.Alike.refl U.vm) qK, qD, hok'.call g mk a qX⟩, hrec, fun U hU hW => ⟨rfl, by rw [hU], by rw [hU]; exact hPc, va_K.moved hW.alike hK, hDc.weaken (fun _ _ _ _ => trivial), hok'.go hX' hS hFc hW hU⟩⟩ rfl hn hsize hst (lv_room hW) hdg hf) hS (fun q _ h => hFc q h) hFc (fun r u t H1 locs1 ht hvm hw hB hz1 hk1 hS1 => ?_)
  obtain ⟨hP1, hK1, hD1⟩ := hB
  rw [ht] at hP1
  obtain ⟨hP2, hD2⟩ := va_joinQ (wr := wr) (w1 := w1 u) hP hD isC isR hC hR hnR hdis hk1 hFc hP1 hD1
  exact kk r u H1 locs1 hw hP2 hD2 hS1

theorem kXIVx {X pl : va_W} {S0 : Type} {post : Int32 → S0 → Prop} {w1 : S0 → va_W} {Es' : List String} {q : vw_C} {fs : List Value} (S : CallFix p m c cc nL s args Ts own) (hM : cXI l y ws rm D ct wc H.size (.ref b :: As) Es' post w1) (cw : CallW R s args own C index y bytes maxL ret ws rm rm.cells rm.slots n)
    (hK : va_K D vwCl (tyl ct) s) (hX : XE A s s.heap) (hP : va_P D vwCl (X ++ pl) H) (hD : va_D A (X ++ pl)) (hS : va_S A s.heap H locs) (hA : ∀ q, s.heap.size ≤ q → A q) (isC isR : List Nat) (hC : isC.map (fun i => X[i]?) = wc.map some) (hR : isR.map (fun i => X[i]?) = wr.map some) (hnC : va_nd isC = true) (hnR : va_nd isR = true) (hdis : ∀ i ∈ isR, i ∉ isC)
    (hc : vwCl[ci]? = some q) (hq : q.1 = C) (he : wc[0]? = some (b, .inr (ci, fs)))
    (hn : As.length = n) (hsize : ls.size = nL) (hst : st0 = As.reverse ++ .ref b :: rest) (hW : (rest.map fun v => v.category).sum ≤ 8) (hdg : decode cc pc = .ok (.invokevirtual index, 3)) (hf : cells + rm.cells ≤ R.cells ∧ slots + rm.slots ≤ R.slots)
    (kx : ∀ (E : String) (ce : Cell) (q9 : Addr) (H1 : Heap) (locs1 : List Loc), E ∈ Es' → H1[q9]? = some ce → ce.vm = .none → s.vm.findClass E = some ce.cls → va_P D vwCl ((wr ++ wc) ++ pl) H1 → va_D A ((wr ++ wc) ++ pl) → va_S A s.heap H1 locs1 → vx_W p l e R s m args below meth c H1 locs1 (cells + rm.cells) (slots + rm.slots) Q (F0 m pc ls rest) q9)
    (kk : ∀ (r : Int32) (u : S0) (H1 : Heap) (locs1 : List Loc), post r u → va_P D vwCl ((wr ++ w1 u) ++ pl) H1 → va_D A ((wr ++ w1 u) ++ pl) → va_S A s.heap H1 locs1 → W p l e R s m args below meth c H1 locs1 (cells + rm.cells) (slots + rm.slots) Q (F0 m (pc + 3) ls (.int r :: rest))) : W p l e R s m args below meth c H locs cells slots Q (F0 m pc ls st0) := by
  have hC2 := ap_C (pl := pl) hC
  have hDc : va_D A wc := hD.sub isC hnC hC2
  have hPc : va_P D vwCl wc H := hP.by (fun k => isC.getD k 0) (fun k q hk => by
    have h1 : (isC.map (fun i => (X ++ pl)[i]?))[k]? = some (some q) := by rw [hC2, List.getElem?_map, hk]; rfl
    rw [List.getElem?_map] at h1
    cases hi : isC[k]? with
    | none => rw [hi] at h1; cases h1
    | some i => rw [hi] at h1; rw [List.getD_eq_getElem?_getD, hi]; exact Option.some.inj h1)
  have hFc := va_free (wc := wc) hD hS hA isC hC2
  have hrec : ∃ cellB : Cell, H[b]? = some cellB ∧ cellB.vm.isStatics = false ∧ s.vm.findClass C = some cellB.cls := by
    obtain ⟨cell, h1, h2, h3⟩ := va_recv hK hPc hc he
    exact ⟨cell, h1, h2, by rw [← hq]; exact h3⟩
  refine vx_calli (vx_runV (As := As) (rest := rest) S hM cw ⟨fun a U g mk q => by obtain ⟨q0, q1, qP, qK, qD, qX⟩ := q; exact ⟨q0, q1, qP, va_K.moved (u := U) (U := U.calling g mk a) (Vm.Alike.refl U.vm) qK, qD, qX.call g mk a⟩, hrec, fun U hU hW => ⟨rfl, by rw [hU], by rw [hU]; exact hPc, va_K.moved hW.alike hK, hDc.weaken (fun _ _ _ _ => trivial), hX.go hS hFc hW hU⟩⟩ rfl hn hsize hst (lv_room hW) hdg hf) hS (fun q _ h => hFc q h) hFc (fun q _ h => hFc q h) (fun E ce q9 u t H1 locs1 ht hvm hu hB hz1 hk1 hS1 h9 hv9 hcl => ?_) (fun r u t H1 locs1 ht hvm hw hB hz1 hk1 hS1 => ?_)
  · obtain ⟨hE, hP1, hK1, hD1⟩ := hB
    rw [ht] at hP1
    obtain ⟨hP2, hD2⟩ := va_joinQ (wr := wr) (w1 := wc) hP hD isC isR hC hR hnR hdis hk1 hFc hP1 hD1
    exact kx E ce q9 H1 locs1 hE h9 hv9 hcl hP2 hD2 hS1
  · obtain ⟨hP1, hK1, hD1⟩ := hB
    rw [ht] at hP1
    obtain ⟨hP2, hD2⟩ := va_joinQ (wr := wr) (w1 := w1 u) hP hD isC isR hC hR hnR hdis hk1 hFc hP1 hD1
    exact kk r u H1 locs1 hw hP2 hD2 hS1

end KX2
