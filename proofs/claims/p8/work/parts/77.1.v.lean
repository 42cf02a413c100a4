/-! what the reference has told so far (the second halves of its rows), held against the text's values -/
def ux_mg (V : Nat → Nat → Int32) (T jT bT sT : Nat → Int32) : Prop := ∀ k : Nat, (k : Int) < (T 6).toInt → jT (8 + k) = V 0 k ∧ bT (8 + k) = V 1 k ∧ sT (8 + k) = V 2 k
def ux_mq (V : Nat → Nat → Int32) (T oT fT hT aT mT : Nat → Int32) : Prop := ∀ k : Nat, (k : Int) < (T 7).toInt → oT (8 + k) = V 3 k ∧ fT (8 + k) = V 4 k ∧ hT (8 + k) = V 5 k ∧ aT (8 + k) = V 6 k ∧ mT (8 + k) = V 7 k
def ux_mr (V : Nat → Nat → Int32) (T rT : Nat → Int32) : Prop := ux_rr V (fun k => rT (8 + k)) (T 8)
/-- a rule's signs leave one value -/
def ux_dp (sg : Nat → Int32) (t : Int32) : Prop := t.toInt = 0 ∨ dep (fun j => sg (700 + j)) t.toNatClampNeg = 1
def ux_RM (z : PV) (T jT bT sT oT fT hT aT mT rT sgW sgS : Nat → Int32) : Prop := ux_mg z.1 T jT bT sT ∧ ux_mq z.1 T oT fT hT aT mT ∧ ux_mr z.1 T rT ∧ T 9 = z.1 9 0 ∧ (ux_KM sgW (T 10) z.2.1 ∧ ux_dp sgW (T 10)) ∧ ux_KM sgS (T 11) z.2.2 ∧ ux_dp sgS (T 11)
def ux_RMf (bd : Int32) (z : PV) (T jT bT sT oT fT hT aT mT rT sgW sgS : Nat → Int32) : Prop := bd.toInt = 0 → ux_RM z T jT bT sT oT fT hT aT mT rT sgW sgS
section UXMG
variable {B : Nat → Nat} {V : Nat → Nat → Int32} {z : PV} {s : (Nat × Nat) × Nat × Nat × Nat × Nat × Nat × Nat} {T jT bT sT oT fT hT aT mT rT sgW sgS T' jT' bT' sT' oT' fT' hT' aT' mT' m2 rT' sgW' sgS' : Nat → Int32} {i x y w v so f1 f2 b0 b1 b2 n m : Int32} {r R : Nat × Nat} {p q k j N : Nat} {a : Int32}
theorem ux_8 (hi : i.toInt = 8 + n.toInt) (hn : 0 ≤ n.toInt) : i.toNatClampNeg = 8 + n.toInt.toNat := by show i.toInt.toNat = _; omega
theorem ux_mg_G {t : Int32} (h : ux_mg V T jT bT sT) (ht : t = T 6) (h0 : 0 ≤ t.toInt) (t3 : ux_t3 B q x y w) (hq : q = ux_te B p) (ej : jT' = upd jT i.toNatClampNeg x) (eb : bT' = upd bT i.toNatClampNeg y) (es : sT' = upd sT i.toNatClampNeg w) (hi : i.toInt = 8 + t.toInt) (hT : (T' 6).toInt = t.toInt + 1) : ux_mg (ux_vG B t.toInt.toNat p V) T' jT' bT' sT' := by
  subst ht
  obtain ⟨t1, -, t2, -, t3, -⟩ := t3
  subst hq
  intro k hk
  rw [ej, eb, es, ux_8 hi h0]
  by_cases e : k = (T 6).toInt.toNat
  · rw [e, pk_us, pk_us, pk_us, ux_vG_0, ux_vG_1, ux_vG_2]; exact ⟨t1, t2, t3⟩
  · rw [pk_un (by omega), pk_un (by omega), pk_un (by omega), ux_vG_k e, ux_vG_k e, ux_vG_k e]
    exact h k (by omega)
theorem ux_mq_P {t : Int32} (h : ux_mq V T oT fT hT aT mT) (ht : t = T 7) (h0 : 0 ≤ t.toInt) (t3 : ux_t3 B q x y w) (hq : q = ux_te B p) (eo : oT' = upd oT i.toNatClampNeg so) (hso : so = ux_if (ux_mw B p 2) 1 0) (ef : fT' = upd fT i.toNatClampNeg x) (eh : hT' = upd hT i.toNatClampNeg y) (ea : aT' = upd aT i.toNatClampNeg w) (em : ∀ k : Nat, mT' k = (if k = i.toNatClampNeg then v else mT k)) (hv : v = ux_vF B (ux_te B (ux_te B (ux_te B q)))) (hi : i.toInt = 8 + t.toInt) (hT7 : (T' 7).toInt = t.toInt + 1) : ux_mq (ux_vP B t.toInt.toNat p V) T' oT' fT' hT' aT' mT' := by
  subst ht
  obtain ⟨t1, -, t2, -, t3, -⟩ := t3
  subst hq
  intro k hk
  rw [eo, ef, eh, ea, em, ux_8 hi h0]
  by_cases e : k = (T 7).toInt.toNat
  · rw [e, pk_us, pk_us, pk_us, pk_us, if_pos rfl, ux_vP_3, ux_vP_4, ux_vP_5, ux_vP_6, ux_vP_7]; exact ⟨hso, t1, t2, t3, hv⟩
  · rw [pk_un (by omega), pk_un (by omega), pk_un (by omega), pk_un (by omega), if_neg (by omega), ux_vP_k e, ux_vP_k e, ux_vP_k e, ux_vP_k e, ux_vP_k e]
    exact h k (by omega)
theorem ux_em1 (e : mT' = upd mT i.toNatClampNeg v) : ∀ k : Nat, mT' k = (if k = i.toNatClampNeg then v else mT k) := fun k => by
  rw [e]
  by_cases h : k = i.toNatClampNeg
  · rw [if_pos h, h, pk_us]
  · rw [if_neg h, pk_un h]
theorem ux_em2 (e1 : m2 = upd mT i.toNatClampNeg w) (e : mT' = upd m2 i.toNatClampNeg v) : ∀ k : Nat, mT' k = (if k = i.toNatClampNeg then v else mT k) := fun k => by
  rw [ux_em1 e k]
  by_cases h : k = i.toNatClampNeg
  · rw [if_pos h, if_pos h]
  · rw [if_neg h, if_neg h, e1, pk_un h]
theorem ux_97w {f : Nat → Int32} {n' a' bg sp tk nb bd bp c : Int32} (h : ux_97 B s r c) (hs : ux_wh B s.1 2 x) (hM : ux_M f n' a' bg sp tk nb bd bp r) (h0 : bd.toInt = 0) : ux_wh B r 2 x := (ux_97a h (ux_M_1 hM h0)).2 ▸ hs
theorem ux_sor (hs : ux_wh B r 2 x) (h1 : x.toInt ≠ -1) (hr : r.1 = 0) : x = ux_if (ux_mw B r.2 2) 1 0 := by
  rcases hs with hs | ⟨h2, h3, h4⟩
  · exact absurd hs.1 h1
  · have h3 : x.toInt < 2 := h3
    have e0 : (0 : Int32).toInt = 0 := rfl
    have e1 : (1 : Int32).toInt = 1 := rfl
    rcases (show x.toInt = 0 ∨ x.toInt = 1 by omega) with e | e
    · rw [e] at h4
      have h4 : ux_mw B r.2 1 := h4.2
      exact (Int32.toInt_inj.mp (by omega) : x = 0).trans (ux_in (ux_mwn h4 (by decide) (by decide) (by decide))).symm
    · rw [e] at h4
      have h4 : ux_mw B r.2 2 := h4.2
      exact (Int32.toInt_inj.mp (by omega) : x = 1).trans (ux_ip h4).symm
/-- the family: as numberNow has it -/
theorem ux_fvy (hv : v.toInt = (ux_tn B R.2 : Int)) (hR : R.2 = ux_te B q) (hm : ux_mw B q 3) : v = ux_vF B q := by
  rw [hR] at hv
  exact (ux_nN_of hv).trans (ux_ip hm).symm
theorem ux_fvn (hm : ¬ ux_mw B q 3) : (-1 : Int32) = ux_vF B q := (ux_in hm).symm
/-! rains -/
theorem ux_rv_sM {rT rT' : Nat → Int32} (h : ux_rv B p f1 (fun k => rT (8 + k)) n r) (h1 : f2.toInt = 0 → f1.toInt = 0) (hn : 0 ≤ n.toInt) (hx : ux_nx B f2 x (9 : Int32) r) (he : f2.toInt = 0 → rT' = upd rT i.toNatClampNeg x) (hi : f2.toInt = 0 → i.toInt = 8 + n.toInt) {n' : Int32} (hn' : f2.toInt = 0 → n'.toInt = n.toInt + 1) : ux_rv B p f2 (fun k => rT' (8 + k)) n' (ux_bn r (ux_nm B (9 : Int32).toInt.toNat)) := by
  intro h2
  obtain ⟨a1, a2⟩ := h (h1 h2)
  obtain ⟨b1, b2, b3⟩ := ux_nx1 hx h2 (by decide)
  have e2 := hn' h2
  refine ⟨?_, fun k hk => ?_⟩
  · rw [b3, a1, show n'.toInt.toNat + 1 = (n.toInt.toNat + 1) + 1 by omega]; rfl
  · show rT' (8 + k) = _ ∧ iv (rT' (8 + k)) 0 9
    rw [he h2, ux_8 (hi h2) hn]
    by_cases q : k = n.toInt.toNat
    · rw [q, pk_us, b1, a1]
      refine ⟨rfl, ?_⟩
      rw [← a1, ← b1]; exact b2
    · rw [pk_un (by omega)]; exact a2 k (by omega)
theorem ux_rv_v (h : f1.toInt ≠ 0) {rn : Nat → Int32} : ux_rv B p f1 rn n r := fun w => absurd w h
theorem ux_cn_v (h : f1.toInt ≠ 0) : ux_cn B p f1 n r := fun w => absurd w h
theorem ux_rv_0M (hr : r.2 = ux_te B p) (hn : n.toInt = 0) {rn : Nat → Int32} : ux_rv B p f1 rn n r := fun _ => by
  refine ⟨?_, fun k hk => by omega⟩
  rw [hn, hr]; rfl
theorem ux_cn_0M (hr : r.2 = ux_te B p) (h1 : f1.toInt = 0 → r.1 = 0) (hn : n.toInt = 0) : ux_cn B p f1 n r := fun h => by
  have e : r = (0, ux_te B p) := by rw [← hr]; exact ux_r_z2 (h1 h)
  rw [e]
  exact ux_cn_0 (f1 := f1) hn h
theorem ux_cn_sM (h : ux_cn B p f1 n r) (h1 : f2.toInt = 0 → f1.toInt = 0) (hq : f2.toInt = 0 → r.1 = 0) (hc : ux_tk B r.2 = 2) (h8 : n.toInt < 8) {n' : Int32} (hn : f2.toInt = 0 → n'.toInt.toNat = n.toInt.toNat + 1) : ux_cn B p f2 n' (ux_bn r (ux_nm B (9 : Int32).toInt.toNat)) :=
  ux_cn_s h h1 (fun w => ⟨hq w, Or.inl hc⟩) (fun w => by
    rw [ux_bnO (hq w)]; unfold ux_r1; rw [if_neg (by omega)]; rfl) hn
theorem ux_mr_V {rT : Nat → Int32} (h : ux_rv B p f1 (fun k => rT (8 + k)) (T 8) r) (hcn : ux_cn B p f1 (T 8) r) (h1 : f1.toInt = 0) (hn : 0 ≤ (T 8).toInt) (hn8 : (T 8).toInt ≤ 8) (hc : ¬ ux_rc B (r, (T 8).toInt.toNat)) : ux_mr (ux_vR B p V) T rT := ux_rv_V h h1 hn hn8 (ux_cn_e hcn h1 hc)
/-! lines -/
theorem ux_RM_m (h : ux_RMf b1 z T jT bT sT oT fT hT aT mT rT sgW sgS) (hb : b2.toInt = 0 → b1.toInt = 0) : ux_RMf b2 z T jT bT sT oT fT hT aT mT rT sgW sgS := fun w => h (hb w)
theorem ux_RM_G (h : ux_RM z T jT bT sT oT fT hT aT mT rT sgW sgS) (hm : ux_cw B 0 s.1) (hg : (T 6).toInt.toNat = s.2.1) (hx : ∀ j : Nat, j ≠ 6 → T' j = T j) (hp : ∀ V : Nat → Nat → Int32, ux_mg V T jT bT sT → b1.toInt = 0 → ux_mg (ux_vG B (T 6).toInt.toNat s.1.2 V) T' jT' bT' sT') : ux_RMf b1 (ux_lv B s z) T' jT' bT' sT' oT fT hT aT mT rT sgW sgS := by
  intro w
  obtain ⟨a1, a2, a3, a4, a5, a6⟩ := h
  have b := hp z.1 a1 w
  rw [ux_lv0 hm.2, ← hg]
  refine ⟨b, fun k hk => ?_, ?_, ?_, by rw [hx 10 (by decide)]; exact a5, by rw [hx 11 (by decide)]; exact a6⟩
  · rw [hx 7 (by decide)] at hk
    show oT (8 + k) = ux_vG B (T 6).toInt.toNat s.1.2 z.1 3 k ∧ fT (8 + k) = ux_vG B (T 6).toInt.toNat s.1.2 z.1 4 k ∧ hT (8 + k) = ux_vG B (T 6).toInt.toNat s.1.2 z.1 5 k ∧ aT (8 + k) = ux_vG B (T 6).toInt.toNat s.1.2 z.1 6 k ∧ mT (8 + k) = ux_vG B (T 6).toInt.toNat s.1.2 z.1 7 k
    rw [ux_vG_i (by decide) (by decide) (by decide), ux_vG_i (by decide) (by decide) (by decide), ux_vG_i (by decide) (by decide) (by decide), ux_vG_i (by decide) (by decide) (by decide), ux_vG_i (by decide) (by decide) (by decide)]
    exact a2 k hk
  · unfold ux_mr
    rw [hx 8 (by decide)]
    obtain ⟨c1, c2, c3, c4⟩ := a3
    refine ⟨?_, c2, c3, fun k hk => ?_⟩
    · show _ = ux_vG B (T 6).toInt.toNat s.1.2 z.1 9 1
      rw [ux_vG_i (by decide) (by decide) (by decide)]; exact c1
    · show _ = ux_vG B (T 6).toInt.toNat s.1.2 z.1 8 k ∧ iv (ux_vG B (T 6).toInt.toNat s.1.2 z.1 8 k) 0 9
      rw [ux_vG_i (by decide) (by decide) (by decide)]; exact c4 k hk
  · rw [hx 9 (by decide)]
    show _ = ux_vG B (T 6).toInt.toNat s.1.2 z.1 9 0
    rw [ux_vG_i (by decide) (by decide) (by decide)]; exact a4
theorem ux_RM_P (h : ux_RM z T jT bT sT oT fT hT aT mT rT sgW sgS) (hm : ux_cw B 1 s.1 ∨ ux_cw B 2 s.1) (hg : (T 7).toInt.toNat = s.2.2.1) (hx : ∀ j : Nat, j ≠ 7 → T' j = T j) (hp : ∀ V : Nat → Nat → Int32, ux_mq V T oT fT hT aT mT → b1.toInt = 0 → ux_mq (ux_vP B (T 7).toInt.toNat s.1.2 V) T' oT' fT' hT' aT' mT') : ux_RMf b1 (ux_lv B s z) T' jT bT sT oT' fT' hT' aT' mT' rT sgW sgS := by
  intro w
  obtain ⟨a1, a2, a3, a4, a5, a6⟩ := h
  have b := hp z.1 a2 w
  rw [ux_lv1 (hm.elim (fun u => Or.inl u.2) (fun u => Or.inr u.2)), ← hg]
  refine ⟨fun k hk => ?_, b, ?_, ?_, by rw [hx 10 (by decide)]; exact a5, by rw [hx 11 (by decide)]; exact a6⟩
  · rw [hx 6 (by decide)] at hk
    show jT (8 + k) = ux_vP B (T 7).toInt.toNat s.1.2 z.1 0 k ∧ bT (8 + k) = ux_vP B (T 7).toInt.toNat s.1.2 z.1 1 k ∧ sT (8 + k) = ux_vP B (T 7).toInt.toNat s.1.2 z.1 2 k
    rw [ux_vP_i (by decide), ux_vP_i (by decide), ux_vP_i (by decide)]
    exact a1 k hk
  · unfold ux_mr
    rw [hx 8 (by decide)]
    obtain ⟨c1, c2, c3, c4⟩ := a3
    refine ⟨?_, c2, c3, fun k hk => ?_⟩
    · show _ = ux_vP B (T 7).toInt.toNat s.1.2 z.1 9 1
      rw [ux_vP_i (by decide)]; exact c1
    · show _ = ux_vP B (T 7).toInt.toNat s.1.2 z.1 8 k ∧ iv (ux_vP B (T 7).toInt.toNat s.1.2 z.1 8 k) 0 9
      rw [ux_vP_i (by decide)]; exact c4 k hk
  · rw [hx 9 (by decide)]
    show _ = ux_vP B (T 7).toInt.toNat s.1.2 z.1 9 0
    rw [ux_vP_i (by decide)]; exact a4
theorem ux_RM_R (h : ux_RM z T jT bT sT oT fT hT aT mT rT sgW sgS) (hm : ux_cw B 10 s.1) (hx : ∀ j : Nat, j ≠ 8 → T' j = T j) (hp : ∀ V : Nat → Nat → Int32, b1.toInt = 0 → ux_mr (ux_vR B s.1.2 V) T' rT') : ux_RMf b1 (ux_lv B s z) T' jT bT sT oT fT hT aT mT rT' sgW sgS := by
  intro w
  obtain ⟨a1, a2, a3, a4, a5, a6⟩ := h
  rw [ux_lv10 hm.2]
  refine ⟨fun k hk => ?_, fun k hk => ?_, hp z.1 w, ?_, by rw [hx 10 (by decide)]; exact a5, by rw [hx 11 (by decide)]; exact a6⟩
  · rw [hx 6 (by decide)] at hk
    show jT (8 + k) = ux_vR B s.1.2 z.1 0 k ∧ bT (8 + k) = ux_vR B s.1.2 z.1 1 k ∧ sT (8 + k) = ux_vR B s.1.2 z.1 2 k
    rw [ux_vR_i (by decide), ux_vR_i (by decide), ux_vR_i (by decide)]
    exact a1 k hk
  · rw [hx 7 (by decide)] at hk
    show oT (8 + k) = ux_vR B s.1.2 z.1 3 k ∧ fT (8 + k) = ux_vR B s.1.2 z.1 4 k ∧ hT (8 + k) = ux_vR B s.1.2 z.1 5 k ∧ aT (8 + k) = ux_vR B s.1.2 z.1 6 k ∧ mT (8 + k) = ux_vR B s.1.2 z.1 7 k
    rw [ux_vR_i (by decide), ux_vR_i (by decide), ux_vR_i (by decide), ux_vR_i (by decide), ux_vR_i (by decide)]
    exact a2 k hk
  · rw [hx 9 (by decide)]
    show _ = ux_vR B s.1.2 z.1 9 0
    rw [ux_vR_9]; exact a4
theorem ux_RM_C (h : ux_RM z T jT bT sT oT fT hT aT mT rT sgW sgS) (hm : ux_cw B 4 s.1) (hx : ∀ j : Nat, j ≠ 9 → T' j = T j) (hp : ux_cc B s.1.2 b1 (T' 9)) : ux_RMf b1 (ux_lv B s z) T' jT bT sT oT fT hT aT mT rT sgW sgS := by
  intro w
  obtain ⟨a1, a2, a3, a4, a5, a6⟩ := h
  rw [ux_lv4 hm.2]
  refine ⟨fun k hk => ?_, fun k hk => ?_, ?_, ?_, by rw [hx 10 (by decide)]; exact a5, by rw [hx 11 (by decide)]; exact a6⟩
  · rw [hx 6 (by decide)] at hk
    show jT (8 + k) = ux_vC B s.1.2 z.1 0 k ∧ bT (8 + k) = ux_vC B s.1.2 z.1 1 k ∧ sT (8 + k) = ux_vC B s.1.2 z.1 2 k
    rw [ux_vC_i (by omega), ux_vC_i (by omega), ux_vC_i (by omega)]
    exact a1 k hk
  · rw [hx 7 (by decide)] at hk
    show oT (8 + k) = ux_vC B s.1.2 z.1 3 k ∧ fT (8 + k) = ux_vC B s.1.2 z.1 4 k ∧ hT (8 + k) = ux_vC B s.1.2 z.1 5 k ∧ aT (8 + k) = ux_vC B s.1.2 z.1 6 k ∧ mT (8 + k) = ux_vC B s.1.2 z.1 7 k
    rw [ux_vC_i (by omega), ux_vC_i (by omega), ux_vC_i (by omega), ux_vC_i (by omega), ux_vC_i (by omega)]
    exact a2 k hk
  · unfold ux_mr
    rw [hx 8 (by decide)]
    obtain ⟨c1, c2, c3, c4⟩ := a3
    refine ⟨?_, c2, c3, fun k hk => ?_⟩
    · show _ = ux_vC B s.1.2 z.1 9 1
      rw [ux_vC_i (by omega)]; exact c1
    · show _ = ux_vC B s.1.2 z.1 8 k ∧ iv (ux_vC B s.1.2 z.1 8 k) 0 9
      rw [ux_vC_i (by omega)]; exact c4 k hk
  · rw [(hp w).1]; exact (show ux_vC B s.1.2 z.1 9 0 = ux_nN B (ux_te B s.1.2) from ux_u2s).symm
theorem ux_RM_W (h : ux_RM z T jT bT sT oT fT hT aT mT rT sgW sgS) (hm : ux_cw B 5 s.1) (hx : ∀ j : Nat, j ≠ 10 → T' j = T j) (hp : ux_KMf b1 sgW' (T' 10) (uc_ex B ux_VW ux_WW 6 (ux_te B s.1.2) [])) (hq : wq b1 sgW' (T' 10) 1) : ux_RMf b1 (ux_lv B s z) T' jT bT sT oT fT hT aT mT rT sgW' sgS := by
  intro w
  obtain ⟨a1, a2, a3, a4, a5, a6⟩ := h
  rw [ux_lv5 hm.2]
  refine ⟨fun k hk => ?_, fun k hk => ?_, ?_, ?_, ⟨hp w, Or.inr (hq w).2⟩, by rw [hx 11 (by decide)]; exact a6⟩
  · rw [hx 6 (by decide)] at hk; exact a1 k hk
  · rw [hx 7 (by decide)] at hk; exact a2 k hk
  · unfold ux_mr; rw [hx 8 (by decide)]; exact a3
  · rw [hx 9 (by decide)]; exact a4
theorem ux_RM_S (h : ux_RM z T jT bT sT oT fT hT aT mT rT sgW sgS) (hm : ux_cw B 6 s.1) (hx : ∀ j : Nat, j ≠ 11 → T' j = T j) (hp : ux_KMf b1 sgS' (T' 11) (uc_ex B ux_VS ux_WS 6 (ux_te B s.1.2) [])) (hq : wq b1 sgS' (T' 11) 1) : ux_RMf b1 (ux_lv B s z) T' jT bT sT oT fT hT aT mT rT sgW sgS' := by
  intro w
  obtain ⟨a1, a2, a3, a4, a5, a6⟩ := h
  rw [ux_lv6 hm.2]
  refine ⟨fun k hk => ?_, fun k hk => ?_, ?_, ?_, by rw [hx 10 (by decide)]; exact a5, hp w, Or.inr (hq w).2⟩
  · rw [hx 6 (by decide)] at hk; exact a1 k hk
  · rw [hx 7 (by decide)] at hk; exact a2 k hk
  · unfold ux_mr; rw [hx 8 (by decide)]; exact a3
  · rw [hx 9 (by decide)]; exact a4
theorem ux_RM_v (h : b1.toInt ≠ 0) : ux_RMf b1 z T jT bT sT oT fT hT aT mT rT sgW sgS := fun w => absurd w h
theorem ux_RM_0 (h6 : (T 6).toInt = 0) (h7 : (T 7).toInt = 0) (h8 : (T 8).toInt = 0) (h9 : (T 9).toInt = 30) (h10 : (T 10).toInt = 0) (h11 : (T 11).toInt = 0) : ux_RMf b1 ux_V0 T jT bT sT oT fT hT aT mT rT sgW sgS := by
  intro _
  have e8 : T 8 = 0 := Int32.toInt_inj.mp h8
  have e9 : T 9 = 30 := Int32.toInt_inj.mp h9
  refine ⟨fun k hk => by omega, fun k hk => by omega, ⟨by rw [e8]; rfl, by omega, by omega, fun k hk => by omega⟩, by rw [e9]; rfl, ⟨⟨by rw [h10]; rfl, fun k hk => by omega⟩, Or.inl h10⟩, ⟨by rw [h11]; rfl, fun k hk => by omega⟩, Or.inl h11⟩
end UXMG
