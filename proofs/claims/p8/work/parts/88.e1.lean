/-! the worlds outside, at the law's entry -/
section EN
variable {args : Array Value} {s : State} {A : Nat → Prop}
theorem ev_of {t : Term} {nm : String} (hex : (Cond.exactly t nm).before args s = true) : ∃ a : Nat, t.eval args s none [] s = some (.ref a) := by
  obtain ⟨a, c, cA, kA, q1, -⟩ := Cond.exactly_spec (args := args) (first := s) (o := none) (s := s) (idx := []) (t := t) (cls := nm) hex
  exact ⟨a, q1⟩
theorem e_Nc (hn : nrAll args s) : va_Nc xI xN s := va_Nc.of (in_nr_2 hn (.not (.castable "java/lang/IllegalArgumentException" "java/util/NoSuchElementException")) (by decide +kernel))
theorem e_XS (hts : ∀ w ∈ lw_tbl, w.before args s = true) (hn : nrAll args s) : XS s := by
  refine ⟨?_, va_Nw.of rfl (hts (.castable xI xI) (List.mem_of_getElem? (i := 646) (by decide +kernel))), va_Nw.of rfl (hts (.castable xN xN) (List.mem_of_getElem? (i := 947) (by decide +kernel))), va_Nw.of rfl (hts (.declares (Bundle.initS "java/lang/RuntimeException")) (List.mem_of_getElem? (i := 648) (by decide +kernel))), va_Nw.of rfl (hts (.declares (Bundle.initS "java/lang/Exception")) (List.mem_of_getElem? (i := 650) (by decide +kernel))), va_Nw.of rfl (hts (.declares (Bundle.initS Bundle.tN)) (List.mem_of_getElem? (i := 652) (by decide +kernel)))⟩
  refine List.forall_mem_cons.mpr ⟨?_, ?_⟩
  · obtain ⟨a, ha⟩ := ev_of (in_tx_G_92 hn (.exactly (.string "GutterSeats" 92) "java/lang/String") (List.mem_append_left _ (List.mem_of_getElem? (i := 0) rfl)))
    exact ⟨a, vk_R.of (hts (.stringRef RX11 92 "the tape has not so many bytes") (List.mem_of_getElem? (i := 684) (by decide +kernel))) ha⟩
  refine List.forall_mem_cons.mpr ⟨?_, ?_⟩
  · obtain ⟨a, ha⟩ := ev_of (in_tx_G_175 hn (.exactly (.string "GutterSeats" 175) "java/lang/String") (List.mem_append_left _ (List.mem_of_getElem? (i := 0) rfl)))
    exact ⟨a, vk_R.of (hts (.stringRef RX11 175 "no such count") (List.mem_of_getElem? (i := 954) (by decide +kernel))) ha⟩
  refine List.forall_mem_cons.mpr ⟨?_, ?_⟩
  · obtain ⟨a, ha⟩ := ev_of (in_tx_G_196 hn (.exactly (.string "GutterSeats" 196) "java/lang/String") (List.mem_append_left _ (List.mem_of_getElem? (i := 0) rfl)))
    exact ⟨a, vk_R.of (hts (.stringRef RX11 196 "no such thing of a gargoyle") (List.mem_of_getElem? (i := 981) (by decide +kernel))) ha⟩
  refine List.forall_mem_cons.mpr ⟨?_, ?_⟩
  · obtain ⟨a, ha⟩ := ev_of (in_tx_G_216 hn (.exactly (.string "GutterSeats" 216) "java/lang/String") (List.mem_append_left _ (List.mem_of_getElem? (i := 0) rfl)))
    exact ⟨a, vk_R.of (hts (.stringRef RX11 216 "no such thing of a person") (List.mem_of_getElem? (i := 995) (by decide +kernel))) ha⟩
  refine List.forall_mem_cons.mpr ⟨?_, ?_⟩
  · obtain ⟨a, ha⟩ := ev_of (in_tx_G_305 hn (.exactly (.string "GutterSeats" 305) "java/lang/String") (List.mem_append_left _ (List.mem_of_getElem? (i := 0) rfl)))
    exact ⟨a, vk_R.of (hts (.stringRef RX11 305 "no such years or tenths") (List.mem_of_getElem? (i := 1244) (by decide +kernel))) ha⟩
  refine List.forall_mem_cons.mpr ⟨?_, ?_⟩
  · obtain ⟨a, ha⟩ := ev_of (in_tx_G_315 hn (.exactly (.string "GutterSeats" 315) "java/lang/String") (List.mem_append_left _ (List.mem_of_getElem? (i := 0) rfl)))
    exact ⟨a, vk_R.of (hts (.stringRef RX11 315 "both are one") (List.mem_of_getElem? (i := 1260) (by decide +kernel))) ha⟩
  refine List.forall_mem_cons.mpr ⟨?_, ?_⟩
  · obtain ⟨a, ha⟩ := ev_of (in_tx_G_337 hn (.exactly (.string "GutterSeats" 337) "java/lang/String") (List.mem_append_left _ (List.mem_of_getElem? (i := 0) rfl)))
    exact ⟨a, vk_R.of (hts (.stringRef RX11 337 "no such gargoyle") (List.mem_of_getElem? (i := 972) (by decide +kernel))) ha⟩
  refine List.forall_mem_cons.mpr ⟨?_, ?_⟩
  · obtain ⟨a, ha⟩ := ev_of (in_tx_G_339 hn (.exactly (.string "GutterSeats" 339) "java/lang/String") (List.mem_append_left _ (List.mem_of_getElem? (i := 0) rfl)))
    exact ⟨a, vk_R.of (hts (.stringRef RX11 339 "no such person") (List.mem_of_getElem? (i := 993) (by decide +kernel))) ha⟩
  refine List.forall_mem_cons.mpr ⟨?_, ?_⟩
  · obtain ⟨a, ha⟩ := ev_of (in_tx_G_341 hn (.exactly (.string "GutterSeats" 341) "java/lang/String") (List.mem_append_left _ (List.mem_of_getElem? (i := 0) rfl)))
    exact ⟨a, vk_R.of (hts (.stringRef RX11 341 "no such what") (List.mem_of_getElem? (i := 1038) (by decide +kernel))) ha⟩
  refine List.forall_mem_cons.mpr ⟨?_, ?_⟩
  · obtain ⟨a, ha⟩ := ev_of (in_tx_G_343 hn (.exactly (.string "GutterSeats" 343) "java/lang/String") (List.mem_append_left _ (List.mem_of_getElem? (i := 0) rfl)))
    exact ⟨a, vk_R.of (hts (.stringRef RX11 343 "not so many years") (List.mem_of_getElem? (i := 1046) (by decide +kernel))) ha⟩
  exact fun _ h => by cases h
theorem e_XE (hts : ∀ w ∈ lw_tbl, w.before args s = true) (hn : nrAll args s) (hA : ∀ a : Nat, a < s.heap.size → ¬ A a) : XE A s s.heap := ⟨vx_Zqof (hts (.laysStatic "java/lang/Throwable" "UNASSIGNED_STACK" "[Ljava/lang/StackTraceElement;") (List.mem_of_getElem? (i := 671) (by decide +kernel))) (hts (.initialized "java/lang/Throwable") (List.mem_of_getElem? (i := 121) (by decide +kernel))) (in_nr_0 hn (.isRef (.static "java/lang/Throwable" "UNASSIGNED_STACK" "[Ljava/lang/StackTraceElement;")) (by decide +kernel)) hA, vx_Zqof (hts (.laysStatic "java/lang/Throwable" "SUPPRESSED_SENTINEL" "Ljava/util/List;") (List.mem_of_getElem? (i := 673) (by decide +kernel))) (hts (.initialized "java/lang/Throwable") (List.mem_of_getElem? (i := 121) (by decide +kernel))) (in_nr_0 hn (.isRef (.static "java/lang/Throwable" "SUPPRESSED_SENTINEL" "Ljava/util/List;")) (by decide +kernel)) hA, e_XS hts hn⟩
theorem e_SB (hts : ∀ w ∈ lw_tbl, w.before args s = true) (hn : nrAll args s) (hA : ∀ a : Nat, a < s.heap.size → ¬ A a) : SB A s s.heap := ⟨va_Zof (hts (.laysStatic "java/lang/String" "COMPACT_STRINGS" "Z") (List.mem_of_getElem? (i := 750) (by decide +kernel))) (hts (.initialized "java/lang/String") (List.mem_of_getElem? (i := 126) (by decide +kernel))) (va_eqt (in_nr_0 hn (.eq (.static "java/lang/String" "COMPACT_STRINGS" "Z") (.int 1)) (by decide +kernel))) hA, va_Zqof (hts (.laysStatic "jdk/internal/util/Preconditions" "SIOOBE_FORMATTER" "Ljava/util/function/BiFunction;") (List.mem_of_getElem? (i := 766) (by decide +kernel))) (hts (.initialized "jdk/internal/util/Preconditions") (List.mem_of_getElem? (i := 128) (by decide +kernel))) (in_nr_0 hn (.isRef (.static "jdk/internal/util/Preconditions" "SIOOBE_FORMATTER" "Ljava/util/function/BiFunction;")) (by decide +kernel)) hA⟩
abbrev wdK : List Nat := [92, 98, 101, 104, 107, 110, 113, 116, 119, 122, 125, 130, 133, 136, 139, 142, 145]
theorem en_x : ∀ i : Nat, i < 17 → (Cond.exactly (.static "GutterSeats$Word" (wdN.getD i "") "LGutterSeats$Word;") "GutterSeats$Word") ∈ nr_1 := by decide +kernel
theorem en_f : ∀ q ∈ wdF, ∀ i : Nat, i < 17 → (Cond.eq (.field (.static "GutterSeats$Word" (wdN.getD i "") "LGutterSeats$Word;") q.1 q.2.1 q.2.2.1) (.int (q.2.2.2.getD i 0))) ∈ nr_1 := by decide +kernel
theorem en_d0 : ∀ j : Nat, j < 17 → 0 ≠ j → (Cond.not (.eq (.static "GutterSeats$Word" (wdN.getD 0 "") "LGutterSeats$Word;") (.static "GutterSeats$Word" (wdN.getD j "") "LGutterSeats$Word;"))) ∈ nr_1 ∨ (Cond.not (.eq (.static "GutterSeats$Word" (wdN.getD j "") "LGutterSeats$Word;") (.static "GutterSeats$Word" (wdN.getD 0 "") "LGutterSeats$Word;"))) ∈ nr_1 := by
  intro j hj hij
  rcases (show j = 0 ∨ j = 1 ∨ j = 2 ∨ j = 3 ∨ j = 4 ∨ j = 5 ∨ j = 6 ∨ j = 7 ∨ j = 8 ∨ j = 9 ∨ j = 10 ∨ j = 11 ∨ j = 12 ∨ j = 13 ∨ j = 14 ∨ j = 15 ∨ j = 16 by omega) with rfl | rfl | rfl | rfl | rfl | rfl | rfl | rfl | rfl | rfl | rfl | rfl | rfl | rfl | rfl | rfl | rfl
  · exact absurd rfl hij
  · exact Or.inl (List.mem_of_getElem? (i := 12) (by decide +kernel))
  · exact Or.inl (List.mem_of_getElem? (i := 19) (by decide +kernel))
  · exact Or.inl (List.mem_of_getElem? (i := 27) (by decide +kernel))
  · exact Or.inl (List.mem_of_getElem? (i := 46) (by decide +kernel))
  · exact Or.inl (List.mem_of_getElem? (i := 57) (by decide +kernel))
  · exact Or.inl (List.mem_of_getElem? (i := 69) (by decide +kernel))
  · exact Or.inl (List.mem_of_getElem? (i := 111) (by decide +kernel))
  · exact Or.inl (List.mem_of_getElem? (i := 96) (by decide +kernel))
  · exact Or.inl (List.mem_of_getElem? (i := 82) (by decide +kernel))
  · exact Or.inl (List.mem_of_getElem? (i := 36) (by decide +kernel))
  · exact Or.inl (List.mem_of_getElem? (i := 127) (by decide +kernel))
  · exact Or.inl (List.mem_of_getElem? (i := 144) (by decide +kernel))
  · exact Or.inl (List.mem_of_getElem? (i := 162) (by decide +kernel))
  · exact Or.inl (List.mem_of_getElem? (i := 181) (by decide +kernel))
  · exact Or.inl (List.mem_of_getElem? (i := 201) (by decide +kernel))
  · exact Or.inl (List.mem_of_getElem? (i := 222) (by decide +kernel))
theorem en_d1 : ∀ j : Nat, j < 17 → 1 ≠ j → (Cond.not (.eq (.static "GutterSeats$Word" (wdN.getD 1 "") "LGutterSeats$Word;") (.static "GutterSeats$Word" (wdN.getD j "") "LGutterSeats$Word;"))) ∈ nr_1 ∨ (Cond.not (.eq (.static "GutterSeats$Word" (wdN.getD j "") "LGutterSeats$Word;") (.static "GutterSeats$Word" (wdN.getD 1 "") "LGutterSeats$Word;"))) ∈ nr_1 := by
  intro j hj hij
  rcases (show j = 0 ∨ j = 1 ∨ j = 2 ∨ j = 3 ∨ j = 4 ∨ j = 5 ∨ j = 6 ∨ j = 7 ∨ j = 8 ∨ j = 9 ∨ j = 10 ∨ j = 11 ∨ j = 12 ∨ j = 13 ∨ j = 14 ∨ j = 15 ∨ j = 16 by omega) with rfl | rfl | rfl | rfl | rfl | rfl | rfl | rfl | rfl | rfl | rfl | rfl | rfl | rfl | rfl | rfl | rfl
  · exact Or.inr (List.mem_of_getElem? (i := 12) (by decide +kernel))
  · exact absurd rfl hij
  · exact Or.inl (List.mem_of_getElem? (i := 20) (by decide +kernel))
  · exact Or.inl (List.mem_of_getElem? (i := 28) (by decide +kernel))
  · exact Or.inl (List.mem_of_getElem? (i := 47) (by decide +kernel))
  · exact Or.inl (List.mem_of_getElem? (i := 58) (by decide +kernel))
  · exact Or.inl (List.mem_of_getElem? (i := 70) (by decide +kernel))
  · exact Or.inl (List.mem_of_getElem? (i := 112) (by decide +kernel))
  · exact Or.inl (List.mem_of_getElem? (i := 97) (by decide +kernel))
  · exact Or.inl (List.mem_of_getElem? (i := 83) (by decide +kernel))
  · exact Or.inl (List.mem_of_getElem? (i := 37) (by decide +kernel))
  · exact Or.inl (List.mem_of_getElem? (i := 128) (by decide +kernel))
  · exact Or.inl (List.mem_of_getElem? (i := 145) (by decide +kernel))
  · exact Or.inl (List.mem_of_getElem? (i := 163) (by decide +kernel))
  · exact Or.inl (List.mem_of_getElem? (i := 182) (by decide +kernel))
  · exact Or.inl (List.mem_of_getElem? (i := 202) (by decide +kernel))
  · exact Or.inl (List.mem_of_getElem? (i := 223) (by decide +kernel))
theorem en_d2 : ∀ j : Nat, j < 17 → 2 ≠ j → (Cond.not (.eq (.static "GutterSeats$Word" (wdN.getD 2 "") "LGutterSeats$Word;") (.static "GutterSeats$Word" (wdN.getD j "") "LGutterSeats$Word;"))) ∈ nr_1 ∨ (Cond.not (.eq (.static "GutterSeats$Word" (wdN.getD j "") "LGutterSeats$Word;") (.static "GutterSeats$Word" (wdN.getD 2 "") "LGutterSeats$Word;"))) ∈ nr_1 := by
  intro j hj hij
  rcases (show j = 0 ∨ j = 1 ∨ j = 2 ∨ j = 3 ∨ j = 4 ∨ j = 5 ∨ j = 6 ∨ j = 7 ∨ j = 8 ∨ j = 9 ∨ j = 10 ∨ j = 11 ∨ j = 12 ∨ j = 13 ∨ j = 14 ∨ j = 15 ∨ j = 16 by omega) with rfl | rfl | rfl | rfl | rfl | rfl | rfl | rfl | rfl | rfl | rfl | rfl | rfl | rfl | rfl | rfl | rfl
  · exact Or.inr (List.mem_of_getElem? (i := 19) (by decide +kernel))
  · exact Or.inr (List.mem_of_getElem? (i := 20) (by decide +kernel))
  · exact absurd rfl hij
  · exact Or.inl (List.mem_of_getElem? (i := 29) (by decide +kernel))
  · exact Or.inl (List.mem_of_getElem? (i := 48) (by decide +kernel))
  · exact Or.inl (List.mem_of_getElem? (i := 59) (by decide +kernel))
  · exact Or.inl (List.mem_of_getElem? (i := 71) (by decide +kernel))
  · exact Or.inl (List.mem_of_getElem? (i := 113) (by decide +kernel))
  · exact Or.inl (List.mem_of_getElem? (i := 98) (by decide +kernel))
  · exact Or.inl (List.mem_of_getElem? (i := 84) (by decide +kernel))
  · exact Or.inl (List.mem_of_getElem? (i := 38) (by decide +kernel))
  · exact Or.inl (List.mem_of_getElem? (i := 129) (by decide +kernel))
  · exact Or.inl (List.mem_of_getElem? (i := 146) (by decide +kernel))
  · exact Or.inl (List.mem_of_getElem? (i := 164) (by decide +kernel))
  · exact Or.inl (List.mem_of_getElem? (i := 183) (by decide +kernel))
  · exact Or.inl (List.mem_of_getElem? (i := 203) (by decide +kernel))
  · exact Or.inl (List.mem_of_getElem? (i := 224) (by decide +kernel))
theorem en_d3 : ∀ j : Nat, j < 17 → 3 ≠ j → (Cond.not (.eq (.static "GutterSeats$Word" (wdN.getD 3 "") "LGutterSeats$Word;") (.static "GutterSeats$Word" (wdN.getD j "") "LGutterSeats$Word;"))) ∈ nr_1 ∨ (Cond.not (.eq (.static "GutterSeats$Word" (wdN.getD j "") "LGutterSeats$Word;") (.static "GutterSeats$Word" (wdN.getD 3 "") "LGutterSeats$Word;"))) ∈ nr_1 := by
  intro j hj hij
  rcases (show j = 0 ∨ j = 1 ∨ j = 2 ∨ j = 3 ∨ j = 4 ∨ j = 5 ∨ j = 6 ∨ j = 7 ∨ j = 8 ∨ j = 9 ∨ j = 10 ∨ j = 11 ∨ j = 12 ∨ j = 13 ∨ j = 14 ∨ j = 15 ∨ j = 16 by omega) with rfl | rfl | rfl | rfl | rfl | rfl | rfl | rfl | rfl | rfl | rfl | rfl | rfl | rfl | rfl | rfl | rfl
  · exact Or.inr (List.mem_of_getElem? (i := 27) (by decide +kernel))
  · exact Or.inr (List.mem_of_getElem? (i := 28) (by decide +kernel))
  · exact Or.inr (List.mem_of_getElem? (i := 29) (by decide +kernel))
  · exact absurd rfl hij
  · exact Or.inl (List.mem_of_getElem? (i := 49) (by decide +kernel))
  · exact Or.inl (List.mem_of_getElem? (i := 60) (by decide +kernel))
  · exact Or.inl (List.mem_of_getElem? (i := 72) (by decide +kernel))
  · exact Or.inl (List.mem_of_getElem? (i := 114) (by decide +kernel))
  · exact Or.inl (List.mem_of_getElem? (i := 99) (by decide +kernel))
  · exact Or.inl (List.mem_of_getElem? (i := 85) (by decide +kernel))
  · exact Or.inl (List.mem_of_getElem? (i := 39) (by decide +kernel))
  · exact Or.inl (List.mem_of_getElem? (i := 130) (by decide +kernel))
  · exact Or.inl (List.mem_of_getElem? (i := 147) (by decide +kernel))
  · exact Or.inl (List.mem_of_getElem? (i := 165) (by decide +kernel))
  · exact Or.inl (List.mem_of_getElem? (i := 184) (by decide +kernel))
  · exact Or.inl (List.mem_of_getElem? (i := 204) (by decide +kernel))
  · exact Or.inl (List.mem_of_getElem? (i := 225) (by decide +kernel))
theorem en_d4 : ∀ j : Nat, j < 17 → 4 ≠ j → (Cond.not (.eq (.static "GutterSeats$Word" (wdN.getD 4 "") "LGutterSeats$Word;") (.static "GutterSeats$Word" (wdN.getD j "") "LGutterSeats$Word;"))) ∈ nr_1 ∨ (Cond.not (.eq (.static "GutterSeats$Word" (wdN.getD j "") "LGutterSeats$Word;") (.static "GutterSeats$Word" (wdN.getD 4 "") "LGutterSeats$Word;"))) ∈ nr_1 := by
  intro j hj hij
  rcases (show j = 0 ∨ j = 1 ∨ j = 2 ∨ j = 3 ∨ j = 4 ∨ j = 5 ∨ j = 6 ∨ j = 7 ∨ j = 8 ∨ j = 9 ∨ j = 10 ∨ j = 11 ∨ j = 12 ∨ j = 13 ∨ j = 14 ∨ j = 15 ∨ j = 16 by omega) with rfl | rfl | rfl | rfl | rfl | rfl | rfl | rfl | rfl | rfl | rfl | rfl | rfl | rfl | rfl | rfl | rfl
  · exact Or.inr (List.mem_of_getElem? (i := 46) (by decide +kernel))
  · exact Or.inr (List.mem_of_getElem? (i := 47) (by decide +kernel))
  · exact Or.inr (List.mem_of_getElem? (i := 48) (by decide +kernel))
  · exact Or.inr (List.mem_of_getElem? (i := 49) (by decide +kernel))
  · exact absurd rfl hij
  · exact Or.inl (List.mem_of_getElem? (i := 62) (by decide +kernel))
  · exact Or.inl (List.mem_of_getElem? (i := 74) (by decide +kernel))
  · exact Or.inl (List.mem_of_getElem? (i := 116) (by decide +kernel))
  · exact Or.inl (List.mem_of_getElem? (i := 101) (by decide +kernel))
  · exact Or.inl (List.mem_of_getElem? (i := 87) (by decide +kernel))
  · exact Or.inr (List.mem_of_getElem? (i := 50) (by decide +kernel))
  · exact Or.inl (List.mem_of_getElem? (i := 132) (by decide +kernel))
  · exact Or.inl (List.mem_of_getElem? (i := 149) (by decide +kernel))
  · exact Or.inl (List.mem_of_getElem? (i := 167) (by decide +kernel))
  · exact Or.inl (List.mem_of_getElem? (i := 186) (by decide +kernel))
  · exact Or.inl (List.mem_of_getElem? (i := 206) (by decide +kernel))
  · exact Or.inl (List.mem_of_getElem? (i := 227) (by decide +kernel))
theorem en_d5 : ∀ j : Nat, j < 17 → 5 ≠ j → (Cond.not (.eq (.static "GutterSeats$Word" (wdN.getD 5 "") "LGutterSeats$Word;") (.static "GutterSeats$Word" (wdN.getD j "") "LGutterSeats$Word;"))) ∈ nr_1 ∨ (Cond.not (.eq (.static "GutterSeats$Word" (wdN.getD j "") "LGutterSeats$Word;") (.static "GutterSeats$Word" (wdN.getD 5 "") "LGutterSeats$Word;"))) ∈ nr_1 := by
  intro j hj hij
  rcases (show j = 0 ∨ j = 1 ∨ j = 2 ∨ j = 3 ∨ j = 4 ∨ j = 5 ∨ j = 6 ∨ j = 7 ∨ j = 8 ∨ j = 9 ∨ j = 10 ∨ j = 11 ∨ j = 12 ∨ j = 13 ∨ j = 14 ∨ j = 15 ∨ j = 16 by omega) with rfl | rfl | rfl | rfl | rfl | rfl | rfl | rfl | rfl | rfl | rfl | rfl | rfl | rfl | rfl | rfl | rfl
  · exact Or.inr (List.mem_of_getElem? (i := 57) (by decide +kernel))
  · exact Or.inr (List.mem_of_getElem? (i := 58) (by decide +kernel))
  · exact Or.inr (List.mem_of_getElem? (i := 59) (by decide +kernel))
  · exact Or.inr (List.mem_of_getElem? (i := 60) (by decide +kernel))
  · exact Or.inr (List.mem_of_getElem? (i := 62) (by decide +kernel))
  · exact absurd rfl hij
  · exact Or.inl (List.mem_of_getElem? (i := 75) (by decide +kernel))
  · exact Or.inl (List.mem_of_getElem? (i := 117) (by decide +kernel))
  · exact Or.inl (List.mem_of_getElem? (i := 102) (by decide +kernel))
  · exact Or.inl (List.mem_of_getElem? (i := 88) (by decide +kernel))
  · exact Or.inr (List.mem_of_getElem? (i := 61) (by decide +kernel))
  · exact Or.inl (List.mem_of_getElem? (i := 133) (by decide +kernel))
  · exact Or.inl (List.mem_of_getElem? (i := 150) (by decide +kernel))
  · exact Or.inl (List.mem_of_getElem? (i := 168) (by decide +kernel))
  · exact Or.inl (List.mem_of_getElem? (i := 187) (by decide +kernel))
  · exact Or.inl (List.mem_of_getElem? (i := 207) (by decide +kernel))
  · exact Or.inl (List.mem_of_getElem? (i := 228) (by decide +kernel))
theorem en_d6 : ∀ j : Nat, j < 17 → 6 ≠ j → (Cond.not (.eq (.static "GutterSeats$Word" (wdN.getD 6 "") "LGutterSeats$Word;") (.static "GutterSeats$Word" (wdN.getD j "") "LGutterSeats$Word;"))) ∈ nr_1 ∨ (Cond.not (.eq (.static "GutterSeats$Word" (wdN.getD j "") "LGutterSeats$Word;") (.static "GutterSeats$Word" (wdN.getD 6 "") "LGutterSeats$Word;"))) ∈ nr_1 := by
  intro j hj hij
  rcases (show j = 0 ∨ j = 1 ∨ j = 2 ∨ j = 3 ∨ j = 4 ∨ j = 5 ∨ j = 6 ∨ j = 7 ∨ j = 8 ∨ j = 9 ∨ j = 10 ∨ j = 11 ∨ j = 12 ∨ j = 13 ∨ j = 14 ∨ j = 15 ∨ j = 16 by omega) with rfl | rfl | rfl | rfl | rfl | rfl | rfl | rfl | rfl | rfl | rfl | rfl | rfl | rfl | rfl | rfl | rfl
  · exact Or.inr (List.mem_of_getElem? (i := 69) (by decide +kernel))
  · exact Or.inr (List.mem_of_getElem? (i := 70) (by decide +kernel))
  · exact Or.inr (List.mem_of_getElem? (i := 71) (by decide +kernel))
  · exact Or.inr (List.mem_of_getElem? (i := 72) (by decide +kernel))
  · exact Or.inr (List.mem_of_getElem? (i := 74) (by decide +kernel))
  · exact Or.inr (List.mem_of_getElem? (i := 75) (by decide +kernel))
  · exact absurd rfl hij
  · exact Or.inl (List.mem_of_getElem? (i := 118) (by decide +kernel))
  · exact Or.inl (List.mem_of_getElem? (i := 103) (by decide +kernel))
  · exact Or.inl (List.mem_of_getElem? (i := 89) (by decide +kernel))
  · exact Or.inr (List.mem_of_getElem? (i := 73) (by decide +kernel))
  · exact Or.inl (List.mem_of_getElem? (i := 134) (by decide +kernel))
  · exact Or.inl (List.mem_of_getElem? (i := 151) (by decide +kernel))
  · exact Or.inl (List.mem_of_getElem? (i := 169) (by decide +kernel))
  · exact Or.inl (List.mem_of_getElem? (i := 188) (by decide +kernel))
  · exact Or.inl (List.mem_of_getElem? (i := 208) (by decide +kernel))
  · exact Or.inl (List.mem_of_getElem? (i := 229) (by decide +kernel))
theorem en_d7 : ∀ j : Nat, j < 17 → 7 ≠ j → (Cond.not (.eq (.static "GutterSeats$Word" (wdN.getD 7 "") "LGutterSeats$Word;") (.static "GutterSeats$Word" (wdN.getD j "") "LGutterSeats$Word;"))) ∈ nr_1 ∨ (Cond.not (.eq (.static "GutterSeats$Word" (wdN.getD j "") "LGutterSeats$Word;") (.static "GutterSeats$Word" (wdN.getD 7 "") "LGutterSeats$Word;"))) ∈ nr_1 := by
  intro j hj hij
  rcases (show j = 0 ∨ j = 1 ∨ j = 2 ∨ j = 3 ∨ j = 4 ∨ j = 5 ∨ j = 6 ∨ j = 7 ∨ j = 8 ∨ j = 9 ∨ j = 10 ∨ j = 11 ∨ j = 12 ∨ j = 13 ∨ j = 14 ∨ j = 15 ∨ j = 16 by omega) with rfl | rfl | rfl | rfl | rfl | rfl | rfl | rfl | rfl | rfl | rfl | rfl | rfl | rfl | rfl | rfl | rfl
  · exact Or.inr (List.mem_of_getElem? (i := 111) (by decide +kernel))
  · exact Or.inr (List.mem_of_getElem? (i := 112) (by decide +kernel))
  · exact Or.inr (List.mem_of_getElem? (i := 113) (by decide +kernel))
  · exact Or.inr (List.mem_of_getElem? (i := 114) (by decide +kernel))
  · exact Or.inr (List.mem_of_getElem? (i := 116) (by decide +kernel))
  · exact Or.inr (List.mem_of_getElem? (i := 117) (by decide +kernel))
  · exact Or.inr (List.mem_of_getElem? (i := 118) (by decide +kernel))
  · exact absurd rfl hij
  · exact Or.inr (List.mem_of_getElem? (i := 120) (by decide +kernel))
  · exact Or.inr (List.mem_of_getElem? (i := 119) (by decide +kernel))
  · exact Or.inr (List.mem_of_getElem? (i := 115) (by decide +kernel))
  · exact Or.inl (List.mem_of_getElem? (i := 137) (by decide +kernel))
  · exact Or.inl (List.mem_of_getElem? (i := 154) (by decide +kernel))
  · exact Or.inl (List.mem_of_getElem? (i := 172) (by decide +kernel))
  · exact Or.inl (List.mem_of_getElem? (i := 191) (by decide +kernel))
  · exact Or.inl (List.mem_of_getElem? (i := 211) (by decide +kernel))
  · exact Or.inl (List.mem_of_getElem? (i := 232) (by decide +kernel))
theorem en_d8 : ∀ j : Nat, j < 17 → 8 ≠ j → (Cond.not (.eq (.static "GutterSeats$Word" (wdN.getD 8 "") "LGutterSeats$Word;") (.static "GutterSeats$Word" (wdN.getD j "") "LGutterSeats$Word;"))) ∈ nr_1 ∨ (Cond.not (.eq (.static "GutterSeats$Word" (wdN.getD j "") "LGutterSeats$Word;") (.static "GutterSeats$Word" (wdN.getD 8 "") "LGutterSeats$Word;"))) ∈ nr_1 := by
  intro j hj hij
  rcases (show j = 0 ∨ j = 1 ∨ j = 2 ∨ j = 3 ∨ j = 4 ∨ j = 5 ∨ j = 6 ∨ j = 7 ∨ j = 8 ∨ j = 9 ∨ j = 10 ∨ j = 11 ∨ j = 12 ∨ j = 13 ∨ j = 14 ∨ j = 15 ∨ j = 16 by omega) with rfl | rfl | rfl | rfl | rfl | rfl | rfl | rfl | rfl | rfl | rfl | rfl | rfl | rfl | rfl | rfl | rfl
  · exact Or.inr (List.mem_of_getElem? (i := 96) (by decide +kernel))
  · exact Or.inr (List.mem_of_getElem? (i := 97) (by decide +kernel))
  · exact Or.inr (List.mem_of_getElem? (i := 98) (by decide +kernel))
  · exact Or.inr (List.mem_of_getElem? (i := 99) (by decide +kernel))
  · exact Or.inr (List.mem_of_getElem? (i := 101) (by decide +kernel))
  · exact Or.inr (List.mem_of_getElem? (i := 102) (by decide +kernel))
  · exact Or.inr (List.mem_of_getElem? (i := 103) (by decide +kernel))
  · exact Or.inl (List.mem_of_getElem? (i := 120) (by decide +kernel))
  · exact absurd rfl hij
  · exact Or.inr (List.mem_of_getElem? (i := 104) (by decide +kernel))
  · exact Or.inr (List.mem_of_getElem? (i := 100) (by decide +kernel))
  · exact Or.inl (List.mem_of_getElem? (i := 136) (by decide +kernel))
  · exact Or.inl (List.mem_of_getElem? (i := 153) (by decide +kernel))
  · exact Or.inl (List.mem_of_getElem? (i := 171) (by decide +kernel))
  · exact Or.inl (List.mem_of_getElem? (i := 190) (by decide +kernel))
  · exact Or.inl (List.mem_of_getElem? (i := 210) (by decide +kernel))
  · exact Or.inl (List.mem_of_getElem? (i := 231) (by decide +kernel))
theorem en_d9 : ∀ j : Nat, j < 17 → 9 ≠ j → (Cond.not (.eq (.static "GutterSeats$Word" (wdN.getD 9 "") "LGutterSeats$Word;") (.static "GutterSeats$Word" (wdN.getD j "") "LGutterSeats$Word;"))) ∈ nr_1 ∨ (Cond.not (.eq (.static "GutterSeats$Word" (wdN.getD j "") "LGutterSeats$Word;") (.static "GutterSeats$Word" (wdN.getD 9 "") "LGutterSeats$Word;"))) ∈ nr_1 := by
  intro j hj hij
  rcases (show j = 0 ∨ j = 1 ∨ j = 2 ∨ j = 3 ∨ j = 4 ∨ j = 5 ∨ j = 6 ∨ j = 7 ∨ j = 8 ∨ j = 9 ∨ j = 10 ∨ j = 11 ∨ j = 12 ∨ j = 13 ∨ j = 14 ∨ j = 15 ∨ j = 16 by omega) with rfl | rfl | rfl | rfl | rfl | rfl | rfl | rfl | rfl | rfl | rfl | rfl | rfl | rfl | rfl | rfl | rfl
  · exact Or.inr (List.mem_of_getElem? (i := 82) (by decide +kernel))
  · exact Or.inr (List.mem_of_getElem? (i := 83) (by decide +kernel))
  · exact Or.inr (List.mem_of_getElem? (i := 84) (by decide +kernel))
  · exact Or.inr (List.mem_of_getElem? (i := 85) (by decide +kernel))
  · exact Or.inr (List.mem_of_getElem? (i := 87) (by decide +kernel))
  · exact Or.inr (List.mem_of_getElem? (i := 88) (by decide +kernel))
  · exact Or.inr (List.mem_of_getElem? (i := 89) (by decide +kernel))
  · exact Or.inl (List.mem_of_getElem? (i := 119) (by decide +kernel))
  · exact Or.inl (List.mem_of_getElem? (i := 104) (by decide +kernel))
  · exact absurd rfl hij
  · exact Or.inr (List.mem_of_getElem? (i := 86) (by decide +kernel))
  · exact Or.inl (List.mem_of_getElem? (i := 135) (by decide +kernel))
  · exact Or.inl (List.mem_of_getElem? (i := 152) (by decide +kernel))
  · exact Or.inl (List.mem_of_getElem? (i := 170) (by decide +kernel))
  · exact Or.inl (List.mem_of_getElem? (i := 189) (by decide +kernel))
  · exact Or.inl (List.mem_of_getElem? (i := 209) (by decide +kernel))
  · exact Or.inl (List.mem_of_getElem? (i := 230) (by decide +kernel))
theorem en_d10 : ∀ j : Nat, j < 17 → 10 ≠ j → (Cond.not (.eq (.static "GutterSeats$Word" (wdN.getD 10 "") "LGutterSeats$Word;") (.static "GutterSeats$Word" (wdN.getD j "") "LGutterSeats$Word;"))) ∈ nr_1 ∨ (Cond.not (.eq (.static "GutterSeats$Word" (wdN.getD j "") "LGutterSeats$Word;") (.static "GutterSeats$Word" (wdN.getD 10 "") "LGutterSeats$Word;"))) ∈ nr_1 := by
  intro j hj hij
  rcases (show j = 0 ∨ j = 1 ∨ j = 2 ∨ j = 3 ∨ j = 4 ∨ j = 5 ∨ j = 6 ∨ j = 7 ∨ j = 8 ∨ j = 9 ∨ j = 10 ∨ j = 11 ∨ j = 12 ∨ j = 13 ∨ j = 14 ∨ j = 15 ∨ j = 16 by omega) with rfl | rfl | rfl | rfl | rfl | rfl | rfl | rfl | rfl | rfl | rfl | rfl | rfl | rfl | rfl | rfl | rfl
  · exact Or.inr (List.mem_of_getElem? (i := 36) (by decide +kernel))
  · exact Or.inr (List.mem_of_getElem? (i := 37) (by decide +kernel))
  · exact Or.inr (List.mem_of_getElem? (i := 38) (by decide +kernel))
  · exact Or.inr (List.mem_of_getElem? (i := 39) (by decide +kernel))
  · exact Or.inl (List.mem_of_getElem? (i := 50) (by decide +kernel))
  · exact Or.inl (List.mem_of_getElem? (i := 61) (by decide +kernel))
  · exact Or.inl (List.mem_of_getElem? (i := 73) (by decide +kernel))
  · exact Or.inl (List.mem_of_getElem? (i := 115) (by decide +kernel))
  · exact Or.inl (List.mem_of_getElem? (i := 100) (by decide +kernel))
  · exact Or.inl (List.mem_of_getElem? (i := 86) (by decide +kernel))
  · exact absurd rfl hij
  · exact Or.inl (List.mem_of_getElem? (i := 131) (by decide +kernel))
  · exact Or.inl (List.mem_of_getElem? (i := 148) (by decide +kernel))
  · exact Or.inl (List.mem_of_getElem? (i := 166) (by decide +kernel))
  · exact Or.inl (List.mem_of_getElem? (i := 185) (by decide +kernel))
  · exact Or.inl (List.mem_of_getElem? (i := 205) (by decide +kernel))
  · exact Or.inl (List.mem_of_getElem? (i := 226) (by decide +kernel))
theorem en_d11 : ∀ j : Nat, j < 17 → 11 ≠ j → (Cond.not (.eq (.static "GutterSeats$Word" (wdN.getD 11 "") "LGutterSeats$Word;") (.static "GutterSeats$Word" (wdN.getD j "") "LGutterSeats$Word;"))) ∈ nr_1 ∨ (Cond.not (.eq (.static "GutterSeats$Word" (wdN.getD j "") "LGutterSeats$Word;") (.static "GutterSeats$Word" (wdN.getD 11 "") "LGutterSeats$Word;"))) ∈ nr_1 := by
  intro j hj hij
  rcases (show j = 0 ∨ j = 1 ∨ j = 2 ∨ j = 3 ∨ j = 4 ∨ j = 5 ∨ j = 6 ∨ j = 7 ∨ j = 8 ∨ j = 9 ∨ j = 10 ∨ j = 11 ∨ j = 12 ∨ j = 13 ∨ j = 14 ∨ j = 15 ∨ j = 16 by omega) with rfl | rfl | rfl | rfl | rfl | rfl | rfl | rfl | rfl | rfl | rfl | rfl | rfl | rfl | rfl | rfl | rfl
  · exact Or.inr (List.mem_of_getElem? (i := 127) (by decide +kernel))
  · exact Or.inr (List.mem_of_getElem? (i := 128) (by decide +kernel))
  · exact Or.inr (List.mem_of_getElem? (i := 129) (by decide +kernel))
  · exact Or.inr (List.mem_of_getElem? (i := 130) (by decide +kernel))
  · exact Or.inr (List.mem_of_getElem? (i := 132) (by decide +kernel))
  · exact Or.inr (List.mem_of_getElem? (i := 133) (by decide +kernel))
  · exact Or.inr (List.mem_of_getElem? (i := 134) (by decide +kernel))
  · exact Or.inr (List.mem_of_getElem? (i := 137) (by decide +kernel))
  · exact Or.inr (List.mem_of_getElem? (i := 136) (by decide +kernel))
  · exact Or.inr (List.mem_of_getElem? (i := 135) (by decide +kernel))
  · exact Or.inr (List.mem_of_getElem? (i := 131) (by decide +kernel))
  · exact absurd rfl hij
  · exact Or.inl (List.mem_of_getElem? (i := 155) (by decide +kernel))
  · exact Or.inl (List.mem_of_getElem? (i := 173) (by decide +kernel))
  · exact Or.inl (List.mem_of_getElem? (i := 192) (by decide +kernel))
  · exact Or.inl (List.mem_of_getElem? (i := 212) (by decide +kernel))
  · exact Or.inl (List.mem_of_getElem? (i := 233) (by decide +kernel))
theorem en_d12 : ∀ j : Nat, j < 17 → 12 ≠ j → (Cond.not (.eq (.static "GutterSeats$Word" (wdN.getD 12 "") "LGutterSeats$Word;") (.static "GutterSeats$Word" (wdN.getD j "") "LGutterSeats$Word;"))) ∈ nr_1 ∨ (Cond.not (.eq (.static "GutterSeats$Word" (wdN.getD j "") "LGutterSeats$Word;") (.static "GutterSeats$Word" (wdN.getD 12 "") "LGutterSeats$Word;"))) ∈ nr_1 := by
  intro j hj hij
  rcases (show j = 0 ∨ j = 1 ∨ j = 2 ∨ j = 3 ∨ j = 4 ∨ j = 5 ∨ j = 6 ∨ j = 7 ∨ j = 8 ∨ j = 9 ∨ j = 10 ∨ j = 11 ∨ j = 12 ∨ j = 13 ∨ j = 14 ∨ j = 15 ∨ j = 16 by omega) with rfl | rfl | rfl | rfl | rfl | rfl | rfl | rfl | rfl | rfl | rfl | rfl | rfl | rfl | rfl | rfl | rfl
  · exact Or.inr (List.mem_of_getElem? (i := 144) (by decide +kernel))
  · exact Or.inr (List.mem_of_getElem? (i := 145) (by decide +kernel))
  · exact Or.inr (List.mem_of_getElem? (i := 146) (by decide +kernel))
  · exact Or.inr (List.mem_of_getElem? (i := 147) (by decide +kernel))
  · exact Or.inr (List.mem_of_getElem? (i := 149) (by decide +kernel))
  · exact Or.inr (List.mem_of_getElem? (i := 150) (by decide +kernel))
  · exact Or.inr (List.mem_of_getElem? (i := 151) (by decide +kernel))
  · exact Or.inr (List.mem_of_getElem? (i := 154) (by decide +kernel))
  · exact Or.inr (List.mem_of_getElem? (i := 153) (by decide +kernel))
  · exact Or.inr (List.mem_of_getElem? (i := 152) (by decide +kernel))
  · exact Or.inr (List.mem_of_getElem? (i := 148) (by decide +kernel))
  · exact Or.inr (List.mem_of_getElem? (i := 155) (by decide +kernel))
  · exact absurd rfl hij
  · exact Or.inl (List.mem_of_getElem? (i := 174) (by decide +kernel))
  · exact Or.inl (List.mem_of_getElem? (i := 193) (by decide +kernel))
  · exact Or.inl (List.mem_of_getElem? (i := 213) (by decide +kernel))
  · exact Or.inl (List.mem_of_getElem? (i := 234) (by decide +kernel))
theorem en_d13 : ∀ j : Nat, j < 17 → 13 ≠ j → (Cond.not (.eq (.static "GutterSeats$Word" (wdN.getD 13 "") "LGutterSeats$Word;") (.static "GutterSeats$Word" (wdN.getD j "") "LGutterSeats$Word;"))) ∈ nr_1 ∨ (Cond.not (.eq (.static "GutterSeats$Word" (wdN.getD j "") "LGutterSeats$Word;") (.static "GutterSeats$Word" (wdN.getD 13 "") "LGutterSeats$Word;"))) ∈ nr_1 := by
  intro j hj hij
  rcases (show j = 0 ∨ j = 1 ∨ j = 2 ∨ j = 3 ∨ j = 4 ∨ j = 5 ∨ j = 6 ∨ j = 7 ∨ j = 8 ∨ j = 9 ∨ j = 10 ∨ j = 11 ∨ j = 12 ∨ j = 13 ∨ j = 14 ∨ j = 15 ∨ j = 16 by omega) with rfl | rfl | rfl | rfl | rfl | rfl | rfl | rfl | rfl | rfl | rfl | rfl | rfl | rfl | rfl | rfl | rfl
  · exact Or.inr (List.mem_of_getElem? (i := 162) (by decide +kernel))
  · exact Or.inr (List.mem_of_getElem? (i := 163) (by decide +kernel))
  · exact Or.inr (List.mem_of_getElem? (i := 164) (by decide +kernel))
  · exact Or.inr (List.mem_of_getElem? (i := 165) (by decide +kernel))
  · exact Or.inr (List.mem_of_getElem? (i := 167) (by decide +kernel))
  · exact Or.inr (List.mem_of_getElem? (i := 168) (by decide +kernel))
  · exact Or.inr (List.mem_of_getElem? (i := 169) (by decide +kernel))
  · exact Or.inr (List.mem_of_getElem? (i := 172) (by decide +kernel))
  · exact Or.inr (List.mem_of_getElem? (i := 171) (by decide +kernel))
  · exact Or.inr (List.mem_of_getElem? (i := 170) (by decide +kernel))
  · exact Or.inr (List.mem_of_getElem? (i := 166) (by decide +kernel))
  · exact Or.inr (List.mem_of_getElem? (i := 173) (by decide +kernel))
  · exact Or.inr (List.mem_of_getElem? (i := 174) (by decide +kernel))
  · exact absurd rfl hij
  · exact Or.inl (List.mem_of_getElem? (i := 194) (by decide +kernel))
  · exact Or.inl (List.mem_of_getElem? (i := 214) (by decide +kernel))
  · exact Or.inl (List.mem_of_getElem? (i := 235) (by decide +kernel))
theorem en_d14 : ∀ j : Nat, j < 17 → 14 ≠ j → (Cond.not (.eq (.static "GutterSeats$Word" (wdN.getD 14 "") "LGutterSeats$Word;") (.static "GutterSeats$Word" (wdN.getD j "") "LGutterSeats$Word;"))) ∈ nr_1 ∨ (Cond.not (.eq (.static "GutterSeats$Word" (wdN.getD j "") "LGutterSeats$Word;") (.static "GutterSeats$Word" (wdN.getD 14 "") "LGutterSeats$Word;"))) ∈ nr_1 := by
  intro j hj hij
  rcases (show j = 0 ∨ j = 1 ∨ j = 2 ∨ j = 3 ∨ j = 4 ∨ j = 5 ∨ j = 6 ∨ j = 7 ∨ j = 8 ∨ j = 9 ∨ j = 10 ∨ j = 11 ∨ j = 12 ∨ j = 13 ∨ j = 14 ∨ j = 15 ∨ j = 16 by omega) with rfl | rfl | rfl | rfl | rfl | rfl | rfl | rfl | rfl | rfl | rfl | rfl | rfl | rfl | rfl | rfl | rfl
  · exact Or.inr (List.mem_of_getElem? (i := 181) (by decide +kernel))
  · exact Or.inr (List.mem_of_getElem? (i := 182) (by decide +kernel))
  · exact Or.inr (List.mem_of_getElem? (i := 183) (by decide +kernel))
  · exact Or.inr (List.mem_of_getElem? (i := 184) (by decide +kernel))
  · exact Or.inr (List.mem_of_getElem? (i := 186) (by decide +kernel))
  · exact Or.inr (List.mem_of_getElem? (i := 187) (by decide +kernel))
  · exact Or.inr (List.mem_of_getElem? (i := 188) (by decide +kernel))
  · exact Or.inr (List.mem_of_getElem? (i := 191) (by decide +kernel))
  · exact Or.inr (List.mem_of_getElem? (i := 190) (by decide +kernel))
  · exact Or.inr (List.mem_of_getElem? (i := 189) (by decide +kernel))
  · exact Or.inr (List.mem_of_getElem? (i := 185) (by decide +kernel))
  · exact Or.inr (List.mem_of_getElem? (i := 192) (by decide +kernel))
  · exact Or.inr (List.mem_of_getElem? (i := 193) (by decide +kernel))
  · exact Or.inr (List.mem_of_getElem? (i := 194) (by decide +kernel))
  · exact absurd rfl hij
  · exact Or.inl (List.mem_of_getElem? (i := 215) (by decide +kernel))
  · exact Or.inl (List.mem_of_getElem? (i := 236) (by decide +kernel))
theorem en_d15 : ∀ j : Nat, j < 17 → 15 ≠ j → (Cond.not (.eq (.static "GutterSeats$Word" (wdN.getD 15 "") "LGutterSeats$Word;") (.static "GutterSeats$Word" (wdN.getD j "") "LGutterSeats$Word;"))) ∈ nr_1 ∨ (Cond.not (.eq (.static "GutterSeats$Word" (wdN.getD j "") "LGutterSeats$Word;") (.static "GutterSeats$Word" (wdN.getD 15 "") "LGutterSeats$Word;"))) ∈ nr_1 := by
  intro j hj hij
  rcases (show j = 0 ∨ j = 1 ∨ j = 2 ∨ j = 3 ∨ j = 4 ∨ j = 5 ∨ j = 6 ∨ j = 7 ∨ j = 8 ∨ j = 9 ∨ j = 10 ∨ j = 11 ∨ j = 12 ∨ j = 13 ∨ j = 14 ∨ j = 15 ∨ j = 16 by omega) with rfl | rfl | rfl | rfl | rfl | rfl | rfl | rfl | rfl | rfl | rfl | rfl | rfl | rfl | rfl | rfl | rfl
  · exact Or.inr (List.mem_of_getElem? (i := 201) (by decide +kernel))
  · exact Or.inr (List.mem_of_getElem? (i := 202) (by decide +kernel))
  · exact Or.inr (List.mem_of_getElem? (i := 203) (by decide +kernel))
  · exact Or.inr (List.mem_of_getElem? (i := 204) (by decide +kernel))
  · exact Or.inr (List.mem_of_getElem? (i := 206) (by decide +kernel))
  · exact Or.inr (List.mem_of_getElem? (i := 207) (by decide +kernel))
  · exact Or.inr (List.mem_of_getElem? (i := 208) (by decide +kernel))
  · exact Or.inr (List.mem_of_getElem? (i := 211) (by decide +kernel))
  · exact Or.inr (List.mem_of_getElem? (i := 210) (by decide +kernel))
  · exact Or.inr (List.mem_of_getElem? (i := 209) (by decide +kernel))
  · exact Or.inr (List.mem_of_getElem? (i := 205) (by decide +kernel))
  · exact Or.inr (List.mem_of_getElem? (i := 212) (by decide +kernel))
  · exact Or.inr (List.mem_of_getElem? (i := 213) (by decide +kernel))
  · exact Or.inr (List.mem_of_getElem? (i := 214) (by decide +kernel))
  · exact Or.inr (List.mem_of_getElem? (i := 215) (by decide +kernel))
  · exact absurd rfl hij
  · exact Or.inl (List.mem_of_getElem? (i := 237) (by decide +kernel))
theorem en_d16 : ∀ j : Nat, j < 17 → 16 ≠ j → (Cond.not (.eq (.static "GutterSeats$Word" (wdN.getD 16 "") "LGutterSeats$Word;") (.static "GutterSeats$Word" (wdN.getD j "") "LGutterSeats$Word;"))) ∈ nr_1 ∨ (Cond.not (.eq (.static "GutterSeats$Word" (wdN.getD j "") "LGutterSeats$Word;") (.static "GutterSeats$Word" (wdN.getD 16 "") "LGutterSeats$Word;"))) ∈ nr_1 := by
  intro j hj hij
  rcases (show j = 0 ∨ j = 1 ∨ j = 2 ∨ j = 3 ∨ j = 4 ∨ j = 5 ∨ j = 6 ∨ j = 7 ∨ j = 8 ∨ j = 9 ∨ j = 10 ∨ j = 11 ∨ j = 12 ∨ j = 13 ∨ j = 14 ∨ j = 15 ∨ j = 16 by omega) with rfl | rfl | rfl | rfl | rfl | rfl | rfl | rfl | rfl | rfl | rfl | rfl | rfl | rfl | rfl | rfl | rfl
  · exact Or.inr (List.mem_of_getElem? (i := 222) (by decide +kernel))
  · exact Or.inr (List.mem_of_getElem? (i := 223) (by decide +kernel))
  · exact Or.inr (List.mem_of_getElem? (i := 224) (by decide +kernel))
  · exact Or.inr (List.mem_of_getElem? (i := 225) (by decide +kernel))
  · exact Or.inr (List.mem_of_getElem? (i := 227) (by decide +kernel))
  · exact Or.inr (List.mem_of_getElem? (i := 228) (by decide +kernel))
  · exact Or.inr (List.mem_of_getElem? (i := 229) (by decide +kernel))
  · exact Or.inr (List.mem_of_getElem? (i := 232) (by decide +kernel))
  · exact Or.inr (List.mem_of_getElem? (i := 231) (by decide +kernel))
  · exact Or.inr (List.mem_of_getElem? (i := 230) (by decide +kernel))
  · exact Or.inr (List.mem_of_getElem? (i := 226) (by decide +kernel))
  · exact Or.inr (List.mem_of_getElem? (i := 233) (by decide +kernel))
  · exact Or.inr (List.mem_of_getElem? (i := 234) (by decide +kernel))
  · exact Or.inr (List.mem_of_getElem? (i := 235) (by decide +kernel))
  · exact Or.inr (List.mem_of_getElem? (i := 236) (by decide +kernel))
  · exact Or.inr (List.mem_of_getElem? (i := 237) (by decide +kernel))
  · exact absurd rfl hij
theorem en_d : ∀ i : Nat, i < 17 → ∀ j : Nat, j < 17 → i ≠ j → (Cond.not (.eq (.static "GutterSeats$Word" (wdN.getD i "") "LGutterSeats$Word;") (.static "GutterSeats$Word" (wdN.getD j "") "LGutterSeats$Word;"))) ∈ nr_1 ∨ (Cond.not (.eq (.static "GutterSeats$Word" (wdN.getD j "") "LGutterSeats$Word;") (.static "GutterSeats$Word" (wdN.getD i "") "LGutterSeats$Word;"))) ∈ nr_1 := by
  intro i hi
  rcases (show i = 0 ∨ i = 1 ∨ i = 2 ∨ i = 3 ∨ i = 4 ∨ i = 5 ∨ i = 6 ∨ i = 7 ∨ i = 8 ∨ i = 9 ∨ i = 10 ∨ i = 11 ∨ i = 12 ∨ i = 13 ∨ i = 14 ∨ i = 15 ∨ i = 16 by omega) with rfl | rfl | rfl | rfl | rfl | rfl | rfl | rfl | rfl | rfl | rfl | rfl | rfl | rfl | rfl | rfl | rfl
  · exact en_d0
  · exact en_d1
  · exact en_d2
  · exact en_d3
  · exact en_d4
  · exact en_d5
  · exact en_d6
  · exact en_d7
  · exact en_d8
  · exact en_d9
  · exact en_d10
  · exact en_d11
  · exact en_d12
  · exact en_d13
  · exact en_d14
  · exact en_d15
  · exact en_d16
theorem en_t : ∀ i : Nat, i < 17 → (Cond.eq (.field (.static "GutterSeats$Word" (wdN.getD i "") "LGutterSeats$Word;") "GutterSeats$Word" "letters" "Ljava/lang/String;") (.string "GutterSeats$Word" (wdK.getD i 0))) ∈ nr_1 := by decide +kernel
theorem en_w : ∀ i : Nat, i < 17 → (Cond.eq (.elem (.static "GutterSeats$Reader" "WORDS" "[LGutterSeats$Word;") (.int (Int32.ofNat i))) (.static "GutterSeats$Word" (wdN.getD i "") "LGutterSeats$Word;")) ∈ nr_0 := by decide +kernel
theorem en_l : ∀ i : Nat, i < 17 → lw_tbl[([794, 810, 812, 819, 835, 841, 843, 893, 891, 861, 825, 1985, 1986, 1987, 1988, 1989, 1990] : List Nat).getD i 0]? = some (Cond.laysStatic "GutterSeats$Word" (wdN.getD i "") "LGutterSeats$Word;") := by decide +kernel
theorem en_s (hn : nrAll args s) (hA : ∀ a : Nat, a < s.heap.size → ¬ A a) : ∀ i : Nat, i < 17 → ∃ a : Nat, (Term.string "GutterSeats$Word" (wdK.getD i 0)).eval args s none [] s = some (.ref a) ∧ ST a i A s s.heap := by
  intro i hi
  rcases (show i = 0 ∨ i = 1 ∨ i = 2 ∨ i = 3 ∨ i = 4 ∨ i = 5 ∨ i = 6 ∨ i = 7 ∨ i = 8 ∨ i = 9 ∨ i = 10 ∨ i = 11 ∨ i = 12 ∨ i = 13 ∨ i = 14 ∨ i = 15 ∨ i = 16 by omega) with rfl | rfl | rfl | rfl | rfl | rfl | rfl | rfl | rfl | rfl | rfl | rfl | rfl | rfl | rfl | rfl | rfl
  · obtain ⟨a, h1, h2⟩ := st_of (A := A) 0 (by decide) (by decide) (by decide +kernel) (in_tx_W_92 hn) hA
    exact ⟨a, h1, h2⟩
  · obtain ⟨a, h1, h2⟩ := st_of (A := A) 1 (by decide) (by decide) (by decide +kernel) (in_tx_W_98 hn) hA
    exact ⟨a, h1, h2⟩
  · obtain ⟨a, h1, h2⟩ := st_of (A := A) 2 (by decide) (by decide) (by decide +kernel) (in_tx_W_101 hn) hA
    exact ⟨a, h1, h2⟩
  · obtain ⟨a, h1, h2⟩ := st_of (A := A) 3 (by decide) (by decide) (by decide +kernel) (in_tx_W_104 hn) hA
    exact ⟨a, h1, h2⟩
  · obtain ⟨a, h1, h2⟩ := st_of (A := A) 4 (by decide) (by decide) (by decide +kernel) (in_tx_W_107 hn) hA
    exact ⟨a, h1, h2⟩
  · obtain ⟨a, h1, h2⟩ := st_of (A := A) 5 (by decide) (by decide) (by decide +kernel) (in_tx_W_110 hn) hA
    exact ⟨a, h1, h2⟩
  · obtain ⟨a, h1, h2⟩ := st_of (A := A) 6 (by decide) (by decide) (by decide +kernel) (in_tx_W_113 hn) hA
    exact ⟨a, h1, h2⟩
  · obtain ⟨a, h1, h2⟩ := st_of (A := A) 7 (by decide) (by decide) (by decide +kernel) (in_tx_W_116 hn) hA
    exact ⟨a, h1, h2⟩
  · obtain ⟨a, h1, h2⟩ := st_of (A := A) 8 (by decide) (by decide) (by decide +kernel) (in_tx_W_119 hn) hA
    exact ⟨a, h1, h2⟩
  · obtain ⟨a, h1, h2⟩ := st_of (A := A) 9 (by decide) (by decide) (by decide +kernel) (in_tx_W_122 hn) hA
    exact ⟨a, h1, h2⟩
  · obtain ⟨a, h1, h2⟩ := st_of (A := A) 10 (by decide) (by decide) (by decide +kernel) (in_tx_W_125 hn) hA
    exact ⟨a, h1, h2⟩
  · obtain ⟨a, h1, h2⟩ := st_of (A := A) 11 (by decide) (by decide) (by decide +kernel) (in_tx_W_130 hn) hA
    exact ⟨a, h1, h2⟩
  · obtain ⟨a, h1, h2⟩ := st_of (A := A) 12 (by decide) (by decide) (by decide +kernel) (in_tx_W_133 hn) hA
    exact ⟨a, h1, h2⟩
  · obtain ⟨a, h1, h2⟩ := st_of (A := A) 13 (by decide) (by decide) (by decide +kernel) (in_tx_W_136 hn) hA
    exact ⟨a, h1, h2⟩
  · obtain ⟨a, h1, h2⟩ := st_of (A := A) 14 (by decide) (by decide) (by decide +kernel) (in_tx_W_139 hn) hA
    exact ⟨a, h1, h2⟩
  · obtain ⟨a, h1, h2⟩ := st_of (A := A) 15 (by decide) (by decide) (by decide +kernel) (in_tx_W_142 hn) hA
    exact ⟨a, h1, h2⟩
  · obtain ⟨a, h1, h2⟩ := st_of (A := A) 16 (by decide) (by decide) (by decide +kernel) (in_tx_W_145 hn) hA
    exact ⟨a, h1, h2⟩
theorem e_ER (hts : ∀ w ∈ lw_tbl, w.before args s = true) (hn : nrAll args s) (hA : ∀ a : Nat, a < s.heap.size → ¬ A a) : ∃ (ad sw : Nat → Nat) (wa : Nat), ER ad sw wa A s s.heap := by
  obtain ⟨ad, hEn, hev⟩ := va_Enof2 (E := "GutterSeats$Word") (d := "LGutterSeats$Word;") (nm := wdN) (F := wdF) (A := A) (fun i hi => hts _ (List.mem_of_getElem? (en_l i hi))) (hts (.initialized "GutterSeats$Word") (List.mem_of_getElem? (i := 131) (by decide +kernel))) (fun i hi => in_nr_1 hn _ (en_x i hi)) (fun q hq i hi => in_nr_1 hn _ (en_f q hq i hi)) (fun i j hi hj hij => (en_d i hi j hj hij).elim (fun h => Or.inl (in_nr_1 hn _ h)) (fun h => Or.inr (in_nr_1 hn _ h))) hA
  have hsx : ∀ i : Nat, ∃ a : Nat, i < 17 → ((Term.string "GutterSeats$Word" (wdK.getD i 0)).eval args s none [] s = some (.ref a) ∧ ST a i A s s.heap) := fun i => by
    by_cases hi : i < 17
    · obtain ⟨a, h⟩ := en_s (A := A) hn hA i hi
      exact ⟨a, fun _ => h⟩
    · exact ⟨0, fun h => absurd h hi⟩
  obtain ⟨wa, hwa, hT⟩ := va_Tof (tm := .static "GutterSeats$Reader" "WORDS" "[LGutterSeats$Word;") (ty := .object "GutterSeats$Word") (N := 17) (f := fun j => .ref (ad j)) (A := A) (by decide) (in_nr_0 hn (.arrayOf (.static "GutterSeats$Reader" "WORDS" "[LGutterSeats$Word;") (.object "GutterSeats$Word")) (by decide +kernel)) (va_eqt (z := Int32.ofNat 17) (in_nr_0 hn (.eq (.length (.static "GutterSeats$Reader" "WORDS" "[LGutterSeats$Word;")) (.int (Int32.ofNat 17))) (by decide +kernel))) (fun j hj => va_eqv (in_nr_0 hn _ (en_w j hj)) (hev j hj)) hA
  refine ⟨ad, fun i => Classical.choose (hsx i), wa, e_SB hts hn hA, hEn, ?_, fun i hi => (Classical.choose_spec (hsx i) hi).2, va_Zof (hts (.laysStatic "GutterSeats$Reader" "WORDS" "[LGutterSeats$Word;") (List.mem_of_getElem? (i := 740) (by decide +kernel))) (hts (.initialized RX4) (List.mem_of_getElem? (i := 110) (by decide +kernel))) hwa hA, hT, fun i j hi hj e => hEn.2 i j hi hj e⟩
  exact va_Efof (E := "GutterSeats$Word") (d0 := "LGutterSeats$Word;") (nm := wdN) (tm := fun i => .string "GutterSeats$Word" (wdK.getD i 0)) hev (fun i hi => in_nr_1 hn _ (en_t i hi)) (fun i hi => (Classical.choose_spec (hsx i) hi).1) hA
theorem e_ms (hts : ∀ w ∈ lw_tbl, w.before args s = true) (hn : nrAll args s) (hA : ∀ a : Nat, a < s.heap.size → ¬ A a) : ∀ q ∈ mstr, ∃ a : Nat, vk_R RX12 q.1 q.2.1 a s ∧ ST a q.2.2 A s s.heap := by
  refine List.forall_mem_cons.mpr ⟨?_, ?_⟩
  · obtain ⟨a, h1, h2⟩ := st_of (A := A) 1 (by decide) (by decide) (by decide +kernel) (in_tx_M_11 hn) hA
    exact ⟨a, vk_R.of (hts (.stringRef RX12 11 "person") (List.mem_of_getElem? (i := 1305) (by decide +kernel))) h1, h2⟩
  refine List.forall_mem_cons.mpr ⟨?_, ?_⟩
  · obtain ⟨a, h1, h2⟩ := st_of (A := A) 2 (by decide) (by decide) (by decide +kernel) (in_tx_M_13 hn) hA
    exact ⟨a, vk_R.of (hts (.stringRef RX12 13 "orphan") (List.mem_of_getElem? (i := 1306) (by decide +kernel))) h1, h2⟩
  refine List.forall_mem_cons.mpr ⟨?_, ?_⟩
  · obtain ⟨a, h1, h2⟩ := st_of (A := A) 10 (by decide) (by decide) (by decide +kernel) (in_tx_M_19 hn) hA
    exact ⟨a, vk_R.of (hts (.stringRef RX12 19 "rain") (List.mem_of_getElem? (i := 1307) (by decide +kernel))) h1, h2⟩
  refine List.forall_mem_cons.mpr ⟨?_, ?_⟩
  · obtain ⟨a, h1, h2⟩ := st_of (A := A) 11 (by decide) (by decide) (by decide +kernel) (in_tx_M_21 hn) hA
    exact ⟨a, vk_R.of (hts (.stringRef RX12 21 "stone") (List.mem_of_getElem? (i := 1308) (by decide +kernel))) h1, h2⟩
  refine List.forall_mem_cons.mpr ⟨?_, ?_⟩
  · obtain ⟨a, h1, h2⟩ := st_of (A := A) 12 (by decide) (by decide) (by decide +kernel) (in_tx_M_23 hn) hA
    exact ⟨a, vk_R.of (hts (.stringRef RX12 23 "beside") (List.mem_of_getElem? (i := 1309) (by decide +kernel))) h1, h2⟩
  refine List.forall_mem_cons.mpr ⟨?_, ?_⟩
  · obtain ⟨a, h1, h2⟩ := st_of (A := A) 13 (by decide) (by decide) (by decide +kernel) (in_tx_M_25 hn) hA
    exact ⟨a, vk_R.of (hts (.stringRef RX12 25 "year") (List.mem_of_getElem? (i := 1310) (by decide +kernel))) h1, h2⟩
  refine List.forall_mem_cons.mpr ⟨?_, ?_⟩
  · obtain ⟨a, h1, h2⟩ := st_of (A := A) 14 (by decide) (by decide) (by decide +kernel) (in_tx_M_30 hn) hA
    exact ⟨a, vk_R.of (hts (.stringRef RX12 30 "unlike") (List.mem_of_getElem? (i := 1311) (by decide +kernel))) h1, h2⟩
  refine List.forall_mem_cons.mpr ⟨?_, ?_⟩
  · obtain ⟨a, h1, h2⟩ := st_of (A := A) 15 (by decide) (by decide) (by decide +kernel) (in_tx_M_32 hn) hA
    exact ⟨a, vk_R.of (hts (.stringRef RX12 32 "age") (List.mem_of_getElem? (i := 1312) (by decide +kernel))) h1, h2⟩
  refine List.forall_mem_cons.mpr ⟨?_, ?_⟩
  · obtain ⟨a, h1, h2⟩ := st_of (A := A) 16 (by decide) (by decide) (by decide +kernel) (in_tx_M_34 hn) hA
    exact ⟨a, vk_R.of (hts (.stringRef RX12 34 "family") (List.mem_of_getElem? (i := 1313) (by decide +kernel))) h1, h2⟩
  refine List.forall_mem_cons.mpr ⟨?_, ?_⟩
  · obtain ⟨a, h1, h2⟩ := st_of (A := A) 9 (by decide) (by decide) (by decide +kernel) (in_tx_M_269 hn) hA
    exact ⟨a, vk_R.of (hts (.stringRef RX12 269 "not") (List.mem_of_getElem? (i := 1594) (by decide +kernel))) h1, h2⟩
  refine List.forall_mem_cons.mpr ⟨?_, ?_⟩
  · obtain ⟨a, h1, h2⟩ := st_of (A := A) 8 (by decide) (by decide) (by decide +kernel) (in_tx_M_277 hn) hA
    exact ⟨a, vk_R.of (hts (.stringRef RX12 277 "and") (List.mem_of_getElem? (i := 1615) (by decide +kernel))) h1, h2⟩
  refine List.forall_mem_cons.mpr ⟨?_, ?_⟩
  · obtain ⟨a, h1, h2⟩ := st_of (A := A) 7 (by decide) (by decide) (by decide +kernel) (in_tx_M_282 hn) hA
    exact ⟨a, vk_R.of (hts (.stringRef RX12 282 "or") (List.mem_of_getElem? (i := 1616) (by decide +kernel))) h1, h2⟩
  refine List.forall_mem_cons.mpr ⟨?_, ?_⟩
  · obtain ⟨a, h1, h2⟩ := st_of (A := A) 3 (by decide) (by decide) (by decide +kernel) (in_tx_M_288 hn) hA
    exact ⟨a, vk_R.of (hts (.stringRef RX12 288 "of") (List.mem_of_getElem? (i := 1625) (by decide +kernel))) h1, h2⟩
  refine List.forall_mem_cons.mpr ⟨?_, ?_⟩
  · obtain ⟨a, h1, h2⟩ := st_of (A := A) 4 (by decide) (by decide) (by decide +kernel) (in_tx_M_293 hn) hA
    exact ⟨a, vk_R.of (hts (.stringRef RX12 293 "certain") (List.mem_of_getElem? (i := 1555) (by decide +kernel))) h1, h2⟩
  refine List.forall_mem_cons.mpr ⟨?_, ?_⟩
  · obtain ⟨a, h1, h2⟩ := st_of (A := A) 5 (by decide) (by decide) (by decide +kernel) (in_tx_M_295 hn) hA
    exact ⟨a, vk_R.of (hts (.stringRef RX12 295 "wears") (List.mem_of_getElem? (i := 1556) (by decide +kernel))) h1, h2⟩
  refine List.forall_mem_cons.mpr ⟨?_, ?_⟩
  · obtain ⟨a, h1, h2⟩ := st_of (A := A) 6 (by decide) (by decide) (by decide +kernel) (in_tx_M_297 hn) hA
    exact ⟨a, vk_R.of (hts (.stringRef RX12 297 "sits") (List.mem_of_getElem? (i := 1557) (by decide +kernel))) h1, h2⟩
  refine List.forall_mem_cons.mpr ⟨?_, ?_⟩
  · obtain ⟨a, h1, h2⟩ := st_of (A := A) 0 (by decide) (by decide) (by decide +kernel) (in_tx_M_305 hn) hA
    exact ⟨a, vk_R.of (hts (.stringRef RX12 305 "gargoyle") (List.mem_of_getElem? (i := 1626) (by decide +kernel))) h1, h2⟩
  exact fun _ h => by cases h
theorem mstr_inj : ∀ q ∈ mstr, ∀ q' ∈ mstr, q'.1 = q.1 → q' = q := by decide +kernel
theorem e_EM (hts : ∀ w ∈ lw_tbl, w.before args s = true) (hn : nrAll args s) (hA : ∀ a : Nat, a < s.heap.size → ¬ A a) : ∃ sad : Nat → Nat, EM sad A s s.heap := by
  have h := e_ms hts hn hA
  have hk : ∀ k : Nat, ∃ a : Nat, ∀ q ∈ mstr, q.1 = k → (vk_R RX12 q.1 q.2.1 a s ∧ ST a q.2.2 A s s.heap) := fun k => by
    by_cases hx : ∃ q ∈ mstr, q.1 = k
    · obtain ⟨q, hq, e⟩ := hx
      obtain ⟨a, ha⟩ := h q hq
      exact ⟨a, fun q' hq' e' => by rw [mstr_inj q hq q' hq' (e'.trans e.symm)]; exact ha⟩
    · exact ⟨0, fun q hq e => absurd ⟨q, hq, e⟩ hx⟩
  exact ⟨fun k => Classical.choose (hk k), e_SB hts hn hA, fun q hq => Classical.choose_spec (hk q.1) q hq rfl⟩
theorem e_AO (hts : ∀ w ∈ lw_tbl, w.before args s = true) : va_AO "java/lang/String" s := va_AO.of (hts (.arrayOver (.object "java/lang/String")) (List.mem_of_getElem? (i := 1304) (by decide +kernel)))
theorem e_NW (hts : ∀ w ∈ lw_tbl, w.before args s = true) : NW s := ⟨va_Nw.of rfl (hts (.methodLinkNest RX11 31 yX3_init RX11) (List.mem_of_getElem? (i := 312) (by decide +kernel))), va_Nw.of rfl (hts (.methodLinkNest RX11 38 yX2_init RX11) (List.mem_of_getElem? (i := 315) (by decide +kernel))), va_Nw.of rfl (hts (.methodLinkNest RX11 74 yX1_init RX11) (List.mem_of_getElem? (i := 415) (by decide +kernel))), va_Nw.of rfl (hts (.methodLinkNest RX2 18 yX0_init RX11) (List.mem_of_getElem? (i := 323) (by decide +kernel))), va_Nw.of rfl (hts (.methodLinkNest RX2 25 yX7_init RX11) (List.mem_of_getElem? (i := 338) (by decide +kernel))), va_Nw.of rfl (hts (.methodLinkNest RX2 9 yX8_init RX11) (List.mem_of_getElem? (i := 320) (by decide +kernel))), va_Nw.of rfl (hts (.methodLinkNest RX3 11 yX8_init RX11) (List.mem_of_getElem? (i := 158) (by decide +kernel))), va_Nw.of rfl (hts (.methodLinkNest RX3 28 yX5_init RX11) (List.mem_of_getElem? (i := 221) (by decide +kernel))), va_Nw.of rfl (hts (.methodLinkNest RX4 11 yX3_init RX11) (List.mem_of_getElem? (i := 152) (by decide +kernel))), va_Nw.of rfl (hts (.methodLinkNest RX9 11 yX8_init RX11) (List.mem_of_getElem? (i := 381) (by decide +kernel)))⟩
theorem e_cl (hts : ∀ w ∈ lw_tbl, w.before args s = true) : ∀ q ∈ vwCl, ∃ (cC : ClassId) (iS : Nat → Nat), u_Kn s q.1 q.2.1 q.2.2 cC iS := by
  refine List.forall_mem_cons.mpr ⟨u_known hts l_gT11_X0 (hts (.instantiable RX0 2) (List.mem_of_getElem? (i := 322) (by decide +kernel))), ?_⟩
  refine List.forall_mem_cons.mpr ⟨u_known hts l_gT11_X1 (hts (.instantiable RX1 1) (List.mem_of_getElem? (i := 414) (by decide +kernel))), ?_⟩
  refine List.forall_mem_cons.mpr ⟨u_known hts l_gT11_X2 (hts (.instantiable RX2 4) (List.mem_of_getElem? (i := 314) (by decide +kernel))), ?_⟩
  refine List.forall_mem_cons.mpr ⟨u_known hts l_gT11_X3 (hts (.instantiable RX3 8) (List.mem_of_getElem? (i := 151) (by decide +kernel))), ?_⟩
  refine List.forall_mem_cons.mpr ⟨u_known hts l_gT11_X4 (hts (.instantiable RX4 11) (List.mem_of_getElem? (i := 145) (by decide +kernel))), ?_⟩
  refine List.forall_mem_cons.mpr ⟨u_known hts l_gT11_X5 (hts (.instantiable RX5 2) (List.mem_of_getElem? (i := 220) (by decide +kernel))), ?_⟩
  refine List.forall_mem_cons.mpr ⟨u_known hts l_gT11_X6 (hts (.instantiable RX6 2) (List.mem_of_getElem? (i := 401) (by decide +kernel))), ?_⟩
  refine List.forall_mem_cons.mpr ⟨u_known hts l_gT11_X7 (hts (.instantiable RX7 4) (List.mem_of_getElem? (i := 337) (by decide +kernel))), ?_⟩
  refine List.forall_mem_cons.mpr ⟨u_known hts l_gT11_X8 (hts (.instantiable RX8 9) (List.mem_of_getElem? (i := 157) (by decide +kernel))), ?_⟩
  refine List.forall_mem_cons.mpr ⟨u_known hts l_gT11_X9 (hts (.instantiable RX9 5) (List.mem_of_getElem? (i := 375) (by decide +kernel))), ?_⟩
  refine List.forall_mem_cons.mpr ⟨u_known hts l_gT11_X11 (hts (.instantiable RX11 13) (List.mem_of_getElem? (i := 137) (by decide +kernel))), ?_⟩
  refine List.forall_mem_cons.mpr ⟨u_known hts l_gT12_X12 (hts (.instantiable RX12 65) (List.mem_of_getElem? (i := 1298) (by decide +kernel))), ?_⟩
  exact fun _ h => by cases h
theorem e_ar {ty : FieldType} (h : (Cond.arrayClass ty).before args s = true) : ∃ cA : ClassId, ArrOfT s cA ty ∧ s.vm.findClass ("[" ++ ty.toString) = some cA := by
  obtain ⟨cA, kA, comp, h1, h2, h3⟩ := Cond.arrayClass_spec (args := args) (first := s) (o := none) (s := s) (idx := []) h
  exact ⟨cA, fun n z => ⟨fun k h => (by cases h), kA, h2, comp, h3⟩, h1⟩
theorem e_K (hts : ∀ w ∈ lw_tbl, w.before args s = true) : ∃ (D : va_G) (ct : Nat → ClassId), va_K D vwCl (tyl ct) s := by
  have hc : ∀ c : Nat, ∃ d : ClassId × (Nat → Nat), ∀ q : vw_C, vwCl[c]? = some q → u_Kn s q.1 q.2.1 q.2.2 d.1 d.2 := fun c => by
    cases h : vwCl[c]? with
    | none => exact ⟨(0, fun _ => 0), fun q e => by cases e⟩
    | some q =>
      obtain ⟨cC, iS, hq⟩ := e_cl hts q (List.mem_of_getElem? h)
      exact ⟨(cC, iS), fun q' e => by cases e; exact hq⟩
  obtain ⟨c0, a0, b0⟩ := e_ar (hts (.arrayClass .int) (List.mem_of_getElem? (i := 218) (by decide +kernel)))
  obtain ⟨c1, a1, b1⟩ := e_ar (hts (.arrayClass .byte) (List.mem_of_getElem? (i := 217) (by decide +kernel)))
  obtain ⟨c3, a3, b3⟩ := e_ar (hts (.arrayClass .long) (List.mem_of_getElem? (i := 1960) (by decide +kernel)))
  obtain ⟨comp, c2, k2, q1, -, q3, q4, q5⟩ := Cond.arrayOver_spec (args := args) (first := s) (o := none) (s := s) (idx := []) (n := "java/lang/String") (hts (.arrayOver (.object "java/lang/String")) (List.mem_of_getElem? (i := 1304) (by decide +kernel)))
  refine ⟨(fun c => (Classical.choose (hc c)).1, fun c => (Classical.choose (hc c)).2), fun k => ([c0, c1, c2, c3] : List ClassId).getD k 0, fun c q h => Classical.choose_spec (hc c) q h, fun k q h => ?_⟩
  match k, h with
  | 0, h => cases h; exact ⟨a0, b0⟩
  | 1, h => cases h; exact ⟨a1, b1⟩
  | 2, h => cases h; exact ⟨fun n z => ⟨fun k h => (by cases h), k2, q3, comp, q4⟩, k2, comp, q3, q4, q1, q5⟩
  | 3, h => cases h; exact ⟨a3, b3⟩
  | k + 4, h => cases h
end EN
