theorem lwV {G : List Cond} {own C : String} {ix : Nat} {y : MethodName} {c1 : Cond} (hG : G.all goodWord = true) (hin : ∀ w ∈ G, w ∈ lw_tbl) (i5 : Nat) (h5 : G[i5]? = some c1) (i1 i2 i3 i4 : Nat) (h1 : lw_tbl[i1]? = some (.methodLink own ix y)) (h2 : lw_tbl[i2]? = some (.instanceMethod y)) (h3 : lw_tbl[i3]? = some (.selects C y y)) (h4 : lw_tbl[i4]? = some (.initialized C)) : GoodIn lw_tbl (wsV own ix C y (c1 :: G)) := by
  intro w hw
  unfold wsV at hw
  rcases List.mem_append.mp hw with h | h
  · simp only [List.mem_cons, List.not_mem_nil, or_false] at h
    rcases h with rfl | rfl | rfl | rfl
    · exact ⟨List.mem_of_getElem? h1, good_of_word rfl⟩
    · exact ⟨List.mem_of_getElem? h2, good_of_word rfl⟩
    · exact ⟨List.mem_of_getElem? h3, good_of_word rfl⟩
    · exact ⟨List.mem_of_getElem? h4, good_of_word rfl⟩
  · have hm : w ∈ G := by
      rcases List.mem_cons.mp h with e | h'
      · rw [e]; exact List.mem_of_getElem? h5
      · exact h'
    exact ⟨hin w hm, good_of_word (List.all_eq_true.mp hG w hm)⟩
theorem lwV2 {G : List Cond} {own C : String} {ix : Nat} {y : MethodName} {c1 : Cond} (hG : G.all goodWord = true) (hin : ∀ w ∈ G, w ∈ lw_tbl) (i5 : Nat) (h5 : lw_tbl[i5]? = some c1) (hg5 : goodWord c1 = true) (i1 i2 i3 i4 : Nat) (h1 : lw_tbl[i1]? = some (.methodLink own ix y)) (h2 : lw_tbl[i2]? = some (.instanceMethod y)) (h3 : lw_tbl[i3]? = some (.selects C y y)) (h4 : lw_tbl[i4]? = some (.initialized C)) : GoodIn lw_tbl (wsV own ix C y (c1 :: G)) := by
  intro w hw
  unfold wsV at hw
  rcases List.mem_append.mp hw with h | h
  · simp only [List.mem_cons, List.not_mem_nil, or_false] at h
    rcases h with rfl | rfl | rfl | rfl
    · exact ⟨List.mem_of_getElem? h1, good_of_word rfl⟩
    · exact ⟨List.mem_of_getElem? h2, good_of_word rfl⟩
    · exact ⟨List.mem_of_getElem? h3, good_of_word rfl⟩
    · exact ⟨List.mem_of_getElem? h4, good_of_word rfl⟩
  · rcases List.mem_cons.mp h with e | h'
    · rw [e]; exact ⟨List.mem_of_getElem? h5, good_of_word hg5⟩
    · exact ⟨hin w h', good_of_word (List.all_eq_true.mp hG w h')⟩
theorem lwS {G : List Cond} {own : String} {ix : Nat} {y : MethodName} {c1 : Cond} (hG : G.all goodWord = true) (hin : ∀ w ∈ G, w ∈ lw_tbl) (i5 : Nat) (h5 : lw_tbl[i5]? = some c1) (hg5 : goodWord c1 = true) (i1 i2 i3 : Nat) (h1 : lw_tbl[i1]? = some (.methodLink own ix y)) (h2 : lw_tbl[i2]? = some (.static y)) (h3 : lw_tbl[i3]? = some (.initialized y.cls)) : GoodIn lw_tbl (va_wsS own ix y (c1 :: G)) := by
  intro w hw
  unfold va_wsS at hw
  rcases List.mem_append.mp hw with h | h
  · simp only [List.mem_cons, List.not_mem_nil, or_false] at h
    rcases h with rfl | rfl | rfl
    · exact ⟨List.mem_of_getElem? h1, good_of_word rfl⟩
    · exact ⟨List.mem_of_getElem? h2, good_of_word rfl⟩
    · exact ⟨List.mem_of_getElem? h3, good_of_word rfl⟩
  · rcases List.mem_cons.mp h with e | h'
    · rw [e]; exact ⟨List.mem_of_getElem? h5, good_of_word hg5⟩
    · exact ⟨hin w h', good_of_word (List.all_eq_true.mp hG w h')⟩
theorem lwVm {G : List Cond} {own C : String} {ix : Nat} {y : MethodName} {c1 : Cond} (hG : G.all goodWord = true) (hin : ∀ w ∈ G, w ∈ lw_tbl) (h5 : c1 ∈ G) (h1 : Cond.methodLink own ix y ∈ lw_tbl) (h2 : Cond.instanceMethod y ∈ lw_tbl) (h3 : Cond.selects C y y ∈ lw_tbl) (h4 : Cond.initialized C ∈ lw_tbl) : GoodIn lw_tbl (wsV own ix C y (c1 :: G)) := by
  intro w hw
  unfold wsV at hw
  rcases List.mem_append.mp hw with h | h
  · simp only [List.mem_cons, List.not_mem_nil, or_false] at h
    rcases h with rfl | rfl | rfl | rfl
    · exact ⟨h1, good_of_word rfl⟩
    · exact ⟨h2, good_of_word rfl⟩
    · exact ⟨h3, good_of_word rfl⟩
    · exact ⟨h4, good_of_word rfl⟩
  · have hm : w ∈ G := by
      rcases List.mem_cons.mp h with e | h'
      · rw [e]; exact h5
      · exact h'
    exact ⟨hin w hm, good_of_word (List.all_eq_true.mp hG w hm)⟩
theorem lwV2m {G : List Cond} {own C : String} {ix : Nat} {y : MethodName} {c1 : Cond} (hG : G.all goodWord = true) (hin : ∀ w ∈ G, w ∈ lw_tbl) (h5 : c1 ∈ lw_tbl) (hg5 : goodWord c1 = true) (h1 : Cond.methodLink own ix y ∈ lw_tbl) (h2 : Cond.instanceMethod y ∈ lw_tbl) (h3 : Cond.selects C y y ∈ lw_tbl) (h4 : Cond.initialized C ∈ lw_tbl) : GoodIn lw_tbl (wsV own ix C y (c1 :: G)) := by
  intro w hw
  unfold wsV at hw
  rcases List.mem_append.mp hw with h | h
  · simp only [List.mem_cons, List.not_mem_nil, or_false] at h
    rcases h with rfl | rfl | rfl | rfl
    · exact ⟨h1, good_of_word rfl⟩
    · exact ⟨h2, good_of_word rfl⟩
    · exact ⟨h3, good_of_word rfl⟩
    · exact ⟨h4, good_of_word rfl⟩
  · rcases List.mem_cons.mp h with e | h'
    · rw [e]; exact ⟨h5, good_of_word hg5⟩
    · exact ⟨hin w h', good_of_word (List.all_eq_true.mp hG w h')⟩
theorem lwSm {G : List Cond} {own : String} {ix : Nat} {y : MethodName} {c1 : Cond} (hG : G.all goodWord = true) (hin : ∀ w ∈ G, w ∈ lw_tbl) (h5 : c1 ∈ lw_tbl) (hg5 : goodWord c1 = true) (h1 : Cond.methodLink own ix y ∈ lw_tbl) (h2 : Cond.static y ∈ lw_tbl) (h3 : Cond.initialized y.cls ∈ lw_tbl) : GoodIn lw_tbl (va_wsS own ix y (c1 :: G)) := by
  intro w hw
  unfold va_wsS at hw
  rcases List.mem_append.mp hw with h | h
  · simp only [List.mem_cons, List.not_mem_nil, or_false] at h
    rcases h with rfl | rfl | rfl
    · exact ⟨h1, good_of_word rfl⟩
    · exact ⟨h2, good_of_word rfl⟩
    · exact ⟨h3, good_of_word rfl⟩
  · rcases List.mem_cons.mp h with e | h'
    · rw [e]; exact ⟨h5, good_of_word hg5⟩
    · exact ⟨hin w h', good_of_word (List.all_eq_true.mp hG w h')⟩
theorem kw_G_feed : GoodIn lw_tbl (wsV RL 102 RX11 yX11_feed wgX11_feed) := lwVm gT11_good l_gT11 (gm11 1 58 (by first | rfl | decide +kernel)) (lwm2 (i := 116) (by first | rfl | decide +kernel)) (lwm2 (i := 117) (by first | rfl | decide +kernel)) (lwm2 (i := 118) (by first | rfl | decide +kernel)) (lwm1 (i := 1) (by first | rfl | decide +kernel))
theorem kw_M_feed : GoodIn lw_tbl (wsV RL 106 RX12 yX12_feed wgX12_feed) := lwVm gT12_good l_gT12 (gm12 1 2 (by first | rfl | decide +kernel)) (lwm6 (i := 206) (by first | rfl | decide +kernel)) (lwm6 (i := 207) (by first | rfl | decide +kernel)) (lwm6 (i := 208) (by first | rfl | decide +kernel)) (lwm1 (i := 12) (by first | rfl | decide +kernel))
theorem kw_W_tower : GoodIn lw_tbl (va_wsS RL 107 yL_tower wwL_tower) := lwSm gTL_good l_gTL (lwm3 (i := 50) (by first | rfl | decide +kernel)) (by decide +kernel) (lwm3 (i := 48) (by first | rfl | decide +kernel)) (lwm3 (i := 49) (by first | rfl | decide +kernel)) (lwm1 (i := 0) (by first | rfl | decide +kernel))
theorem kw_M_tower : GoodIn lw_tbl (wsV RL 112 RX12 yX12_tower wgX12_tower) := lwVm gT12_good l_gT12 (gm12 3 49 (by first | rfl | decide +kernel)) (lwm6 (i := 210) (by first | rfl | decide +kernel)) (lwm6 (i := 211) (by first | rfl | decide +kernel)) (lwm6 (i := 212) (by first | rfl | decide +kernel)) (lwm1 (i := 12) (by first | rfl | decide +kernel))
theorem kw_G_fault : GoodIn lw_tbl (wsV RL 113 RX11 yX11_fault wgX11_fault) := lwVm gT11_good l_gT11 (gm11 6 18 (by first | rfl | decide +kernel)) (lwm2 (i := 124) (by first | rfl | decide +kernel)) (lwm2 (i := 125) (by first | rfl | decide +kernel)) (lwm2 (i := 126) (by first | rfl | decide +kernel)) (lwm1 (i := 1) (by first | rfl | decide +kernel))
theorem kw_M_fault : GoodIn lw_tbl (wsV RL 117 RX12 yX12_fault wgX12_fault) := lwVm gT12_good l_gT12 (gm12 3 59 (by first | rfl | decide +kernel)) (lwm7 (i := 94) (by first | rfl | decide +kernel)) (lwm7 (i := 95) (by first | rfl | decide +kernel)) (lwm7 (i := 96) (by first | rfl | decide +kernel)) (lwm1 (i := 12) (by first | rfl | decide +kernel))
theorem kw_W_count : GoodIn lw_tbl (va_wsS RL 118 yL_count wwL_count) := lwSm gTL_good l_gTL (lwm4 (i := 83) (by first | rfl | decide +kernel)) (by decide +kernel) (lwm4 (i := 81) (by first | rfl | decide +kernel)) (lwm4 (i := 82) (by first | rfl | decide +kernel)) (lwm1 (i := 0) (by first | rfl | decide +kernel))
theorem kw_M_count : GoodIn lw_tbl (wsV RL 120 RX12 yX12_count wgX12_count) := lwVm gT12_good l_gT12 (gm12 5 19 (by first | rfl | decide +kernel)) (lwm7 (i := 98) (by first | rfl | decide +kernel)) (lwm7 (i := 99) (by first | rfl | decide +kernel)) (lwm7 (i := 100) (by first | rfl | decide +kernel)) (lwm1 (i := 12) (by first | rfl | decide +kernel))
theorem kw_W_gargoyle : GoodIn lw_tbl (va_wsS RL 121 yL_gargoyle wwL_gargoyle) := lwSm gTL_good l_gTL (lwm4 (i := 135) (by first | rfl | decide +kernel)) (by decide +kernel) (lwm4 (i := 133) (by first | rfl | decide +kernel)) (lwm4 (i := 134) (by first | rfl | decide +kernel)) (lwm1 (i := 0) (by first | rfl | decide +kernel))
theorem kw_M_gargoyle : GoodIn lw_tbl (wsV RL 124 RX12 yX12_gargoyle wgX12_gargoyle) := lwVm gT12_good l_gT12 (gm12 5 32 (by first | rfl | decide +kernel)) (lwm7 (i := 135) (by first | rfl | decide +kernel)) (lwm7 (i := 136) (by first | rfl | decide +kernel)) (lwm7 (i := 137) (by first | rfl | decide +kernel)) (lwm1 (i := 12) (by first | rfl | decide +kernel))
theorem kw_W_person : GoodIn lw_tbl (va_wsS RL 125 yL_person wwL_person) := lwSm gTL_good l_gTL (lwm4 (i := 156) (by first | rfl | decide +kernel)) (by decide +kernel) (lwm4 (i := 154) (by first | rfl | decide +kernel)) (lwm4 (i := 155) (by first | rfl | decide +kernel)) (lwm1 (i := 0) (by first | rfl | decide +kernel))
theorem kw_M_person : GoodIn lw_tbl (wsV RL 127 RX12 yX12_person wgX12_person) := lwVm gT12_good l_gT12 (gm12 5 39 (by first | rfl | decide +kernel)) (lwm7 (i := 154) (by first | rfl | decide +kernel)) (lwm7 (i := 155) (by first | rfl | decide +kernel)) (lwm7 (i := 156) (by first | rfl | decide +kernel)) (lwm1 (i := 12) (by first | rfl | decide +kernel))
theorem kw_G_years : GoodIn lw_tbl (wsV RL 128 RX11 yX11_years wgX11_years) := lwVm gT11_good l_gT11 (gm11 7 37 (by first | rfl | decide +kernel)) (lwm2 (i := 128) (by first | rfl | decide +kernel)) (lwm2 (i := 129) (by first | rfl | decide +kernel)) (lwm2 (i := 130) (by first | rfl | decide +kernel)) (lwm1 (i := 1) (by first | rfl | decide +kernel))
theorem kw_M_years : GoodIn lw_tbl (wsV RL 131 RX12 yX12_years wgX12_years) := lwVm gT12_good l_gT12 (gm12 5 48 (by first | rfl | decide +kernel)) (lwm7 (i := 162) (by first | rfl | decide +kernel)) (lwm7 (i := 163) (by first | rfl | decide +kernel)) (lwm7 (i := 164) (by first | rfl | decide +kernel)) (lwm1 (i := 12) (by first | rfl | decide +kernel))
theorem kw_W_cut : GoodIn lw_tbl (va_wsS RL 132 yL_cut wwL_cut) := lwSm gTL_good l_gTL (lwm4 (i := 170) (by first | rfl | decide +kernel)) (by decide +kernel) (lwm4 (i := 168) (by first | rfl | decide +kernel)) (lwm4 (i := 169) (by first | rfl | decide +kernel)) (lwm1 (i := 0) (by first | rfl | decide +kernel))
theorem kw_M_cut : GoodIn lw_tbl (wsV RL 135 RX12 yX12_cut wgX12_cut) := lwVm gT12_good l_gT12 (gm12 6 0 (by first | rfl | decide +kernel)) (lwm7 (i := 229) (by first | rfl | decide +kernel)) (lwm7 (i := 230) (by first | rfl | decide +kernel)) (lwm7 (i := 231) (by first | rfl | decide +kernel)) (lwm1 (i := 12) (by first | rfl | decide +kernel))
theorem kw_W_call : GoodIn lw_tbl (va_wsS RL 136 yL_call wwL_call) := lwSm gTL_good l_gTL (lwm4 (i := 181) (by first | rfl | decide +kernel)) (by decide +kernel) (lwm4 (i := 179) (by first | rfl | decide +kernel)) (lwm4 (i := 180) (by first | rfl | decide +kernel)) (lwm1 (i := 0) (by first | rfl | decide +kernel))
theorem kw_M_call : GoodIn lw_tbl (wsV RL 138 RX12 yX12_call wgX12_call) := lwVm gT12_good l_gT12 (gm12 6 5 (by first | rfl | decide +kernel)) (lwm7 (i := 238) (by first | rfl | decide +kernel)) (lwm7 (i := 239) (by first | rfl | decide +kernel)) (lwm8 (i := 0) (by first | rfl | decide +kernel)) (lwm1 (i := 12) (by first | rfl | decide +kernel))
theorem kw_W_lift : GoodIn lw_tbl (va_wsS RL 139 yL_lift wwL_lift) := lwSm gTL_good l_gTL (lwm4 (i := 188) (by first | rfl | decide +kernel)) (by decide +kernel) (lwm4 (i := 186) (by first | rfl | decide +kernel)) (lwm4 (i := 187) (by first | rfl | decide +kernel)) (lwm1 (i := 0) (by first | rfl | decide +kernel))
theorem kw_M_lift : GoodIn lw_tbl (wsV RL 141 RX12 yX12_lift wgX12_lift) := lwVm gT12_good l_gT12 (gm12 6 6 (by first | rfl | decide +kernel)) (lwm8 (i := 2) (by first | rfl | decide +kernel)) (lwm8 (i := 3) (by first | rfl | decide +kernel)) (lwm8 (i := 4) (by first | rfl | decide +kernel)) (lwm1 (i := 12) (by first | rfl | decide +kernel))
theorem kw_M_thrown : GoodIn lw_tbl (wsV RL 142 RX12 yX12_thrown wgX12_thrown) := lwV2m gT12_good l_gT12 (lwm6 (i := 205) (by first | rfl | decide +kernel)) (by decide +kernel) (lwm6 (i := 202) (by first | rfl | decide +kernel)) (lwm6 (i := 203) (by first | rfl | decide +kernel)) (lwm6 (i := 204) (by first | rfl | decide +kernel)) (lwm1 (i := 12) (by first | rfl | decide +kernel))
theorem kw_W_leave : GoodIn lw_tbl (va_wsS RL 145 yL_leave wwL_leave) := lwSm gTL_good l_gTL (lwm4 (i := 195) (by first | rfl | decide +kernel)) (by decide +kernel) (lwm4 (i := 193) (by first | rfl | decide +kernel)) (lwm4 (i := 194) (by first | rfl | decide +kernel)) (lwm1 (i := 0) (by first | rfl | decide +kernel))
theorem kw_M_leave : GoodIn lw_tbl (wsV RL 147 RX12 yX12_leave wgX12_leave) := lwVm gT12_good l_gT12 (gm12 6 10 (by first | rfl | decide +kernel)) (lwm8 (i := 10) (by first | rfl | decide +kernel)) (lwm8 (i := 11) (by first | rfl | decide +kernel)) (lwm8 (i := 12) (by first | rfl | decide +kernel)) (lwm1 (i := 12) (by first | rfl | decide +kernel))
theorem kw_G_undo : GoodIn lw_tbl (wsV RL 148 RX11 yX11_undo wgX11_undo) := lwVm gT11_good l_gT11 (gm11 9 18 (by first | rfl | decide +kernel)) (lwm3 (i := 1) (by first | rfl | decide +kernel)) (lwm3 (i := 2) (by first | rfl | decide +kernel)) (lwm3 (i := 3) (by first | rfl | decide +kernel)) (lwm1 (i := 1) (by first | rfl | decide +kernel))
theorem kw_M_undo : GoodIn lw_tbl (wsV RL 151 RX12 yX12_undo wgX12_undo) := lwVm gT12_good l_gT12 (gm12 6 12 (by first | rfl | decide +kernel)) (lwm8 (i := 15) (by first | rfl | decide +kernel)) (lwm8 (i := 16) (by first | rfl | decide +kernel)) (lwm8 (i := 17) (by first | rfl | decide +kernel)) (lwm1 (i := 12) (by first | rfl | decide +kernel))
theorem kw_W_then : GoodIn lw_tbl (va_wsS RL 152 yL_then wwL_then) := lwSm gTL_good l_gTL (lwm4 (i := 202) (by first | rfl | decide +kernel)) (by decide +kernel) (lwm4 (i := 200) (by first | rfl | decide +kernel)) (lwm4 (i := 201) (by first | rfl | decide +kernel)) (lwm1 (i := 0) (by first | rfl | decide +kernel))
theorem kw_M_then : GoodIn lw_tbl (wsV RL 154 RX12 yX12_then wgX12_then) := lwVm gT12_good l_gT12 (gm12 6 16 (by first | rfl | decide +kernel)) (lwm8 (i := 23) (by first | rfl | decide +kernel)) (lwm8 (i := 24) (by first | rfl | decide +kernel)) (lwm8 (i := 25) (by first | rfl | decide +kernel)) (lwm1 (i := 12) (by first | rfl | decide +kernel))
theorem kw_W_where : GoodIn lw_tbl (va_wsS RL 155 yL_where wwL_where) := lwSm gTL_good l_gTL (lwm4 (i := 221) (by first | rfl | decide +kernel)) (by decide +kernel) (lwm4 (i := 219) (by first | rfl | decide +kernel)) (lwm4 (i := 220) (by first | rfl | decide +kernel)) (lwm1 (i := 0) (by first | rfl | decide +kernel))
theorem kw_M_where : GoodIn lw_tbl (wsV RL 157 RX12 yX12_where wgX12_where) := lwVm gT12_good l_gT12 (gm12 6 19 (by first | rfl | decide +kernel)) (lwm8 (i := 29) (by first | rfl | decide +kernel)) (lwm8 (i := 30) (by first | rfl | decide +kernel)) (lwm8 (i := 31) (by first | rfl | decide +kernel)) (lwm1 (i := 12) (by first | rfl | decide +kernel))
theorem kw_W_loaf : GoodIn lw_tbl (va_wsS RL 158 yL_loaf wwL_loaf) := lwSm gTL_good l_gTL (lwm4 (i := 230) (by first | rfl | decide +kernel)) (by decide +kernel) (lwm4 (i := 228) (by first | rfl | decide +kernel)) (lwm4 (i := 229) (by first | rfl | decide +kernel)) (lwm1 (i := 0) (by first | rfl | decide +kernel))
theorem kw_M_loaf : GoodIn lw_tbl (wsV RL 160 RX12 yX12_loaf wgX12_loaf) := lwVm gT12_good l_gT12 (gm12 6 22 (by first | rfl | decide +kernel)) (lwm8 (i := 34) (by first | rfl | decide +kernel)) (lwm8 (i := 35) (by first | rfl | decide +kernel)) (lwm8 (i := 36) (by first | rfl | decide +kernel)) (lwm1 (i := 12) (by first | rfl | decide +kernel))
theorem kw_W_later : GoodIn lw_tbl (va_wsS RL 161 yL_later wwL_later) := lwSm gTL_good l_gTL (lwm5 (i := 1) (by first | rfl | decide +kernel)) (by decide +kernel) (lwm4 (i := 239) (by first | rfl | decide +kernel)) (lwm5 (i := 0) (by first | rfl | decide +kernel)) (lwm1 (i := 0) (by first | rfl | decide +kernel))
theorem kw_M_later : GoodIn lw_tbl (wsV RL 163 RX12 yX12_later wgX12_later) := lwVm gT12_good l_gT12 (gm12 6 26 (by first | rfl | decide +kernel)) (lwm8 (i := 42) (by first | rfl | decide +kernel)) (lwm8 (i := 43) (by first | rfl | decide +kernel)) (lwm8 (i := 44) (by first | rfl | decide +kernel)) (lwm1 (i := 12) (by first | rfl | decide +kernel))
theorem kw_W_sat : GoodIn lw_tbl (va_wsS RL 164 yL_sat wwL_sat) := lwSm gTL_good l_gTL (lwm5 (i := 8) (by first | rfl | decide +kernel)) (by decide +kernel) (lwm5 (i := 6) (by first | rfl | decide +kernel)) (lwm5 (i := 7) (by first | rfl | decide +kernel)) (lwm1 (i := 0) (by first | rfl | decide +kernel))
theorem kw_M_sat : GoodIn lw_tbl (wsV RL 166 RX12 yX12_sat wgX12_sat) := lwVm gT12_good l_gT12 (gm12 6 28 (by first | rfl | decide +kernel)) (lwm8 (i := 47) (by first | rfl | decide +kernel)) (lwm8 (i := 48) (by first | rfl | decide +kernel)) (lwm8 (i := 49) (by first | rfl | decide +kernel)) (lwm1 (i := 12) (by first | rfl | decide +kernel))
theorem kw_W_fits : GoodIn lw_tbl (va_wsS RL 167 yL_fits wwL_fits) := lwSm gTL_good l_gTL (lwm5 (i := 15) (by first | rfl | decide +kernel)) (by decide +kernel) (lwm5 (i := 13) (by first | rfl | decide +kernel)) (lwm5 (i := 14) (by first | rfl | decide +kernel)) (lwm1 (i := 0) (by first | rfl | decide +kernel))
theorem kw_M_fits : GoodIn lw_tbl (wsV RL 169 RX12 yX12_fits wgX12_fits) := lwVm gT12_good l_gT12 (gm12 6 29 (by first | rfl | decide +kernel)) (lwm8 (i := 51) (by first | rfl | decide +kernel)) (lwm8 (i := 52) (by first | rfl | decide +kernel)) (lwm8 (i := 53) (by first | rfl | decide +kernel)) (lwm1 (i := 12) (by first | rfl | decide +kernel))
theorem kw_W_unlike : GoodIn lw_tbl (va_wsS RL 170 yL_unlike wwL_unlike) := lwSm gTL_good l_gTL (lwm5 (i := 22) (by first | rfl | decide +kernel)) (by decide +kernel) (lwm5 (i := 20) (by first | rfl | decide +kernel)) (lwm5 (i := 21) (by first | rfl | decide +kernel)) (lwm1 (i := 0) (by first | rfl | decide +kernel))
theorem kw_M_unlike : GoodIn lw_tbl (wsV RL 172 RX12 yX12_unlike wgX12_unlike) := lwVm gT12_good l_gT12 (gm12 6 41 (by first | rfl | decide +kernel)) (lwm8 (i := 75) (by first | rfl | decide +kernel)) (lwm8 (i := 76) (by first | rfl | decide +kernel)) (lwm8 (i := 77) (by first | rfl | decide +kernel)) (lwm1 (i := 12) (by first | rfl | decide +kernel))
theorem kw_W_seats : GoodIn lw_tbl (va_wsS RL 173 yL_seats wwL_seats) := lwSm gTL_good l_gTL (lwm5 (i := 29) (by first | rfl | decide +kernel)) (by decide +kernel) (lwm5 (i := 27) (by first | rfl | decide +kernel)) (lwm5 (i := 28) (by first | rfl | decide +kernel)) (lwm1 (i := 0) (by first | rfl | decide +kernel))
theorem kw_M_seats : GoodIn lw_tbl (wsV RL 175 RX12 yX12_seats wgX12_seats) := lwVm gT12_good l_gT12 (gm12 6 47 (by first | rfl | decide +kernel)) (lwm8 (i := 79) (by first | rfl | decide +kernel)) (lwm8 (i := 80) (by first | rfl | decide +kernel)) (lwm8 (i := 81) (by first | rfl | decide +kernel)) (lwm1 (i := 12) (by first | rfl | decide +kernel))
theorem kw_W_turn : GoodIn lw_tbl (va_wsS RL 176 yL_turn wwL_turn) := lwSm gTL_good l_gTL (lwm5 (i := 65) (by first | rfl | decide +kernel)) (by decide +kernel) (lwm5 (i := 63) (by first | rfl | decide +kernel)) (lwm5 (i := 64) (by first | rfl | decide +kernel)) (lwm1 (i := 0) (by first | rfl | decide +kernel))
theorem kw_M_turn : GoodIn lw_tbl (wsV RL 178 RX12 yX12_turn wgX12_turn) := lwVm gT12_good l_gT12 (gm12 6 51 (by first | rfl | decide +kernel)) (lwm8 (i := 91) (by first | rfl | decide +kernel)) (lwm8 (i := 92) (by first | rfl | decide +kernel)) (lwm8 (i := 93) (by first | rfl | decide +kernel)) (lwm1 (i := 12) (by first | rfl | decide +kernel))
theorem kw_W_lasts : GoodIn lw_tbl (va_wsS RL 179 yL_lasts wwL_lasts) := lwSm gTL_good l_gTL (lwm5 (i := 76) (by first | rfl | decide +kernel)) (by decide +kernel) (lwm5 (i := 74) (by first | rfl | decide +kernel)) (lwm5 (i := 75) (by first | rfl | decide +kernel)) (lwm1 (i := 0) (by first | rfl | decide +kernel))
theorem kw_M_lasts : GoodIn lw_tbl (wsV RL 181 RX12 yX12_lasts wgX12_lasts) := lwVm gT12_good l_gT12 (gm12 6 54 (by first | rfl | decide +kernel)) (lwm8 (i := 96) (by first | rfl | decide +kernel)) (lwm8 (i := 97) (by first | rfl | decide +kernel)) (lwm8 (i := 98) (by first | rfl | decide +kernel)) (lwm1 (i := 12) (by first | rfl | decide +kernel))
theorem kw_W_best : GoodIn lw_tbl (va_wsS RL 182 yL_best wwL_best) := lwSm gTL_good l_gTL (lwm5 (i := 88) (by first | rfl | decide +kernel)) (by decide +kernel) (lwm5 (i := 86) (by first | rfl | decide +kernel)) (lwm5 (i := 87) (by first | rfl | decide +kernel)) (lwm1 (i := 0) (by first | rfl | decide +kernel))
theorem kw_M_best : GoodIn lw_tbl (wsV RL 184 RX12 yX12_best wgX12_best) := lwVm gT12_good l_gT12 (gm12 6 58 (by first | rfl | decide +kernel)) (lwm8 (i := 104) (by first | rfl | decide +kernel)) (lwm8 (i := 105) (by first | rfl | decide +kernel)) (lwm8 (i := 106) (by first | rfl | decide +kernel)) (lwm1 (i := 12) (by first | rfl | decide +kernel))
theorem kw_W_greatest : GoodIn lw_tbl (va_wsS RL 185 yL_greatest wwL_greatest) := lwSm gTL_good l_gTL (lwm5 (i := 95) (by first | rfl | decide +kernel)) (by decide +kernel) (lwm5 (i := 93) (by first | rfl | decide +kernel)) (lwm5 (i := 94) (by first | rfl | decide +kernel)) (lwm1 (i := 0) (by first | rfl | decide +kernel))
theorem kw_M_greatest : GoodIn lw_tbl (wsV RL 187 RX12 yX12_greatest wgX12_greatest) := lwVm gT12_good l_gT12 (gm12 6 32 (by first | rfl | decide +kernel)) (lwm8 (i := 55) (by first | rfl | decide +kernel)) (lwm8 (i := 56) (by first | rfl | decide +kernel)) (lwm8 (i := 57) (by first | rfl | decide +kernel)) (lwm1 (i := 12) (by first | rfl | decide +kernel))
theorem kw_W_empty : GoodIn lw_tbl (va_wsS RL 188 yL_empty wwL_empty) := lwSm gTL_good l_gTL (lwm5 (i := 110) (by first | rfl | decide +kernel)) (by decide +kernel) (lwm5 (i := 108) (by first | rfl | decide +kernel)) (lwm5 (i := 109) (by first | rfl | decide +kernel)) (lwm1 (i := 0) (by first | rfl | decide +kernel))
theorem kw_M_empty : GoodIn lw_tbl (wsV RL 190 RX12 yX12_empty wgX12_empty) := lwVm gT12_good l_gT12 (gm12 6 39 (by first | rfl | decide +kernel)) (lwm8 (i := 67) (by first | rfl | decide +kernel)) (lwm8 (i := 68) (by first | rfl | decide +kernel)) (lwm8 (i := 69) (by first | rfl | decide +kernel)) (lwm1 (i := 12) (by first | rfl | decide +kernel))
theorem kw_G_homes : GoodIn lw_tbl (wsV RL 191 RX11 yX11_homes wgX11_homes) := lwVm gT11_good l_gT11 (gm11 10 44 (by first | rfl | decide +kernel)) (lwm3 (i := 13) (by first | rfl | decide +kernel)) (lwm3 (i := 14) (by first | rfl | decide +kernel)) (lwm3 (i := 15) (by first | rfl | decide +kernel)) (lwm1 (i := 1) (by first | rfl | decide +kernel))
theorem kw_M_homes : GoodIn lw_tbl (wsV RL 194 RX12 yX12_homes wgX12_homes) := lwVm gT12_good l_gT12 (gm12 6 40 (by first | rfl | decide +kernel)) (lwm8 (i := 71) (by first | rfl | decide +kernel)) (lwm8 (i := 72) (by first | rfl | decide +kernel)) (lwm8 (i := 73) (by first | rfl | decide +kernel)) (lwm1 (i := 12) (by first | rfl | decide +kernel))
theorem kw_W_see : GoodIn lw_tbl (va_wsS RL 195 yL_see wwL_see) := lwSm gTL_good l_gTL (lwm5 (i := 117) (by first | rfl | decide +kernel)) (by decide +kernel) (lwm5 (i := 115) (by first | rfl | decide +kernel)) (lwm5 (i := 116) (by first | rfl | decide +kernel)) (lwm1 (i := 0) (by first | rfl | decide +kernel))
theorem kw_M_see : GoodIn lw_tbl (wsV RL 197 RX12 yX12_see wgX12_see) := lwVm gT12_good l_gT12 (gm12 6 59 (by first | rfl | decide +kernel)) (lwm8 (i := 108) (by first | rfl | decide +kernel)) (lwm8 (i := 109) (by first | rfl | decide +kernel)) (lwm8 (i := 110) (by first | rfl | decide +kernel)) (lwm1 (i := 12) (by first | rfl | decide +kernel))
theorem kw_W_old : GoodIn lw_tbl (va_wsS RL 198 yL_old wwL_old) := lwSm gTL_good l_gTL (lwm5 (i := 128) (by first | rfl | decide +kernel)) (by decide +kernel) (lwm5 (i := 126) (by first | rfl | decide +kernel)) (lwm5 (i := 127) (by first | rfl | decide +kernel)) (lwm1 (i := 0) (by first | rfl | decide +kernel))
theorem kw_M_old : GoodIn lw_tbl (wsV RL 200 RX12 yX12_old wgX12_old) := lwVm gT12_good l_gT12 (gm12 7 6 (by first | rfl | decide +kernel)) (lwm8 (i := 112) (by first | rfl | decide +kernel)) (lwm8 (i := 113) (by first | rfl | decide +kernel)) (lwm8 (i := 114) (by first | rfl | decide +kernel)) (lwm1 (i := 12) (by first | rfl | decide +kernel))
theorem kw_W_look : GoodIn lw_tbl (va_wsS RL 201 yL_look wwL_look) := lwSm gTL_good l_gTL (lwm5 (i := 157) (by first | rfl | decide +kernel)) (by decide +kernel) (lwm5 (i := 155) (by first | rfl | decide +kernel)) (lwm5 (i := 156) (by first | rfl | decide +kernel)) (lwm1 (i := 0) (by first | rfl | decide +kernel))
theorem kw_M_look : GoodIn lw_tbl (wsV RL 203 RX12 yX12_look wgX12_look) := lwVm gT12_good l_gT12 (gm12 7 10 (by first | rfl | decide +kernel)) (lwm8 (i := 124) (by first | rfl | decide +kernel)) (lwm8 (i := 125) (by first | rfl | decide +kernel)) (lwm8 (i := 126) (by first | rfl | decide +kernel)) (lwm1 (i := 12) (by first | rfl | decide +kernel))
theorem kw_G_forget : GoodIn lw_tbl (wsV RL 204 RX11 yX11_forget wgX11_forget) := lwVm gT11_good l_gT11 (gm11 11 28 (by first | rfl | decide +kernel)) (lwm3 (i := 21) (by first | rfl | decide +kernel)) (lwm3 (i := 22) (by first | rfl | decide +kernel)) (lwm3 (i := 23) (by first | rfl | decide +kernel)) (lwm1 (i := 1) (by first | rfl | decide +kernel))
theorem kw_M_forget : GoodIn lw_tbl (wsV RL 207 RX12 yX12_forget wgX12_forget) := lwVm gT12_good l_gT12 (gm12 7 13 (by first | rfl | decide +kernel)) (lwm8 (i := 131) (by first | rfl | decide +kernel)) (lwm8 (i := 132) (by first | rfl | decide +kernel)) (lwm8 (i := 133) (by first | rfl | decide +kernel)) (lwm1 (i := 12) (by first | rfl | decide +kernel))
theorem kw_W_wet : GoodIn lw_tbl (va_wsS RL 208 yL_wet wwL_wet) := lwSm gTL_good l_gTL (lwm5 (i := 171) (by first | rfl | decide +kernel)) (by decide +kernel) (lwm5 (i := 169) (by first | rfl | decide +kernel)) (lwm5 (i := 170) (by first | rfl | decide +kernel)) (lwm1 (i := 0) (by first | rfl | decide +kernel))
theorem kw_M_wet : GoodIn lw_tbl (wsV RL 210 RX12 yX12_wet wgX12_wet) := lwVm gT12_good l_gT12 (gm12 7 14 (by first | rfl | decide +kernel)) (lwm8 (i := 135) (by first | rfl | decide +kernel)) (lwm8 (i := 136) (by first | rfl | decide +kernel)) (lwm8 (i := 137) (by first | rfl | decide +kernel)) (lwm1 (i := 12) (by first | rfl | decide +kernel))
theorem kw_W_game : GoodIn lw_tbl (va_wsS RL 211 yL_game wwL_game) := lwSm gTL_good l_gTL (lwm5 (i := 187) (by first | rfl | decide +kernel)) (by decide +kernel) (lwm5 (i := 185) (by first | rfl | decide +kernel)) (lwm5 (i := 186) (by first | rfl | decide +kernel)) (lwm1 (i := 0) (by first | rfl | decide +kernel))
theorem kw_M_game : GoodIn lw_tbl (wsV RL 213 RX12 yX12_game wgX12_game) := lwVm gT12_good l_gT12 (gm12 7 21 (by first | rfl | decide +kernel)) (lwm8 (i := 140) (by first | rfl | decide +kernel)) (lwm8 (i := 141) (by first | rfl | decide +kernel)) (lwm8 (i := 142) (by first | rfl | decide +kernel)) (lwm1 (i := 12) (by first | rfl | decide +kernel))
theorem kw_W_ages : GoodIn lw_tbl (va_wsS RL 214 yL_ages wwL_ages) := lwSm gTL_good l_gTL (lwm5 (i := 214) (by first | rfl | decide +kernel)) (by decide +kernel) (lwm5 (i := 212) (by first | rfl | decide +kernel)) (lwm5 (i := 213) (by first | rfl | decide +kernel)) (lwm1 (i := 0) (by first | rfl | decide +kernel))
theorem kw_M_ages : GoodIn lw_tbl (wsV RL 216 RX12 yX12_ages wgX12_ages) := lwVm gT12_good l_gT12 (gm12 7 32 (by first | rfl | decide +kernel)) (lwm8 (i := 152) (by first | rfl | decide +kernel)) (lwm8 (i := 153) (by first | rfl | decide +kernel)) (lwm8 (i := 154) (by first | rfl | decide +kernel)) (lwm1 (i := 12) (by first | rfl | decide +kernel))
theorem kw_G_image : GoodIn lw_tbl (wsV RL 217 RX11 yX11_image wgX11_image) := lwVm gT11_good l_gT11 (gm11 12 12 (by first | rfl | decide +kernel)) (lwm3 (i := 25) (by first | rfl | decide +kernel)) (lwm3 (i := 26) (by first | rfl | decide +kernel)) (lwm3 (i := 27) (by first | rfl | decide +kernel)) (lwm1 (i := 1) (by first | rfl | decide +kernel))
theorem kw_M_image : GoodIn lw_tbl (wsV RL 220 RX12 yX12_image wgX12_image) := lwVm gT12_good l_gT12 (gm12 7 37 (by first | rfl | decide +kernel)) (lwm8 (i := 165) (by first | rfl | decide +kernel)) (lwm8 (i := 166) (by first | rfl | decide +kernel)) (lwm8 (i := 167) (by first | rfl | decide +kernel)) (lwm1 (i := 12) (by first | rfl | decide +kernel))
theorem kw_G_restore : GoodIn lw_tbl (wsV RL 221 RX11 yX11_restore wgX11_restore) := lwVm gT11_good l_gT11 (gm11 12 27 (by first | rfl | decide +kernel)) (lwm3 (i := 44) (by first | rfl | decide +kernel)) (lwm3 (i := 45) (by first | rfl | decide +kernel)) (lwm3 (i := 46) (by first | rfl | decide +kernel)) (lwm1 (i := 1) (by first | rfl | decide +kernel))
theorem kw_M_restore : GoodIn lw_tbl (wsV RL 225 RX12 yX12_restore wgX12_restore) := lwVm gT12_good l_gT12 (gm12 7 42 (by first | rfl | decide +kernel)) (lwm8 (i := 172) (by first | rfl | decide +kernel)) (lwm8 (i := 173) (by first | rfl | decide +kernel)) (lwm8 (i := 174) (by first | rfl | decide +kernel)) (lwm1 (i := 12) (by first | rfl | decide +kernel))
