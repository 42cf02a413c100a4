theorem lwV {G : List Cond} {own C : String} {ix : Nat} {y : MethodName} {c1 : Cond} (hG : G.all goodWord = true) (hin : ∀ w ∈ G, w ∈ lw_tbl) (i5 : Nat) (h5 : G[i5]? = some c1) (i1 i2 i3 i4 : Nat) (h1 : lw_tbl[i1]? = some (.methodLink own ix y)) (h2 : lw_tbl[i2]? = some (.instanceMethod y)) (h3 : lw_tbl[i3]? = some (.selects C y y)) (h4 : lw_tbl[i4]? = some (.initialized C)) : GoodIn lw_tbl (wsV own ix C y (c1 :: G)) := by
  intro w hw
  unfold wsV at hw
  rcases List.mem_append.mp hw with h | h
  · simp only [List.mem_cons, List.not_mem_nil, or_false] at h
    rcases h with rfl | rfl | rfl | rfl
    · exact ⟨List.mem_of_getElem? h1, good_of_word rfl⟩
    · exact ⟨List.mem_of_getElem? h2, good_of_word rfl⟩
    · exact ⟨List.mem_of_getElem? h3, good_of_word rfl⟩
    · exact ⟨List.mem_of_getElem? h4, good_of_word rfl⟩
  · have hm : w ∈ G := by
      rcases List.mem_cons.mp h with e | h'
      · rw [e]; exact List.mem_of_getElem? h5
      · exact h'
    exact ⟨hin w hm, good_of_word (List.all_eq_true.mp hG w hm)⟩
theorem lwV2 {G : List Cond} {own C : String} {ix : Nat} {y : MethodName} {c1 : Cond} (hG : G.all goodWord = true) (hin : ∀ w ∈ G, w ∈ lw_tbl) (i5 : Nat) (h5 : lw_tbl[i5]? = some c1) (hg5 : goodWord c1 = true) (i1 i2 i3 i4 : Nat) (h1 : lw_tbl[i1]? = some (.methodLink own ix y)) (h2 : lw_tbl[i2]? = some (.instanceMethod y)) (h3 : lw_tbl[i3]? = some (.selects C y y)) (h4 : lw_tbl[i4]? = some (.initialized C)) : GoodIn lw_tbl (wsV own ix C y (c1 :: G)) := by
  intro w hw
  unfold wsV at hw
  rcases List.mem_append.mp hw with h | h
  · simp only [List.mem_cons, List.not_mem_nil, or_false] at h
    rcases h with rfl | rfl | rfl | rfl
    · exact ⟨List.mem_of_getElem? h1, good_of_word rfl⟩
    · exact ⟨List.mem_of_getElem? h2, good_of_word rfl⟩
    · exact ⟨List.mem_of_getElem? h3, good_of_word rfl⟩
    · exact ⟨List.mem_of_getElem? h4, good_of_word rfl⟩
  · rcases List.mem_cons.mp h with e | h'
    · rw [e]; exact ⟨List.mem_of_getElem? h5, good_of_word hg5⟩
    · exact ⟨hin w h', good_of_word (List.all_eq_true.mp hG w h')⟩
theorem lwS {G : List Cond} {own : String} {ix : Nat} {y : MethodName} {c1 : Cond} (hG : G.all goodWord = true) (hin : ∀ w ∈ G, w ∈ lw_tbl) (i5 : Nat) (h5 : lw_tbl[i5]? = some c1) (hg5 : goodWord c1 = true) (i1 i2 i3 : Nat) (h1 : lw_tbl[i1]? = some (.methodLink own ix y)) (h2 : lw_tbl[i2]? = some (.static y)) (h3 : lw_tbl[i3]? = some (.initialized y.cls)) : GoodIn lw_tbl (va_wsS own ix y (c1 :: G)) := by
  intro w hw
  unfold va_wsS at hw
  rcases List.mem_append.mp hw with h | h
  · simp only [List.mem_cons, List.not_mem_nil, or_false] at h
    rcases h with rfl | rfl | rfl
    · exact ⟨List.mem_of_getElem? h1, good_of_word rfl⟩
    · exact ⟨List.mem_of_getElem? h2, good_of_word rfl⟩
    · exact ⟨List.mem_of_getElem? h3, good_of_word rfl⟩
  · rcases List.mem_cons.mp h with e | h'
    · rw [e]; exact ⟨List.mem_of_getElem? h5, good_of_word hg5⟩
    · exact ⟨hin w h', good_of_word (List.all_eq_true.mp hG w h')⟩
theorem kw_G_feed : GoodIn lw_tbl (wsV RL 102 RX11 yX11_feed wgX11_feed) := lwV gT11_good l_gT11 118 (by decide +kernel) 464 465 466 109 (by decide +kernel) (by decide +kernel) (by decide +kernel) (by decide +kernel)
theorem kw_M_feed : GoodIn lw_tbl (wsV RL 106 RX12 yX12_feed wgX12_feed) := lwV gT12_good l_gT12 62 (by decide +kernel) 1514 1515 1516 120 (by decide +kernel) (by decide +kernel) (by decide +kernel) (by decide +kernel)
theorem kw_W_tower : GoodIn lw_tbl (va_wsS RL 107 yL_tower wwL_tower) := lwS gTL_good l_gTL 638 (by decide +kernel) (by decide +kernel) 636 637 108 (by decide +kernel) (by decide +kernel) (by decide +kernel)
theorem kw_M_tower : GoodIn lw_tbl (wsV RL 112 RX12 yX12_tower wgX12_tower) := lwV gT12_good l_gT12 229 (by decide +kernel) 1518 1519 1520 120 (by decide +kernel) (by decide +kernel) (by decide +kernel) (by decide +kernel)
theorem kw_G_fault : GoodIn lw_tbl (wsV RL 113 RX11 yX11_fault wgX11_fault) := lwV gT11_good l_gT11 378 (by decide +kernel) 472 473 474 109 (by decide +kernel) (by decide +kernel) (by decide +kernel) (by decide +kernel)
theorem kw_M_fault : GoodIn lw_tbl (wsV RL 117 RX12 yX12_fault wgX12_fault) := lwV gT12_good l_gT12 239 (by decide +kernel) 1642 1643 1644 120 (by decide +kernel) (by decide +kernel) (by decide +kernel) (by decide +kernel)
theorem kw_W_count : GoodIn lw_tbl (va_wsS RL 118 yL_count wwL_count) := lwS gTL_good l_gTL 911 (by decide +kernel) (by decide +kernel) 909 910 108 (by decide +kernel) (by decide +kernel) (by decide +kernel)
theorem kw_M_count : GoodIn lw_tbl (wsV RL 120 RX12 yX12_count wgX12_count) := lwV gT12_good l_gT12 319 (by decide +kernel) 1646 1647 1648 120 (by decide +kernel) (by decide +kernel) (by decide +kernel) (by decide +kernel)
theorem kw_W_gargoyle : GoodIn lw_tbl (va_wsS RL 121 yL_gargoyle wwL_gargoyle) := lwS gTL_good l_gTL 963 (by decide +kernel) (by decide +kernel) 961 962 108 (by decide +kernel) (by decide +kernel) (by decide +kernel)
theorem kw_M_gargoyle : GoodIn lw_tbl (wsV RL 124 RX12 yX12_gargoyle wgX12_gargoyle) := lwV gT12_good l_gT12 332 (by decide +kernel) 1683 1684 1685 120 (by decide +kernel) (by decide +kernel) (by decide +kernel) (by decide +kernel)
theorem kw_W_person : GoodIn lw_tbl (va_wsS RL 125 yL_person wwL_person) := lwS gTL_good l_gTL 984 (by decide +kernel) (by decide +kernel) 982 983 108 (by decide +kernel) (by decide +kernel) (by decide +kernel)
theorem kw_M_person : GoodIn lw_tbl (wsV RL 127 RX12 yX12_person wgX12_person) := lwV gT12_good l_gT12 339 (by decide +kernel) 1702 1703 1704 120 (by decide +kernel) (by decide +kernel) (by decide +kernel) (by decide +kernel)
theorem kw_G_years : GoodIn lw_tbl (wsV RL 128 RX11 yX11_years wgX11_years) := lwV gT11_good l_gT11 457 (by decide +kernel) 476 477 478 109 (by decide +kernel) (by decide +kernel) (by decide +kernel) (by decide +kernel)
theorem kw_M_years : GoodIn lw_tbl (wsV RL 131 RX12 yX12_years wgX12_years) := lwV gT12_good l_gT12 348 (by decide +kernel) 1710 1711 1712 120 (by decide +kernel) (by decide +kernel) (by decide +kernel) (by decide +kernel)
theorem kw_W_cut : GoodIn lw_tbl (va_wsS RL 132 yL_cut wwL_cut) := lwS gTL_good l_gTL 998 (by decide +kernel) (by decide +kernel) 996 997 108 (by decide +kernel) (by decide +kernel) (by decide +kernel)
theorem kw_M_cut : GoodIn lw_tbl (wsV RL 135 RX12 yX12_cut wgX12_cut) := lwV gT12_good l_gT12 360 (by decide +kernel) 1777 1778 1779 120 (by decide +kernel) (by decide +kernel) (by decide +kernel) (by decide +kernel)
theorem kw_W_call : GoodIn lw_tbl (va_wsS RL 136 yL_call wwL_call) := lwS gTL_good l_gTL 1009 (by decide +kernel) (by decide +kernel) 1007 1008 108 (by decide +kernel) (by decide +kernel) (by decide +kernel)
theorem kw_M_call : GoodIn lw_tbl (wsV RL 138 RX12 yX12_call wgX12_call) := lwV gT12_good l_gT12 365 (by decide +kernel) 1786 1787 1788 120 (by decide +kernel) (by decide +kernel) (by decide +kernel) (by decide +kernel)
theorem kw_M_thrown : GoodIn lw_tbl (wsV RL 139 RX12 yX12_thrown wgX12_thrown) := lwV2 gT12_good l_gT12 1513 (by decide +kernel) (by decide +kernel) 1510 1511 1512 120 (by decide +kernel) (by decide +kernel) (by decide +kernel) (by decide +kernel)
theorem kw_W_lift : GoodIn lw_tbl (va_wsS RL 142 yL_lift wwL_lift) := lwS gTL_good l_gTL 1016 (by decide +kernel) (by decide +kernel) 1014 1015 108 (by decide +kernel) (by decide +kernel) (by decide +kernel)
theorem kw_M_lift : GoodIn lw_tbl (wsV RL 144 RX12 yX12_lift wgX12_lift) := lwV gT12_good l_gT12 366 (by decide +kernel) 1790 1791 1792 120 (by decide +kernel) (by decide +kernel) (by decide +kernel) (by decide +kernel)
theorem kw_W_leave : GoodIn lw_tbl (va_wsS RL 145 yL_leave wwL_leave) := lwS gTL_good l_gTL 1023 (by decide +kernel) (by decide +kernel) 1021 1022 108 (by decide +kernel) (by decide +kernel) (by decide +kernel)
theorem kw_M_leave : GoodIn lw_tbl (wsV RL 147 RX12 yX12_leave wgX12_leave) := lwV gT12_good l_gT12 370 (by decide +kernel) 1798 1799 1800 120 (by decide +kernel) (by decide +kernel) (by decide +kernel) (by decide +kernel)
theorem kw_G_undo : GoodIn lw_tbl (wsV RL 148 RX11 yX11_undo wgX11_undo) := lwV gT11_good l_gT11 558 (by decide +kernel) 589 590 591 109 (by decide +kernel) (by decide +kernel) (by decide +kernel) (by decide +kernel)
theorem kw_M_undo : GoodIn lw_tbl (wsV RL 151 RX12 yX12_undo wgX12_undo) := lwV gT12_good l_gT12 372 (by decide +kernel) 1803 1804 1805 120 (by decide +kernel) (by decide +kernel) (by decide +kernel) (by decide +kernel)
theorem kw_W_then : GoodIn lw_tbl (va_wsS RL 152 yL_then wwL_then) := lwS gTL_good l_gTL 1030 (by decide +kernel) (by decide +kernel) 1028 1029 108 (by decide +kernel) (by decide +kernel) (by decide +kernel)
theorem kw_M_then : GoodIn lw_tbl (wsV RL 154 RX12 yX12_then wgX12_then) := lwV gT12_good l_gT12 376 (by decide +kernel) 1811 1812 1813 120 (by decide +kernel) (by decide +kernel) (by decide +kernel) (by decide +kernel)
theorem kw_W_where : GoodIn lw_tbl (va_wsS RL 155 yL_where wwL_where) := lwS gTL_good l_gTL 1049 (by decide +kernel) (by decide +kernel) 1047 1048 108 (by decide +kernel) (by decide +kernel) (by decide +kernel)
theorem kw_M_where : GoodIn lw_tbl (wsV RL 157 RX12 yX12_where wgX12_where) := lwV gT12_good l_gT12 379 (by decide +kernel) 1817 1818 1819 120 (by decide +kernel) (by decide +kernel) (by decide +kernel) (by decide +kernel)
theorem kw_W_loaf : GoodIn lw_tbl (va_wsS RL 158 yL_loaf wwL_loaf) := lwS gTL_good l_gTL 1058 (by decide +kernel) (by decide +kernel) 1056 1057 108 (by decide +kernel) (by decide +kernel) (by decide +kernel)
theorem kw_M_loaf : GoodIn lw_tbl (wsV RL 160 RX12 yX12_loaf wgX12_loaf) := lwV gT12_good l_gT12 382 (by decide +kernel) 1822 1823 1824 120 (by decide +kernel) (by decide +kernel) (by decide +kernel) (by decide +kernel)
theorem kw_W_later : GoodIn lw_tbl (va_wsS RL 161 yL_later wwL_later) := lwS gTL_good l_gTL 1069 (by decide +kernel) (by decide +kernel) 1067 1068 108 (by decide +kernel) (by decide +kernel) (by decide +kernel)
theorem kw_M_later : GoodIn lw_tbl (wsV RL 163 RX12 yX12_later wgX12_later) := lwV gT12_good l_gT12 386 (by decide +kernel) 1830 1831 1832 120 (by decide +kernel) (by decide +kernel) (by decide +kernel) (by decide +kernel)
theorem kw_W_sat : GoodIn lw_tbl (va_wsS RL 164 yL_sat wwL_sat) := lwS gTL_good l_gTL 1076 (by decide +kernel) (by decide +kernel) 1074 1075 108 (by decide +kernel) (by decide +kernel) (by decide +kernel)
theorem kw_M_sat : GoodIn lw_tbl (wsV RL 166 RX12 yX12_sat wgX12_sat) := lwV gT12_good l_gT12 388 (by decide +kernel) 1835 1836 1837 120 (by decide +kernel) (by decide +kernel) (by decide +kernel) (by decide +kernel)
theorem kw_W_fits : GoodIn lw_tbl (va_wsS RL 167 yL_fits wwL_fits) := lwS gTL_good l_gTL 1083 (by decide +kernel) (by decide +kernel) 1081 1082 108 (by decide +kernel) (by decide +kernel) (by decide +kernel)
theorem kw_M_fits : GoodIn lw_tbl (wsV RL 169 RX12 yX12_fits wgX12_fits) := lwV gT12_good l_gT12 389 (by decide +kernel) 1839 1840 1841 120 (by decide +kernel) (by decide +kernel) (by decide +kernel) (by decide +kernel)
theorem kw_W_unlike : GoodIn lw_tbl (va_wsS RL 170 yL_unlike wwL_unlike) := lwS gTL_good l_gTL 1090 (by decide +kernel) (by decide +kernel) 1088 1089 108 (by decide +kernel) (by decide +kernel) (by decide +kernel)
theorem kw_M_unlike : GoodIn lw_tbl (wsV RL 172 RX12 yX12_unlike wgX12_unlike) := lwV gT12_good l_gT12 401 (by decide +kernel) 1863 1864 1865 120 (by decide +kernel) (by decide +kernel) (by decide +kernel) (by decide +kernel)
theorem kw_W_seats : GoodIn lw_tbl (va_wsS RL 173 yL_seats wwL_seats) := lwS gTL_good l_gTL 1097 (by decide +kernel) (by decide +kernel) 1095 1096 108 (by decide +kernel) (by decide +kernel) (by decide +kernel)
theorem kw_M_seats : GoodIn lw_tbl (wsV RL 175 RX12 yX12_seats wgX12_seats) := lwV gT12_good l_gT12 407 (by decide +kernel) 1867 1868 1869 120 (by decide +kernel) (by decide +kernel) (by decide +kernel) (by decide +kernel)
theorem kw_W_turn : GoodIn lw_tbl (va_wsS RL 176 yL_turn wwL_turn) := lwS gTL_good l_gTL 1133 (by decide +kernel) (by decide +kernel) 1131 1132 108 (by decide +kernel) (by decide +kernel) (by decide +kernel)
theorem kw_M_turn : GoodIn lw_tbl (wsV RL 178 RX12 yX12_turn wgX12_turn) := lwV gT12_good l_gT12 411 (by decide +kernel) 1879 1880 1881 120 (by decide +kernel) (by decide +kernel) (by decide +kernel) (by decide +kernel)
theorem kw_W_lasts : GoodIn lw_tbl (va_wsS RL 179 yL_lasts wwL_lasts) := lwS gTL_good l_gTL 1144 (by decide +kernel) (by decide +kernel) 1142 1143 108 (by decide +kernel) (by decide +kernel) (by decide +kernel)
theorem kw_M_lasts : GoodIn lw_tbl (wsV RL 181 RX12 yX12_lasts wgX12_lasts) := lwV gT12_good l_gT12 414 (by decide +kernel) 1884 1885 1886 120 (by decide +kernel) (by decide +kernel) (by decide +kernel) (by decide +kernel)
theorem kw_W_best : GoodIn lw_tbl (va_wsS RL 182 yL_best wwL_best) := lwS gTL_good l_gTL 1156 (by decide +kernel) (by decide +kernel) 1154 1155 108 (by decide +kernel) (by decide +kernel) (by decide +kernel)
theorem kw_M_best : GoodIn lw_tbl (wsV RL 184 RX12 yX12_best wgX12_best) := lwV gT12_good l_gT12 418 (by decide +kernel) 1892 1893 1894 120 (by decide +kernel) (by decide +kernel) (by decide +kernel) (by decide +kernel)
theorem kw_W_greatest : GoodIn lw_tbl (va_wsS RL 185 yL_greatest wwL_greatest) := lwS gTL_good l_gTL 1163 (by decide +kernel) (by decide +kernel) 1161 1162 108 (by decide +kernel) (by decide +kernel) (by decide +kernel)
theorem kw_M_greatest : GoodIn lw_tbl (wsV RL 187 RX12 yX12_greatest wgX12_greatest) := lwV gT12_good l_gT12 392 (by decide +kernel) 1843 1844 1845 120 (by decide +kernel) (by decide +kernel) (by decide +kernel) (by decide +kernel)
theorem kw_W_empty : GoodIn lw_tbl (va_wsS RL 188 yL_empty wwL_empty) := lwS gTL_good l_gTL 1178 (by decide +kernel) (by decide +kernel) 1176 1177 108 (by decide +kernel) (by decide +kernel) (by decide +kernel)
theorem kw_M_empty : GoodIn lw_tbl (wsV RL 190 RX12 yX12_empty wgX12_empty) := lwV gT12_good l_gT12 399 (by decide +kernel) 1855 1856 1857 120 (by decide +kernel) (by decide +kernel) (by decide +kernel) (by decide +kernel)
theorem kw_G_homes : GoodIn lw_tbl (wsV RL 191 RX11 yX11_homes wgX11_homes) := lwV gT11_good l_gT11 644 (by decide +kernel) 601 602 603 109 (by decide +kernel) (by decide +kernel) (by decide +kernel) (by decide +kernel)
theorem kw_M_homes : GoodIn lw_tbl (wsV RL 194 RX12 yX12_homes wgX12_homes) := lwV gT12_good l_gT12 400 (by decide +kernel) 1859 1860 1861 120 (by decide +kernel) (by decide +kernel) (by decide +kernel) (by decide +kernel)
theorem kw_W_see : GoodIn lw_tbl (va_wsS RL 195 yL_see wwL_see) := lwS gTL_good l_gTL 1185 (by decide +kernel) (by decide +kernel) 1183 1184 108 (by decide +kernel) (by decide +kernel) (by decide +kernel)
theorem kw_M_see : GoodIn lw_tbl (wsV RL 197 RX12 yX12_see wgX12_see) := lwV gT12_good l_gT12 419 (by decide +kernel) 1896 1897 1898 120 (by decide +kernel) (by decide +kernel) (by decide +kernel) (by decide +kernel)
theorem kw_W_old : GoodIn lw_tbl (va_wsS RL 198 yL_old wwL_old) := lwS gTL_good l_gTL 1196 (by decide +kernel) (by decide +kernel) 1194 1195 108 (by decide +kernel) (by decide +kernel) (by decide +kernel)
theorem kw_M_old : GoodIn lw_tbl (wsV RL 200 RX12 yX12_old wgX12_old) := lwV gT12_good l_gT12 426 (by decide +kernel) 1900 1901 1902 120 (by decide +kernel) (by decide +kernel) (by decide +kernel) (by decide +kernel)
theorem kw_W_look : GoodIn lw_tbl (va_wsS RL 201 yL_look wwL_look) := lwS gTL_good l_gTL 1225 (by decide +kernel) (by decide +kernel) 1223 1224 108 (by decide +kernel) (by decide +kernel) (by decide +kernel)
theorem kw_M_look : GoodIn lw_tbl (wsV RL 203 RX12 yX12_look wgX12_look) := lwV gT12_good l_gT12 430 (by decide +kernel) 1912 1913 1914 120 (by decide +kernel) (by decide +kernel) (by decide +kernel) (by decide +kernel)
theorem kw_G_forget : GoodIn lw_tbl (wsV RL 204 RX11 yX11_forget wgX11_forget) := lwV gT11_good l_gT11 688 (by decide +kernel) 609 610 611 109 (by decide +kernel) (by decide +kernel) (by decide +kernel) (by decide +kernel)
theorem kw_M_forget : GoodIn lw_tbl (wsV RL 207 RX12 yX12_forget wgX12_forget) := lwV gT12_good l_gT12 433 (by decide +kernel) 1919 1920 1921 120 (by decide +kernel) (by decide +kernel) (by decide +kernel) (by decide +kernel)
theorem kw_W_wet : GoodIn lw_tbl (va_wsS RL 208 yL_wet wwL_wet) := lwS gTL_good l_gTL 1239 (by decide +kernel) (by decide +kernel) 1237 1238 108 (by decide +kernel) (by decide +kernel) (by decide +kernel)
theorem kw_M_wet : GoodIn lw_tbl (wsV RL 210 RX12 yX12_wet wgX12_wet) := lwV gT12_good l_gT12 434 (by decide +kernel) 1923 1924 1925 120 (by decide +kernel) (by decide +kernel) (by decide +kernel) (by decide +kernel)
theorem kw_W_game : GoodIn lw_tbl (va_wsS RL 211 yL_game wwL_game) := lwS gTL_good l_gTL 1255 (by decide +kernel) (by decide +kernel) 1253 1254 108 (by decide +kernel) (by decide +kernel) (by decide +kernel)
theorem kw_M_game : GoodIn lw_tbl (wsV RL 213 RX12 yX12_game wgX12_game) := lwV gT12_good l_gT12 441 (by decide +kernel) 1928 1929 1930 120 (by decide +kernel) (by decide +kernel) (by decide +kernel) (by decide +kernel)
theorem kw_W_ages : GoodIn lw_tbl (va_wsS RL 214 yL_ages wwL_ages) := lwS gTL_good l_gTL 1282 (by decide +kernel) (by decide +kernel) 1280 1281 108 (by decide +kernel) (by decide +kernel) (by decide +kernel)
theorem kw_M_ages : GoodIn lw_tbl (wsV RL 216 RX12 yX12_ages wgX12_ages) := lwV gT12_good l_gT12 452 (by decide +kernel) 1940 1941 1942 120 (by decide +kernel) (by decide +kernel) (by decide +kernel) (by decide +kernel)
theorem kw_G_image : GoodIn lw_tbl (wsV RL 217 RX11 yX11_image wgX11_image) := lwV gT11_good l_gT11 732 (by decide +kernel) 613 614 615 109 (by decide +kernel) (by decide +kernel) (by decide +kernel) (by decide +kernel)
theorem kw_M_image : GoodIn lw_tbl (wsV RL 220 RX12 yX12_image wgX12_image) := lwV gT12_good l_gT12 457 (by decide +kernel) 1953 1954 1955 120 (by decide +kernel) (by decide +kernel) (by decide +kernel) (by decide +kernel)
theorem kw_G_restore : GoodIn lw_tbl (wsV RL 221 RX11 yX11_restore wgX11_restore) := lwV gT11_good l_gT11 747 (by decide +kernel) 632 633 634 109 (by decide +kernel) (by decide +kernel) (by decide +kernel) (by decide +kernel)
theorem kw_M_restore : GoodIn lw_tbl (wsV RL 225 RX12 yX12_restore wgX12_restore) := lwV gT12_good l_gT12 462 (by decide +kernel) 1960 1961 1962 120 (by decide +kernel) (by decide +kernel) (by decide +kernel) (by decide +kernel)
