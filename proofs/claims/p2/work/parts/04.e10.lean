theorem dX12_tellGains_77 : decode cX12_tellGains 77 = .ok (.aload_n 0, 1) := by decide +kernel
theorem dX12_tellGains_78 : decode cX12_tellGains 78 = .ok (.iload_n 1, 1) := by decide +kernel
theorem dX12_tellGains_79 : decode cX12_tellGains 79 = .ok (.iload_n 3, 1) := by decide +kernel
theorem dX12_tellGains_80 : decode cX12_tellGains 80 = .ok (.iconst 2, 1) := by decide +kernel
theorem dX12_tellGains_81 : decode cX12_tellGains 81 = .ok (.idiv, 1) := by decide +kernel
theorem dX12_tellGains_82 : decode cX12_tellGains 82 = .ok (.invokevirtual 491, 3) := by decide +kernel
theorem dX12_tellGains_85 : decode cX12_tellGains 85 = .ok (.iastore, 1) := by decide +kernel
theorem dX12_tellGains_86 : decode cX12_tellGains 86 = .ok (.aload_n 0, 1) := by decide +kernel
theorem dX12_tellGains_87 : decode cX12_tellGains 87 = .ok (.getfield 142, 3) := by decide +kernel
theorem dX12_tellGains_90 : decode cX12_tellGains 90 = .ok (.iconst 2, 1) := by decide +kernel
theorem dX12_tellGains_91 : decode cX12_tellGains 91 = .ok (.iload_n 3, 1) := by decide +kernel
theorem dX12_tellGains_92 : decode cX12_tellGains 92 = .ok (.imul, 1) := by decide +kernel
theorem dX12_tellGains_93 : decode cX12_tellGains 93 = .ok (.iconst 1, 1) := by decide +kernel
theorem dX12_tellGains_94 : decode cX12_tellGains 94 = .ok (.iadd, 1) := by decide +kernel
theorem dX12_tellGains_95 : decode cX12_tellGains 95 = .ok (.aload_n 0, 1) := by decide +kernel
theorem dX12_tellGains_96 : decode cX12_tellGains 96 = .ok (.iload_n 2, 1) := by decide +kernel
theorem dX12_tellGains_97 : decode cX12_tellGains 97 = .ok (.iload_n 3, 1) := by decide +kernel
theorem dX12_tellGains_98 : decode cX12_tellGains 98 = .ok (.iconst 2, 1) := by decide +kernel
theorem dX12_tellGains_99 : decode cX12_tellGains 99 = .ok (.irem, 1) := by decide +kernel
theorem dX12_tellGains_100 : decode cX12_tellGains 100 = .ok (.invokevirtual 491, 3) := by decide +kernel
theorem dX12_tellGains_103 : decode cX12_tellGains 103 = .ok (.iastore, 1) := by decide +kernel
theorem dX12_tellGains_104 : decode cX12_tellGains 104 = .ok (.aload_n 0, 1) := by decide +kernel
theorem dX12_tellGains_105 : decode cX12_tellGains 105 = .ok (.aload_n 0, 1) := by decide +kernel
theorem dX12_tellGains_106 : decode cX12_tellGains 106 = .ok (.getfield 118, 3) := by decide +kernel
theorem dX12_tellGains_109 : decode cX12_tellGains 109 = .ok (.iconst 0, 1) := by decide +kernel
theorem dX12_tellGains_110 : decode cX12_tellGains 110 = .ok (.invokevirtual 446, 3) := by decide +kernel
theorem dX12_tellGains_113 : decode cX12_tellGains 113 = .ok (.iinc 3 1, 3) := by decide +kernel
theorem dX12_tellGains_116 : decode cX12_tellGains 116 = .ok (.goto (-105), 3) := by decide +kernel
theorem dX12_tellGains_119 : decode cX12_tellGains 119 = .ok (.return_, 1) := by decide +kernel
set_option maxRecDepth 20000 in
theorem ggX12_game_X12_isStone : GoodIn wsX12_game wsX12_isStone := goodIn_r _ [7, 8, 9, 10, 6, 11, 132, 133, 134, 135, 136, 137, 138, 139, 140, 141, 142, 143, 144, 145, 146, 147, 148, 149, 150, 151, 152, 153, 154, 155, 156, 157, 158, 159, 160, 161, 162, 163, 164, 165, 166, 167, 168, 169, 170, 171, 172, 173, 174, 175, 176, 177, 178, 179, 180, 181, 182, 183, 184, 185, 186, 187, 188, 189, 190, 191, 192, 193, 194, 195, 196] (by decide +kernel) (by decide +kernel)
set_option maxRecDepth 20000 in
theorem gX12_game_X12_isStone : GoodIn wsX12_game (wsV RX12 411 RX12 yX12_isStone wsX12_isStone) := goodIn_app (goodIn_of _ (by decide +kernel)) ggX12_game_X12_isStone
set_option maxRecDepth 20000 in
theorem ggX12_game_X12_isIn : GoodIn wsX12_game wsX12_isIn := goodIn_r _ [11] (by decide +kernel) (by decide +kernel)
set_option maxRecDepth 20000 in
theorem gX12_game_X12_isIn : GoodIn wsX12_game (va_wsS RX12 166 yX12_isIn wsX12_isIn) := goodIn_app (goodIn_of _ (by decide +kernel)) ggX12_game_X12_isIn
set_option maxRecDepth 20000 in
theorem ggX12_game_X12_fail : GoodIn wsX12_game wsX12_fail := goodIn_r _ [15, 1, 132, 133, 134, 135, 136, 137, 138, 139, 140, 141, 142, 143, 144, 145, 146, 147, 148, 149, 150, 151, 152, 153, 154, 155, 156, 157, 158, 159, 160, 161, 162, 163, 164, 165, 166, 167, 168, 169, 170, 171, 172, 173, 174, 175, 176, 177, 178, 179, 180, 181, 182, 183, 184, 185, 186, 187, 188, 189, 190, 191, 192, 193, 194, 195, 196] (by decide +kernel) (by decide +kernel)
set_option maxRecDepth 20000 in
theorem gX12_game_X12_fail : GoodIn wsX12_game (wsV RX12 310 RX12 yX12_fail wsX12_fail) := goodIn_app (goodIn_of _ (by decide +kernel)) ggX12_game_X12_fail
set_option maxRecDepth 20000 in
theorem ggX12_game_X12_tellGains : GoodIn wsX12_game wsX12_tellGains := goodIn_r _ [19, 20, 21, 22, 2, 23, 24, 25, 6, 26, 27, 28, 29, 30, 31, 32, 33, 34, 35, 36, 37, 38, 39, 40, 41, 42, 43, 44, 45, 8, 46, 47, 48, 49, 50, 51, 52, 53, 54, 55, 56, 57, 58, 59, 60, 61, 62, 63, 64, 65, 66, 67, 68, 69, 70, 71, 72, 73, 74, 75, 76, 77, 78, 79, 80, 81, 82, 83, 84, 85, 86, 87, 88, 89, 90, 91, 92, 93, 94, 95, 96, 97, 98, 99, 100, 101, 102, 103, 104, 105, 106, 107, 108, 109, 110, 111, 112, 113, 114, 115, 116, 117, 118, 119, 120, 121, 122, 123, 124, 125, 126, 127, 128, 129, 130, 131, 132, 133, 134, 135, 136, 137, 138, 139, 140, 141, 142, 143, 144, 145, 146, 147, 148, 149, 150, 151, 152, 153, 154, 155, 156, 157, 158, 159, 160, 161, 162, 163, 164, 165, 166, 167, 168, 169, 170, 171, 172, 173, 174, 175, 176, 177, 178, 179, 180, 181, 182, 183, 184, 185, 186, 187, 188, 189, 190, 191, 192, 193, 194, 195, 196] (by decide +kernel) (by decide +kernel)
set_option maxRecDepth 20000 in
theorem gX12_game_X12_tellGains : GoodIn wsX12_game (wsV RX12 494 RX12 yX12_tellGains wsX12_tellGains) := goodIn_app (goodIn_of _ (by decide +kernel)) ggX12_game_X12_tellGains
theorem dX12_game_0 : decode cX12_game 0 = .ok (.aload_n 0, 1) := by decide +kernel
theorem dX12_game_1 : decode cX12_game 1 = .ok (.iconst 0, 1) := by decide +kernel
theorem dX12_game_2 : decode cX12_game 2 = .ok (.putfield 163, 3) := by decide +kernel
theorem dX12_game_5 : decode cX12_game 5 = .ok (.aload_n 0, 1) := by decide +kernel
theorem dX12_game_6 : decode cX12_game 6 = .ok (.iload_n 1, 1) := by decide +kernel
theorem dX12_game_7 : decode cX12_game 7 = .ok (.invokevirtual 411, 3) := by decide +kernel
theorem dX12_game_10 : decode cX12_game 10 = .ok (.ifCond .eq 21, 3) := by decide +kernel
theorem dX12_game_13 : decode cX12_game 13 = .ok (.aload_n 0, 1) := by decide +kernel
theorem dX12_game_14 : decode cX12_game 14 = .ok (.iload_n 2, 1) := by decide +kernel
theorem dX12_game_15 : decode cX12_game 15 = .ok (.invokevirtual 411, 3) := by decide +kernel
theorem dX12_game_18 : decode cX12_game 18 = .ok (.ifCond .eq 13, 3) := by decide +kernel
theorem dX12_game_21 : decode cX12_game 21 = .ok (.iload_n 3, 1) := by decide +kernel
theorem dX12_game_22 : decode cX12_game 22 = .ok (.i2l, 1) := by decide +kernel
theorem dX12_game_23 : decode cX12_game 23 = .ok (.lconst 0, 1) := by decide +kernel
theorem dX12_game_24 : decode cX12_game 24 = .ok (.lconst 1, 1) := by decide +kernel
theorem dX12_game_25 : decode cX12_game 25 = .ok (.invokestatic 166, 3) := by decide +kernel
theorem dX12_game_28 : decode cX12_game 28 = .ok (.ifCond .ne 9, 3) := by decide +kernel
theorem dX12_game_31 : decode cX12_game 31 = .ok (.aload_n 0, 1) := by decide +kernel
theorem dX12_game_32 : decode cX12_game 32 = .ok (.iconst 1, 1) := by decide +kernel
theorem dX12_game_33 : decode cX12_game 33 = .ok (.invokevirtual 310, 3) := by decide +kernel
theorem dX12_game_36 : decode cX12_game 36 = .ok (.ireturn, 1) := by decide +kernel
theorem dX12_game_37 : decode cX12_game 37 = .ok (.iload_n 1, 1) := by decide +kernel
theorem dX12_game_38 : decode cX12_game 38 = .ok (.iload_n 2, 1) := by decide +kernel
theorem dX12_game_39 : decode cX12_game 39 = .ok (.if_icmp .ne 9, 3) := by decide +kernel
theorem dX12_game_42 : decode cX12_game 42 = .ok (.aload_n 0, 1) := by decide +kernel
theorem dX12_game_43 : decode cX12_game 43 = .ok (.iconst 2, 1) := by decide +kernel
theorem dX12_game_44 : decode cX12_game 44 = .ok (.invokevirtual 310, 3) := by decide +kernel
theorem dX12_game_47 : decode cX12_game 47 = .ok (.ireturn, 1) := by decide +kernel
theorem dX12_game_48 : decode cX12_game 48 = .ok (.aload_n 0, 1) := by decide +kernel
theorem dX12_game_49 : decode cX12_game 49 = .ok (.iload_n 1, 1) := by decide +kernel
theorem dX12_game_50 : decode cX12_game 50 = .ok (.iload_n 2, 1) := by decide +kernel
theorem dX12_game_51 : decode cX12_game 51 = .ok (.invokevirtual 494, 3) := by decide +kernel
theorem dX12_game_54 : decode cX12_game 54 = .ok (.iconst 0, 1) := by decide +kernel
theorem dX12_game_55 : decode cX12_game 55 = .ok (.istore 4, 2) := by decide +kernel
theorem dX12_game_57 : decode cX12_game 57 = .ok (.iconst (-1), 1) := by decide +kernel
theorem dX12_game_58 : decode cX12_game 58 = .ok (.istore 5, 2) := by decide +kernel
theorem dX12_game_60 : decode cX12_game 60 = .ok (.iconst 0, 1) := by decide +kernel
theorem dX12_game_61 : decode cX12_game 61 = .ok (.istore 6, 2) := by decide +kernel
theorem dX12_game_63 : decode cX12_game 63 = .ok (.iload 6, 2) := by decide +kernel
theorem dX12_game_65 : decode cX12_game 65 = .ok (.iconst 4, 1) := by decide +kernel
theorem dX12_game_66 : decode cX12_game 66 = .ok (.if_icmp .ge 90, 3) := by decide +kernel
theorem dX12_game_69 : decode cX12_game 69 = .ok (.aload_n 0, 1) := by decide +kernel
theorem dX12_game_70 : decode cX12_game 70 = .ok (.getfield 142, 3) := by decide +kernel
theorem dX12_game_73 : decode cX12_game 73 = .ok (.iconst 2, 1) := by decide +kernel
theorem dX12_game_74 : decode cX12_game 74 = .ok (.iload 6, 2) := by decide +kernel
theorem dX12_game_76 : decode cX12_game 76 = .ok (.iconst 2, 1) := by decide +kernel
theorem dX12_game_77 : decode cX12_game 77 = .ok (.ixor, 1) := by decide +kernel
theorem dX12_game_78 : decode cX12_game 78 = .ok (.imul, 1) := by decide +kernel
theorem dX12_game_79 : decode cX12_game 79 = .ok (.iaload, 1) := by decide +kernel
theorem dX12_game_80 : decode cX12_game 80 = .ok (.aload_n 0, 1) := by decide +kernel
theorem dX12_game_81 : decode cX12_game 81 = .ok (.getfield 142, 3) := by decide +kernel
theorem dX12_game_84 : decode cX12_game 84 = .ok (.iconst 2, 1) := by decide +kernel
theorem dX12_game_85 : decode cX12_game 85 = .ok (.iload 6, 2) := by decide +kernel
theorem dX12_game_87 : decode cX12_game 87 = .ok (.imul, 1) := by decide +kernel
theorem dX12_game_88 : decode cX12_game 88 = .ok (.iaload, 1) := by decide +kernel
theorem dX12_game_89 : decode cX12_game 89 = .ok (.if_icmp .gt 61, 3) := by decide +kernel
theorem dX12_game_92 : decode cX12_game 92 = .ok (.aload_n 0, 1) := by decide +kernel
theorem dX12_game_93 : decode cX12_game 93 = .ok (.getfield 142, 3) := by decide +kernel
theorem dX12_game_96 : decode cX12_game 96 = .ok (.iconst 2, 1) := by decide +kernel
theorem dX12_game_97 : decode cX12_game 97 = .ok (.iload 6, 2) := by decide +kernel
theorem dX12_game_99 : decode cX12_game 99 = .ok (.iconst 1, 1) := by decide +kernel
theorem dX12_game_100 : decode cX12_game 100 = .ok (.ixor, 1) := by decide +kernel
theorem dX12_game_101 : decode cX12_game 101 = .ok (.imul, 1) := by decide +kernel
theorem dX12_game_102 : decode cX12_game 102 = .ok (.iconst 1, 1) := by decide +kernel
theorem dX12_game_103 : decode cX12_game 103 = .ok (.iadd, 1) := by decide +kernel
theorem dX12_game_104 : decode cX12_game 104 = .ok (.iaload, 1) := by decide +kernel
theorem dX12_game_105 : decode cX12_game 105 = .ok (.aload_n 0, 1) := by decide +kernel
theorem dX12_game_106 : decode cX12_game 106 = .ok (.getfield 142, 3) := by decide +kernel
theorem dX12_game_109 : decode cX12_game 109 = .ok (.iconst 2, 1) := by decide +kernel
theorem dX12_game_110 : decode cX12_game 110 = .ok (.iload 6, 2) := by decide +kernel
theorem dX12_game_112 : decode cX12_game 112 = .ok (.imul, 1) := by decide +kernel
theorem dX12_game_113 : decode cX12_game 113 = .ok (.iconst 1, 1) := by decide +kernel
theorem dX12_game_114 : decode cX12_game 114 = .ok (.iadd, 1) := by decide +kernel
theorem dX12_game_115 : decode cX12_game 115 = .ok (.iaload, 1) := by decide +kernel
theorem dX12_game_116 : decode cX12_game 116 = .ok (.if_icmp .le 6, 3) := by decide +kernel
theorem dX12_game_119 : decode cX12_game 119 = .ok (.goto 31, 3) := by decide +kernel
theorem dX12_game_122 : decode cX12_game 122 = .ok (.iinc 4 1, 3) := by decide +kernel
theorem dX12_game_125 : decode cX12_game 125 = .ok (.iload 5, 2) := by decide +kernel
theorem dX12_game_127 : decode cX12_game 127 = .ok (.iconst (-1), 1) := by decide +kernel
theorem dX12_game_128 : decode cX12_game 128 = .ok (.if_icmp .ne 18, 3) := by decide +kernel
theorem dX12_game_131 : decode cX12_game 131 = .ok (.bipush 10, 2) := by decide +kernel
theorem dX12_game_133 : decode cX12_game 133 = .ok (.iload 6, 2) := by decide +kernel
theorem dX12_game_135 : decode cX12_game 135 = .ok (.iconst 2, 1) := by decide +kernel
theorem dX12_game_136 : decode cX12_game 136 = .ok (.idiv, 1) := by decide +kernel
theorem dX12_game_137 : decode cX12_game 137 = .ok (.imul, 1) := by decide +kernel
theorem dX12_game_138 : decode cX12_game 138 = .ok (.iload 6, 2) := by decide +kernel
theorem dX12_game_140 : decode cX12_game 140 = .ok (.iconst 2, 1) := by decide +kernel
theorem dX12_game_141 : decode cX12_game 141 = .ok (.irem, 1) := by decide +kernel
theorem dX12_game_142 : decode cX12_game 142 = .ok (.iadd, 1) := by decide +kernel
theorem dX12_game_143 : decode cX12_game 143 = .ok (.goto 5, 3) := by decide +kernel
theorem dX12_game_146 : decode cX12_game 146 = .ok (.iload 5, 2) := by decide +kernel
theorem dX12_game_148 : decode cX12_game 148 = .ok (.istore 5, 2) := by decide +kernel
theorem dX12_game_150 : decode cX12_game 150 = .ok (.iinc 6 1, 3) := by decide +kernel
theorem dX12_game_153 : decode cX12_game 153 = .ok (.goto (-90), 3) := by decide +kernel
theorem dX12_game_156 : decode cX12_game 156 = .ok (.iload_n 3, 1) := by decide +kernel
theorem dX12_game_157 : decode cX12_game 157 = .ok (.ifCond .ne 8, 3) := by decide +kernel
theorem dX12_game_160 : decode cX12_game 160 = .ok (.iload 4, 2) := by decide +kernel
theorem dX12_game_162 : decode cX12_game 162 = .ok (.goto 5, 3) := by decide +kernel
theorem dX12_game_165 : decode cX12_game 165 = .ok (.iload 5, 2) := by decide +kernel
theorem dX12_game_167 : decode cX12_game 167 = .ok (.ireturn, 1) := by decide +kernel
theorem dX12_drawOf_0 : decode cX12_drawOf 0 = .ok (.aload_n 0, 1) := by decide +kernel
theorem dX12_drawOf_1 : decode cX12_drawOf 1 = .ok (.aload_n 0, 1) := by decide +kernel
theorem dX12_drawOf_2 : decode cX12_drawOf 2 = .ok (.getfield 497, 3) := by decide +kernel
theorem dX12_drawOf_5 : decode cX12_drawOf 5 = .ok (.ldc_w 500, 3) := by decide +kernel
theorem dX12_drawOf_8 : decode cX12_drawOf 8 = .ok (.imul, 1) := by decide +kernel
theorem dX12_drawOf_9 : decode cX12_drawOf 9 = .ok (.sipush 12345, 3) := by decide +kernel
theorem dX12_drawOf_12 : decode cX12_drawOf 12 = .ok (.iadd, 1) := by decide +kernel
theorem dX12_drawOf_13 : decode cX12_drawOf 13 = .ok (.putfield 497, 3) := by decide +kernel
theorem dX12_drawOf_16 : decode cX12_drawOf 16 = .ok (.aload_n 0, 1) := by decide +kernel
theorem dX12_drawOf_17 : decode cX12_drawOf 17 = .ok (.getfield 497, 3) := by decide +kernel
theorem dX12_drawOf_20 : decode cX12_drawOf 20 = .ok (.bipush 16, 2) := by decide +kernel
theorem dX12_drawOf_22 : decode cX12_drawOf 22 = .ok (.ishr, 1) := by decide +kernel
theorem dX12_drawOf_23 : decode cX12_drawOf 23 = .ok (.sipush 32767, 3) := by decide +kernel
theorem dX12_drawOf_26 : decode cX12_drawOf 26 = .ok (.iand, 1) := by decide +kernel
theorem dX12_drawOf_27 : decode cX12_drawOf 27 = .ok (.iload_n 1, 1) := by decide +kernel
theorem dX12_drawOf_28 : decode cX12_drawOf 28 = .ok (.irem, 1) := by decide +kernel
theorem dX12_drawOf_29 : decode cX12_drawOf 29 = .ok (.ireturn, 1) := by decide +kernel
set_option maxRecDepth 20000 in
theorem ggX12_something_X12_drawOf : GoodIn wsX12_something wsX12_drawOf := goodIn_r _ [10, 11, 12, 23, 24, 25, 26, 27, 28, 29, 30, 31, 32, 33, 34, 35, 36, 37, 38, 39, 40, 41, 42, 43, 44, 45, 46, 47, 48, 49, 50, 51, 52, 53, 54, 55, 56, 57, 58, 59, 60, 61, 62, 63, 64, 65, 66, 67, 68, 69, 70, 71, 72, 73, 74, 75, 76, 77, 78, 79, 80, 81, 82, 83, 84, 85, 86, 87] (by decide +kernel) (by decide +kernel)
set_option maxRecDepth 20000 in
theorem gX12_something_X12_drawOf : GoodIn wsX12_something (wsV RX12 501 RX12 yX12_drawOf wsX12_drawOf) := goodIn_app (goodIn_of _ (by decide +kernel)) ggX12_something_X12_drawOf
set_option maxRecDepth 20000 in
theorem ggX12_something_X12_carve : GoodIn wsX12_something wsX12_carve := goodIn_r _ [16, 2, 3, 17, 23, 24, 25, 26, 27, 28, 29, 30, 31, 32, 33, 34, 35, 36, 37, 38, 39, 40, 41, 42, 43, 44, 45, 46, 47, 48, 49, 50, 51, 52, 53, 54, 55, 56, 57, 58, 59, 60, 61, 62, 63, 64, 65, 66, 67, 68, 69, 70, 71, 72, 73, 74, 75, 76, 77, 78, 79, 80, 81, 82, 83, 84, 85, 86, 87] (by decide +kernel) (by decide +kernel)
set_option maxRecDepth 20000 in
theorem gX12_something_X12_carve : GoodIn wsX12_something (wsV RX12 437 RX12 yX12_carve wsX12_carve) := goodIn_app (goodIn_of _ (by decide +kernel)) ggX12_something_X12_carve
set_option maxRecDepth 20000 in
theorem ggX12_something_X12_rainOf : GoodIn wsX12_something wsX12_rainOf := goodIn_r _ [21, 1, 22, 23, 24, 25, 26, 27, 28, 29, 30, 31, 32, 33, 34, 35, 36, 37, 38, 39, 40, 41, 42, 43, 44, 45, 46, 47, 48, 49, 50, 51, 52, 53, 54, 55, 56, 57, 58, 59, 60, 61, 62, 63, 64, 65, 66, 67, 68, 69, 70, 71, 72, 73, 74, 75, 76, 77, 78, 79, 80, 81, 82, 83, 84, 85, 86, 87] (by decide +kernel) (by decide +kernel)
set_option maxRecDepth 20000 in
theorem gX12_something_X12_rainOf : GoodIn wsX12_something (wsV RX12 384 RX12 yX12_rainOf wsX12_rainOf) := goodIn_app (goodIn_of _ (by decide +kernel)) ggX12_something_X12_rainOf
theorem dX12_something_0 : decode cX12_something 0 = .ok (.aload_n 0, 1) := by decide +kernel
theorem dX12_something_1 : decode cX12_something 1 = .ok (.bipush 6, 2) := by decide +kernel
theorem dX12_something_3 : decode cX12_something 3 = .ok (.invokevirtual 501, 3) := by decide +kernel
theorem dX12_something_6 : decode cX12_something 6 = .ok (.istore_n 1, 1) := by decide +kernel
theorem dX12_something_7 : decode cX12_something 7 = .ok (.iload_n 1, 1) := by decide +kernel
theorem dX12_something_8 : decode cX12_something 8 = .ok (.ifCond .ne 40, 3) := by decide +kernel
theorem dX12_something_11 : decode cX12_something 11 = .ok (.aload_n 0, 1) := by decide +kernel
theorem dX12_something_12 : decode cX12_something 12 = .ok (.getfield 42, 3) := by decide +kernel
theorem dX12_something_15 : decode cX12_something 15 = .ok (.iconst 0, 1) := by decide +kernel
theorem dX12_something_16 : decode cX12_something 16 = .ok (.iaload, 1) := by decide +kernel
theorem dX12_something_17 : decode cX12_something 17 = .ok (.ifCond .le 31, 3) := by decide +kernel
theorem dX12_something_20 : decode cX12_something 20 = .ok (.aload_n 0, 1) := by decide +kernel
theorem dX12_something_21 : decode cX12_something 21 = .ok (.aload_n 0, 1) := by decide +kernel
theorem dX12_something_22 : decode cX12_something 22 = .ok (.getfield 42, 3) := by decide +kernel
theorem dX12_something_25 : decode cX12_something 25 = .ok (.iconst 0, 1) := by decide +kernel
theorem dX12_something_26 : decode cX12_something 26 = .ok (.iaload, 1) := by decide +kernel
theorem dX12_something_27 : decode cX12_something 27 = .ok (.invokevirtual 501, 3) := by decide +kernel
theorem dX12_something_30 : decode cX12_something 30 = .ok (.istore_n 2, 1) := by decide +kernel
theorem dX12_something_31 : decode cX12_something 31 = .ok (.aload_n 0, 1) := by decide +kernel
theorem dX12_something_32 : decode cX12_something 32 = .ok (.iload_n 2, 1) := by decide +kernel
theorem dX12_something_33 : decode cX12_something 33 = .ok (.aload_n 0, 1) := by decide +kernel
theorem dX12_something_34 : decode cX12_something 34 = .ok (.getfield 88, 3) := by decide +kernel
theorem dX12_something_37 : decode cX12_something 37 = .ok (.iload_n 2, 1) := by decide +kernel
theorem dX12_something_38 : decode cX12_something 38 = .ok (.iaload, 1) := by decide +kernel
theorem dX12_something_39 : decode cX12_something 39 = .ok (.aload_n 0, 1) := by decide +kernel
theorem dX12_something_40 : decode cX12_something 40 = .ok (.getfield 91, 3) := by decide +kernel
theorem dX12_something_43 : decode cX12_something 43 = .ok (.iload_n 2, 1) := by decide +kernel
theorem dX12_something_44 : decode cX12_something 44 = .ok (.iaload, 1) := by decide +kernel
theorem dX12_something_45 : decode cX12_something 45 = .ok (.invokevirtual 437, 3) := by decide +kernel
theorem dX12_something_48 : decode cX12_something 48 = .ok (.iload_n 1, 1) := by decide +kernel
theorem dX12_something_49 : decode cX12_something 49 = .ok (.iconst 1, 1) := by decide +kernel
theorem dX12_something_50 : decode cX12_something 50 = .ok (.if_icmp .ne 28, 3) := by decide +kernel
theorem dX12_something_53 : decode cX12_something 53 = .ok (.aload_n 0, 1) := by decide +kernel
theorem dX12_something_54 : decode cX12_something 54 = .ok (.getfield 42, 3) := by decide +kernel
theorem dX12_something_57 : decode cX12_something 57 = .ok (.iconst 1, 1) := by decide +kernel
theorem dX12_something_58 : decode cX12_something 58 = .ok (.iaload, 1) := by decide +kernel
theorem dX12_something_59 : decode cX12_something 59 = .ok (.ifCond .le 19, 3) := by decide +kernel
theorem dX12_something_62 : decode cX12_something 62 = .ok (.aload_n 0, 1) := by decide +kernel
theorem dX12_something_63 : decode cX12_something 63 = .ok (.getfield 106, 3) := by decide +kernel
theorem dX12_something_66 : decode cX12_something 66 = .ok (.aload_n 0, 1) := by decide +kernel
theorem dX12_something_67 : decode cX12_something 67 = .ok (.aload_n 0, 1) := by decide +kernel
theorem dX12_something_68 : decode cX12_something 68 = .ok (.getfield 42, 3) := by decide +kernel
theorem dX12_something_71 : decode cX12_something 71 = .ok (.iconst 1, 1) := by decide +kernel
theorem dX12_something_72 : decode cX12_something 72 = .ok (.iaload, 1) := by decide +kernel
theorem dX12_something_73 : decode cX12_something 73 = .ok (.invokevirtual 501, 3) := by decide +kernel
theorem dX12_something_76 : decode cX12_something 76 = .ok (.iconst (-1), 1) := by decide +kernel
theorem dX12_something_77 : decode cX12_something 77 = .ok (.iastore, 1) := by decide +kernel
theorem dX12_something_78 : decode cX12_something 78 = .ok (.iload_n 1, 1) := by decide +kernel
theorem dX12_something_79 : decode cX12_something 79 = .ok (.iconst 2, 1) := by decide +kernel
theorem dX12_something_80 : decode cX12_something 80 = .ok (.if_icmp .ne 12, 3) := by decide +kernel
theorem dX12_something_83 : decode cX12_something 83 = .ok (.aload_n 0, 1) := by decide +kernel
theorem dX12_something_84 : decode cX12_something 84 = .ok (.bipush 10, 2) := by decide +kernel
theorem dX12_something_86 : decode cX12_something 86 = .ok (.invokevirtual 501, 3) := by decide +kernel
theorem dX12_something_89 : decode cX12_something 89 = .ok (.goto 11, 3) := by decide +kernel
theorem dX12_something_92 : decode cX12_something 92 = .ok (.aload_n 0, 1) := by decide +kernel
theorem dX12_something_93 : decode cX12_something 93 = .ok (.aload_n 0, 1) := by decide +kernel
theorem dX12_something_94 : decode cX12_something 94 = .ok (.getfield 323, 3) := by decide +kernel
theorem dX12_something_97 : decode cX12_something 97 = .ok (.invokevirtual 384, 3) := by decide +kernel
theorem dX12_something_100 : decode cX12_something 100 = .ok (.ireturn, 1) := by decide +kernel
set_option maxRecDepth 20000 in
theorem ggX12_ages_X12_isIn : GoodIn wsX12_ages wsX12_isIn := goodIn_r _ [10] (by decide +kernel) (by decide +kernel)
set_option maxRecDepth 20000 in
theorem gX12_ages_X12_isIn : GoodIn wsX12_ages (va_wsS RX12 166 yX12_isIn wsX12_isIn) := goodIn_app (goodIn_of _ (by decide +kernel)) ggX12_ages_X12_isIn
set_option maxRecDepth 20000 in
theorem ggX12_ages_X12_fail : GoodIn wsX12_ages wsX12_fail := goodIn_r _ [14, 1, 127, 128, 129, 130, 131, 132, 133, 134, 135, 136, 137, 138, 139, 140, 141, 142, 143, 144, 145, 146, 147, 148, 149, 150, 151, 152, 153, 154, 155, 156, 157, 158, 159, 160, 161, 162, 163, 164, 165, 166, 167, 168, 169, 170, 171, 172, 173, 174, 175, 176, 177, 178, 179, 180, 181, 182, 183, 184, 185, 186, 187, 188, 189, 190, 191] (by decide +kernel) (by decide +kernel)
set_option maxRecDepth 20000 in
theorem gX12_ages_X12_fail : GoodIn wsX12_ages (wsV RX12 310 RX12 yX12_fail wsX12_fail) := goodIn_app (goodIn_of _ (by decide +kernel)) ggX12_ages_X12_fail
set_option maxRecDepth 20000 in
theorem ggX12_ages_X12_pack : GoodIn wsX12_ages wsX12_pack := goodIn_r _ [18, 19, 20, 21, 22, 23, 24, 25, 26, 27, 127, 128, 129, 130, 131, 132, 133, 134, 135, 136, 137, 138, 139, 140, 141, 142, 143, 144, 145, 146, 147, 148, 149, 150, 151, 152, 153, 154, 155, 156, 157, 158, 159, 160, 161, 162, 163, 164, 165, 166, 167, 168, 169, 170, 171, 172, 173, 174, 175, 176, 177, 178, 179, 180, 181, 182, 183, 184, 185, 186, 187, 188, 189, 190, 191] (by decide +kernel) (by decide +kernel)
set_option maxRecDepth 20000 in
theorem gX12_ages_X12_pack : GoodIn wsX12_ages (wsV RX12 420 RX12 yX12_pack wsX12_pack) := goodIn_app (goodIn_of _ (by decide +kernel)) ggX12_ages_X12_pack
set_option maxRecDepth 20000 in
theorem ggX12_ages_X12_something : GoodIn wsX12_ages wsX12_something := goodIn_r _ [31, 32, 20, 21, 27, 19, 33, 34, 35, 9, 36, 5, 37, 38, 39, 40, 41, 22, 42, 43, 44, 45, 46, 127, 128, 129, 130, 131, 132, 133, 134, 135, 136, 137, 138, 139, 140, 141, 142, 143, 144, 145, 146, 147, 148, 149, 150, 151, 152, 153, 154, 155, 156, 157, 158, 159, 160, 161, 162, 163, 164, 165, 166, 167, 168, 169, 170, 171, 172, 173, 174, 175, 176, 177, 178, 179, 180, 181, 182, 183, 184, 185, 186, 187, 188, 189, 190, 191] (by decide +kernel) (by decide +kernel)
set_option maxRecDepth 20000 in
theorem gX12_ages_X12_something : GoodIn wsX12_ages (wsV RX12 504 RX12 yX12_something wsX12_something) := goodIn_app (goodIn_of _ (by decide +kernel)) ggX12_ages_X12_something
set_option maxRecDepth 20000 in
theorem ggX12_ages_X12_aYearOf : GoodIn wsX12_ages wsX12_aYearOf := goodIn_r _ [50, 32, 19, 51, 52, 53, 9, 54, 22, 55, 56, 57, 58, 20, 21, 59, 60, 61, 62, 27, 63, 64, 65, 66, 67, 68, 69, 70, 71, 72, 73, 74, 75, 76, 77, 78, 79, 80, 81, 82, 83, 84, 85, 86, 87, 25, 26, 88, 23, 24, 89, 90, 91, 92, 93, 94, 95, 6, 96, 97, 98, 99, 100, 101, 102, 103, 104, 105, 106, 107, 108, 109, 110, 111, 127, 128, 129, 130, 131, 132, 133, 134, 135, 136, 137, 138, 139, 140, 141, 142, 143, 144, 145, 146, 147, 148, 149, 150, 151, 152, 153, 154, 155, 156, 157, 158, 159, 160, 161, 162, 163, 164, 165, 166, 167, 168, 169, 170, 171, 172, 173, 174, 175, 176, 177, 178, 179, 180, 181, 182, 183, 184, 185, 186, 187, 188, 189, 190, 191] (by decide +kernel) (by decide +kernel)
set_option maxRecDepth 20000 in
theorem gX12_ages_X12_aYearOf : GoodIn wsX12_ages (wsV RX12 387 RX12 yX12_aYearOf wsX12_aYearOf) := goodIn_app (goodIn_of _ (by decide +kernel)) ggX12_ages_X12_aYearOf
set_option maxRecDepth 20000 in
theorem ggX12_ages_X12_loaves : GoodIn wsX12_ages wsX12_loaves := goodIn_r _ [115, 32, 22, 127, 128, 129, 130, 131, 132, 133, 134, 135, 136, 137, 138, 139, 140, 141, 142, 143, 144, 145, 146, 147, 148, 149, 150, 151, 152, 153, 154, 155, 156, 157, 158, 159, 160, 161, 162, 163, 164, 165, 166, 167, 168, 169, 170, 171, 172, 173, 174, 175, 176, 177, 178, 179, 180, 181, 182, 183, 184, 185, 186, 187, 188, 189, 190, 191] (by decide +kernel) (by decide +kernel)
set_option maxRecDepth 20000 in
theorem gX12_ages_X12_loaves : GoodIn wsX12_ages (wsV RX12 393 RX12 yX12_loaves wsX12_loaves) := goodIn_app (goodIn_of _ (by decide +kernel)) ggX12_ages_X12_loaves
set_option maxRecDepth 20000 in
theorem ggX12_ages_X12_bitsOf : GoodIn wsX12_ages wsX12_bitsOf := goodIn_r _ [118] (by decide +kernel) (by decide +kernel)
set_option maxRecDepth 20000 in
theorem gX12_ages_X12_bitsOf : GoodIn wsX12_ages (va_wsS RX12 486 yX12_bitsOf wsX12_bitsOf) := goodIn_app (goodIn_of _ (by decide +kernel)) ggX12_ages_X12_bitsOf
set_option maxRecDepth 20000 in
theorem ggX12_ages_X12_allStone : GoodIn wsX12_ages wsX12_allStone := goodIn_r _ [122, 32, 22, 127, 128, 129, 130, 131, 132, 133, 134, 135, 136, 137, 138, 139, 140, 141, 142, 143, 144, 145, 146, 147, 148, 149, 150, 151, 152, 153, 154, 155, 156, 157, 158, 159, 160, 161, 162, 163, 164, 165, 166, 167, 168, 169, 170, 171, 172, 173, 174, 175, 176, 177, 178, 179, 180, 181, 182, 183, 184, 185, 186, 187, 188, 189, 190, 191] (by decide +kernel) (by decide +kernel)
set_option maxRecDepth 20000 in
theorem gX12_ages_X12_allStone : GoodIn wsX12_ages (wsV RX12 402 RX12 yX12_allStone wsX12_allStone) := goodIn_app (goodIn_of _ (by decide +kernel)) ggX12_ages_X12_allStone
set_option maxRecDepth 20000 in
theorem ggX12_ages_X12_unpack : GoodIn wsX12_ages wsX12_unpack := goodIn_r _ [126, 19, 20, 21, 22, 23, 24, 25, 26, 27, 127, 128, 129, 130, 131, 132, 133, 134, 135, 136, 137, 138, 139, 140, 141, 142, 143, 144, 145, 146, 147, 148, 149, 150, 151, 152, 153, 154, 155, 156, 157, 158, 159, 160, 161, 162, 163, 164, 165, 166, 167, 168, 169, 170, 171, 172, 173, 174, 175, 176, 177, 178, 179, 180, 181, 182, 183, 184, 185, 186, 187, 188, 189, 190, 191] (by decide +kernel) (by decide +kernel)
set_option maxRecDepth 20000 in
theorem gX12_ages_X12_unpack : GoodIn wsX12_ages (wsV RX12 446 RX12 yX12_unpack wsX12_unpack) := goodIn_app (goodIn_of _ (by decide +kernel)) ggX12_ages_X12_unpack
theorem dX12_ages_0 : decode cX12_ages 0 = .ok (.aload_n 0, 1) := by decide +kernel
theorem dX12_ages_1 : decode cX12_ages 1 = .ok (.iconst 0, 1) := by decide +kernel
theorem dX12_ages_2 : decode cX12_ages 2 = .ok (.putfield 163, 3) := by decide +kernel
theorem dX12_ages_5 : decode cX12_ages 5 = .ok (.iload_n 3, 1) := by decide +kernel
theorem dX12_ages_6 : decode cX12_ages 6 = .ok (.i2l, 1) := by decide +kernel
theorem dX12_ages_7 : decode cX12_ages 7 = .ok (.lconst 0, 1) := by decide +kernel
theorem dX12_ages_8 : decode cX12_ages 8 = .ok (.ldc2_w 458, 3) := by decide +kernel
theorem dX12_ages_11 : decode cX12_ages 11 = .ok (.invokestatic 166, 3) := by decide +kernel
theorem dX12_ages_14 : decode cX12_ages 14 = .ok (.ifCond .ne 9, 3) := by decide +kernel
theorem dX12_ages_17 : decode cX12_ages 17 = .ok (.aload_n 0, 1) := by decide +kernel
theorem dX12_ages_18 : decode cX12_ages 18 = .ok (.iconst 1, 1) := by decide +kernel
theorem dX12_ages_19 : decode cX12_ages 19 = .ok (.invokevirtual 310, 3) := by decide +kernel
theorem dX12_ages_22 : decode cX12_ages 22 = .ok (.ireturn, 1) := by decide +kernel
theorem dX12_ages_23 : decode cX12_ages 23 = .ok (.iload_n 2, 1) := by decide +kernel
theorem dX12_ages_24 : decode cX12_ages 24 = .ok (.i2l, 1) := by decide +kernel
theorem dX12_ages_25 : decode cX12_ages 25 = .ok (.lconst 0, 1) := by decide +kernel
theorem dX12_ages_26 : decode cX12_ages 26 = .ok (.ldc2_w 451, 3) := by decide +kernel
theorem dX12_ages_29 : decode cX12_ages 29 = .ok (.invokestatic 166, 3) := by decide +kernel
theorem dX12_ages_32 : decode cX12_ages 32 = .ok (.ifCond .ne 9, 3) := by decide +kernel
theorem dX12_ages_35 : decode cX12_ages 35 = .ok (.aload_n 0, 1) := by decide +kernel
theorem dX12_ages_36 : decode cX12_ages 36 = .ok (.iconst 2, 1) := by decide +kernel
theorem dX12_ages_37 : decode cX12_ages 37 = .ok (.invokevirtual 310, 3) := by decide +kernel
theorem dX12_ages_40 : decode cX12_ages 40 = .ok (.ireturn, 1) := by decide +kernel
theorem dX12_ages_41 : decode cX12_ages 41 = .ok (.aload_n 0, 1) := by decide +kernel
theorem dX12_ages_42 : decode cX12_ages 42 = .ok (.aload_n 0, 1) := by decide +kernel
theorem dX12_ages_43 : decode cX12_ages 43 = .ok (.getfield 118, 3) := by decide +kernel
theorem dX12_ages_46 : decode cX12_ages 46 = .ok (.iconst 0, 1) := by decide +kernel
theorem dX12_ages_47 : decode cX12_ages 47 = .ok (.invokevirtual 420, 3) := by decide +kernel
theorem dX12_ages_50 : decode cX12_ages 50 = .ok (.aload_n 0, 1) := by decide +kernel
theorem dX12_ages_51 : decode cX12_ages 51 = .ok (.iload_n 1, 1) := by decide +kernel
theorem dX12_ages_52 : decode cX12_ages 52 = .ok (.putfield 497, 3) := by decide +kernel
theorem dX12_ages_55 : decode cX12_ages 55 = .ok (.aload_n 0, 1) := by decide +kernel
theorem dX12_ages_56 : decode cX12_ages 56 = .ok (.iconst 0, 1) := by decide +kernel
theorem dX12_ages_57 : decode cX12_ages 57 = .ok (.putfield 371, 3) := by decide +kernel
theorem dX12_ages_60 : decode cX12_ages 60 = .ok (.iconst 0, 1) := by decide +kernel
theorem dX12_ages_61 : decode cX12_ages 61 = .ok (.istore 4, 2) := by decide +kernel
theorem dX12_ages_63 : decode cX12_ages 63 = .ok (.iload 4, 2) := by decide +kernel
theorem dX12_ages_65 : decode cX12_ages 65 = .ok (.iload_n 2, 1) := by decide +kernel
theorem dX12_ages_66 : decode cX12_ages 66 = .ok (.if_icmp .ge 17, 3) := by decide +kernel
theorem dX12_ages_69 : decode cX12_ages 69 = .ok (.aload_n 0, 1) := by decide +kernel
theorem dX12_ages_70 : decode cX12_ages 70 = .ok (.aload_n 0, 1) := by decide +kernel
theorem dX12_ages_71 : decode cX12_ages 71 = .ok (.invokevirtual 504, 3) := by decide +kernel
theorem dX12_ages_74 : decode cX12_ages 74 = .ok (.invokevirtual 387, 3) := by decide +kernel
theorem dX12_ages_77 : decode cX12_ages 77 = .ok (.iinc 4 1, 3) := by decide +kernel
theorem dX12_ages_80 : decode cX12_ages 80 = .ok (.goto (-17), 3) := by decide +kernel
theorem dX12_ages_83 : decode cX12_ages 83 = .ok (.iload_n 3, 1) := by decide +kernel
theorem dX12_ages_84 : decode cX12_ages 84 = .ok (.ifCond .ne 13, 3) := by decide +kernel
theorem dX12_ages_87 : decode cX12_ages 87 = .ok (.aload_n 0, 1) := by decide +kernel
theorem dX12_ages_88 : decode cX12_ages 88 = .ok (.invokevirtual 393, 3) := by decide +kernel
theorem dX12_ages_91 : decode cX12_ages 91 = .ok (.invokestatic 486, 3) := by decide +kernel
theorem dX12_ages_94 : decode cX12_ages 94 = .ok (.goto 19, 3) := by decide +kernel
theorem dX12_ages_97 : decode cX12_ages 97 = .ok (.iload_n 3, 1) := by decide +kernel
theorem dX12_ages_98 : decode cX12_ages 98 = .ok (.iconst 1, 1) := by decide +kernel
theorem dX12_ages_99 : decode cX12_ages 99 = .ok (.if_icmp .ne 10, 3) := by decide +kernel
theorem dX12_ages_102 : decode cX12_ages 102 = .ok (.aload_n 0, 1) := by decide +kernel
theorem dX12_ages_103 : decode cX12_ages 103 = .ok (.getfield 371, 3) := by decide +kernel
theorem dX12_ages_106 : decode cX12_ages 106 = .ok (.goto 7, 3) := by decide +kernel
theorem dX12_ages_109 : decode cX12_ages 109 = .ok (.aload_n 0, 1) := by decide +kernel
theorem dX12_ages_110 : decode cX12_ages 110 = .ok (.invokevirtual 402, 3) := by decide +kernel
theorem dX12_ages_113 : decode cX12_ages 113 = .ok (.istore 4, 2) := by decide +kernel
theorem dX12_ages_115 : decode cX12_ages 115 = .ok (.aload_n 0, 1) := by decide +kernel
theorem dX12_ages_116 : decode cX12_ages 116 = .ok (.aload_n 0, 1) := by decide +kernel
theorem dX12_ages_117 : decode cX12_ages 117 = .ok (.getfield 118, 3) := by decide +kernel
theorem dX12_ages_120 : decode cX12_ages 120 = .ok (.iconst 0, 1) := by decide +kernel
theorem dX12_ages_121 : decode cX12_ages 121 = .ok (.invokevirtual 446, 3) := by decide +kernel
theorem dX12_ages_124 : decode cX12_ages 124 = .ok (.iload 4, 2) := by decide +kernel
theorem dX12_ages_126 : decode cX12_ages 126 = .ok (.ireturn, 1) := by decide +kernel
theorem dX12_copyTo_0 : decode cX12_copyTo 0 = .ok (.iconst 0, 1) := by decide +kernel
theorem dX12_copyTo_1 : decode cX12_copyTo 1 = .ok (.istore_n 2, 1) := by decide +kernel
theorem dX12_copyTo_2 : decode cX12_copyTo 2 = .ok (.iload_n 2, 1) := by decide +kernel
theorem dX12_copyTo_3 : decode cX12_copyTo 3 = .ok (.aload_n 0, 1) := by decide +kernel
theorem dX12_copyTo_4 : decode cX12_copyTo 4 = .ok (.arraylength, 1) := by decide +kernel
theorem dX12_copyTo_5 : decode cX12_copyTo 5 = .ok (.if_icmp .ge 15, 3) := by decide +kernel
theorem dX12_copyTo_8 : decode cX12_copyTo 8 = .ok (.aload_n 0, 1) := by decide +kernel
theorem dX12_copyTo_9 : decode cX12_copyTo 9 = .ok (.iload_n 2, 1) := by decide +kernel
theorem dX12_copyTo_10 : decode cX12_copyTo 10 = .ok (.aload_n 1, 1) := by decide +kernel
theorem dX12_copyTo_11 : decode cX12_copyTo 11 = .ok (.iload_n 2, 1) := by decide +kernel
theorem dX12_copyTo_12 : decode cX12_copyTo 12 = .ok (.iaload, 1) := by decide +kernel
theorem dX12_copyTo_13 : decode cX12_copyTo 13 = .ok (.iastore, 1) := by decide +kernel
theorem dX12_copyTo_14 : decode cX12_copyTo 14 = .ok (.iinc 2 1, 3) := by decide +kernel
theorem dX12_copyTo_17 : decode cX12_copyTo 17 = .ok (.goto (-15), 3) := by decide +kernel
theorem dX12_copyTo_20 : decode cX12_copyTo 20 = .ok (.return_, 1) := by decide +kernel
set_option maxRecDepth 20000 in
theorem ggX12_image_X12_pack : GoodIn wsX12_image wsX12_pack := goodIn_r _ [22, 23, 24, 25, 26, 27, 28, 29, 30, 31, 35, 36, 37, 38, 39, 40, 41, 42, 43, 44, 45, 46, 47, 48, 49, 50, 51, 52, 53, 54, 55, 56, 57, 58, 59, 60, 61, 62, 63, 64, 65, 66, 67, 68, 69, 70, 71, 72, 73, 74, 75, 76, 77, 78, 79, 80, 81, 82, 83, 84, 85, 86, 87, 88, 89, 90, 91, 92, 93, 94, 95, 96, 97, 98, 99] (by decide +kernel) (by decide +kernel)
set_option maxRecDepth 20000 in
theorem gX12_image_X12_pack : GoodIn wsX12_image (wsV RX12 420 RX12 yX12_pack wsX12_pack) := goodIn_app (goodIn_of _ (by decide +kernel)) ggX12_image_X12_pack
set_option maxRecDepth 20000 in
theorem ggX12_image_X12_copyTo : GoodIn wsX12_image wsX12_copyTo := goodIn_r _ [34] (by decide +kernel) (by decide +kernel)
set_option maxRecDepth 20000 in
theorem gX12_image_X12_copyTo : GoodIn wsX12_image (va_wsS RX12 513 yX12_copyTo wsX12_copyTo) := goodIn_app (goodIn_of _ (by decide +kernel)) ggX12_image_X12_copyTo
theorem dX12_image_0 : decode cX12_image 0 = .ok (.aload_n 0, 1) := by decide +kernel
theorem dX12_image_1 : decode cX12_image 1 = .ok (.iconst 0, 1) := by decide +kernel
theorem dX12_image_2 : decode cX12_image 2 = .ok (.putfield 163, 3) := by decide +kernel
theorem dX12_image_5 : decode cX12_image 5 = .ok (.aload_n 0, 1) := by decide +kernel
theorem dX12_image_6 : decode cX12_image 6 = .ok (.iconst 1, 1) := by decide +kernel
theorem dX12_image_7 : decode cX12_image 7 = .ok (.putfield 332, 3) := by decide +kernel
theorem dX12_image_10 : decode cX12_image 10 = .ok (.aload_n 0, 1) := by decide +kernel
theorem dX12_image_11 : decode cX12_image 11 = .ok (.aload_n 0, 1) := by decide +kernel
theorem dX12_image_12 : decode cX12_image 12 = .ok (.getfield 326, 3) := by decide +kernel
theorem dX12_image_15 : decode cX12_image 15 = .ok (.putfield 507, 3) := by decide +kernel
theorem dX12_image_18 : decode cX12_image 18 = .ok (.aload_n 0, 1) := by decide +kernel
theorem dX12_image_19 : decode cX12_image 19 = .ok (.aload_n 0, 1) := by decide +kernel
theorem dX12_image_20 : decode cX12_image 20 = .ok (.getfield 329, 3) := by decide +kernel
theorem dX12_image_23 : decode cX12_image 23 = .ok (.putfield 510, 3) := by decide +kernel
theorem dX12_image_26 : decode cX12_image 26 = .ok (.aload_n 0, 1) := by decide +kernel
theorem dX12_image_27 : decode cX12_image 27 = .ok (.aload_n 0, 1) := by decide +kernel
theorem dX12_image_28 : decode cX12_image 28 = .ok (.getfield 145, 3) := by decide +kernel
theorem dX12_image_31 : decode cX12_image 31 = .ok (.iconst 0, 1) := by decide +kernel
theorem dX12_image_32 : decode cX12_image 32 = .ok (.invokevirtual 420, 3) := by decide +kernel
theorem dX12_image_35 : decode cX12_image 35 = .ok (.aload_n 0, 1) := by decide +kernel
theorem dX12_image_36 : decode cX12_image 36 = .ok (.getfield 148, 3) := by decide +kernel
theorem dX12_image_39 : decode cX12_image 39 = .ok (.aload_n 0, 1) := by decide +kernel
theorem dX12_image_40 : decode cX12_image 40 = .ok (.getfield 109, 3) := by decide +kernel
theorem dX12_image_43 : decode cX12_image 43 = .ok (.invokestatic 513, 3) := by decide +kernel
theorem dX12_image_46 : decode cX12_image 46 = .ok (.aload_n 0, 1) := by decide +kernel
theorem dX12_image_47 : decode cX12_image 47 = .ok (.getfield 151, 3) := by decide +kernel
theorem dX12_image_50 : decode cX12_image 50 = .ok (.aload_n 0, 1) := by decide +kernel
theorem dX12_image_51 : decode cX12_image 51 = .ok (.getfield 124, 3) := by decide +kernel
theorem dX12_image_54 : decode cX12_image 54 = .ok (.invokestatic 513, 3) := by decide +kernel
theorem dX12_image_57 : decode cX12_image 57 = .ok (.aload_n 0, 1) := by decide +kernel
theorem dX12_image_58 : decode cX12_image 58 = .ok (.getfield 154, 3) := by decide +kernel
theorem dX12_image_61 : decode cX12_image 61 = .ok (.aload_n 0, 1) := by decide +kernel
theorem dX12_image_62 : decode cX12_image 62 = .ok (.getfield 127, 3) := by decide +kernel
theorem dX12_image_65 : decode cX12_image 65 = .ok (.invokestatic 513, 3) := by decide +kernel
theorem dX12_image_68 : decode cX12_image 68 = .ok (.aload_n 0, 1) := by decide +kernel
theorem dX12_image_69 : decode cX12_image 69 = .ok (.getfield 157, 3) := by decide +kernel
theorem dX12_image_72 : decode cX12_image 72 = .ok (.aload_n 0, 1) := by decide +kernel
theorem dX12_image_73 : decode cX12_image 73 = .ok (.getfield 130, 3) := by decide +kernel
theorem dX12_image_76 : decode cX12_image 76 = .ok (.invokestatic 513, 3) := by decide +kernel
theorem dX12_image_79 : decode cX12_image 79 = .ok (.aload_n 0, 1) := by decide +kernel
theorem dX12_image_80 : decode cX12_image 80 = .ok (.getfield 160, 3) := by decide +kernel
theorem dX12_image_83 : decode cX12_image 83 = .ok (.aload_n 0, 1) := by decide +kernel
theorem dX12_image_84 : decode cX12_image 84 = .ok (.getfield 78, 3) := by decide +kernel
theorem dX12_image_87 : decode cX12_image 87 = .ok (.invokestatic 513, 3) := by decide +kernel
theorem dX12_image_90 : decode cX12_image 90 = .ok (.return_, 1) := by decide +kernel
set_option maxRecDepth 20000 in
theorem ggX12_restore_X12_unpack : GoodIn wsX12_restore wsX12_unpack := goodIn_r _ [22, 23, 24, 25, 26, 27, 28, 29, 30, 31, 35, 36, 37, 38, 39, 40, 41, 42, 43, 44, 45, 46, 47, 48, 49, 50, 51, 52, 53, 54, 55, 56, 57, 58, 59, 60, 61, 62, 63, 64, 65, 66, 67, 68, 69, 70, 71, 72, 73, 74, 75, 76, 77, 78, 79, 80, 81, 82, 83, 84, 85, 86, 87, 88, 89, 90, 91, 92, 93, 94, 95, 96, 97, 98, 99] (by decide +kernel) (by decide +kernel)
set_option maxRecDepth 20000 in
theorem gX12_restore_X12_unpack : GoodIn wsX12_restore (wsV RX12 446 RX12 yX12_unpack wsX12_unpack) := goodIn_app (goodIn_of _ (by decide +kernel)) ggX12_restore_X12_unpack
set_option maxRecDepth 20000 in
theorem ggX12_restore_X12_copyTo : GoodIn wsX12_restore wsX12_copyTo := goodIn_r _ [34] (by decide +kernel) (by decide +kernel)
set_option maxRecDepth 20000 in
theorem gX12_restore_X12_copyTo : GoodIn wsX12_restore (va_wsS RX12 513 yX12_copyTo wsX12_copyTo) := goodIn_app (goodIn_of _ (by decide +kernel)) ggX12_restore_X12_copyTo
theorem dX12_restore_0 : decode cX12_restore 0 = .ok (.aload_n 0, 1) := by decide +kernel
theorem dX12_restore_1 : decode cX12_restore 1 = .ok (.iconst 0, 1) := by decide +kernel
theorem dX12_restore_2 : decode cX12_restore 2 = .ok (.putfield 163, 3) := by decide +kernel
theorem dX12_restore_5 : decode cX12_restore 5 = .ok (.aload_n 0, 1) := by decide +kernel
theorem dX12_restore_6 : decode cX12_restore 6 = .ok (.getfield 332, 3) := by decide +kernel
theorem dX12_restore_9 : decode cX12_restore 9 = .ok (.ifCond .ne 5, 3) := by decide +kernel
theorem dX12_restore_12 : decode cX12_restore 12 = .ok (.iconst 0, 1) := by decide +kernel
theorem dX12_restore_13 : decode cX12_restore 13 = .ok (.ireturn, 1) := by decide +kernel
theorem dX12_restore_14 : decode cX12_restore 14 = .ok (.aload_n 0, 1) := by decide +kernel
theorem dX12_restore_15 : decode cX12_restore 15 = .ok (.aload_n 0, 1) := by decide +kernel
theorem dX12_restore_16 : decode cX12_restore 16 = .ok (.getfield 507, 3) := by decide +kernel
theorem dX12_restore_19 : decode cX12_restore 19 = .ok (.putfield 326, 3) := by decide +kernel
theorem dX12_restore_22 : decode cX12_restore 22 = .ok (.aload_n 0, 1) := by decide +kernel
theorem dX12_restore_23 : decode cX12_restore 23 = .ok (.aload_n 0, 1) := by decide +kernel
theorem dX12_restore_24 : decode cX12_restore 24 = .ok (.getfield 510, 3) := by decide +kernel
theorem dX12_restore_27 : decode cX12_restore 27 = .ok (.putfield 329, 3) := by decide +kernel
theorem dX12_restore_30 : decode cX12_restore 30 = .ok (.aload_n 0, 1) := by decide +kernel
theorem dX12_restore_31 : decode cX12_restore 31 = .ok (.aload_n 0, 1) := by decide +kernel
theorem dX12_restore_32 : decode cX12_restore 32 = .ok (.getfield 145, 3) := by decide +kernel
theorem dX12_restore_35 : decode cX12_restore 35 = .ok (.iconst 0, 1) := by decide +kernel
theorem dX12_restore_36 : decode cX12_restore 36 = .ok (.invokevirtual 446, 3) := by decide +kernel
theorem dX12_restore_39 : decode cX12_restore 39 = .ok (.aload_n 0, 1) := by decide +kernel
theorem dX12_restore_40 : decode cX12_restore 40 = .ok (.getfield 109, 3) := by decide +kernel
theorem dX12_restore_43 : decode cX12_restore 43 = .ok (.aload_n 0, 1) := by decide +kernel
theorem dX12_restore_44 : decode cX12_restore 44 = .ok (.getfield 148, 3) := by decide +kernel
theorem dX12_restore_47 : decode cX12_restore 47 = .ok (.invokestatic 513, 3) := by decide +kernel
theorem dX12_restore_50 : decode cX12_restore 50 = .ok (.aload_n 0, 1) := by decide +kernel
theorem dX12_restore_51 : decode cX12_restore 51 = .ok (.getfield 124, 3) := by decide +kernel
theorem dX12_restore_54 : decode cX12_restore 54 = .ok (.aload_n 0, 1) := by decide +kernel
theorem dX12_restore_55 : decode cX12_restore 55 = .ok (.getfield 151, 3) := by decide +kernel
theorem dX12_restore_58 : decode cX12_restore 58 = .ok (.invokestatic 513, 3) := by decide +kernel
theorem dX12_restore_61 : decode cX12_restore 61 = .ok (.aload_n 0, 1) := by decide +kernel
theorem dX12_restore_62 : decode cX12_restore 62 = .ok (.getfield 127, 3) := by decide +kernel
theorem dX12_restore_65 : decode cX12_restore 65 = .ok (.aload_n 0, 1) := by decide +kernel
theorem dX12_restore_66 : decode cX12_restore 66 = .ok (.getfield 154, 3) := by decide +kernel
theorem dX12_restore_69 : decode cX12_restore 69 = .ok (.invokestatic 513, 3) := by decide +kernel
theorem dX12_restore_72 : decode cX12_restore 72 = .ok (.aload_n 0, 1) := by decide +kernel
theorem dX12_restore_73 : decode cX12_restore 73 = .ok (.getfield 130, 3) := by decide +kernel
theorem dX12_restore_76 : decode cX12_restore 76 = .ok (.aload_n 0, 1) := by decide +kernel
theorem dX12_restore_77 : decode cX12_restore 77 = .ok (.getfield 157, 3) := by decide +kernel
theorem dX12_restore_80 : decode cX12_restore 80 = .ok (.invokestatic 513, 3) := by decide +kernel
theorem dX12_restore_83 : decode cX12_restore 83 = .ok (.aload_n 0, 1) := by decide +kernel
theorem dX12_restore_84 : decode cX12_restore 84 = .ok (.getfield 78, 3) := by decide +kernel
theorem dX12_restore_87 : decode cX12_restore 87 = .ok (.aload_n 0, 1) := by decide +kernel
theorem dX12_restore_88 : decode cX12_restore 88 = .ok (.getfield 160, 3) := by decide +kernel
theorem dX12_restore_91 : decode cX12_restore 91 = .ok (.invokestatic 513, 3) := by decide +kernel
theorem dX12_restore_94 : decode cX12_restore 94 = .ok (.iconst 1, 1) := by decide +kernel
theorem dX12_restore_95 : decode cX12_restore 95 = .ok (.ireturn, 1) := by decide +kernel
