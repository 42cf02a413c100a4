set_option maxRecDepth 20000 in
theorem ggX12_tower_X12_stepOn : GoodIn wsX12_tower wsX12_stepOn := goodIn_r _ [19, 4, 20, 8, 21, 22, 23, 24, 25, 26, 27, 28, 29, 30, 14, 31, 3, 32, 33, 34, 35, 36, 37, 38, 39, 40, 41, 206, 207, 208, 209, 210, 211, 212, 213, 214, 215, 216, 217, 218, 219, 220, 221, 222, 223, 224, 225, 226, 227, 228, 229, 230, 231, 232, 233, 234, 235, 236, 237, 238, 239, 240, 241, 242, 243, 244, 245, 246, 247, 248, 249, 250, 251, 252, 253, 254, 255, 256, 257, 258, 259, 260, 261, 262, 263, 264, 265, 266, 267, 268, 269, 270] (by decide +kernel) (by decide +kernel)
set_option maxRecDepth 20000 in
theorem gX12_tower_X12_stepOn : GoodIn wsX12_tower (wsV RX12 237 RX12 yX12_stepOn wsX12_stepOn) := goodIn_app (goodIn_of _ (by decide +kernel)) ggX12_tower_X12_stepOn
set_option maxRecDepth 20000 in
theorem ggX12_tower_X12_readLine : GoodIn wsX12_tower wsX12_readLine := goodIn_r _ [45, 46, 5, 47, 48, 49, 14, 50, 51, 52, 53, 54, 8, 27, 20, 32, 55, 56, 57, 58, 59, 60, 61, 62, 63, 64, 65, 66, 67, 68, 69, 70, 71, 72, 73, 74, 75, 76, 77, 78, 79, 80, 81, 82, 83, 84, 85, 86, 87, 88, 89, 90, 91, 92, 93, 94, 95, 96, 97, 98, 99, 100, 101, 102, 103, 104, 105, 106, 107, 9, 108, 109, 110, 111, 7, 112, 113, 114, 115, 16, 17, 18, 19, 4, 21, 22, 23, 24, 25, 26, 28, 29, 30, 31, 3, 33, 34, 35, 36, 37, 38, 39, 40, 41, 116, 117, 118, 119, 120, 121, 122, 123, 124, 125, 126, 127, 128, 129, 130, 131, 132, 133, 134, 135, 136, 137, 138, 139, 140, 141, 142, 143, 144, 145, 146, 147, 148, 149, 150, 151, 152, 153, 154, 155, 156, 157, 158, 159, 160, 161, 162, 163, 164, 165, 166, 167, 168, 169, 170, 171, 172, 173, 174, 175, 176, 177, 178, 179, 180, 181, 182, 183, 184, 185, 186, 206, 207, 208, 209, 210, 211, 212, 213, 214, 215, 216, 217, 218, 219, 220, 221, 222, 223, 224, 225, 226, 227, 228, 229, 230, 231, 232, 233, 234, 235, 236, 237, 238, 239, 240, 241, 242, 243, 244, 245, 246, 247, 248, 249, 250, 251, 252, 253, 254, 255, 256, 257, 258, 259, 260, 261, 262, 263, 264, 265, 266, 267, 268, 269, 270] (by decide +kernel) (by decide +kernel)
set_option maxRecDepth 20000 in
theorem gX12_tower_X12_readLine : GoodIn wsX12_tower (wsV RX12 313 RX12 yX12_readLine wsX12_readLine) := goodIn_app (goodIn_of _ (by decide +kernel)) ggX12_tower_X12_readLine
set_option maxRecDepth 20000 in
theorem ggX12_tower_X12_takeOver : GoodIn wsX12_tower wsX12_takeOver := goodIn_r _ [190, 7, 184, 185, 186, 171, 172, 173, 174, 175, 120, 145, 144, 191, 192, 193, 194, 195, 196, 197, 198, 199, 200, 201, 202, 203, 204, 14, 205, 206, 207, 208, 209, 210, 211, 212, 213, 214, 215, 216, 217, 218, 219, 220, 221, 222, 223, 224, 225, 226, 227, 228, 229, 230, 231, 232, 233, 234, 235, 236, 237, 238, 239, 240, 241, 242, 243, 244, 245, 246, 247, 248, 249, 250, 251, 252, 253, 254, 255, 256, 257, 258, 259, 260, 261, 262, 263, 264, 265, 266, 267, 268, 269, 270] (by decide +kernel) (by decide +kernel)
set_option maxRecDepth 20000 in
theorem gX12_tower_X12_takeOver : GoodIn wsX12_tower (wsV RX12 316 RX12 yX12_takeOver wsX12_takeOver) := goodIn_app (goodIn_of _ (by decide +kernel)) ggX12_tower_X12_takeOver
theorem dX12_tower_0 : decode cX12_tower 0 = .ok (.aload_n 0, 1) := by decide +kernel
theorem dX12_tower_1 : decode cX12_tower 1 = .ok (.iconst 0, 1) := by decide +kernel
theorem dX12_tower_2 : decode cX12_tower 2 = .ok (.putfield 163, 3) := by decide +kernel
theorem dX12_tower_5 : decode cX12_tower 5 = .ok (.iload_n 1, 1) := by decide +kernel
theorem dX12_tower_6 : decode cX12_tower 6 = .ok (.ifCond .lt 11, 3) := by decide +kernel
theorem dX12_tower_9 : decode cX12_tower 9 = .ok (.iload_n 1, 1) := by decide +kernel
theorem dX12_tower_10 : decode cX12_tower 10 = .ok (.aload_n 0, 1) := by decide +kernel
theorem dX12_tower_11 : decode cX12_tower 11 = .ok (.getfield 170, 3) := by decide +kernel
theorem dX12_tower_14 : decode cX12_tower 14 = .ok (.if_icmp .le 9, 3) := by decide +kernel
theorem dX12_tower_17 : decode cX12_tower 17 = .ok (.aload_n 0, 1) := by decide +kernel
theorem dX12_tower_18 : decode cX12_tower 18 = .ok (.iconst 1, 1) := by decide +kernel
theorem dX12_tower_19 : decode cX12_tower 19 = .ok (.invokevirtual 310, 3) := by decide +kernel
theorem dX12_tower_22 : decode cX12_tower 22 = .ok (.ireturn, 1) := by decide +kernel
theorem dX12_tower_23 : decode cX12_tower 23 = .ok (.aload_n 0, 1) := by decide +kernel
theorem dX12_tower_24 : decode cX12_tower 24 = .ok (.iconst 0, 1) := by decide +kernel
theorem dX12_tower_25 : decode cX12_tower 25 = .ok (.putfield 170, 3) := by decide +kernel
theorem dX12_tower_28 : decode cX12_tower 28 = .ok (.aload_n 0, 1) := by decide +kernel
theorem dX12_tower_29 : decode cX12_tower 29 = .ok (.iload_n 1, 1) := by decide +kernel
theorem dX12_tower_30 : decode cX12_tower 30 = .ok (.putfield 173, 3) := by decide +kernel
theorem dX12_tower_33 : decode cX12_tower 33 = .ok (.aload_n 0, 1) := by decide +kernel
theorem dX12_tower_34 : decode cX12_tower 34 = .ok (.iconst 0, 1) := by decide +kernel
theorem dX12_tower_35 : decode cX12_tower 35 = .ok (.putfield 176, 3) := by decide +kernel
theorem dX12_tower_38 : decode cX12_tower 38 = .ok (.aload_n 0, 1) := by decide +kernel
theorem dX12_tower_39 : decode cX12_tower 39 = .ok (.iconst 0, 1) := by decide +kernel
theorem dX12_tower_40 : decode cX12_tower 40 = .ok (.putfield 212, 3) := by decide +kernel
theorem dX12_tower_43 : decode cX12_tower 43 = .ok (.aload_n 0, 1) := by decide +kernel
theorem dX12_tower_44 : decode cX12_tower 44 = .ok (.iconst (-1), 1) := by decide +kernel
theorem dX12_tower_45 : decode cX12_tower 45 = .ok (.putfield 84, 3) := by decide +kernel
theorem dX12_tower_48 : decode cX12_tower 48 = .ok (.iconst 0, 1) := by decide +kernel
theorem dX12_tower_49 : decode cX12_tower 49 = .ok (.istore_n 2, 1) := by decide +kernel
theorem dX12_tower_50 : decode cX12_tower 50 = .ok (.iload_n 2, 1) := by decide +kernel
theorem dX12_tower_51 : decode cX12_tower 51 = .ok (.bipush 6, 2) := by decide +kernel
theorem dX12_tower_53 : decode cX12_tower 53 = .ok (.if_icmp .ge 29, 3) := by decide +kernel
theorem dX12_tower_56 : decode cX12_tower 56 = .ok (.aload_n 0, 1) := by decide +kernel
theorem dX12_tower_57 : decode cX12_tower 57 = .ok (.getfield 42, 3) := by decide +kernel
theorem dX12_tower_60 : decode cX12_tower 60 = .ok (.bipush 6, 2) := by decide +kernel
theorem dX12_tower_62 : decode cX12_tower 62 = .ok (.iload_n 2, 1) := by decide +kernel
theorem dX12_tower_63 : decode cX12_tower 63 = .ok (.iadd, 1) := by decide +kernel
theorem dX12_tower_64 : decode cX12_tower 64 = .ok (.iload_n 2, 1) := by decide +kernel
theorem dX12_tower_65 : decode cX12_tower 65 = .ok (.iconst 3, 1) := by decide +kernel
theorem dX12_tower_66 : decode cX12_tower 66 = .ok (.if_icmp .ne 8, 3) := by decide +kernel
theorem dX12_tower_69 : decode cX12_tower 69 = .ok (.bipush 30, 2) := by decide +kernel
theorem dX12_tower_71 : decode cX12_tower 71 = .ok (.goto 4, 3) := by decide +kernel
theorem dX12_tower_74 : decode cX12_tower 74 = .ok (.iconst 0, 1) := by decide +kernel
theorem dX12_tower_75 : decode cX12_tower 75 = .ok (.iastore, 1) := by decide +kernel
theorem dX12_tower_76 : decode cX12_tower 76 = .ok (.iinc 2 1, 3) := by decide +kernel
theorem dX12_tower_79 : decode cX12_tower 79 = .ok (.goto (-29), 3) := by decide +kernel
theorem dX12_tower_82 : decode cX12_tower 82 = .ok (.aload_n 0, 1) := by decide +kernel
theorem dX12_tower_83 : decode cX12_tower 83 = .ok (.invokevirtual 237, 3) := by decide +kernel
theorem dX12_tower_86 : decode cX12_tower 86 = .ok (.iconst 0, 1) := by decide +kernel
theorem dX12_tower_87 : decode cX12_tower 87 = .ok (.istore_n 2, 1) := by decide +kernel
theorem dX12_tower_88 : decode cX12_tower 88 = .ok (.aload_n 0, 1) := by decide +kernel
theorem dX12_tower_89 : decode cX12_tower 89 = .ok (.getfield 212, 3) := by decide +kernel
theorem dX12_tower_92 : decode cX12_tower 92 = .ok (.ifCond .ne 19, 3) := by decide +kernel
theorem dX12_tower_95 : decode cX12_tower 95 = .ok (.aload_n 0, 1) := by decide +kernel
theorem dX12_tower_96 : decode cX12_tower 96 = .ok (.getfield 186, 3) := by decide +kernel
theorem dX12_tower_99 : decode cX12_tower 99 = .ok (.ifCond .eq 12, 3) := by decide +kernel
theorem dX12_tower_102 : decode cX12_tower 102 = .ok (.aload_n 0, 1) := by decide +kernel
theorem dX12_tower_103 : decode cX12_tower 103 = .ok (.iload_n 2, 1) := by decide +kernel
theorem dX12_tower_104 : decode cX12_tower 104 = .ok (.invokevirtual 313, 3) := by decide +kernel
theorem dX12_tower_107 : decode cX12_tower 107 = .ok (.istore_n 2, 1) := by decide +kernel
theorem dX12_tower_108 : decode cX12_tower 108 = .ok (.goto (-20), 3) := by decide +kernel
theorem dX12_tower_111 : decode cX12_tower 111 = .ok (.aload_n 0, 1) := by decide +kernel
theorem dX12_tower_112 : decode cX12_tower 112 = .ok (.getfield 212, 3) := by decide +kernel
theorem dX12_tower_115 : decode cX12_tower 115 = .ok (.ifCond .eq 26, 3) := by decide +kernel
theorem dX12_tower_118 : decode cX12_tower 118 = .ok (.aload_n 0, 1) := by decide +kernel
theorem dX12_tower_119 : decode cX12_tower 119 = .ok (.aload_n 0, 1) := by decide +kernel
theorem dX12_tower_120 : decode cX12_tower 120 = .ok (.getfield 215, 3) := by decide +kernel
theorem dX12_tower_123 : decode cX12_tower 123 = .ok (.putfield 84, 3) := by decide +kernel
theorem dX12_tower_126 : decode cX12_tower 126 = .ok (.aload_n 0, 1) := by decide +kernel
theorem dX12_tower_127 : decode cX12_tower 127 = .ok (.getfield 78, 3) := by decide +kernel
theorem dX12_tower_130 : decode cX12_tower 130 = .ok (.iconst 0, 1) := by decide +kernel
theorem dX12_tower_131 : decode cX12_tower 131 = .ok (.dup2, 1) := by decide +kernel
theorem dX12_tower_132 : decode cX12_tower 132 = .ok (.iaload, 1) := by decide +kernel
theorem dX12_tower_133 : decode cX12_tower 133 = .ok (.iconst 1, 1) := by decide +kernel
theorem dX12_tower_134 : decode cX12_tower 134 = .ok (.iadd, 1) := by decide +kernel
theorem dX12_tower_135 : decode cX12_tower 135 = .ok (.iastore, 1) := by decide +kernel
theorem dX12_tower_136 : decode cX12_tower 136 = .ok (.aload_n 0, 1) := by decide +kernel
theorem dX12_tower_137 : decode cX12_tower 137 = .ok (.getfield 212, 3) := by decide +kernel
theorem dX12_tower_140 : decode cX12_tower 140 = .ok (.ireturn, 1) := by decide +kernel
theorem dX12_tower_141 : decode cX12_tower 141 = .ok (.aload_n 0, 1) := by decide +kernel
theorem dX12_tower_142 : decode cX12_tower 142 = .ok (.invokevirtual 316, 3) := by decide +kernel
theorem dX12_tower_145 : decode cX12_tower 145 = .ok (.iconst 0, 1) := by decide +kernel
theorem dX12_tower_146 : decode cX12_tower 146 = .ok (.ireturn, 1) := by decide +kernel
theorem dX12_takeHalf_0 : decode cX12_takeHalf 0 = .ok (.iconst 0, 1) := by decide +kernel
theorem dX12_takeHalf_1 : decode cX12_takeHalf 1 = .ok (.istore_n 1, 1) := by decide +kernel
theorem dX12_takeHalf_2 : decode cX12_takeHalf 2 = .ok (.iload_n 1, 1) := by decide +kernel
theorem dX12_takeHalf_3 : decode cX12_takeHalf 3 = .ok (.aload_n 0, 1) := by decide +kernel
theorem dX12_takeHalf_4 : decode cX12_takeHalf 4 = .ok (.arraylength, 1) := by decide +kernel
theorem dX12_takeHalf_5 : decode cX12_takeHalf 5 = .ok (.iconst 2, 1) := by decide +kernel
theorem dX12_takeHalf_6 : decode cX12_takeHalf 6 = .ok (.idiv, 1) := by decide +kernel
theorem dX12_takeHalf_7 : decode cX12_takeHalf 7 = .ok (.if_icmp .ge 20, 3) := by decide +kernel
theorem dX12_takeHalf_10 : decode cX12_takeHalf 10 = .ok (.aload_n 0, 1) := by decide +kernel
theorem dX12_takeHalf_11 : decode cX12_takeHalf 11 = .ok (.iload_n 1, 1) := by decide +kernel
theorem dX12_takeHalf_12 : decode cX12_takeHalf 12 = .ok (.aload_n 0, 1) := by decide +kernel
theorem dX12_takeHalf_13 : decode cX12_takeHalf 13 = .ok (.aload_n 0, 1) := by decide +kernel
theorem dX12_takeHalf_14 : decode cX12_takeHalf 14 = .ok (.arraylength, 1) := by decide +kernel
theorem dX12_takeHalf_15 : decode cX12_takeHalf 15 = .ok (.iconst 2, 1) := by decide +kernel
theorem dX12_takeHalf_16 : decode cX12_takeHalf 16 = .ok (.idiv, 1) := by decide +kernel
theorem dX12_takeHalf_17 : decode cX12_takeHalf 17 = .ok (.iload_n 1, 1) := by decide +kernel
theorem dX12_takeHalf_18 : decode cX12_takeHalf 18 = .ok (.iadd, 1) := by decide +kernel
theorem dX12_takeHalf_19 : decode cX12_takeHalf 19 = .ok (.iaload, 1) := by decide +kernel
theorem dX12_takeHalf_20 : decode cX12_takeHalf 20 = .ok (.iastore, 1) := by decide +kernel
theorem dX12_takeHalf_21 : decode cX12_takeHalf 21 = .ok (.iinc 1 1, 3) := by decide +kernel
theorem dX12_takeHalf_24 : decode cX12_takeHalf 24 = .ok (.goto (-22), 3) := by decide +kernel
theorem dX12_takeHalf_27 : decode cX12_takeHalf 27 = .ok (.return_, 1) := by decide +kernel
set_option maxRecDepth 20000 in
theorem ggX12_takeOver_X12_takeHalf : GoodIn wsX12_takeOver wsX12_takeHalf := goodIn_r _ [28] (by decide +kernel) (by decide +kernel)
set_option maxRecDepth 20000 in
theorem gX12_takeOver_X12_takeHalf : GoodIn wsX12_takeOver (va_wsS RX12 319 yX12_takeHalf wsX12_takeHalf) := goodIn_app (goodIn_of _ (by decide +kernel)) ggX12_takeOver_X12_takeHalf
theorem dX12_takeOver_0 : decode cX12_takeOver 0 = .ok (.aload_n 0, 1) := by decide +kernel
theorem dX12_takeOver_1 : decode cX12_takeOver 1 = .ok (.getfield 42, 3) := by decide +kernel
theorem dX12_takeOver_4 : decode cX12_takeOver 4 = .ok (.invokestatic 319, 3) := by decide +kernel
theorem dX12_takeOver_7 : decode cX12_takeOver 7 = .ok (.aload_n 0, 1) := by decide +kernel
theorem dX12_takeOver_8 : decode cX12_takeOver 8 = .ok (.getfield 46, 3) := by decide +kernel
theorem dX12_takeOver_11 : decode cX12_takeOver 11 = .ok (.invokestatic 319, 3) := by decide +kernel
theorem dX12_takeOver_14 : decode cX12_takeOver 14 = .ok (.aload_n 0, 1) := by decide +kernel
theorem dX12_takeOver_15 : decode cX12_takeOver 15 = .ok (.getfield 49, 3) := by decide +kernel
theorem dX12_takeOver_18 : decode cX12_takeOver 18 = .ok (.invokestatic 319, 3) := by decide +kernel
theorem dX12_takeOver_21 : decode cX12_takeOver 21 = .ok (.aload_n 0, 1) := by decide +kernel
theorem dX12_takeOver_22 : decode cX12_takeOver 22 = .ok (.getfield 52, 3) := by decide +kernel
theorem dX12_takeOver_25 : decode cX12_takeOver 25 = .ok (.invokestatic 319, 3) := by decide +kernel
theorem dX12_takeOver_28 : decode cX12_takeOver 28 = .ok (.aload_n 0, 1) := by decide +kernel
theorem dX12_takeOver_29 : decode cX12_takeOver 29 = .ok (.getfield 55, 3) := by decide +kernel
theorem dX12_takeOver_32 : decode cX12_takeOver 32 = .ok (.invokestatic 319, 3) := by decide +kernel
theorem dX12_takeOver_35 : decode cX12_takeOver 35 = .ok (.aload_n 0, 1) := by decide +kernel
theorem dX12_takeOver_36 : decode cX12_takeOver 36 = .ok (.getfield 57, 3) := by decide +kernel
theorem dX12_takeOver_39 : decode cX12_takeOver 39 = .ok (.invokestatic 319, 3) := by decide +kernel
theorem dX12_takeOver_42 : decode cX12_takeOver 42 = .ok (.aload_n 0, 1) := by decide +kernel
theorem dX12_takeOver_43 : decode cX12_takeOver 43 = .ok (.getfield 60, 3) := by decide +kernel
theorem dX12_takeOver_46 : decode cX12_takeOver 46 = .ok (.invokestatic 319, 3) := by decide +kernel
theorem dX12_takeOver_49 : decode cX12_takeOver 49 = .ok (.aload_n 0, 1) := by decide +kernel
theorem dX12_takeOver_50 : decode cX12_takeOver 50 = .ok (.getfield 63, 3) := by decide +kernel
theorem dX12_takeOver_53 : decode cX12_takeOver 53 = .ok (.invokestatic 319, 3) := by decide +kernel
theorem dX12_takeOver_56 : decode cX12_takeOver 56 = .ok (.aload_n 0, 1) := by decide +kernel
theorem dX12_takeOver_57 : decode cX12_takeOver 57 = .ok (.getfield 66, 3) := by decide +kernel
theorem dX12_takeOver_60 : decode cX12_takeOver 60 = .ok (.invokestatic 319, 3) := by decide +kernel
theorem dX12_takeOver_63 : decode cX12_takeOver 63 = .ok (.aload_n 0, 1) := by decide +kernel
theorem dX12_takeOver_64 : decode cX12_takeOver 64 = .ok (.getfield 69, 3) := by decide +kernel
theorem dX12_takeOver_67 : decode cX12_takeOver 67 = .ok (.invokestatic 319, 3) := by decide +kernel
theorem dX12_takeOver_70 : decode cX12_takeOver 70 = .ok (.aload_n 0, 1) := by decide +kernel
theorem dX12_takeOver_71 : decode cX12_takeOver 71 = .ok (.getfield 72, 3) := by decide +kernel
theorem dX12_takeOver_74 : decode cX12_takeOver 74 = .ok (.invokestatic 319, 3) := by decide +kernel
theorem dX12_takeOver_77 : decode cX12_takeOver 77 = .ok (.aload_n 0, 1) := by decide +kernel
theorem dX12_takeOver_78 : decode cX12_takeOver 78 = .ok (.getfield 75, 3) := by decide +kernel
theorem dX12_takeOver_81 : decode cX12_takeOver 81 = .ok (.invokestatic 319, 3) := by decide +kernel
theorem dX12_takeOver_84 : decode cX12_takeOver 84 = .ok (.aload_n 0, 1) := by decide +kernel
theorem dX12_takeOver_85 : decode cX12_takeOver 85 = .ok (.iconst 0, 1) := by decide +kernel
theorem dX12_takeOver_86 : decode cX12_takeOver 86 = .ok (.putfield 323, 3) := by decide +kernel
theorem dX12_takeOver_89 : decode cX12_takeOver 89 = .ok (.iconst 0, 1) := by decide +kernel
theorem dX12_takeOver_90 : decode cX12_takeOver 90 = .ok (.istore_n 1, 1) := by decide +kernel
theorem dX12_takeOver_91 : decode cX12_takeOver 91 = .ok (.iload_n 1, 1) := by decide +kernel
theorem dX12_takeOver_92 : decode cX12_takeOver 92 = .ok (.bipush 8, 2) := by decide +kernel
theorem dX12_takeOver_94 : decode cX12_takeOver 94 = .ok (.if_icmp .ge 95, 3) := by decide +kernel
theorem dX12_takeOver_97 : decode cX12_takeOver 97 = .ok (.iload_n 1, 1) := by decide +kernel
theorem dX12_takeOver_98 : decode cX12_takeOver 98 = .ok (.aload_n 0, 1) := by decide +kernel
theorem dX12_takeOver_99 : decode cX12_takeOver 99 = .ok (.getfield 42, 3) := by decide +kernel
theorem dX12_takeOver_102 : decode cX12_takeOver 102 = .ok (.iconst 0, 1) := by decide +kernel
theorem dX12_takeOver_103 : decode cX12_takeOver 103 = .ok (.iaload, 1) := by decide +kernel
theorem dX12_takeOver_104 : decode cX12_takeOver 104 = .ok (.if_icmp .ge 7, 3) := by decide +kernel
theorem dX12_takeOver_107 : decode cX12_takeOver 107 = .ok (.iconst 1, 1) := by decide +kernel
theorem dX12_takeOver_108 : decode cX12_takeOver 108 = .ok (.goto 4, 3) := by decide +kernel
theorem dX12_takeOver_111 : decode cX12_takeOver 111 = .ok (.iconst 0, 1) := by decide +kernel
theorem dX12_takeOver_112 : decode cX12_takeOver 112 = .ok (.istore_n 2, 1) := by decide +kernel
theorem dX12_takeOver_113 : decode cX12_takeOver 113 = .ok (.aload_n 0, 1) := by decide +kernel
theorem dX12_takeOver_114 : decode cX12_takeOver 114 = .ok (.getfield 94, 3) := by decide +kernel
theorem dX12_takeOver_117 : decode cX12_takeOver 117 = .ok (.iload_n 1, 1) := by decide +kernel
theorem dX12_takeOver_118 : decode cX12_takeOver 118 = .ok (.iload_n 2, 1) := by decide +kernel
theorem dX12_takeOver_119 : decode cX12_takeOver 119 = .ok (.ifCond .eq 12, 3) := by decide +kernel
theorem dX12_takeOver_122 : decode cX12_takeOver 122 = .ok (.aload_n 0, 1) := by decide +kernel
theorem dX12_takeOver_123 : decode cX12_takeOver 123 = .ok (.getfield 52, 3) := by decide +kernel
theorem dX12_takeOver_126 : decode cX12_takeOver 126 = .ok (.iload_n 1, 1) := by decide +kernel
theorem dX12_takeOver_127 : decode cX12_takeOver 127 = .ok (.iaload, 1) := by decide +kernel
theorem dX12_takeOver_128 : decode cX12_takeOver 128 = .ok (.goto 4, 3) := by decide +kernel
theorem dX12_takeOver_131 : decode cX12_takeOver 131 = .ok (.iconst 0, 1) := by decide +kernel
theorem dX12_takeOver_132 : decode cX12_takeOver 132 = .ok (.iastore, 1) := by decide +kernel
theorem dX12_takeOver_133 : decode cX12_takeOver 133 = .ok (.aload_n 0, 1) := by decide +kernel
theorem dX12_takeOver_134 : decode cX12_takeOver 134 = .ok (.getfield 88, 3) := by decide +kernel
theorem dX12_takeOver_137 : decode cX12_takeOver 137 = .ok (.iload_n 1, 1) := by decide +kernel
theorem dX12_takeOver_138 : decode cX12_takeOver 138 = .ok (.aload_n 0, 1) := by decide +kernel
theorem dX12_takeOver_139 : decode cX12_takeOver 139 = .ok (.getfield 94, 3) := by decide +kernel
theorem dX12_takeOver_142 : decode cX12_takeOver 142 = .ok (.iload_n 1, 1) := by decide +kernel
theorem dX12_takeOver_143 : decode cX12_takeOver 143 = .ok (.iaload, 1) := by decide +kernel
theorem dX12_takeOver_144 : decode cX12_takeOver 144 = .ok (.ifCond .le 12, 3) := by decide +kernel
theorem dX12_takeOver_147 : decode cX12_takeOver 147 = .ok (.aload_n 0, 1) := by decide +kernel
theorem dX12_takeOver_148 : decode cX12_takeOver 148 = .ok (.getfield 46, 3) := by decide +kernel
theorem dX12_takeOver_151 : decode cX12_takeOver 151 = .ok (.iload_n 1, 1) := by decide +kernel
theorem dX12_takeOver_152 : decode cX12_takeOver 152 = .ok (.iaload, 1) := by decide +kernel
theorem dX12_takeOver_153 : decode cX12_takeOver 153 = .ok (.goto 4, 3) := by decide +kernel
theorem dX12_takeOver_156 : decode cX12_takeOver 156 = .ok (.iconst 0, 1) := by decide +kernel
theorem dX12_takeOver_157 : decode cX12_takeOver 157 = .ok (.iastore, 1) := by decide +kernel
theorem dX12_takeOver_158 : decode cX12_takeOver 158 = .ok (.aload_n 0, 1) := by decide +kernel
theorem dX12_takeOver_159 : decode cX12_takeOver 159 = .ok (.getfield 91, 3) := by decide +kernel
theorem dX12_takeOver_162 : decode cX12_takeOver 162 = .ok (.iload_n 1, 1) := by decide +kernel
theorem dX12_takeOver_163 : decode cX12_takeOver 163 = .ok (.aload_n 0, 1) := by decide +kernel
theorem dX12_takeOver_164 : decode cX12_takeOver 164 = .ok (.getfield 94, 3) := by decide +kernel
theorem dX12_takeOver_167 : decode cX12_takeOver 167 = .ok (.iload_n 1, 1) := by decide +kernel
theorem dX12_takeOver_168 : decode cX12_takeOver 168 = .ok (.iaload, 1) := by decide +kernel
theorem dX12_takeOver_169 : decode cX12_takeOver 169 = .ok (.ifCond .le 12, 3) := by decide +kernel
theorem dX12_takeOver_172 : decode cX12_takeOver 172 = .ok (.aload_n 0, 1) := by decide +kernel
theorem dX12_takeOver_173 : decode cX12_takeOver 173 = .ok (.getfield 49, 3) := by decide +kernel
theorem dX12_takeOver_176 : decode cX12_takeOver 176 = .ok (.iload_n 1, 1) := by decide +kernel
theorem dX12_takeOver_177 : decode cX12_takeOver 177 = .ok (.iaload, 1) := by decide +kernel
theorem dX12_takeOver_178 : decode cX12_takeOver 178 = .ok (.goto 4, 3) := by decide +kernel
theorem dX12_takeOver_181 : decode cX12_takeOver 181 = .ok (.iconst 0, 1) := by decide +kernel
theorem dX12_takeOver_182 : decode cX12_takeOver 182 = .ok (.iastore, 1) := by decide +kernel
theorem dX12_takeOver_183 : decode cX12_takeOver 183 = .ok (.iinc 1 1, 3) := by decide +kernel
theorem dX12_takeOver_186 : decode cX12_takeOver 186 = .ok (.goto (-95), 3) := by decide +kernel
theorem dX12_takeOver_189 : decode cX12_takeOver 189 = .ok (.iconst 0, 1) := by decide +kernel
theorem dX12_takeOver_190 : decode cX12_takeOver 190 = .ok (.istore_n 1, 1) := by decide +kernel
theorem dX12_takeOver_191 : decode cX12_takeOver 191 = .ok (.iload_n 1, 1) := by decide +kernel
theorem dX12_takeOver_192 : decode cX12_takeOver 192 = .ok (.bipush 8, 2) := by decide +kernel
theorem dX12_takeOver_194 : decode cX12_takeOver 194 = .ok (.if_icmp .ge 112, 3) := by decide +kernel
theorem dX12_takeOver_197 : decode cX12_takeOver 197 = .ok (.iload_n 1, 1) := by decide +kernel
theorem dX12_takeOver_198 : decode cX12_takeOver 198 = .ok (.aload_n 0, 1) := by decide +kernel
theorem dX12_takeOver_199 : decode cX12_takeOver 199 = .ok (.getfield 42, 3) := by decide +kernel
theorem dX12_takeOver_202 : decode cX12_takeOver 202 = .ok (.iconst 1, 1) := by decide +kernel
theorem dX12_takeOver_203 : decode cX12_takeOver 203 = .ok (.iaload, 1) := by decide +kernel
theorem dX12_takeOver_204 : decode cX12_takeOver 204 = .ok (.if_icmp .ge 7, 3) := by decide +kernel
theorem dX12_takeOver_207 : decode cX12_takeOver 207 = .ok (.iconst 1, 1) := by decide +kernel
theorem dX12_takeOver_208 : decode cX12_takeOver 208 = .ok (.goto 4, 3) := by decide +kernel
theorem dX12_takeOver_211 : decode cX12_takeOver 211 = .ok (.iconst 0, 1) := by decide +kernel
theorem dX12_takeOver_212 : decode cX12_takeOver 212 = .ok (.istore_n 2, 1) := by decide +kernel
theorem dX12_takeOver_213 : decode cX12_takeOver 213 = .ok (.aload_n 0, 1) := by decide +kernel
theorem dX12_takeOver_214 : decode cX12_takeOver 214 = .ok (.getfield 96, 3) := by decide +kernel
theorem dX12_takeOver_217 : decode cX12_takeOver 217 = .ok (.iload_n 1, 1) := by decide +kernel
theorem dX12_takeOver_218 : decode cX12_takeOver 218 = .ok (.iload_n 2, 1) := by decide +kernel
theorem dX12_takeOver_219 : decode cX12_takeOver 219 = .ok (.ifCond .eq 12, 3) := by decide +kernel
theorem dX12_takeOver_222 : decode cX12_takeOver 222 = .ok (.aload_n 0, 1) := by decide +kernel
theorem dX12_takeOver_223 : decode cX12_takeOver 223 = .ok (.getfield 57, 3) := by decide +kernel
theorem dX12_takeOver_226 : decode cX12_takeOver 226 = .ok (.iload_n 1, 1) := by decide +kernel
theorem dX12_takeOver_227 : decode cX12_takeOver 227 = .ok (.iaload, 1) := by decide +kernel
theorem dX12_takeOver_228 : decode cX12_takeOver 228 = .ok (.goto 4, 3) := by decide +kernel
theorem dX12_takeOver_231 : decode cX12_takeOver 231 = .ok (.iconst 0, 1) := by decide +kernel
theorem dX12_takeOver_232 : decode cX12_takeOver 232 = .ok (.iastore, 1) := by decide +kernel
theorem dX12_takeOver_233 : decode cX12_takeOver 233 = .ok (.aload_n 0, 1) := by decide +kernel
theorem dX12_takeOver_234 : decode cX12_takeOver 234 = .ok (.getfield 99, 3) := by decide +kernel
theorem dX12_takeOver_237 : decode cX12_takeOver 237 = .ok (.iload_n 1, 1) := by decide +kernel
theorem dX12_takeOver_238 : decode cX12_takeOver 238 = .ok (.iload_n 2, 1) := by decide +kernel
theorem dX12_takeOver_239 : decode cX12_takeOver 239 = .ok (.ifCond .eq 12, 3) := by decide +kernel
theorem dX12_takeOver_242 : decode cX12_takeOver 242 = .ok (.aload_n 0, 1) := by decide +kernel
theorem dX12_takeOver_243 : decode cX12_takeOver 243 = .ok (.getfield 60, 3) := by decide +kernel
theorem dX12_takeOver_246 : decode cX12_takeOver 246 = .ok (.iload_n 1, 1) := by decide +kernel
theorem dX12_takeOver_247 : decode cX12_takeOver 247 = .ok (.iaload, 1) := by decide +kernel
theorem dX12_takeOver_248 : decode cX12_takeOver 248 = .ok (.goto 4, 3) := by decide +kernel
theorem dX12_takeOver_251 : decode cX12_takeOver 251 = .ok (.iconst 0, 1) := by decide +kernel
theorem dX12_takeOver_252 : decode cX12_takeOver 252 = .ok (.iastore, 1) := by decide +kernel
theorem dX12_takeOver_253 : decode cX12_takeOver 253 = .ok (.aload_n 0, 1) := by decide +kernel
theorem dX12_takeOver_254 : decode cX12_takeOver 254 = .ok (.getfield 102, 3) := by decide +kernel
theorem dX12_takeOver_257 : decode cX12_takeOver 257 = .ok (.iload_n 1, 1) := by decide +kernel
theorem dX12_takeOver_258 : decode cX12_takeOver 258 = .ok (.iload_n 2, 1) := by decide +kernel
theorem dX12_takeOver_259 : decode cX12_takeOver 259 = .ok (.ifCond .eq 12, 3) := by decide +kernel
theorem dX12_takeOver_262 : decode cX12_takeOver 262 = .ok (.aload_n 0, 1) := by decide +kernel
theorem dX12_takeOver_263 : decode cX12_takeOver 263 = .ok (.getfield 63, 3) := by decide +kernel
theorem dX12_takeOver_266 : decode cX12_takeOver 266 = .ok (.iload_n 1, 1) := by decide +kernel
theorem dX12_takeOver_267 : decode cX12_takeOver 267 = .ok (.iaload, 1) := by decide +kernel
theorem dX12_takeOver_268 : decode cX12_takeOver 268 = .ok (.goto 4, 3) := by decide +kernel
theorem dX12_takeOver_271 : decode cX12_takeOver 271 = .ok (.iconst 0, 1) := by decide +kernel
theorem dX12_takeOver_272 : decode cX12_takeOver 272 = .ok (.iastore, 1) := by decide +kernel
theorem dX12_takeOver_273 : decode cX12_takeOver 273 = .ok (.aload_n 0, 1) := by decide +kernel
theorem dX12_takeOver_274 : decode cX12_takeOver 274 = .ok (.getfield 104, 3) := by decide +kernel
theorem dX12_takeOver_277 : decode cX12_takeOver 277 = .ok (.iload_n 1, 1) := by decide +kernel
theorem dX12_takeOver_278 : decode cX12_takeOver 278 = .ok (.iload_n 2, 1) := by decide +kernel
theorem dX12_takeOver_279 : decode cX12_takeOver 279 = .ok (.ifCond .eq 12, 3) := by decide +kernel
theorem dX12_takeOver_282 : decode cX12_takeOver 282 = .ok (.aload_n 0, 1) := by decide +kernel
theorem dX12_takeOver_283 : decode cX12_takeOver 283 = .ok (.getfield 66, 3) := by decide +kernel
theorem dX12_takeOver_286 : decode cX12_takeOver 286 = .ok (.iload_n 1, 1) := by decide +kernel
theorem dX12_takeOver_287 : decode cX12_takeOver 287 = .ok (.iaload, 1) := by decide +kernel
theorem dX12_takeOver_288 : decode cX12_takeOver 288 = .ok (.goto 4, 3) := by decide +kernel
theorem dX12_takeOver_291 : decode cX12_takeOver 291 = .ok (.iconst (-1), 1) := by decide +kernel
theorem dX12_takeOver_292 : decode cX12_takeOver 292 = .ok (.iastore, 1) := by decide +kernel
theorem dX12_takeOver_293 : decode cX12_takeOver 293 = .ok (.aload_n 0, 1) := by decide +kernel
theorem dX12_takeOver_294 : decode cX12_takeOver 294 = .ok (.getfield 106, 3) := by decide +kernel
theorem dX12_takeOver_297 : decode cX12_takeOver 297 = .ok (.iload_n 1, 1) := by decide +kernel
theorem dX12_takeOver_298 : decode cX12_takeOver 298 = .ok (.iconst (-1), 1) := by decide +kernel
theorem dX12_takeOver_299 : decode cX12_takeOver 299 = .ok (.iastore, 1) := by decide +kernel
theorem dX12_takeOver_300 : decode cX12_takeOver 300 = .ok (.iinc 1 1, 3) := by decide +kernel
theorem dX12_takeOver_303 : decode cX12_takeOver 303 = .ok (.goto (-112), 3) := by decide +kernel
theorem dX12_takeOver_306 : decode cX12_takeOver 306 = .ok (.aload_n 0, 1) := by decide +kernel
theorem dX12_takeOver_307 : decode cX12_takeOver 307 = .ok (.iconst 0, 1) := by decide +kernel
theorem dX12_takeOver_308 : decode cX12_takeOver 308 = .ok (.putfield 326, 3) := by decide +kernel
theorem dX12_takeOver_311 : decode cX12_takeOver 311 = .ok (.aload_n 0, 1) := by decide +kernel
theorem dX12_takeOver_312 : decode cX12_takeOver 312 = .ok (.iconst 0, 1) := by decide +kernel
theorem dX12_takeOver_313 : decode cX12_takeOver 313 = .ok (.putfield 329, 3) := by decide +kernel
theorem dX12_takeOver_316 : decode cX12_takeOver 316 = .ok (.aload_n 0, 1) := by decide +kernel
theorem dX12_takeOver_317 : decode cX12_takeOver 317 = .ok (.iconst 0, 1) := by decide +kernel
theorem dX12_takeOver_318 : decode cX12_takeOver 318 = .ok (.putfield 332, 3) := by decide +kernel
theorem dX12_takeOver_321 : decode cX12_takeOver 321 = .ok (.return_, 1) := by decide +kernel
theorem dX12_fault_0 : decode cX12_fault 0 = .ok (.aload_n 0, 1) := by decide +kernel
theorem dX12_fault_1 : decode cX12_fault 1 = .ok (.iconst 0, 1) := by decide +kernel
theorem dX12_fault_2 : decode cX12_fault 2 = .ok (.putfield 163, 3) := by decide +kernel
theorem dX12_fault_5 : decode cX12_fault 5 = .ok (.aload_n 0, 1) := by decide +kernel
theorem dX12_fault_6 : decode cX12_fault 6 = .ok (.getfield 84, 3) := by decide +kernel
theorem dX12_fault_9 : decode cX12_fault 9 = .ok (.ireturn, 1) := by decide +kernel
theorem dX12_pack_0 : decode cX12_pack 0 = .ok (.aload_n 1, 1) := by decide +kernel
theorem dX12_pack_1 : decode cX12_pack 1 = .ok (.iload_n 2, 1) := by decide +kernel
theorem dX12_pack_2 : decode cX12_pack 2 = .ok (.aload_n 0, 1) := by decide +kernel
theorem dX12_pack_3 : decode cX12_pack 3 = .ok (.getfield 323, 3) := by decide +kernel
theorem dX12_pack_6 : decode cX12_pack 6 = .ok (.iastore, 1) := by decide +kernel
theorem dX12_pack_7 : decode cX12_pack 7 = .ok (.iload_n 2, 1) := by decide +kernel
theorem dX12_pack_8 : decode cX12_pack 8 = .ok (.iconst 1, 1) := by decide +kernel
theorem dX12_pack_9 : decode cX12_pack 9 = .ok (.iadd, 1) := by decide +kernel
theorem dX12_pack_10 : decode cX12_pack 10 = .ok (.istore_n 3, 1) := by decide +kernel
theorem dX12_pack_11 : decode cX12_pack 11 = .ok (.iconst 0, 1) := by decide +kernel
theorem dX12_pack_12 : decode cX12_pack 12 = .ok (.istore 4, 2) := by decide +kernel
theorem dX12_pack_14 : decode cX12_pack 14 = .ok (.iload 4, 2) := by decide +kernel
theorem dX12_pack_16 : decode cX12_pack 16 = .ok (.bipush 8, 2) := by decide +kernel
theorem dX12_pack_18 : decode cX12_pack 18 = .ok (.if_icmp .ge 46, 3) := by decide +kernel
theorem dX12_pack_21 : decode cX12_pack 21 = .ok (.aload_n 1, 1) := by decide +kernel
theorem dX12_pack_22 : decode cX12_pack 22 = .ok (.iload_n 3, 1) := by decide +kernel
theorem dX12_pack_23 : decode cX12_pack 23 = .ok (.aload_n 0, 1) := by decide +kernel
theorem dX12_pack_24 : decode cX12_pack 24 = .ok (.getfield 88, 3) := by decide +kernel
theorem dX12_pack_27 : decode cX12_pack 27 = .ok (.iload 4, 2) := by decide +kernel
theorem dX12_pack_29 : decode cX12_pack 29 = .ok (.iaload, 1) := by decide +kernel
theorem dX12_pack_30 : decode cX12_pack 30 = .ok (.iastore, 1) := by decide +kernel
theorem dX12_pack_31 : decode cX12_pack 31 = .ok (.aload_n 1, 1) := by decide +kernel
theorem dX12_pack_32 : decode cX12_pack 32 = .ok (.iload_n 3, 1) := by decide +kernel
theorem dX12_pack_33 : decode cX12_pack 33 = .ok (.iconst 1, 1) := by decide +kernel
theorem dX12_pack_34 : decode cX12_pack 34 = .ok (.iadd, 1) := by decide +kernel
theorem dX12_pack_35 : decode cX12_pack 35 = .ok (.aload_n 0, 1) := by decide +kernel
theorem dX12_pack_36 : decode cX12_pack 36 = .ok (.getfield 91, 3) := by decide +kernel
theorem dX12_pack_39 : decode cX12_pack 39 = .ok (.iload 4, 2) := by decide +kernel
theorem dX12_pack_41 : decode cX12_pack 41 = .ok (.iaload, 1) := by decide +kernel
theorem dX12_pack_42 : decode cX12_pack 42 = .ok (.iastore, 1) := by decide +kernel
theorem dX12_pack_43 : decode cX12_pack 43 = .ok (.aload_n 1, 1) := by decide +kernel
theorem dX12_pack_44 : decode cX12_pack 44 = .ok (.iload_n 3, 1) := by decide +kernel
theorem dX12_pack_45 : decode cX12_pack 45 = .ok (.iconst 2, 1) := by decide +kernel
theorem dX12_pack_46 : decode cX12_pack 46 = .ok (.iadd, 1) := by decide +kernel
theorem dX12_pack_47 : decode cX12_pack 47 = .ok (.aload_n 0, 1) := by decide +kernel
theorem dX12_pack_48 : decode cX12_pack 48 = .ok (.getfield 94, 3) := by decide +kernel
theorem dX12_pack_51 : decode cX12_pack 51 = .ok (.iload 4, 2) := by decide +kernel
theorem dX12_pack_53 : decode cX12_pack 53 = .ok (.iaload, 1) := by decide +kernel
theorem dX12_pack_54 : decode cX12_pack 54 = .ok (.iastore, 1) := by decide +kernel
theorem dX12_pack_55 : decode cX12_pack 55 = .ok (.iinc 3 3, 3) := by decide +kernel
theorem dX12_pack_58 : decode cX12_pack 58 = .ok (.iinc 4 1, 3) := by decide +kernel
theorem dX12_pack_61 : decode cX12_pack 61 = .ok (.goto (-47), 3) := by decide +kernel
theorem dX12_pack_64 : decode cX12_pack 64 = .ok (.iconst 0, 1) := by decide +kernel
theorem dX12_pack_65 : decode cX12_pack 65 = .ok (.istore 4, 2) := by decide +kernel
theorem dX12_pack_67 : decode cX12_pack 67 = .ok (.iload 4, 2) := by decide +kernel
theorem dX12_pack_69 : decode cX12_pack 69 = .ok (.bipush 8, 2) := by decide +kernel
theorem dX12_pack_71 : decode cX12_pack 71 = .ok (.if_icmp .ge 70, 3) := by decide +kernel
theorem dX12_pack_74 : decode cX12_pack 74 = .ok (.aload_n 1, 1) := by decide +kernel
theorem dX12_pack_75 : decode cX12_pack 75 = .ok (.iload_n 3, 1) := by decide +kernel
theorem dX12_pack_76 : decode cX12_pack 76 = .ok (.aload_n 0, 1) := by decide +kernel
theorem dX12_pack_77 : decode cX12_pack 77 = .ok (.getfield 96, 3) := by decide +kernel
theorem dX12_pack_80 : decode cX12_pack 80 = .ok (.iload 4, 2) := by decide +kernel
theorem dX12_pack_82 : decode cX12_pack 82 = .ok (.iaload, 1) := by decide +kernel
theorem dX12_pack_83 : decode cX12_pack 83 = .ok (.iastore, 1) := by decide +kernel
theorem dX12_pack_84 : decode cX12_pack 84 = .ok (.aload_n 1, 1) := by decide +kernel
theorem dX12_pack_85 : decode cX12_pack 85 = .ok (.iload_n 3, 1) := by decide +kernel
theorem dX12_pack_86 : decode cX12_pack 86 = .ok (.iconst 1, 1) := by decide +kernel
theorem dX12_pack_87 : decode cX12_pack 87 = .ok (.iadd, 1) := by decide +kernel
theorem dX12_pack_88 : decode cX12_pack 88 = .ok (.aload_n 0, 1) := by decide +kernel
theorem dX12_pack_89 : decode cX12_pack 89 = .ok (.getfield 99, 3) := by decide +kernel
theorem dX12_pack_92 : decode cX12_pack 92 = .ok (.iload 4, 2) := by decide +kernel
theorem dX12_pack_94 : decode cX12_pack 94 = .ok (.iaload, 1) := by decide +kernel
theorem dX12_pack_95 : decode cX12_pack 95 = .ok (.iastore, 1) := by decide +kernel
theorem dX12_pack_96 : decode cX12_pack 96 = .ok (.aload_n 1, 1) := by decide +kernel
theorem dX12_pack_97 : decode cX12_pack 97 = .ok (.iload_n 3, 1) := by decide +kernel
theorem dX12_pack_98 : decode cX12_pack 98 = .ok (.iconst 2, 1) := by decide +kernel
theorem dX12_pack_99 : decode cX12_pack 99 = .ok (.iadd, 1) := by decide +kernel
theorem dX12_pack_100 : decode cX12_pack 100 = .ok (.aload_n 0, 1) := by decide +kernel
theorem dX12_pack_101 : decode cX12_pack 101 = .ok (.getfield 102, 3) := by decide +kernel
theorem dX12_pack_104 : decode cX12_pack 104 = .ok (.iload 4, 2) := by decide +kernel
theorem dX12_pack_106 : decode cX12_pack 106 = .ok (.iaload, 1) := by decide +kernel
theorem dX12_pack_107 : decode cX12_pack 107 = .ok (.iastore, 1) := by decide +kernel
theorem dX12_pack_108 : decode cX12_pack 108 = .ok (.aload_n 1, 1) := by decide +kernel
theorem dX12_pack_109 : decode cX12_pack 109 = .ok (.iload_n 3, 1) := by decide +kernel
theorem dX12_pack_110 : decode cX12_pack 110 = .ok (.iconst 3, 1) := by decide +kernel
theorem dX12_pack_111 : decode cX12_pack 111 = .ok (.iadd, 1) := by decide +kernel
theorem dX12_pack_112 : decode cX12_pack 112 = .ok (.aload_n 0, 1) := by decide +kernel
theorem dX12_pack_113 : decode cX12_pack 113 = .ok (.getfield 104, 3) := by decide +kernel
theorem dX12_pack_116 : decode cX12_pack 116 = .ok (.iload 4, 2) := by decide +kernel
theorem dX12_pack_118 : decode cX12_pack 118 = .ok (.iaload, 1) := by decide +kernel
theorem dX12_pack_119 : decode cX12_pack 119 = .ok (.iastore, 1) := by decide +kernel
theorem dX12_pack_120 : decode cX12_pack 120 = .ok (.aload_n 1, 1) := by decide +kernel
theorem dX12_pack_121 : decode cX12_pack 121 = .ok (.iload_n 3, 1) := by decide +kernel
theorem dX12_pack_122 : decode cX12_pack 122 = .ok (.iconst 4, 1) := by decide +kernel
theorem dX12_pack_123 : decode cX12_pack 123 = .ok (.iadd, 1) := by decide +kernel
theorem dX12_pack_124 : decode cX12_pack 124 = .ok (.aload_n 0, 1) := by decide +kernel
theorem dX12_pack_125 : decode cX12_pack 125 = .ok (.getfield 106, 3) := by decide +kernel
theorem dX12_pack_128 : decode cX12_pack 128 = .ok (.iload 4, 2) := by decide +kernel
theorem dX12_pack_130 : decode cX12_pack 130 = .ok (.iaload, 1) := by decide +kernel
theorem dX12_pack_131 : decode cX12_pack 131 = .ok (.iastore, 1) := by decide +kernel
theorem dX12_pack_132 : decode cX12_pack 132 = .ok (.iinc 3 5, 3) := by decide +kernel
theorem dX12_pack_135 : decode cX12_pack 135 = .ok (.iinc 4 1, 3) := by decide +kernel
theorem dX12_pack_138 : decode cX12_pack 138 = .ok (.goto (-71), 3) := by decide +kernel
theorem dX12_pack_141 : decode cX12_pack 141 = .ok (.return_, 1) := by decide +kernel
theorem dX12_unpack_0 : decode cX12_unpack 0 = .ok (.aload_n 0, 1) := by decide +kernel
theorem dX12_unpack_1 : decode cX12_unpack 1 = .ok (.aload_n 1, 1) := by decide +kernel
theorem dX12_unpack_2 : decode cX12_unpack 2 = .ok (.iload_n 2, 1) := by decide +kernel
theorem dX12_unpack_3 : decode cX12_unpack 3 = .ok (.iaload, 1) := by decide +kernel
theorem dX12_unpack_4 : decode cX12_unpack 4 = .ok (.putfield 323, 3) := by decide +kernel
theorem dX12_unpack_7 : decode cX12_unpack 7 = .ok (.iload_n 2, 1) := by decide +kernel
theorem dX12_unpack_8 : decode cX12_unpack 8 = .ok (.iconst 1, 1) := by decide +kernel
theorem dX12_unpack_9 : decode cX12_unpack 9 = .ok (.iadd, 1) := by decide +kernel
theorem dX12_unpack_10 : decode cX12_unpack 10 = .ok (.istore_n 3, 1) := by decide +kernel
theorem dX12_unpack_11 : decode cX12_unpack 11 = .ok (.iconst 0, 1) := by decide +kernel
theorem dX12_unpack_12 : decode cX12_unpack 12 = .ok (.istore 4, 2) := by decide +kernel
theorem dX12_unpack_14 : decode cX12_unpack 14 = .ok (.iload 4, 2) := by decide +kernel
theorem dX12_unpack_16 : decode cX12_unpack 16 = .ok (.bipush 8, 2) := by decide +kernel
theorem dX12_unpack_18 : decode cX12_unpack 18 = .ok (.if_icmp .ge 46, 3) := by decide +kernel
theorem dX12_unpack_21 : decode cX12_unpack 21 = .ok (.aload_n 0, 1) := by decide +kernel
theorem dX12_unpack_22 : decode cX12_unpack 22 = .ok (.getfield 88, 3) := by decide +kernel
theorem dX12_unpack_25 : decode cX12_unpack 25 = .ok (.iload 4, 2) := by decide +kernel
theorem dX12_unpack_27 : decode cX12_unpack 27 = .ok (.aload_n 1, 1) := by decide +kernel
theorem dX12_unpack_28 : decode cX12_unpack 28 = .ok (.iload_n 3, 1) := by decide +kernel
theorem dX12_unpack_29 : decode cX12_unpack 29 = .ok (.iaload, 1) := by decide +kernel
theorem dX12_unpack_30 : decode cX12_unpack 30 = .ok (.iastore, 1) := by decide +kernel
theorem dX12_unpack_31 : decode cX12_unpack 31 = .ok (.aload_n 0, 1) := by decide +kernel
theorem dX12_unpack_32 : decode cX12_unpack 32 = .ok (.getfield 91, 3) := by decide +kernel
theorem dX12_unpack_35 : decode cX12_unpack 35 = .ok (.iload 4, 2) := by decide +kernel
theorem dX12_unpack_37 : decode cX12_unpack 37 = .ok (.aload_n 1, 1) := by decide +kernel
theorem dX12_unpack_38 : decode cX12_unpack 38 = .ok (.iload_n 3, 1) := by decide +kernel
theorem dX12_unpack_39 : decode cX12_unpack 39 = .ok (.iconst 1, 1) := by decide +kernel
theorem dX12_unpack_40 : decode cX12_unpack 40 = .ok (.iadd, 1) := by decide +kernel
theorem dX12_unpack_41 : decode cX12_unpack 41 = .ok (.iaload, 1) := by decide +kernel
theorem dX12_unpack_42 : decode cX12_unpack 42 = .ok (.iastore, 1) := by decide +kernel
theorem dX12_unpack_43 : decode cX12_unpack 43 = .ok (.aload_n 0, 1) := by decide +kernel
theorem dX12_unpack_44 : decode cX12_unpack 44 = .ok (.getfield 94, 3) := by decide +kernel
theorem dX12_unpack_47 : decode cX12_unpack 47 = .ok (.iload 4, 2) := by decide +kernel
theorem dX12_unpack_49 : decode cX12_unpack 49 = .ok (.aload_n 1, 1) := by decide +kernel
theorem dX12_unpack_50 : decode cX12_unpack 50 = .ok (.iload_n 3, 1) := by decide +kernel
theorem dX12_unpack_51 : decode cX12_unpack 51 = .ok (.iconst 2, 1) := by decide +kernel
theorem dX12_unpack_52 : decode cX12_unpack 52 = .ok (.iadd, 1) := by decide +kernel
theorem dX12_unpack_53 : decode cX12_unpack 53 = .ok (.iaload, 1) := by decide +kernel
theorem dX12_unpack_54 : decode cX12_unpack 54 = .ok (.iastore, 1) := by decide +kernel
theorem dX12_unpack_55 : decode cX12_unpack 55 = .ok (.iinc 3 3, 3) := by decide +kernel
theorem dX12_unpack_58 : decode cX12_unpack 58 = .ok (.iinc 4 1, 3) := by decide +kernel
theorem dX12_unpack_61 : decode cX12_unpack 61 = .ok (.goto (-47), 3) := by decide +kernel
theorem dX12_unpack_64 : decode cX12_unpack 64 = .ok (.iconst 0, 1) := by decide +kernel
theorem dX12_unpack_65 : decode cX12_unpack 65 = .ok (.istore 4, 2) := by decide +kernel
theorem dX12_unpack_67 : decode cX12_unpack 67 = .ok (.iload 4, 2) := by decide +kernel
theorem dX12_unpack_69 : decode cX12_unpack 69 = .ok (.bipush 8, 2) := by decide +kernel
theorem dX12_unpack_71 : decode cX12_unpack 71 = .ok (.if_icmp .ge 70, 3) := by decide +kernel
theorem dX12_unpack_74 : decode cX12_unpack 74 = .ok (.aload_n 0, 1) := by decide +kernel
theorem dX12_unpack_75 : decode cX12_unpack 75 = .ok (.getfield 96, 3) := by decide +kernel
theorem dX12_unpack_78 : decode cX12_unpack 78 = .ok (.iload 4, 2) := by decide +kernel
theorem dX12_unpack_80 : decode cX12_unpack 80 = .ok (.aload_n 1, 1) := by decide +kernel
theorem dX12_unpack_81 : decode cX12_unpack 81 = .ok (.iload_n 3, 1) := by decide +kernel
theorem dX12_unpack_82 : decode cX12_unpack 82 = .ok (.iaload, 1) := by decide +kernel
theorem dX12_unpack_83 : decode cX12_unpack 83 = .ok (.iastore, 1) := by decide +kernel
theorem dX12_unpack_84 : decode cX12_unpack 84 = .ok (.aload_n 0, 1) := by decide +kernel
theorem dX12_unpack_85 : decode cX12_unpack 85 = .ok (.getfield 99, 3) := by decide +kernel
theorem dX12_unpack_88 : decode cX12_unpack 88 = .ok (.iload 4, 2) := by decide +kernel
theorem dX12_unpack_90 : decode cX12_unpack 90 = .ok (.aload_n 1, 1) := by decide +kernel
theorem dX12_unpack_91 : decode cX12_unpack 91 = .ok (.iload_n 3, 1) := by decide +kernel
theorem dX12_unpack_92 : decode cX12_unpack 92 = .ok (.iconst 1, 1) := by decide +kernel
theorem dX12_unpack_93 : decode cX12_unpack 93 = .ok (.iadd, 1) := by decide +kernel
theorem dX12_unpack_94 : decode cX12_unpack 94 = .ok (.iaload, 1) := by decide +kernel
theorem dX12_unpack_95 : decode cX12_unpack 95 = .ok (.iastore, 1) := by decide +kernel
theorem dX12_unpack_96 : decode cX12_unpack 96 = .ok (.aload_n 0, 1) := by decide +kernel
theorem dX12_unpack_97 : decode cX12_unpack 97 = .ok (.getfield 102, 3) := by decide +kernel
theorem dX12_unpack_100 : decode cX12_unpack 100 = .ok (.iload 4, 2) := by decide +kernel
theorem dX12_unpack_102 : decode cX12_unpack 102 = .ok (.aload_n 1, 1) := by decide +kernel
theorem dX12_unpack_103 : decode cX12_unpack 103 = .ok (.iload_n 3, 1) := by decide +kernel
theorem dX12_unpack_104 : decode cX12_unpack 104 = .ok (.iconst 2, 1) := by decide +kernel
theorem dX12_unpack_105 : decode cX12_unpack 105 = .ok (.iadd, 1) := by decide +kernel
theorem dX12_unpack_106 : decode cX12_unpack 106 = .ok (.iaload, 1) := by decide +kernel
theorem dX12_unpack_107 : decode cX12_unpack 107 = .ok (.iastore, 1) := by decide +kernel
theorem dX12_unpack_108 : decode cX12_unpack 108 = .ok (.aload_n 0, 1) := by decide +kernel
theorem dX12_unpack_109 : decode cX12_unpack 109 = .ok (.getfield 104, 3) := by decide +kernel
theorem dX12_unpack_112 : decode cX12_unpack 112 = .ok (.iload 4, 2) := by decide +kernel
theorem dX12_unpack_114 : decode cX12_unpack 114 = .ok (.aload_n 1, 1) := by decide +kernel
theorem dX12_unpack_115 : decode cX12_unpack 115 = .ok (.iload_n 3, 1) := by decide +kernel
theorem dX12_unpack_116 : decode cX12_unpack 116 = .ok (.iconst 3, 1) := by decide +kernel
theorem dX12_unpack_117 : decode cX12_unpack 117 = .ok (.iadd, 1) := by decide +kernel
theorem dX12_unpack_118 : decode cX12_unpack 118 = .ok (.iaload, 1) := by decide +kernel
theorem dX12_unpack_119 : decode cX12_unpack 119 = .ok (.iastore, 1) := by decide +kernel
theorem dX12_unpack_120 : decode cX12_unpack 120 = .ok (.aload_n 0, 1) := by decide +kernel
theorem dX12_unpack_121 : decode cX12_unpack 121 = .ok (.getfield 106, 3) := by decide +kernel
theorem dX12_unpack_124 : decode cX12_unpack 124 = .ok (.iload 4, 2) := by decide +kernel
theorem dX12_unpack_126 : decode cX12_unpack 126 = .ok (.aload_n 1, 1) := by decide +kernel
theorem dX12_unpack_127 : decode cX12_unpack 127 = .ok (.iload_n 3, 1) := by decide +kernel
theorem dX12_unpack_128 : decode cX12_unpack 128 = .ok (.iconst 4, 1) := by decide +kernel
theorem dX12_unpack_129 : decode cX12_unpack 129 = .ok (.iadd, 1) := by decide +kernel
theorem dX12_unpack_130 : decode cX12_unpack 130 = .ok (.iaload, 1) := by decide +kernel
theorem dX12_unpack_131 : decode cX12_unpack 131 = .ok (.iastore, 1) := by decide +kernel
theorem dX12_unpack_132 : decode cX12_unpack 132 = .ok (.iinc 3 5, 3) := by decide +kernel
theorem dX12_unpack_135 : decode cX12_unpack 135 = .ok (.iinc 4 1, 3) := by decide +kernel
theorem dX12_unpack_138 : decode cX12_unpack 138 = .ok (.goto (-71), 3) := by decide +kernel
theorem dX12_unpack_141 : decode cX12_unpack 141 = .ok (.return_, 1) := by decide +kernel
theorem dX12_reckon_0 : decode cX12_reckon 0 = .ok (.iload_n 0, 1) := by decide +kernel
theorem dX12_reckon_1 : decode cX12_reckon 1 = .ok (.tableswitch 103 (-26) (-20) #[89, 78, 67, 55, 51, 47, 43], 43) := by decide +kernel
theorem dX12_reckon_44 : decode cX12_reckon 44 = .ok (.iload_n 1, 1) := by decide +kernel
theorem dX12_reckon_45 : decode cX12_reckon 45 = .ok (.iload_n 2, 1) := by decide +kernel
theorem dX12_reckon_46 : decode cX12_reckon 46 = .ok (.iadd, 1) := by decide +kernel
theorem dX12_reckon_47 : decode cX12_reckon 47 = .ok (.ireturn, 1) := by decide +kernel
theorem dX12_reckon_48 : decode cX12_reckon 48 = .ok (.iload_n 1, 1) := by decide +kernel
theorem dX12_reckon_49 : decode cX12_reckon 49 = .ok (.iload_n 2, 1) := by decide +kernel
theorem dX12_reckon_50 : decode cX12_reckon 50 = .ok (.isub, 1) := by decide +kernel
theorem dX12_reckon_51 : decode cX12_reckon 51 = .ok (.ireturn, 1) := by decide +kernel
theorem dX12_reckon_52 : decode cX12_reckon 52 = .ok (.iload_n 1, 1) := by decide +kernel
theorem dX12_reckon_53 : decode cX12_reckon 53 = .ok (.iload_n 2, 1) := by decide +kernel
theorem dX12_reckon_54 : decode cX12_reckon 54 = .ok (.imul, 1) := by decide +kernel
theorem dX12_reckon_55 : decode cX12_reckon 55 = .ok (.ireturn, 1) := by decide +kernel
theorem dX12_reckon_56 : decode cX12_reckon 56 = .ok (.iload_n 2, 1) := by decide +kernel
theorem dX12_reckon_57 : decode cX12_reckon 57 = .ok (.ifCond .ne 7, 3) := by decide +kernel
theorem dX12_reckon_60 : decode cX12_reckon 60 = .ok (.iconst 0, 1) := by decide +kernel
theorem dX12_reckon_61 : decode cX12_reckon 61 = .ok (.goto 6, 3) := by decide +kernel
theorem dX12_reckon_64 : decode cX12_reckon 64 = .ok (.iload_n 1, 1) := by decide +kernel
theorem dX12_reckon_65 : decode cX12_reckon 65 = .ok (.iload_n 2, 1) := by decide +kernel
theorem dX12_reckon_66 : decode cX12_reckon 66 = .ok (.idiv, 1) := by decide +kernel
theorem dX12_reckon_67 : decode cX12_reckon 67 = .ok (.ireturn, 1) := by decide +kernel
theorem dX12_reckon_68 : decode cX12_reckon 68 = .ok (.iload_n 1, 1) := by decide +kernel
theorem dX12_reckon_69 : decode cX12_reckon 69 = .ok (.iload_n 2, 1) := by decide +kernel
theorem dX12_reckon_70 : decode cX12_reckon 70 = .ok (.if_icmp .ge 7, 3) := by decide +kernel
theorem dX12_reckon_73 : decode cX12_reckon 73 = .ok (.iconst 1, 1) := by decide +kernel
theorem dX12_reckon_74 : decode cX12_reckon 74 = .ok (.goto 4, 3) := by decide +kernel
theorem dX12_reckon_77 : decode cX12_reckon 77 = .ok (.iconst 0, 1) := by decide +kernel
theorem dX12_reckon_78 : decode cX12_reckon 78 = .ok (.ireturn, 1) := by decide +kernel
theorem dX12_reckon_79 : decode cX12_reckon 79 = .ok (.iload_n 1, 1) := by decide +kernel
theorem dX12_reckon_80 : decode cX12_reckon 80 = .ok (.iload_n 2, 1) := by decide +kernel
theorem dX12_reckon_81 : decode cX12_reckon 81 = .ok (.if_icmp .ne 7, 3) := by decide +kernel
theorem dX12_reckon_84 : decode cX12_reckon 84 = .ok (.iconst 1, 1) := by decide +kernel
theorem dX12_reckon_85 : decode cX12_reckon 85 = .ok (.goto 4, 3) := by decide +kernel
theorem dX12_reckon_88 : decode cX12_reckon 88 = .ok (.iconst 0, 1) := by decide +kernel
theorem dX12_reckon_89 : decode cX12_reckon 89 = .ok (.ireturn, 1) := by decide +kernel
theorem dX12_reckon_90 : decode cX12_reckon 90 = .ok (.iload_n 1, 1) := by decide +kernel
theorem dX12_reckon_91 : decode cX12_reckon 91 = .ok (.ifCond .eq 11, 3) := by decide +kernel
theorem dX12_reckon_94 : decode cX12_reckon 94 = .ok (.iload_n 2, 1) := by decide +kernel
theorem dX12_reckon_95 : decode cX12_reckon 95 = .ok (.ifCond .eq 7, 3) := by decide +kernel
theorem dX12_reckon_98 : decode cX12_reckon 98 = .ok (.iconst 1, 1) := by decide +kernel
theorem dX12_reckon_99 : decode cX12_reckon 99 = .ok (.goto 4, 3) := by decide +kernel
theorem dX12_reckon_102 : decode cX12_reckon 102 = .ok (.iconst 0, 1) := by decide +kernel
theorem dX12_reckon_103 : decode cX12_reckon 103 = .ok (.ireturn, 1) := by decide +kernel
theorem dX12_reckon_104 : decode cX12_reckon 104 = .ok (.iload_n 1, 1) := by decide +kernel
theorem dX12_reckon_105 : decode cX12_reckon 105 = .ok (.ifCond .ne 7, 3) := by decide +kernel
theorem dX12_reckon_108 : decode cX12_reckon 108 = .ok (.iload_n 2, 1) := by decide +kernel
theorem dX12_reckon_109 : decode cX12_reckon 109 = .ok (.ifCond .eq 7, 3) := by decide +kernel
theorem dX12_reckon_112 : decode cX12_reckon 112 = .ok (.iconst 1, 1) := by decide +kernel
theorem dX12_reckon_113 : decode cX12_reckon 113 = .ok (.goto 4, 3) := by decide +kernel
theorem dX12_reckon_116 : decode cX12_reckon 116 = .ok (.iconst 0, 1) := by decide +kernel
theorem dX12_reckon_117 : decode cX12_reckon 117 = .ok (.ireturn, 1) := by decide +kernel
set_option maxRecDepth 20000 in
theorem ggX12_valueNow_X12_reckon : GoodIn wsX12_valueNow wsX12_reckon := goodIn_r _ [6] (by decide +kernel) (by decide +kernel)
set_option maxRecDepth 20000 in
theorem gX12_valueNow_X12_reckon : GoodIn wsX12_valueNow (va_wsS RX12 335 yX12_reckon wsX12_reckon) := goodIn_app (goodIn_of _ (by decide +kernel)) ggX12_valueNow_X12_reckon
theorem dX12_valueNow_0 : decode cX12_valueNow 0 = .ok (.iconst 0, 1) := by decide +kernel
theorem dX12_valueNow_1 : decode cX12_valueNow 1 = .ok (.istore_n 3, 1) := by decide +kernel
theorem dX12_valueNow_2 : decode cX12_valueNow 2 = .ok (.iconst 0, 1) := by decide +kernel
theorem dX12_valueNow_3 : decode cX12_valueNow 3 = .ok (.istore 4, 2) := by decide +kernel
theorem dX12_valueNow_5 : decode cX12_valueNow 5 = .ok (.iload 4, 2) := by decide +kernel
theorem dX12_valueNow_7 : decode cX12_valueNow 7 = .ok (.iload_n 2, 1) := by decide +kernel
theorem dX12_valueNow_8 : decode cX12_valueNow 8 = .ok (.if_icmp .ge 117, 3) := by decide +kernel
theorem dX12_valueNow_11 : decode cX12_valueNow 11 = .ok (.aload_n 1, 1) := by decide +kernel
theorem dX12_valueNow_12 : decode cX12_valueNow 12 = .ok (.iload 4, 2) := by decide +kernel
theorem dX12_valueNow_14 : decode cX12_valueNow 14 = .ok (.iaload, 1) := by decide +kernel
theorem dX12_valueNow_15 : decode cX12_valueNow 15 = .ok (.istore 5, 2) := by decide +kernel
theorem dX12_valueNow_17 : decode cX12_valueNow 17 = .ok (.iload 5, 2) := by decide +kernel
theorem dX12_valueNow_19 : decode cX12_valueNow 19 = .ok (.bipush (-20), 2) := by decide +kernel
theorem dX12_valueNow_21 : decode cX12_valueNow 21 = .ok (.if_icmp .le 34, 3) := by decide +kernel
theorem dX12_valueNow_24 : decode cX12_valueNow 24 = .ok (.aload_n 0, 1) := by decide +kernel
theorem dX12_valueNow_25 : decode cX12_valueNow 25 = .ok (.getfield 115, 3) := by decide +kernel
theorem dX12_valueNow_28 : decode cX12_valueNow 28 = .ok (.iload_n 3, 1) := by decide +kernel
theorem dX12_valueNow_29 : decode cX12_valueNow 29 = .ok (.iload 5, 2) := by decide +kernel
theorem dX12_valueNow_31 : decode cX12_valueNow 31 = .ok (.ifCond .lt 8, 3) := by decide +kernel
theorem dX12_valueNow_34 : decode cX12_valueNow 34 = .ok (.iload 5, 2) := by decide +kernel
theorem dX12_valueNow_36 : decode cX12_valueNow 36 = .ok (.goto 12, 3) := by decide +kernel
theorem dX12_valueNow_39 : decode cX12_valueNow 39 = .ok (.aload_n 0, 1) := by decide +kernel
theorem dX12_valueNow_40 : decode cX12_valueNow 40 = .ok (.getfield 112, 3) := by decide +kernel
theorem dX12_valueNow_43 : decode cX12_valueNow 43 = .ok (.iconst (-1), 1) := by decide +kernel
theorem dX12_valueNow_44 : decode cX12_valueNow 44 = .ok (.iload 5, 2) := by decide +kernel
theorem dX12_valueNow_46 : decode cX12_valueNow 46 = .ok (.isub, 1) := by decide +kernel
theorem dX12_valueNow_47 : decode cX12_valueNow 47 = .ok (.iaload, 1) := by decide +kernel
theorem dX12_valueNow_48 : decode cX12_valueNow 48 = .ok (.iastore, 1) := by decide +kernel
theorem dX12_valueNow_49 : decode cX12_valueNow 49 = .ok (.iinc 3 1, 3) := by decide +kernel
theorem dX12_valueNow_52 : decode cX12_valueNow 52 = .ok (.goto 67, 3) := by decide +kernel
theorem dX12_valueNow_55 : decode cX12_valueNow 55 = .ok (.iload 5, 2) := by decide +kernel
theorem dX12_valueNow_57 : decode cX12_valueNow 57 = .ok (.bipush (-28), 2) := by decide +kernel
theorem dX12_valueNow_59 : decode cX12_valueNow 59 = .ok (.if_icmp .ne 30, 3) := by decide +kernel
theorem dX12_valueNow_62 : decode cX12_valueNow 62 = .ok (.aload_n 0, 1) := by decide +kernel
theorem dX12_valueNow_63 : decode cX12_valueNow 63 = .ok (.getfield 115, 3) := by decide +kernel
theorem dX12_valueNow_66 : decode cX12_valueNow 66 = .ok (.iload_n 3, 1) := by decide +kernel
theorem dX12_valueNow_67 : decode cX12_valueNow 67 = .ok (.iconst 1, 1) := by decide +kernel
theorem dX12_valueNow_68 : decode cX12_valueNow 68 = .ok (.isub, 1) := by decide +kernel
theorem dX12_valueNow_69 : decode cX12_valueNow 69 = .ok (.aload_n 0, 1) := by decide +kernel
theorem dX12_valueNow_70 : decode cX12_valueNow 70 = .ok (.getfield 115, 3) := by decide +kernel
theorem dX12_valueNow_73 : decode cX12_valueNow 73 = .ok (.iload_n 3, 1) := by decide +kernel
theorem dX12_valueNow_74 : decode cX12_valueNow 74 = .ok (.iconst 1, 1) := by decide +kernel
theorem dX12_valueNow_75 : decode cX12_valueNow 75 = .ok (.isub, 1) := by decide +kernel
theorem dX12_valueNow_76 : decode cX12_valueNow 76 = .ok (.iaload, 1) := by decide +kernel
theorem dX12_valueNow_77 : decode cX12_valueNow 77 = .ok (.ifCond .eq 7, 3) := by decide +kernel
theorem dX12_valueNow_80 : decode cX12_valueNow 80 = .ok (.iconst 0, 1) := by decide +kernel
theorem dX12_valueNow_81 : decode cX12_valueNow 81 = .ok (.goto 4, 3) := by decide +kernel
theorem dX12_valueNow_84 : decode cX12_valueNow 84 = .ok (.iconst 1, 1) := by decide +kernel
theorem dX12_valueNow_85 : decode cX12_valueNow 85 = .ok (.iastore, 1) := by decide +kernel
theorem dX12_valueNow_86 : decode cX12_valueNow 86 = .ok (.goto 33, 3) := by decide +kernel
theorem dX12_valueNow_89 : decode cX12_valueNow 89 = .ok (.iinc 3 (-1), 3) := by decide +kernel
theorem dX12_valueNow_92 : decode cX12_valueNow 92 = .ok (.aload_n 0, 1) := by decide +kernel
theorem dX12_valueNow_93 : decode cX12_valueNow 93 = .ok (.getfield 115, 3) := by decide +kernel
theorem dX12_valueNow_96 : decode cX12_valueNow 96 = .ok (.iload_n 3, 1) := by decide +kernel
theorem dX12_valueNow_97 : decode cX12_valueNow 97 = .ok (.iconst 1, 1) := by decide +kernel
theorem dX12_valueNow_98 : decode cX12_valueNow 98 = .ok (.isub, 1) := by decide +kernel
theorem dX12_valueNow_99 : decode cX12_valueNow 99 = .ok (.iload 5, 2) := by decide +kernel
theorem dX12_valueNow_101 : decode cX12_valueNow 101 = .ok (.aload_n 0, 1) := by decide +kernel
theorem dX12_valueNow_102 : decode cX12_valueNow 102 = .ok (.getfield 115, 3) := by decide +kernel
theorem dX12_valueNow_105 : decode cX12_valueNow 105 = .ok (.iload_n 3, 1) := by decide +kernel
theorem dX12_valueNow_106 : decode cX12_valueNow 106 = .ok (.iconst 1, 1) := by decide +kernel
theorem dX12_valueNow_107 : decode cX12_valueNow 107 = .ok (.isub, 1) := by decide +kernel
theorem dX12_valueNow_108 : decode cX12_valueNow 108 = .ok (.iaload, 1) := by decide +kernel
theorem dX12_valueNow_109 : decode cX12_valueNow 109 = .ok (.aload_n 0, 1) := by decide +kernel
theorem dX12_valueNow_110 : decode cX12_valueNow 110 = .ok (.getfield 115, 3) := by decide +kernel
theorem dX12_valueNow_113 : decode cX12_valueNow 113 = .ok (.iload_n 3, 1) := by decide +kernel
theorem dX12_valueNow_114 : decode cX12_valueNow 114 = .ok (.iaload, 1) := by decide +kernel
theorem dX12_valueNow_115 : decode cX12_valueNow 115 = .ok (.invokestatic 335, 3) := by decide +kernel
theorem dX12_valueNow_118 : decode cX12_valueNow 118 = .ok (.iastore, 1) := by decide +kernel
theorem dX12_valueNow_119 : decode cX12_valueNow 119 = .ok (.iinc 4 1, 3) := by decide +kernel
theorem dX12_valueNow_122 : decode cX12_valueNow 122 = .ok (.goto (-117), 3) := by decide +kernel
theorem dX12_valueNow_125 : decode cX12_valueNow 125 = .ok (.aload_n 0, 1) := by decide +kernel
theorem dX12_valueNow_126 : decode cX12_valueNow 126 = .ok (.getfield 115, 3) := by decide +kernel
theorem dX12_valueNow_129 : decode cX12_valueNow 129 = .ok (.iconst 0, 1) := by decide +kernel
theorem dX12_valueNow_130 : decode cX12_valueNow 130 = .ok (.iaload, 1) := by decide +kernel
theorem dX12_valueNow_131 : decode cX12_valueNow 131 = .ok (.ireturn, 1) := by decide +kernel
theorem dX12_sitterOf_0 : decode cX12_sitterOf 0 = .ok (.iconst 0, 1) := by decide +kernel
theorem dX12_sitterOf_1 : decode cX12_sitterOf 1 = .ok (.istore_n 2, 1) := by decide +kernel
theorem dX12_sitterOf_2 : decode cX12_sitterOf 2 = .ok (.iload_n 2, 1) := by decide +kernel
theorem dX12_sitterOf_3 : decode cX12_sitterOf 3 = .ok (.aload_n 0, 1) := by decide +kernel
theorem dX12_sitterOf_4 : decode cX12_sitterOf 4 = .ok (.getfield 42, 3) := by decide +kernel
theorem dX12_sitterOf_7 : decode cX12_sitterOf 7 = .ok (.iconst 1, 1) := by decide +kernel
theorem dX12_sitterOf_8 : decode cX12_sitterOf 8 = .ok (.iaload, 1) := by decide +kernel
theorem dX12_sitterOf_9 : decode cX12_sitterOf 9 = .ok (.if_icmp .ge 21, 3) := by decide +kernel
theorem dX12_sitterOf_12 : decode cX12_sitterOf 12 = .ok (.aload_n 0, 1) := by decide +kernel
theorem dX12_sitterOf_13 : decode cX12_sitterOf 13 = .ok (.getfield 106, 3) := by decide +kernel
theorem dX12_sitterOf_16 : decode cX12_sitterOf 16 = .ok (.iload_n 2, 1) := by decide +kernel
theorem dX12_sitterOf_17 : decode cX12_sitterOf 17 = .ok (.iaload, 1) := by decide +kernel
theorem dX12_sitterOf_18 : decode cX12_sitterOf 18 = .ok (.iload_n 1, 1) := by decide +kernel
theorem dX12_sitterOf_19 : decode cX12_sitterOf 19 = .ok (.if_icmp .ne 5, 3) := by decide +kernel
theorem dX12_sitterOf_22 : decode cX12_sitterOf 22 = .ok (.iload_n 2, 1) := by decide +kernel
theorem dX12_sitterOf_23 : decode cX12_sitterOf 23 = .ok (.ireturn, 1) := by decide +kernel
theorem dX12_sitterOf_24 : decode cX12_sitterOf 24 = .ok (.iinc 2 1, 3) := by decide +kernel
theorem dX12_sitterOf_27 : decode cX12_sitterOf 27 = .ok (.goto (-25), 3) := by decide +kernel
theorem dX12_sitterOf_30 : decode cX12_sitterOf 30 = .ok (.iconst (-1), 1) := by decide +kernel
theorem dX12_sitterOf_31 : decode cX12_sitterOf 31 = .ok (.ireturn, 1) := by decide +kernel
theorem dX12_unlikeOf_0 : decode cX12_unlikeOf 0 = .ok (.aload_n 0, 1) := by decide +kernel
theorem dX12_unlikeOf_1 : decode cX12_unlikeOf 1 = .ok (.getfield 96, 3) := by decide +kernel
theorem dX12_unlikeOf_4 : decode cX12_unlikeOf 4 = .ok (.iload_n 1, 1) := by decide +kernel
theorem dX12_unlikeOf_5 : decode cX12_unlikeOf 5 = .ok (.iaload, 1) := by decide +kernel
theorem dX12_unlikeOf_6 : decode cX12_unlikeOf 6 = .ok (.aload_n 0, 1) := by decide +kernel
theorem dX12_unlikeOf_7 : decode cX12_unlikeOf 7 = .ok (.getfield 88, 3) := by decide +kernel
theorem dX12_unlikeOf_10 : decode cX12_unlikeOf 10 = .ok (.iload_n 2, 1) := by decide +kernel
theorem dX12_unlikeOf_11 : decode cX12_unlikeOf 11 = .ok (.iaload, 1) := by decide +kernel
theorem dX12_unlikeOf_12 : decode cX12_unlikeOf 12 = .ok (.isub, 1) := by decide +kernel
theorem dX12_unlikeOf_13 : decode cX12_unlikeOf 13 = .ok (.invokestatic 339, 3) := by decide +kernel
theorem dX12_unlikeOf_16 : decode cX12_unlikeOf 16 = .ok (.aload_n 0, 1) := by decide +kernel
theorem dX12_unlikeOf_17 : decode cX12_unlikeOf 17 = .ok (.getfield 99, 3) := by decide +kernel
theorem dX12_unlikeOf_20 : decode cX12_unlikeOf 20 = .ok (.iload_n 1, 1) := by decide +kernel
theorem dX12_unlikeOf_21 : decode cX12_unlikeOf 21 = .ok (.iaload, 1) := by decide +kernel
theorem dX12_unlikeOf_22 : decode cX12_unlikeOf 22 = .ok (.aload_n 0, 1) := by decide +kernel
theorem dX12_unlikeOf_23 : decode cX12_unlikeOf 23 = .ok (.getfield 91, 3) := by decide +kernel
theorem dX12_unlikeOf_26 : decode cX12_unlikeOf 26 = .ok (.iload_n 2, 1) := by decide +kernel
theorem dX12_unlikeOf_27 : decode cX12_unlikeOf 27 = .ok (.iaload, 1) := by decide +kernel
theorem dX12_unlikeOf_28 : decode cX12_unlikeOf 28 = .ok (.isub, 1) := by decide +kernel
theorem dX12_unlikeOf_29 : decode cX12_unlikeOf 29 = .ok (.invokestatic 339, 3) := by decide +kernel
theorem dX12_unlikeOf_32 : decode cX12_unlikeOf 32 = .ok (.iadd, 1) := by decide +kernel
theorem dX12_unlikeOf_33 : decode cX12_unlikeOf 33 = .ok (.ireturn, 1) := by decide +kernel
theorem dX12_rainOf_0 : decode cX12_rainOf 0 = .ok (.aload_n 0, 1) := by decide +kernel
theorem dX12_rainOf_1 : decode cX12_rainOf 1 = .ok (.getfield 42, 3) := by decide +kernel
theorem dX12_rainOf_4 : decode cX12_rainOf 4 = .ok (.iconst 2, 1) := by decide +kernel
theorem dX12_rainOf_5 : decode cX12_rainOf 5 = .ok (.iaload, 1) := by decide +kernel
theorem dX12_rainOf_6 : decode cX12_rainOf 6 = .ok (.ifCond .ne 7, 3) := by decide +kernel
theorem dX12_rainOf_9 : decode cX12_rainOf 9 = .ok (.iconst 3, 1) := by decide +kernel
theorem dX12_rainOf_10 : decode cX12_rainOf 10 = .ok (.goto 16, 3) := by decide +kernel
theorem dX12_rainOf_13 : decode cX12_rainOf 13 = .ok (.aload_n 0, 1) := by decide +kernel
theorem dX12_rainOf_14 : decode cX12_rainOf 14 = .ok (.getfield 69, 3) := by decide +kernel
theorem dX12_rainOf_17 : decode cX12_rainOf 17 = .ok (.iload_n 1, 1) := by decide +kernel
theorem dX12_rainOf_18 : decode cX12_rainOf 18 = .ok (.aload_n 0, 1) := by decide +kernel
theorem dX12_rainOf_19 : decode cX12_rainOf 19 = .ok (.getfield 42, 3) := by decide +kernel
theorem dX12_rainOf_22 : decode cX12_rainOf 22 = .ok (.iconst 2, 1) := by decide +kernel
theorem dX12_rainOf_23 : decode cX12_rainOf 23 = .ok (.iaload, 1) := by decide +kernel
theorem dX12_rainOf_24 : decode cX12_rainOf 24 = .ok (.irem, 1) := by decide +kernel
theorem dX12_rainOf_25 : decode cX12_rainOf 25 = .ok (.iaload, 1) := by decide +kernel
theorem dX12_rainOf_26 : decode cX12_rainOf 26 = .ok (.ireturn, 1) := by decide +kernel
theorem dX12_besideOf_0 : decode cX12_besideOf 0 = .ok (.aload_n 0, 1) := by decide +kernel
theorem dX12_besideOf_1 : decode cX12_besideOf 1 = .ok (.getfield 42, 3) := by decide +kernel
theorem dX12_besideOf_4 : decode cX12_besideOf 4 = .ok (.iconst 0, 1) := by decide +kernel
theorem dX12_besideOf_5 : decode cX12_besideOf 5 = .ok (.iaload, 1) := by decide +kernel
theorem dX12_besideOf_6 : decode cX12_besideOf 6 = .ok (.istore_n 2, 1) := by decide +kernel
theorem dX12_besideOf_7 : decode cX12_besideOf 7 = .ok (.aload_n 0, 1) := by decide +kernel
theorem dX12_besideOf_8 : decode cX12_besideOf 8 = .ok (.getfield 94, 3) := by decide +kernel
theorem dX12_besideOf_11 : decode cX12_besideOf 11 = .ok (.iload_n 1, 1) := by decide +kernel
theorem dX12_besideOf_12 : decode cX12_besideOf 12 = .ok (.iconst 1, 1) := by decide +kernel
theorem dX12_besideOf_13 : decode cX12_besideOf 13 = .ok (.iadd, 1) := by decide +kernel
theorem dX12_besideOf_14 : decode cX12_besideOf 14 = .ok (.iload_n 2, 1) := by decide +kernel
theorem dX12_besideOf_15 : decode cX12_besideOf 15 = .ok (.irem, 1) := by decide +kernel
theorem dX12_besideOf_16 : decode cX12_besideOf 16 = .ok (.iaload, 1) := by decide +kernel
theorem dX12_besideOf_17 : decode cX12_besideOf 17 = .ok (.aload_n 0, 1) := by decide +kernel
theorem dX12_besideOf_18 : decode cX12_besideOf 18 = .ok (.getfield 94, 3) := by decide +kernel
theorem dX12_besideOf_21 : decode cX12_besideOf 21 = .ok (.iload_n 1, 1) := by decide +kernel
theorem dX12_besideOf_22 : decode cX12_besideOf 22 = .ok (.iload_n 2, 1) := by decide +kernel
theorem dX12_besideOf_23 : decode cX12_besideOf 23 = .ok (.iadd, 1) := by decide +kernel
theorem dX12_besideOf_24 : decode cX12_besideOf 24 = .ok (.iconst 1, 1) := by decide +kernel
theorem dX12_besideOf_25 : decode cX12_besideOf 25 = .ok (.isub, 1) := by decide +kernel
theorem dX12_besideOf_26 : decode cX12_besideOf 26 = .ok (.iload_n 2, 1) := by decide +kernel
theorem dX12_besideOf_27 : decode cX12_besideOf 27 = .ok (.irem, 1) := by decide +kernel
theorem dX12_besideOf_28 : decode cX12_besideOf 28 = .ok (.iaload, 1) := by decide +kernel
theorem dX12_besideOf_29 : decode cX12_besideOf 29 = .ok (.iadd, 1) := by decide +kernel
theorem dX12_besideOf_30 : decode cX12_besideOf 30 = .ok (.ireturn, 1) := by decide +kernel
set_option maxRecDepth 20000 in
theorem ggX12_wearsOf_X12_besideOf : GoodIn wsX12_wearsOf wsX12_besideOf := goodIn_r _ [17, 1, 3, 26, 27, 28, 29, 30, 31, 32, 33, 34, 35, 36, 37, 38, 39, 40, 41, 42, 43, 44, 45, 46, 47, 48, 49, 50, 51, 52, 53, 54, 55, 56, 57, 58, 59, 60, 61, 62, 63, 64, 65, 66, 67, 68, 69, 70, 71, 72, 73, 74, 75, 76, 77, 78, 79, 80, 81, 82, 83, 84, 85, 86, 87, 88, 89, 90] (by decide +kernel) (by decide +kernel)
set_option maxRecDepth 20000 in
theorem gX12_wearsOf_X12_besideOf : GoodIn wsX12_wearsOf (wsV RX12 342 RX12 yX12_besideOf wsX12_besideOf) := goodIn_app (goodIn_of _ (by decide +kernel)) ggX12_wearsOf_X12_besideOf
set_option maxRecDepth 20000 in
theorem ggX12_wearsOf_X12_valueNow : GoodIn wsX12_wearsOf wsX12_valueNow := goodIn_r _ [21, 22, 2, 23, 24, 16, 25, 26, 27, 28, 29, 30, 31, 32, 33, 34, 35, 36, 37, 38, 39, 40, 41, 42, 43, 44, 45, 46, 47, 48, 49, 50, 51, 52, 53, 54, 55, 56, 57, 58, 59, 60, 61, 62, 63, 64, 65, 66, 67, 68, 69, 70, 71, 72, 73, 74, 75, 76, 77, 78, 79, 80, 81, 82, 83, 84, 85, 86, 87, 88, 89, 90] (by decide +kernel) (by decide +kernel)
set_option maxRecDepth 20000 in
theorem gX12_wearsOf_X12_valueNow : GoodIn wsX12_wearsOf (wsV RX12 345 RX12 yX12_valueNow wsX12_valueNow) := goodIn_app (goodIn_of _ (by decide +kernel)) ggX12_wearsOf_X12_valueNow
theorem dX12_wearsOf_0 : decode cX12_wearsOf 0 = .ok (.iload_n 2, 1) := by decide +kernel
theorem dX12_wearsOf_1 : decode cX12_wearsOf 1 = .ok (.istore_n 3, 1) := by decide +kernel
theorem dX12_wearsOf_2 : decode cX12_wearsOf 2 = .ok (.aload_n 0, 1) := by decide +kernel
theorem dX12_wearsOf_3 : decode cX12_wearsOf 3 = .ok (.getfield 42, 3) := by decide +kernel
theorem dX12_wearsOf_6 : decode cX12_wearsOf 6 = .ok (.iconst 4, 1) := by decide +kernel
theorem dX12_wearsOf_7 : decode cX12_wearsOf 7 = .ok (.iaload, 1) := by decide +kernel
theorem dX12_wearsOf_8 : decode cX12_wearsOf 8 = .ok (.ifCond .le 58, 3) := by decide +kernel
theorem dX12_wearsOf_11 : decode cX12_wearsOf 11 = .ok (.aload_n 0, 1) := by decide +kernel
theorem dX12_wearsOf_12 : decode cX12_wearsOf 12 = .ok (.getfield 112, 3) := by decide +kernel
theorem dX12_wearsOf_15 : decode cX12_wearsOf 15 = .ok (.iconst 0, 1) := by decide +kernel
theorem dX12_wearsOf_16 : decode cX12_wearsOf 16 = .ok (.iload_n 2, 1) := by decide +kernel
theorem dX12_wearsOf_17 : decode cX12_wearsOf 17 = .ok (.iastore, 1) := by decide +kernel
theorem dX12_wearsOf_18 : decode cX12_wearsOf 18 = .ok (.aload_n 0, 1) := by decide +kernel
theorem dX12_wearsOf_19 : decode cX12_wearsOf 19 = .ok (.getfield 112, 3) := by decide +kernel
theorem dX12_wearsOf_22 : decode cX12_wearsOf 22 = .ok (.iconst 1, 1) := by decide +kernel
theorem dX12_wearsOf_23 : decode cX12_wearsOf 23 = .ok (.aload_n 0, 1) := by decide +kernel
theorem dX12_wearsOf_24 : decode cX12_wearsOf 24 = .ok (.getfield 94, 3) := by decide +kernel
theorem dX12_wearsOf_27 : decode cX12_wearsOf 27 = .ok (.iload_n 1, 1) := by decide +kernel
theorem dX12_wearsOf_28 : decode cX12_wearsOf 28 = .ok (.iaload, 1) := by decide +kernel
theorem dX12_wearsOf_29 : decode cX12_wearsOf 29 = .ok (.iastore, 1) := by decide +kernel
theorem dX12_wearsOf_30 : decode cX12_wearsOf 30 = .ok (.aload_n 0, 1) := by decide +kernel
theorem dX12_wearsOf_31 : decode cX12_wearsOf 31 = .ok (.getfield 112, 3) := by decide +kernel
theorem dX12_wearsOf_34 : decode cX12_wearsOf 34 = .ok (.iconst 2, 1) := by decide +kernel
theorem dX12_wearsOf_35 : decode cX12_wearsOf 35 = .ok (.aload_n 0, 1) := by decide +kernel
theorem dX12_wearsOf_36 : decode cX12_wearsOf 36 = .ok (.iload_n 1, 1) := by decide +kernel
theorem dX12_wearsOf_37 : decode cX12_wearsOf 37 = .ok (.invokevirtual 342, 3) := by decide +kernel
theorem dX12_wearsOf_40 : decode cX12_wearsOf 40 = .ok (.iastore, 1) := by decide +kernel
theorem dX12_wearsOf_41 : decode cX12_wearsOf 41 = .ok (.aload_n 0, 1) := by decide +kernel
theorem dX12_wearsOf_42 : decode cX12_wearsOf 42 = .ok (.getfield 112, 3) := by decide +kernel
theorem dX12_wearsOf_45 : decode cX12_wearsOf 45 = .ok (.iconst 3, 1) := by decide +kernel
theorem dX12_wearsOf_46 : decode cX12_wearsOf 46 = .ok (.aload_n 0, 1) := by decide +kernel
theorem dX12_wearsOf_47 : decode cX12_wearsOf 47 = .ok (.getfield 323, 3) := by decide +kernel
theorem dX12_wearsOf_50 : decode cX12_wearsOf 50 = .ok (.iastore, 1) := by decide +kernel
theorem dX12_wearsOf_51 : decode cX12_wearsOf 51 = .ok (.aload_n 0, 1) := by decide +kernel
theorem dX12_wearsOf_52 : decode cX12_wearsOf 52 = .ok (.aload_n 0, 1) := by decide +kernel
theorem dX12_wearsOf_53 : decode cX12_wearsOf 53 = .ok (.getfield 72, 3) := by decide +kernel
theorem dX12_wearsOf_56 : decode cX12_wearsOf 56 = .ok (.aload_n 0, 1) := by decide +kernel
theorem dX12_wearsOf_57 : decode cX12_wearsOf 57 = .ok (.getfield 42, 3) := by decide +kernel
theorem dX12_wearsOf_60 : decode cX12_wearsOf 60 = .ok (.iconst 4, 1) := by decide +kernel
theorem dX12_wearsOf_61 : decode cX12_wearsOf 61 = .ok (.iaload, 1) := by decide +kernel
theorem dX12_wearsOf_62 : decode cX12_wearsOf 62 = .ok (.invokevirtual 345, 3) := by decide +kernel
theorem dX12_wearsOf_65 : decode cX12_wearsOf 65 = .ok (.istore_n 3, 1) := by decide +kernel
theorem dX12_wearsOf_66 : decode cX12_wearsOf 66 = .ok (.iconst 0, 1) := by decide +kernel
theorem dX12_wearsOf_67 : decode cX12_wearsOf 67 = .ok (.bipush 20, 2) := by decide +kernel
theorem dX12_wearsOf_69 : decode cX12_wearsOf 69 = .ok (.iload_n 3, 1) := by decide +kernel
theorem dX12_wearsOf_70 : decode cX12_wearsOf 70 = .ok (.invokestatic 200, 3) := by decide +kernel
theorem dX12_wearsOf_73 : decode cX12_wearsOf 73 = .ok (.invokestatic 349, 3) := by decide +kernel
theorem dX12_wearsOf_76 : decode cX12_wearsOf 76 = .ok (.ireturn, 1) := by decide +kernel
set_option maxRecDepth 20000 in
theorem ggX12_wouldSit_X12_unlikeOf : GoodIn wsX12_wouldSit wsX12_unlikeOf := goodIn_r _ [12, 13, 14, 15, 16, 17, 18, 19, 20, 29, 30, 31, 32, 33, 34, 35, 36, 37, 38, 39, 40, 41, 42, 43, 44, 45, 46, 47, 48, 49, 50, 51, 52, 53, 54, 55, 56, 57, 58, 59, 60, 61, 62, 63, 64, 65, 66, 67, 68, 69, 70, 71, 72, 73, 74, 75, 76, 77, 78, 79, 80, 81, 82, 83, 84, 85, 86, 87, 88, 89, 90, 91, 92, 93] (by decide +kernel) (by decide +kernel)
set_option maxRecDepth 20000 in
theorem gX12_wouldSit_X12_unlikeOf : GoodIn wsX12_wouldSit (wsV RX12 352 RX12 yX12_unlikeOf wsX12_unlikeOf) := goodIn_app (goodIn_of _ (by decide +kernel)) ggX12_wouldSit_X12_unlikeOf
set_option maxRecDepth 20000 in
theorem ggX12_wouldSit_X12_valueNow : GoodIn wsX12_wouldSit wsX12_valueNow := goodIn_r _ [24, 25, 2, 26, 27, 11, 28, 29, 30, 31, 32, 33, 34, 35, 36, 37, 38, 39, 40, 41, 42, 43, 44, 45, 46, 47, 48, 49, 50, 51, 52, 53, 54, 55, 56, 57, 58, 59, 60, 61, 62, 63, 64, 65, 66, 67, 68, 69, 70, 71, 72, 73, 74, 75, 76, 77, 78, 79, 80, 81, 82, 83, 84, 85, 86, 87, 88, 89, 90, 91, 92, 93] (by decide +kernel) (by decide +kernel)
set_option maxRecDepth 20000 in
theorem gX12_wouldSit_X12_valueNow : GoodIn wsX12_wouldSit (wsV RX12 345 RX12 yX12_valueNow wsX12_valueNow) := goodIn_app (goodIn_of _ (by decide +kernel)) ggX12_wouldSit_X12_valueNow
theorem dX12_wouldSit_0 : decode cX12_wouldSit 0 = .ok (.aload_n 0, 1) := by decide +kernel
theorem dX12_wouldSit_1 : decode cX12_wouldSit 1 = .ok (.iload_n 1, 1) := by decide +kernel
theorem dX12_wouldSit_2 : decode cX12_wouldSit 2 = .ok (.iload_n 2, 1) := by decide +kernel
theorem dX12_wouldSit_3 : decode cX12_wouldSit 3 = .ok (.invokevirtual 352, 3) := by decide +kernel
theorem dX12_wouldSit_6 : decode cX12_wouldSit 6 = .ok (.istore_n 3, 1) := by decide +kernel
theorem dX12_wouldSit_7 : decode cX12_wouldSit 7 = .ok (.aload_n 0, 1) := by decide +kernel
theorem dX12_wouldSit_8 : decode cX12_wouldSit 8 = .ok (.getfield 42, 3) := by decide +kernel
theorem dX12_wouldSit_11 : decode cX12_wouldSit 11 = .ok (.iconst 5, 1) := by decide +kernel
theorem dX12_wouldSit_12 : decode cX12_wouldSit 12 = .ok (.iaload, 1) := by decide +kernel
theorem dX12_wouldSit_13 : decode cX12_wouldSit 13 = .ok (.ifCond .ne 14, 3) := by decide +kernel
theorem dX12_wouldSit_16 : decode cX12_wouldSit 16 = .ok (.iload_n 3, 1) := by decide +kernel
theorem dX12_wouldSit_17 : decode cX12_wouldSit 17 = .ok (.iconst 2, 1) := by decide +kernel
theorem dX12_wouldSit_18 : decode cX12_wouldSit 18 = .ok (.if_icmp .gt 7, 3) := by decide +kernel
theorem dX12_wouldSit_21 : decode cX12_wouldSit 21 = .ok (.iconst 1, 1) := by decide +kernel
theorem dX12_wouldSit_22 : decode cX12_wouldSit 22 = .ok (.goto 4, 3) := by decide +kernel
theorem dX12_wouldSit_25 : decode cX12_wouldSit 25 = .ok (.iconst 0, 1) := by decide +kernel
theorem dX12_wouldSit_26 : decode cX12_wouldSit 26 = .ok (.ireturn, 1) := by decide +kernel
theorem dX12_wouldSit_27 : decode cX12_wouldSit 27 = .ok (.aload_n 0, 1) := by decide +kernel
theorem dX12_wouldSit_28 : decode cX12_wouldSit 28 = .ok (.getfield 112, 3) := by decide +kernel
theorem dX12_wouldSit_31 : decode cX12_wouldSit 31 = .ok (.iconst 0, 1) := by decide +kernel
theorem dX12_wouldSit_32 : decode cX12_wouldSit 32 = .ok (.iload_n 3, 1) := by decide +kernel
theorem dX12_wouldSit_33 : decode cX12_wouldSit 33 = .ok (.iastore, 1) := by decide +kernel
theorem dX12_wouldSit_34 : decode cX12_wouldSit 34 = .ok (.aload_n 0, 1) := by decide +kernel
theorem dX12_wouldSit_35 : decode cX12_wouldSit 35 = .ok (.getfield 112, 3) := by decide +kernel
theorem dX12_wouldSit_38 : decode cX12_wouldSit 38 = .ok (.iconst 1, 1) := by decide +kernel
theorem dX12_wouldSit_39 : decode cX12_wouldSit 39 = .ok (.aload_n 0, 1) := by decide +kernel
