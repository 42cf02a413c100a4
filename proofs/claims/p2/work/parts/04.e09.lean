set_option maxRecDepth 20000 in
theorem ggX12_lasts_X12_loafIn : GoodIn wsX12_lasts wsX12_loafIn := goodIn_r _ [44, 27, 2, 45, 46, 47, 6, 48, 24, 49, 50, 51, 52, 8, 53, 54, 55, 56, 57, 58, 59, 60, 61, 62, 63, 64, 65, 25, 26, 37, 38, 39, 40, 32, 66, 67, 68, 69, 70, 71, 72, 73, 74, 75, 76, 77, 78, 79, 80, 81, 82, 83, 84, 85, 86, 87, 88, 89, 90, 30, 31, 91, 28, 29, 92, 93, 94, 95, 96, 97, 98, 99, 100, 101, 102, 103, 104, 105, 106, 107, 108, 109, 110, 111, 112, 113, 114, 115, 116, 117, 118, 119, 120, 121, 122, 123, 124, 125, 126, 127, 128, 129, 130, 131, 132, 133, 134, 135, 136, 137, 138, 139, 140, 141, 142, 143, 144, 145, 146, 147, 148, 149, 150, 151, 152, 153, 154, 155, 156, 157, 158, 159, 160, 161, 162, 163, 164, 165, 166, 167, 168, 169, 170, 171, 172, 173, 174, 175, 176, 177, 178, 179, 180, 181, 182, 183, 184] (by decide +kernel) (by decide +kernel)
set_option maxRecDepth 20000 in
theorem gX12_lasts_X12_loafIn : GoodIn wsX12_lasts (wsV RX12 455 RX12 yX12_loafIn wsX12_loafIn) := goodIn_app (goodIn_of _ (by decide +kernel)) ggX12_lasts_X12_loafIn
theorem dX12_lasts_0 : decode cX12_lasts 0 = .ok (.aload_n 0, 1) := by decide +kernel
theorem dX12_lasts_1 : decode cX12_lasts 1 = .ok (.iconst 0, 1) := by decide +kernel
theorem dX12_lasts_2 : decode cX12_lasts 2 = .ok (.putfield 163, 3) := by decide +kernel
theorem dX12_lasts_5 : decode cX12_lasts 5 = .ok (.aload_n 0, 1) := by decide +kernel
theorem dX12_lasts_6 : decode cX12_lasts 6 = .ok (.iload_n 1, 1) := by decide +kernel
theorem dX12_lasts_7 : decode cX12_lasts 7 = .ok (.invokevirtual 417, 3) := by decide +kernel
theorem dX12_lasts_10 : decode cX12_lasts 10 = .ok (.ifCond .eq 11, 3) := by decide +kernel
theorem dX12_lasts_13 : decode cX12_lasts 13 = .ok (.aload_n 0, 1) := by decide +kernel
theorem dX12_lasts_14 : decode cX12_lasts 14 = .ok (.iload_n 2, 1) := by decide +kernel
theorem dX12_lasts_15 : decode cX12_lasts 15 = .ok (.invokevirtual 411, 3) := by decide +kernel
theorem dX12_lasts_18 : decode cX12_lasts 18 = .ok (.ifCond .ne 9, 3) := by decide +kernel
theorem dX12_lasts_21 : decode cX12_lasts 21 = .ok (.aload_n 0, 1) := by decide +kernel
theorem dX12_lasts_22 : decode cX12_lasts 22 = .ok (.iconst 1, 1) := by decide +kernel
theorem dX12_lasts_23 : decode cX12_lasts 23 = .ok (.invokevirtual 310, 3) := by decide +kernel
theorem dX12_lasts_26 : decode cX12_lasts 26 = .ok (.ireturn, 1) := by decide +kernel
theorem dX12_lasts_27 : decode cX12_lasts 27 = .ok (.aload_n 0, 1) := by decide +kernel
theorem dX12_lasts_28 : decode cX12_lasts 28 = .ok (.aload_n 0, 1) := by decide +kernel
theorem dX12_lasts_29 : decode cX12_lasts 29 = .ok (.getfield 118, 3) := by decide +kernel
theorem dX12_lasts_32 : decode cX12_lasts 32 = .ok (.iconst 0, 1) := by decide +kernel
theorem dX12_lasts_33 : decode cX12_lasts 33 = .ok (.invokevirtual 420, 3) := by decide +kernel
theorem dX12_lasts_36 : decode cX12_lasts 36 = .ok (.aload_n 0, 1) := by decide +kernel
theorem dX12_lasts_37 : decode cX12_lasts 37 = .ok (.iload_n 1, 1) := by decide +kernel
theorem dX12_lasts_38 : decode cX12_lasts 38 = .ok (.iload_n 2, 1) := by decide +kernel
theorem dX12_lasts_39 : decode cX12_lasts 39 = .ok (.invokevirtual 473, 3) := by decide +kernel
theorem dX12_lasts_42 : decode cX12_lasts 42 = .ok (.aload_n 0, 1) := by decide +kernel
theorem dX12_lasts_43 : decode cX12_lasts 43 = .ok (.iload_n 2, 1) := by decide +kernel
theorem dX12_lasts_44 : decode cX12_lasts 44 = .ok (.invokevirtual 455, 3) := by decide +kernel
theorem dX12_lasts_47 : decode cX12_lasts 47 = .ok (.ireturn, 1) := by decide +kernel
set_option maxRecDepth 20000 in
theorem ggX12_best_X12_isPerson : GoodIn wsX12_best wsX12_isPerson := goodIn_r _ [9, 4, 10, 11, 8, 12, 117, 118, 119, 120, 121, 122, 123, 124, 125, 126, 127, 128, 129, 130, 131, 132, 133, 134, 135, 136, 137, 138, 139, 140, 141, 142, 143, 144, 145, 146, 147, 148, 149, 150, 151, 152, 153, 154, 155, 156, 157, 158, 159, 160, 161, 162, 163, 164, 165, 166, 167, 168, 169, 170, 171, 172, 173, 174, 175, 176, 177, 178, 179, 180, 181] (by decide +kernel) (by decide +kernel)
set_option maxRecDepth 20000 in
theorem gX12_best_X12_isPerson : GoodIn wsX12_best (wsV RX12 417 RX12 yX12_isPerson wsX12_isPerson) := goodIn_app (goodIn_of _ (by decide +kernel)) ggX12_best_X12_isPerson
set_option maxRecDepth 20000 in
theorem ggX12_best_X12_isIn : GoodIn wsX12_best wsX12_isIn := goodIn_r _ [12] (by decide +kernel) (by decide +kernel)
set_option maxRecDepth 20000 in
theorem gX12_best_X12_isIn : GoodIn wsX12_best (va_wsS RX12 166 yX12_isIn wsX12_isIn) := goodIn_app (goodIn_of _ (by decide +kernel)) ggX12_best_X12_isIn
set_option maxRecDepth 20000 in
theorem ggX12_best_X12_fail : GoodIn wsX12_best wsX12_fail := goodIn_r _ [16, 1, 117, 118, 119, 120, 121, 122, 123, 124, 125, 126, 127, 128, 129, 130, 131, 132, 133, 134, 135, 136, 137, 138, 139, 140, 141, 142, 143, 144, 145, 146, 147, 148, 149, 150, 151, 152, 153, 154, 155, 156, 157, 158, 159, 160, 161, 162, 163, 164, 165, 166, 167, 168, 169, 170, 171, 172, 173, 174, 175, 176, 177, 178, 179, 180, 181] (by decide +kernel) (by decide +kernel)
set_option maxRecDepth 20000 in
theorem gX12_best_X12_fail : GoodIn wsX12_best (wsV RX12 310 RX12 yX12_fail wsX12_fail) := goodIn_app (goodIn_of _ (by decide +kernel)) ggX12_best_X12_fail
set_option maxRecDepth 20000 in
theorem ggX12_best_X12_pack : GoodIn wsX12_best wsX12_pack := goodIn_r _ [20, 21, 22, 23, 24, 25, 26, 27, 28, 29, 117, 118, 119, 120, 121, 122, 123, 124, 125, 126, 127, 128, 129, 130, 131, 132, 133, 134, 135, 136, 137, 138, 139, 140, 141, 142, 143, 144, 145, 146, 147, 148, 149, 150, 151, 152, 153, 154, 155, 156, 157, 158, 159, 160, 161, 162, 163, 164, 165, 166, 167, 168, 169, 170, 171, 172, 173, 174, 175, 176, 177, 178, 179, 180, 181] (by decide +kernel) (by decide +kernel)
set_option maxRecDepth 20000 in
theorem gX12_best_X12_pack : GoodIn wsX12_best (wsV RX12 420 RX12 yX12_pack wsX12_pack) := goodIn_app (goodIn_of _ (by decide +kernel)) ggX12_best_X12_pack
set_option maxRecDepth 20000 in
theorem ggX12_best_X12_seatAt : GoodIn wsX12_best wsX12_seatAt := goodIn_r _ [33, 29, 34, 35, 36, 8, 37, 4, 117, 118, 119, 120, 121, 122, 123, 124, 125, 126, 127, 128, 129, 130, 131, 132, 133, 134, 135, 136, 137, 138, 139, 140, 141, 142, 143, 144, 145, 146, 147, 148, 149, 150, 151, 152, 153, 154, 155, 156, 157, 158, 159, 160, 161, 162, 163, 164, 165, 166, 167, 168, 169, 170, 171, 172, 173, 174, 175, 176, 177, 178, 179, 180, 181] (by decide +kernel) (by decide +kernel)
set_option maxRecDepth 20000 in
theorem gX12_best_X12_seatAt : GoodIn wsX12_best (wsV RX12 473 RX12 yX12_seatAt wsX12_seatAt) := goodIn_app (goodIn_of _ (by decide +kernel)) ggX12_best_X12_seatAt
set_option maxRecDepth 20000 in
theorem ggX12_best_X12_goOn : GoodIn wsX12_best wsX12_goOn := goodIn_r _ [41, 21, 42, 43, 44, 8, 45, 4, 46, 47, 48, 49, 50, 51, 52, 53, 54, 24, 55, 56, 57, 58, 22, 23, 34, 35, 36, 37, 29, 59, 60, 61, 62, 63, 64, 65, 66, 67, 68, 69, 70, 71, 72, 73, 74, 75, 76, 77, 78, 79, 80, 81, 82, 83, 27, 28, 84, 25, 26, 85, 86, 87, 88, 89, 90, 91, 92, 93, 94, 95, 96, 97, 98, 99, 100, 101, 102, 103, 104, 105, 106, 107, 108, 117, 118, 119, 120, 121, 122, 123, 124, 125, 126, 127, 128, 129, 130, 131, 132, 133, 134, 135, 136, 137, 138, 139, 140, 141, 142, 143, 144, 145, 146, 147, 148, 149, 150, 151, 152, 153, 154, 155, 156, 157, 158, 159, 160, 161, 162, 163, 164, 165, 166, 167, 168, 169, 170, 171, 172, 173, 174, 175, 176, 177, 178, 179, 180, 181] (by decide +kernel) (by decide +kernel)
set_option maxRecDepth 20000 in
theorem gX12_best_X12_goOn : GoodIn wsX12_best (wsV RX12 432 RX12 yX12_goOn wsX12_goOn) := goodIn_app (goodIn_of _ (by decide +kernel)) ggX12_best_X12_goOn
set_option maxRecDepth 20000 in
theorem ggX12_best_X12_allStone : GoodIn wsX12_best wsX12_allStone := goodIn_r _ [112, 4, 24, 117, 118, 119, 120, 121, 122, 123, 124, 125, 126, 127, 128, 129, 130, 131, 132, 133, 134, 135, 136, 137, 138, 139, 140, 141, 142, 143, 144, 145, 146, 147, 148, 149, 150, 151, 152, 153, 154, 155, 156, 157, 158, 159, 160, 161, 162, 163, 164, 165, 166, 167, 168, 169, 170, 171, 172, 173, 174, 175, 176, 177, 178, 179, 180, 181] (by decide +kernel) (by decide +kernel)
set_option maxRecDepth 20000 in
theorem gX12_best_X12_allStone : GoodIn wsX12_best (wsV RX12 402 RX12 yX12_allStone wsX12_allStone) := goodIn_app (goodIn_of _ (by decide +kernel)) ggX12_best_X12_allStone
set_option maxRecDepth 20000 in
theorem ggX12_best_X12_unpack : GoodIn wsX12_best wsX12_unpack := goodIn_r _ [116, 21, 22, 23, 24, 25, 26, 27, 28, 29, 117, 118, 119, 120, 121, 122, 123, 124, 125, 126, 127, 128, 129, 130, 131, 132, 133, 134, 135, 136, 137, 138, 139, 140, 141, 142, 143, 144, 145, 146, 147, 148, 149, 150, 151, 152, 153, 154, 155, 156, 157, 158, 159, 160, 161, 162, 163, 164, 165, 166, 167, 168, 169, 170, 171, 172, 173, 174, 175, 176, 177, 178, 179, 180, 181] (by decide +kernel) (by decide +kernel)
set_option maxRecDepth 20000 in
theorem gX12_best_X12_unpack : GoodIn wsX12_best (wsV RX12 446 RX12 yX12_unpack wsX12_unpack) := goodIn_app (goodIn_of _ (by decide +kernel)) ggX12_best_X12_unpack
theorem dX12_best_0 : decode cX12_best 0 = .ok (.aload_n 0, 1) := by decide +kernel
theorem dX12_best_1 : decode cX12_best 1 = .ok (.iconst 0, 1) := by decide +kernel
theorem dX12_best_2 : decode cX12_best 2 = .ok (.putfield 163, 3) := by decide +kernel
theorem dX12_best_5 : decode cX12_best 5 = .ok (.aload_n 0, 1) := by decide +kernel
theorem dX12_best_6 : decode cX12_best 6 = .ok (.iload_n 1, 1) := by decide +kernel
theorem dX12_best_7 : decode cX12_best 7 = .ok (.invokevirtual 417, 3) := by decide +kernel
theorem dX12_best_10 : decode cX12_best 10 = .ok (.ifCond .eq 13, 3) := by decide +kernel
theorem dX12_best_13 : decode cX12_best 13 = .ok (.iload_n 3, 1) := by decide +kernel
theorem dX12_best_14 : decode cX12_best 14 = .ok (.i2l, 1) := by decide +kernel
theorem dX12_best_15 : decode cX12_best 15 = .ok (.lconst 0, 1) := by decide +kernel
theorem dX12_best_16 : decode cX12_best 16 = .ok (.lconst 1, 1) := by decide +kernel
theorem dX12_best_17 : decode cX12_best 17 = .ok (.invokestatic 166, 3) := by decide +kernel
theorem dX12_best_20 : decode cX12_best 20 = .ok (.ifCond .ne 9, 3) := by decide +kernel
theorem dX12_best_23 : decode cX12_best 23 = .ok (.aload_n 0, 1) := by decide +kernel
theorem dX12_best_24 : decode cX12_best 24 = .ok (.iconst 1, 1) := by decide +kernel
theorem dX12_best_25 : decode cX12_best 25 = .ok (.invokevirtual 310, 3) := by decide +kernel
theorem dX12_best_28 : decode cX12_best 28 = .ok (.ireturn, 1) := by decide +kernel
theorem dX12_best_29 : decode cX12_best 29 = .ok (.iload_n 2, 1) := by decide +kernel
theorem dX12_best_30 : decode cX12_best 30 = .ok (.i2l, 1) := by decide +kernel
theorem dX12_best_31 : decode cX12_best 31 = .ok (.lconst 1, 1) := by decide +kernel
theorem dX12_best_32 : decode cX12_best 32 = .ok (.ldc2_w 451, 3) := by decide +kernel
theorem dX12_best_35 : decode cX12_best 35 = .ok (.invokestatic 166, 3) := by decide +kernel
theorem dX12_best_38 : decode cX12_best 38 = .ok (.ifCond .ne 9, 3) := by decide +kernel
theorem dX12_best_41 : decode cX12_best 41 = .ok (.aload_n 0, 1) := by decide +kernel
theorem dX12_best_42 : decode cX12_best 42 = .ok (.iconst 2, 1) := by decide +kernel
theorem dX12_best_43 : decode cX12_best 43 = .ok (.invokevirtual 310, 3) := by decide +kernel
theorem dX12_best_46 : decode cX12_best 46 = .ok (.ireturn, 1) := by decide +kernel
theorem dX12_best_47 : decode cX12_best 47 = .ok (.aload_n 0, 1) := by decide +kernel
theorem dX12_best_48 : decode cX12_best 48 = .ok (.aload_n 0, 1) := by decide +kernel
theorem dX12_best_49 : decode cX12_best 49 = .ok (.getfield 118, 3) := by decide +kernel
theorem dX12_best_52 : decode cX12_best 52 = .ok (.iconst 0, 1) := by decide +kernel
theorem dX12_best_53 : decode cX12_best 53 = .ok (.invokevirtual 420, 3) := by decide +kernel
theorem dX12_best_56 : decode cX12_best 56 = .ok (.iconst (-1), 1) := by decide +kernel
theorem dX12_best_57 : decode cX12_best 57 = .ok (.istore 4, 2) := by decide +kernel
theorem dX12_best_59 : decode cX12_best 59 = .ok (.iconst (-1), 1) := by decide +kernel
theorem dX12_best_60 : decode cX12_best 60 = .ok (.istore 5, 2) := by decide +kernel
theorem dX12_best_62 : decode cX12_best 62 = .ok (.iconst 0, 1) := by decide +kernel
theorem dX12_best_63 : decode cX12_best 63 = .ok (.istore 6, 2) := by decide +kernel
theorem dX12_best_65 : decode cX12_best 65 = .ok (.iload 6, 2) := by decide +kernel
theorem dX12_best_67 : decode cX12_best 67 = .ok (.aload_n 0, 1) := by decide +kernel
theorem dX12_best_68 : decode cX12_best 68 = .ok (.getfield 42, 3) := by decide +kernel
theorem dX12_best_71 : decode cX12_best 71 = .ok (.iconst 0, 1) := by decide +kernel
theorem dX12_best_72 : decode cX12_best 72 = .ok (.iaload, 1) := by decide +kernel
theorem dX12_best_73 : decode cX12_best 73 = .ok (.if_icmp .ge 54, 3) := by decide +kernel
theorem dX12_best_76 : decode cX12_best 76 = .ok (.aload_n 0, 1) := by decide +kernel
theorem dX12_best_77 : decode cX12_best 77 = .ok (.iload_n 1, 1) := by decide +kernel
theorem dX12_best_78 : decode cX12_best 78 = .ok (.iload 6, 2) := by decide +kernel
theorem dX12_best_80 : decode cX12_best 80 = .ok (.invokevirtual 473, 3) := by decide +kernel
theorem dX12_best_83 : decode cX12_best 83 = .ok (.aload_n 0, 1) := by decide +kernel
theorem dX12_best_84 : decode cX12_best 84 = .ok (.iload_n 2, 1) := by decide +kernel
theorem dX12_best_85 : decode cX12_best 85 = .ok (.invokevirtual 432, 3) := by decide +kernel
theorem dX12_best_88 : decode cX12_best 88 = .ok (.aload_n 0, 1) := by decide +kernel
theorem dX12_best_89 : decode cX12_best 89 = .ok (.invokevirtual 402, 3) := by decide +kernel
theorem dX12_best_92 : decode cX12_best 92 = .ok (.istore 7, 2) := by decide +kernel
theorem dX12_best_94 : decode cX12_best 94 = .ok (.aload_n 0, 1) := by decide +kernel
theorem dX12_best_95 : decode cX12_best 95 = .ok (.aload_n 0, 1) := by decide +kernel
theorem dX12_best_96 : decode cX12_best 96 = .ok (.getfield 118, 3) := by decide +kernel
theorem dX12_best_99 : decode cX12_best 99 = .ok (.iconst 0, 1) := by decide +kernel
theorem dX12_best_100 : decode cX12_best 100 = .ok (.invokevirtual 446, 3) := by decide +kernel
theorem dX12_best_103 : decode cX12_best 103 = .ok (.iload 7, 2) := by decide +kernel
theorem dX12_best_105 : decode cX12_best 105 = .ok (.iload 5, 2) := by decide +kernel
theorem dX12_best_107 : decode cX12_best 107 = .ok (.if_icmp .gt 6, 3) := by decide +kernel
theorem dX12_best_110 : decode cX12_best 110 = .ok (.goto 11, 3) := by decide +kernel
theorem dX12_best_113 : decode cX12_best 113 = .ok (.iload 6, 2) := by decide +kernel
theorem dX12_best_115 : decode cX12_best 115 = .ok (.istore 4, 2) := by decide +kernel
theorem dX12_best_117 : decode cX12_best 117 = .ok (.iload 7, 2) := by decide +kernel
theorem dX12_best_119 : decode cX12_best 119 = .ok (.istore 5, 2) := by decide +kernel
theorem dX12_best_121 : decode cX12_best 121 = .ok (.iinc 6 1, 3) := by decide +kernel
theorem dX12_best_124 : decode cX12_best 124 = .ok (.goto (-59), 3) := by decide +kernel
theorem dX12_best_127 : decode cX12_best 127 = .ok (.iload_n 3, 1) := by decide +kernel
theorem dX12_best_128 : decode cX12_best 128 = .ok (.ifCond .ne 8, 3) := by decide +kernel
theorem dX12_best_131 : decode cX12_best 131 = .ok (.iload 4, 2) := by decide +kernel
theorem dX12_best_133 : decode cX12_best 133 = .ok (.goto 5, 3) := by decide +kernel
theorem dX12_best_136 : decode cX12_best 136 = .ok (.iload 5, 2) := by decide +kernel
theorem dX12_best_138 : decode cX12_best 138 = .ok (.ireturn, 1) := by decide +kernel
set_option maxRecDepth 20000 in
theorem ggX12_see_X12_isPerson : GoodIn wsX12_see wsX12_isPerson := goodIn_r _ [12, 13, 14, 15, 11, 16, 26, 27, 28, 29, 30, 31, 32, 33, 34, 35, 36, 37, 38, 39, 40, 41, 42, 43, 44, 45, 46, 47, 48, 49, 50, 51, 52, 53, 54, 55, 56, 57, 58, 59, 60, 61, 62, 63, 64, 65, 66, 67, 68, 69, 70, 71, 72, 73, 74, 75, 76, 77, 78, 79, 80, 81, 82, 83, 84, 85, 86, 87, 88, 89, 90] (by decide +kernel) (by decide +kernel)
set_option maxRecDepth 20000 in
theorem gX12_see_X12_isPerson : GoodIn wsX12_see (wsV RX12 417 RX12 yX12_isPerson wsX12_isPerson) := goodIn_app (goodIn_of _ (by decide +kernel)) ggX12_see_X12_isPerson
set_option maxRecDepth 20000 in
theorem ggX12_see_X12_fail : GoodIn wsX12_see wsX12_fail := goodIn_r _ [20, 1, 26, 27, 28, 29, 30, 31, 32, 33, 34, 35, 36, 37, 38, 39, 40, 41, 42, 43, 44, 45, 46, 47, 48, 49, 50, 51, 52, 53, 54, 55, 56, 57, 58, 59, 60, 61, 62, 63, 64, 65, 66, 67, 68, 69, 70, 71, 72, 73, 74, 75, 76, 77, 78, 79, 80, 81, 82, 83, 84, 85, 86, 87, 88, 89, 90] (by decide +kernel) (by decide +kernel)
set_option maxRecDepth 20000 in
theorem gX12_see_X12_fail : GoodIn wsX12_see (wsV RX12 310 RX12 yX12_fail wsX12_fail) := goodIn_app (goodIn_of _ (by decide +kernel)) ggX12_see_X12_fail
set_option maxRecDepth 20000 in
theorem ggX12_see_X12_isIn : GoodIn wsX12_see wsX12_isIn := goodIn_r _ [16] (by decide +kernel) (by decide +kernel)
set_option maxRecDepth 20000 in
theorem gX12_see_X12_isIn : GoodIn wsX12_see (va_wsS RX12 166 yX12_isIn wsX12_isIn) := goodIn_app (goodIn_of _ (by decide +kernel)) ggX12_see_X12_isIn
set_option maxRecDepth 20000 in
theorem ggX12_see_X12_refuse : GoodIn wsX12_see wsX12_refuse := goodIn_r _ [24, 25, 26, 27, 28, 29, 30, 31, 32, 33, 34, 35, 36, 37, 38, 39, 40, 41, 42, 43, 44, 45, 46, 47, 48, 49, 50, 51, 52, 53, 54, 55, 56, 57, 58, 59, 60, 61, 62, 63, 64, 65, 66, 67, 68, 69, 70, 71, 72, 73, 74, 75, 76, 77, 78, 79, 80, 81, 82, 83, 84, 85, 86, 87, 88, 89, 90] (by decide +kernel) (by decide +kernel)
set_option maxRecDepth 20000 in
theorem gX12_see_X12_refuse : GoodIn wsX12_see (wsV RX12 426 RX12 yX12_refuse wsX12_refuse) := goodIn_app (goodIn_of _ (by decide +kernel)) ggX12_see_X12_refuse
theorem dX12_see_0 : decode cX12_see 0 = .ok (.aload_n 0, 1) := by decide +kernel
theorem dX12_see_1 : decode cX12_see 1 = .ok (.iconst 0, 1) := by decide +kernel
theorem dX12_see_2 : decode cX12_see 2 = .ok (.putfield 163, 3) := by decide +kernel
theorem dX12_see_5 : decode cX12_see 5 = .ok (.aload_n 0, 1) := by decide +kernel
theorem dX12_see_6 : decode cX12_see 6 = .ok (.iload_n 1, 1) := by decide +kernel
theorem dX12_see_7 : decode cX12_see 7 = .ok (.invokevirtual 417, 3) := by decide +kernel
theorem dX12_see_10 : decode cX12_see 10 = .ok (.ifCond .ne 9, 3) := by decide +kernel
theorem dX12_see_13 : decode cX12_see 13 = .ok (.aload_n 0, 1) := by decide +kernel
theorem dX12_see_14 : decode cX12_see 14 = .ok (.iconst 1, 1) := by decide +kernel
theorem dX12_see_15 : decode cX12_see 15 = .ok (.invokevirtual 310, 3) := by decide +kernel
theorem dX12_see_18 : decode cX12_see 18 = .ok (.ireturn, 1) := by decide +kernel
theorem dX12_see_19 : decode cX12_see 19 = .ok (.aload_n 0, 1) := by decide +kernel
theorem dX12_see_20 : decode cX12_see 20 = .ok (.getfield 329, 3) := by decide +kernel
theorem dX12_see_23 : decode cX12_see 23 = .ok (.bipush 8, 2) := by decide +kernel
theorem dX12_see_25 : decode cX12_see 25 = .ok (.if_icmp .eq 27, 3) := by decide +kernel
theorem dX12_see_28 : decode cX12_see 28 = .ok (.iload_n 2, 1) := by decide +kernel
theorem dX12_see_29 : decode cX12_see 29 = .ok (.i2l, 1) := by decide +kernel
theorem dX12_see_30 : decode cX12_see 30 = .ok (.lconst 0, 1) := by decide +kernel
theorem dX12_see_31 : decode cX12_see 31 = .ok (.ldc2_w 424, 3) := by decide +kernel
theorem dX12_see_34 : decode cX12_see 34 = .ok (.invokestatic 166, 3) := by decide +kernel
theorem dX12_see_37 : decode cX12_see 37 = .ok (.ifCond .eq 15, 3) := by decide +kernel
theorem dX12_see_40 : decode cX12_see 40 = .ok (.iload_n 3, 1) := by decide +kernel
theorem dX12_see_41 : decode cX12_see 41 = .ok (.i2l, 1) := by decide +kernel
theorem dX12_see_42 : decode cX12_see 42 = .ok (.lconst 0, 1) := by decide +kernel
theorem dX12_see_43 : decode cX12_see 43 = .ok (.ldc2_w 435, 3) := by decide +kernel
theorem dX12_see_46 : decode cX12_see 46 = .ok (.invokestatic 166, 3) := by decide +kernel
theorem dX12_see_49 : decode cX12_see 49 = .ok (.ifCond .ne 9, 3) := by decide +kernel
theorem dX12_see_52 : decode cX12_see 52 = .ok (.aload_n 0, 1) := by decide +kernel
theorem dX12_see_53 : decode cX12_see 53 = .ok (.iconst 2, 1) := by decide +kernel
theorem dX12_see_54 : decode cX12_see 54 = .ok (.invokevirtual 426, 3) := by decide +kernel
theorem dX12_see_57 : decode cX12_see 57 = .ok (.ireturn, 1) := by decide +kernel
theorem dX12_see_58 : decode cX12_see 58 = .ok (.aload_n 0, 1) := by decide +kernel
theorem dX12_see_59 : decode cX12_see 59 = .ok (.getfield 124, 3) := by decide +kernel
theorem dX12_see_62 : decode cX12_see 62 = .ok (.aload_n 0, 1) := by decide +kernel
theorem dX12_see_63 : decode cX12_see 63 = .ok (.getfield 329, 3) := by decide +kernel
theorem dX12_see_66 : decode cX12_see 66 = .ok (.iload_n 1, 1) := by decide +kernel
theorem dX12_see_67 : decode cX12_see 67 = .ok (.iastore, 1) := by decide +kernel
theorem dX12_see_68 : decode cX12_see 68 = .ok (.aload_n 0, 1) := by decide +kernel
theorem dX12_see_69 : decode cX12_see 69 = .ok (.getfield 127, 3) := by decide +kernel
theorem dX12_see_72 : decode cX12_see 72 = .ok (.aload_n 0, 1) := by decide +kernel
theorem dX12_see_73 : decode cX12_see 73 = .ok (.getfield 329, 3) := by decide +kernel
theorem dX12_see_76 : decode cX12_see 76 = .ok (.iload_n 2, 1) := by decide +kernel
theorem dX12_see_77 : decode cX12_see 77 = .ok (.iastore, 1) := by decide +kernel
theorem dX12_see_78 : decode cX12_see 78 = .ok (.aload_n 0, 1) := by decide +kernel
theorem dX12_see_79 : decode cX12_see 79 = .ok (.getfield 130, 3) := by decide +kernel
theorem dX12_see_82 : decode cX12_see 82 = .ok (.aload_n 0, 1) := by decide +kernel
theorem dX12_see_83 : decode cX12_see 83 = .ok (.getfield 329, 3) := by decide +kernel
theorem dX12_see_86 : decode cX12_see 86 = .ok (.iload_n 3, 1) := by decide +kernel
theorem dX12_see_87 : decode cX12_see 87 = .ok (.iastore, 1) := by decide +kernel
theorem dX12_see_88 : decode cX12_see 88 = .ok (.aload_n 0, 1) := by decide +kernel
theorem dX12_see_89 : decode cX12_see 89 = .ok (.dup, 1) := by decide +kernel
theorem dX12_see_90 : decode cX12_see 90 = .ok (.getfield 329, 3) := by decide +kernel
theorem dX12_see_93 : decode cX12_see 93 = .ok (.iconst 1, 1) := by decide +kernel
theorem dX12_see_94 : decode cX12_see 94 = .ok (.iadd, 1) := by decide +kernel
theorem dX12_see_95 : decode cX12_see 95 = .ok (.putfield 329, 3) := by decide +kernel
theorem dX12_see_98 : decode cX12_see 98 = .ok (.aload_n 0, 1) := by decide +kernel
theorem dX12_see_99 : decode cX12_see 99 = .ok (.getfield 329, 3) := by decide +kernel
theorem dX12_see_102 : decode cX12_see 102 = .ok (.ireturn, 1) := by decide +kernel
set_option maxRecDepth 20000 in
theorem ggX12_isAsSeen_X12_pack : GoodIn wsX12_isAsSeen wsX12_pack := goodIn_r _ [15, 16, 17, 18, 19, 8, 20, 21, 22, 23, 100, 101, 102, 103, 104, 105, 106, 107, 108, 109, 110, 111, 112, 113, 114, 115, 116, 117, 118, 119, 120, 121, 122, 123, 124, 125, 126, 127, 128, 129, 130, 131, 132, 133, 134, 135, 136, 137, 138, 139, 140, 141, 142, 143, 144, 145, 146, 147, 148, 149, 150, 151, 152, 153, 154, 155, 156, 157, 158, 159, 160, 161, 162, 163, 164] (by decide +kernel) (by decide +kernel)
set_option maxRecDepth 20000 in
theorem gX12_isAsSeen_X12_pack : GoodIn wsX12_isAsSeen (wsV RX12 420 RX12 yX12_pack wsX12_pack) := goodIn_app (goodIn_of _ (by decide +kernel)) ggX12_isAsSeen_X12_pack
set_option maxRecDepth 20000 in
theorem ggX12_isAsSeen_X12_goOn : GoodIn wsX12_isAsSeen wsX12_goOn := goodIn_r _ [27, 16, 28, 29, 30, 14, 31, 32, 33, 34, 35, 36, 37, 38, 39, 40, 41, 19, 4, 5, 6, 7, 17, 18, 42, 43, 44, 45, 23, 46, 47, 48, 49, 50, 51, 52, 53, 54, 55, 56, 57, 58, 59, 60, 61, 62, 63, 64, 65, 66, 67, 68, 69, 70, 21, 22, 71, 8, 20, 72, 73, 74, 75, 76, 77, 78, 79, 80, 81, 82, 83, 84, 85, 86, 87, 88, 89, 90, 91, 92, 93, 94, 95, 100, 101, 102, 103, 104, 105, 106, 107, 108, 109, 110, 111, 112, 113, 114, 115, 116, 117, 118, 119, 120, 121, 122, 123, 124, 125, 126, 127, 128, 129, 130, 131, 132, 133, 134, 135, 136, 137, 138, 139, 140, 141, 142, 143, 144, 145, 146, 147, 148, 149, 150, 151, 152, 153, 154, 155, 156, 157, 158, 159, 160, 161, 162, 163, 164] (by decide +kernel) (by decide +kernel)
set_option maxRecDepth 20000 in
theorem gX12_isAsSeen_X12_goOn : GoodIn wsX12_isAsSeen (wsV RX12 432 RX12 yX12_goOn wsX12_goOn) := goodIn_app (goodIn_of _ (by decide +kernel)) ggX12_isAsSeen_X12_goOn
set_option maxRecDepth 20000 in
theorem ggX12_isAsSeen_X12_unpack : GoodIn wsX12_isAsSeen wsX12_unpack := goodIn_r _ [99, 16, 17, 18, 19, 8, 20, 21, 22, 23, 100, 101, 102, 103, 104, 105, 106, 107, 108, 109, 110, 111, 112, 113, 114, 115, 116, 117, 118, 119, 120, 121, 122, 123, 124, 125, 126, 127, 128, 129, 130, 131, 132, 133, 134, 135, 136, 137, 138, 139, 140, 141, 142, 143, 144, 145, 146, 147, 148, 149, 150, 151, 152, 153, 154, 155, 156, 157, 158, 159, 160, 161, 162, 163, 164] (by decide +kernel) (by decide +kernel)
set_option maxRecDepth 20000 in
theorem gX12_isAsSeen_X12_unpack : GoodIn wsX12_isAsSeen (wsV RX12 446 RX12 yX12_unpack wsX12_unpack) := goodIn_app (goodIn_of _ (by decide +kernel)) ggX12_isAsSeen_X12_unpack
theorem dX12_isAsSeen_0 : decode cX12_isAsSeen 0 = .ok (.aload_n 0, 1) := by decide +kernel
theorem dX12_isAsSeen_1 : decode cX12_isAsSeen 1 = .ok (.aload_n 0, 1) := by decide +kernel
theorem dX12_isAsSeen_2 : decode cX12_isAsSeen 2 = .ok (.getfield 133, 3) := by decide +kernel
theorem dX12_isAsSeen_5 : decode cX12_isAsSeen 5 = .ok (.iconst 0, 1) := by decide +kernel
theorem dX12_isAsSeen_6 : decode cX12_isAsSeen 6 = .ok (.invokevirtual 420, 3) := by decide +kernel
theorem dX12_isAsSeen_9 : decode cX12_isAsSeen 9 = .ok (.iconst 0, 1) := by decide +kernel
theorem dX12_isAsSeen_10 : decode cX12_isAsSeen 10 = .ok (.istore_n 1, 1) := by decide +kernel
theorem dX12_isAsSeen_11 : decode cX12_isAsSeen 11 = .ok (.iconst 0, 1) := by decide +kernel
theorem dX12_isAsSeen_12 : decode cX12_isAsSeen 12 = .ok (.istore_n 2, 1) := by decide +kernel
theorem dX12_isAsSeen_13 : decode cX12_isAsSeen 13 = .ok (.iload_n 2, 1) := by decide +kernel
theorem dX12_isAsSeen_14 : decode cX12_isAsSeen 14 = .ok (.aload_n 0, 1) := by decide +kernel
theorem dX12_isAsSeen_15 : decode cX12_isAsSeen 15 = .ok (.getfield 329, 3) := by decide +kernel
theorem dX12_isAsSeen_18 : decode cX12_isAsSeen 18 = .ok (.if_icmp .ge 20, 3) := by decide +kernel
theorem dX12_isAsSeen_21 : decode cX12_isAsSeen 21 = .ok (.iload_n 1, 1) := by decide +kernel
theorem dX12_isAsSeen_22 : decode cX12_isAsSeen 22 = .ok (.aload_n 0, 1) := by decide +kernel
theorem dX12_isAsSeen_23 : decode cX12_isAsSeen 23 = .ok (.getfield 127, 3) := by decide +kernel
theorem dX12_isAsSeen_26 : decode cX12_isAsSeen 26 = .ok (.iload_n 2, 1) := by decide +kernel
theorem dX12_isAsSeen_27 : decode cX12_isAsSeen 27 = .ok (.iaload, 1) := by decide +kernel
theorem dX12_isAsSeen_28 : decode cX12_isAsSeen 28 = .ok (.invokestatic 349, 3) := by decide +kernel
theorem dX12_isAsSeen_31 : decode cX12_isAsSeen 31 = .ok (.istore_n 1, 1) := by decide +kernel
theorem dX12_isAsSeen_32 : decode cX12_isAsSeen 32 = .ok (.iinc 2 1, 3) := by decide +kernel
theorem dX12_isAsSeen_35 : decode cX12_isAsSeen 35 = .ok (.goto (-22), 3) := by decide +kernel
theorem dX12_isAsSeen_38 : decode cX12_isAsSeen 38 = .ok (.iconst 1, 1) := by decide +kernel
theorem dX12_isAsSeen_39 : decode cX12_isAsSeen 39 = .ok (.istore_n 2, 1) := by decide +kernel
theorem dX12_isAsSeen_40 : decode cX12_isAsSeen 40 = .ok (.iconst 0, 1) := by decide +kernel
theorem dX12_isAsSeen_41 : decode cX12_isAsSeen 41 = .ok (.istore_n 3, 1) := by decide +kernel
theorem dX12_isAsSeen_42 : decode cX12_isAsSeen 42 = .ok (.iload_n 3, 1) := by decide +kernel
theorem dX12_isAsSeen_43 : decode cX12_isAsSeen 43 = .ok (.iload_n 1, 1) := by decide +kernel
theorem dX12_isAsSeen_44 : decode cX12_isAsSeen 44 = .ok (.if_icmp .gt 79, 3) := by decide +kernel
theorem dX12_isAsSeen_47 : decode cX12_isAsSeen 47 = .ok (.iload_n 2, 1) := by decide +kernel
theorem dX12_isAsSeen_48 : decode cX12_isAsSeen 48 = .ok (.ifCond .eq 75, 3) := by decide +kernel
theorem dX12_isAsSeen_51 : decode cX12_isAsSeen 51 = .ok (.iconst 0, 1) := by decide +kernel
theorem dX12_isAsSeen_52 : decode cX12_isAsSeen 52 = .ok (.istore 4, 2) := by decide +kernel
theorem dX12_isAsSeen_54 : decode cX12_isAsSeen 54 = .ok (.iload 4, 2) := by decide +kernel
theorem dX12_isAsSeen_56 : decode cX12_isAsSeen 56 = .ok (.aload_n 0, 1) := by decide +kernel
theorem dX12_isAsSeen_57 : decode cX12_isAsSeen 57 = .ok (.getfield 329, 3) := by decide +kernel
theorem dX12_isAsSeen_60 : decode cX12_isAsSeen 60 = .ok (.if_icmp .ge 52, 3) := by decide +kernel
theorem dX12_isAsSeen_63 : decode cX12_isAsSeen 63 = .ok (.iload_n 2, 1) := by decide +kernel
theorem dX12_isAsSeen_64 : decode cX12_isAsSeen 64 = .ok (.ifCond .eq 40, 3) := by decide +kernel
theorem dX12_isAsSeen_67 : decode cX12_isAsSeen 67 = .ok (.aload_n 0, 1) := by decide +kernel
theorem dX12_isAsSeen_68 : decode cX12_isAsSeen 68 = .ok (.getfield 127, 3) := by decide +kernel
theorem dX12_isAsSeen_71 : decode cX12_isAsSeen 71 = .ok (.iload 4, 2) := by decide +kernel
theorem dX12_isAsSeen_73 : decode cX12_isAsSeen 73 = .ok (.iaload, 1) := by decide +kernel
theorem dX12_isAsSeen_74 : decode cX12_isAsSeen 74 = .ok (.iload_n 3, 1) := by decide +kernel
theorem dX12_isAsSeen_75 : decode cX12_isAsSeen 75 = .ok (.if_icmp .ne 25, 3) := by decide +kernel
theorem dX12_isAsSeen_78 : decode cX12_isAsSeen 78 = .ok (.aload_n 0, 1) := by decide +kernel
theorem dX12_isAsSeen_79 : decode cX12_isAsSeen 79 = .ok (.getfield 96, 3) := by decide +kernel
theorem dX12_isAsSeen_82 : decode cX12_isAsSeen 82 = .ok (.aload_n 0, 1) := by decide +kernel
theorem dX12_isAsSeen_83 : decode cX12_isAsSeen 83 = .ok (.getfield 124, 3) := by decide +kernel
theorem dX12_isAsSeen_86 : decode cX12_isAsSeen 86 = .ok (.iload 4, 2) := by decide +kernel
theorem dX12_isAsSeen_88 : decode cX12_isAsSeen 88 = .ok (.iaload, 1) := by decide +kernel
theorem dX12_isAsSeen_89 : decode cX12_isAsSeen 89 = .ok (.iaload, 1) := by decide +kernel
theorem dX12_isAsSeen_90 : decode cX12_isAsSeen 90 = .ok (.aload_n 0, 1) := by decide +kernel
theorem dX12_isAsSeen_91 : decode cX12_isAsSeen 91 = .ok (.getfield 130, 3) := by decide +kernel
theorem dX12_isAsSeen_94 : decode cX12_isAsSeen 94 = .ok (.iload 4, 2) := by decide +kernel
theorem dX12_isAsSeen_96 : decode cX12_isAsSeen 96 = .ok (.iaload, 1) := by decide +kernel
theorem dX12_isAsSeen_97 : decode cX12_isAsSeen 97 = .ok (.if_icmp .ne 7, 3) := by decide +kernel
theorem dX12_isAsSeen_100 : decode cX12_isAsSeen 100 = .ok (.iconst 1, 1) := by decide +kernel
theorem dX12_isAsSeen_101 : decode cX12_isAsSeen 101 = .ok (.goto 4, 3) := by decide +kernel
theorem dX12_isAsSeen_104 : decode cX12_isAsSeen 104 = .ok (.iconst 0, 1) := by decide +kernel
theorem dX12_isAsSeen_105 : decode cX12_isAsSeen 105 = .ok (.istore_n 2, 1) := by decide +kernel
theorem dX12_isAsSeen_106 : decode cX12_isAsSeen 106 = .ok (.iinc 4 1, 3) := by decide +kernel
theorem dX12_isAsSeen_109 : decode cX12_isAsSeen 109 = .ok (.goto (-55), 3) := by decide +kernel
theorem dX12_isAsSeen_112 : decode cX12_isAsSeen 112 = .ok (.aload_n 0, 1) := by decide +kernel
theorem dX12_isAsSeen_113 : decode cX12_isAsSeen 113 = .ok (.iconst 1, 1) := by decide +kernel
theorem dX12_isAsSeen_114 : decode cX12_isAsSeen 114 = .ok (.invokevirtual 432, 3) := by decide +kernel
theorem dX12_isAsSeen_117 : decode cX12_isAsSeen 117 = .ok (.iinc 3 1, 3) := by decide +kernel
theorem dX12_isAsSeen_120 : decode cX12_isAsSeen 120 = .ok (.goto (-78), 3) := by decide +kernel
theorem dX12_isAsSeen_123 : decode cX12_isAsSeen 123 = .ok (.aload_n 0, 1) := by decide +kernel
theorem dX12_isAsSeen_124 : decode cX12_isAsSeen 124 = .ok (.aload_n 0, 1) := by decide +kernel
theorem dX12_isAsSeen_125 : decode cX12_isAsSeen 125 = .ok (.getfield 133, 3) := by decide +kernel
theorem dX12_isAsSeen_128 : decode cX12_isAsSeen 128 = .ok (.iconst 0, 1) := by decide +kernel
theorem dX12_isAsSeen_129 : decode cX12_isAsSeen 129 = .ok (.invokevirtual 446, 3) := by decide +kernel
theorem dX12_isAsSeen_132 : decode cX12_isAsSeen 132 = .ok (.iload_n 2, 1) := by decide +kernel
theorem dX12_isAsSeen_133 : decode cX12_isAsSeen 133 = .ok (.ireturn, 1) := by decide +kernel
set_option maxRecDepth 20000 in
theorem ggX12_tellFits_X12_isAsSeen : GoodIn wsX12_tellFits wsX12_isAsSeen := goodIn_r _ [9, 10, 11, 12, 13, 14, 15, 16, 17, 18, 19, 20, 21, 22, 8, 23, 24, 25, 26, 27, 28, 3, 29, 30, 31, 32, 33, 34, 35, 36, 37, 38, 2, 39, 40, 41, 42, 43, 44, 45, 46, 47, 48, 49, 50, 51, 52, 53, 54, 55, 56, 57, 58, 59, 60, 61, 62, 63, 64, 65, 66, 67, 68, 69, 70, 71, 72, 73, 74, 75, 76, 77, 78, 79, 80, 81, 82, 83, 84, 85, 86, 87, 88, 89, 90, 91, 92, 93, 94, 95, 96, 97, 98, 99, 100, 101, 102, 103, 104, 105, 106, 107, 108, 109, 110, 111, 112, 113, 114, 115, 116, 117, 118, 119, 120, 121, 122, 123, 124, 125, 126, 127, 128, 129, 130, 131, 132, 133, 134, 135, 136, 137, 138, 139, 140, 141, 142, 143, 144, 145, 146, 147, 148, 149, 150, 151, 152, 153, 154, 155, 156, 157, 158, 159, 160, 161, 162, 163, 164, 165, 166, 167, 168, 169, 170] (by decide +kernel) (by decide +kernel)
set_option maxRecDepth 20000 in
theorem gX12_tellFits_X12_isAsSeen : GoodIn wsX12_tellFits (wsV RX12 479 RX12 yX12_isAsSeen wsX12_isAsSeen) := goodIn_app (goodIn_of _ (by decide +kernel)) ggX12_tellFits_X12_isAsSeen
theorem dX12_tellFits_0 : decode cX12_tellFits 0 = .ok (.aload_n 0, 1) := by decide +kernel
theorem dX12_tellFits_1 : decode cX12_tellFits 1 = .ok (.iconst 0, 1) := by decide +kernel
theorem dX12_tellFits_2 : decode cX12_tellFits 2 = .ok (.putfield 476, 3) := by decide +kernel
theorem dX12_tellFits_5 : decode cX12_tellFits 5 = .ok (.iconst 0, 1) := by decide +kernel
theorem dX12_tellFits_6 : decode cX12_tellFits 6 = .ok (.istore_n 1, 1) := by decide +kernel
theorem dX12_tellFits_7 : decode cX12_tellFits 7 = .ok (.iload_n 1, 1) := by decide +kernel
theorem dX12_tellFits_8 : decode cX12_tellFits 8 = .ok (.aload_n 0, 1) := by decide +kernel
theorem dX12_tellFits_9 : decode cX12_tellFits 9 = .ok (.getfield 42, 3) := by decide +kernel
theorem dX12_tellFits_12 : decode cX12_tellFits 12 = .ok (.iconst 1, 1) := by decide +kernel
theorem dX12_tellFits_13 : decode cX12_tellFits 13 = .ok (.iaload, 1) := by decide +kernel
theorem dX12_tellFits_14 : decode cX12_tellFits 14 = .ok (.if_icmp .ge 84, 3) := by decide +kernel
theorem dX12_tellFits_17 : decode cX12_tellFits 17 = .ok (.aload_n 0, 1) := by decide +kernel
theorem dX12_tellFits_18 : decode cX12_tellFits 18 = .ok (.getfield 102, 3) := by decide +kernel
theorem dX12_tellFits_21 : decode cX12_tellFits 21 = .ok (.iload_n 1, 1) := by decide +kernel
theorem dX12_tellFits_22 : decode cX12_tellFits 22 = .ok (.iaload, 1) := by decide +kernel
theorem dX12_tellFits_23 : decode cX12_tellFits 23 = .ok (.istore_n 2, 1) := by decide +kernel
theorem dX12_tellFits_24 : decode cX12_tellFits 24 = .ok (.iconst 0, 1) := by decide +kernel
theorem dX12_tellFits_25 : decode cX12_tellFits 25 = .ok (.istore_n 3, 1) := by decide +kernel
theorem dX12_tellFits_26 : decode cX12_tellFits 26 = .ok (.iload_n 3, 1) := by decide +kernel
theorem dX12_tellFits_27 : decode cX12_tellFits 27 = .ok (.bipush 99, 2) := by decide +kernel
theorem dX12_tellFits_29 : decode cX12_tellFits 29 = .ok (.if_icmp .gt 56, 3) := by decide +kernel
theorem dX12_tellFits_32 : decode cX12_tellFits 32 = .ok (.aload_n 0, 1) := by decide +kernel
theorem dX12_tellFits_33 : decode cX12_tellFits 33 = .ok (.getfield 102, 3) := by decide +kernel
theorem dX12_tellFits_36 : decode cX12_tellFits 36 = .ok (.iload_n 1, 1) := by decide +kernel
theorem dX12_tellFits_37 : decode cX12_tellFits 37 = .ok (.iload_n 3, 1) := by decide +kernel
theorem dX12_tellFits_38 : decode cX12_tellFits 38 = .ok (.iastore, 1) := by decide +kernel
theorem dX12_tellFits_39 : decode cX12_tellFits 39 = .ok (.iload_n 3, 1) := by decide +kernel
theorem dX12_tellFits_40 : decode cX12_tellFits 40 = .ok (.iload_n 2, 1) := by decide +kernel
theorem dX12_tellFits_41 : decode cX12_tellFits 41 = .ok (.if_icmp .eq 38, 3) := by decide +kernel
theorem dX12_tellFits_44 : decode cX12_tellFits 44 = .ok (.aload_n 0, 1) := by decide +kernel
theorem dX12_tellFits_45 : decode cX12_tellFits 45 = .ok (.invokevirtual 479, 3) := by decide +kernel
theorem dX12_tellFits_48 : decode cX12_tellFits 48 = .ok (.ifCond .ne 6, 3) := by decide +kernel
theorem dX12_tellFits_51 : decode cX12_tellFits 51 = .ok (.goto 28, 3) := by decide +kernel
theorem dX12_tellFits_54 : decode cX12_tellFits 54 = .ok (.aload_n 0, 1) := by decide +kernel
theorem dX12_tellFits_55 : decode cX12_tellFits 55 = .ok (.getfield 136, 3) := by decide +kernel
theorem dX12_tellFits_58 : decode cX12_tellFits 58 = .ok (.aload_n 0, 1) := by decide +kernel
theorem dX12_tellFits_59 : decode cX12_tellFits 59 = .ok (.getfield 476, 3) := by decide +kernel
theorem dX12_tellFits_62 : decode cX12_tellFits 62 = .ok (.bipush 100, 2) := by decide +kernel
theorem dX12_tellFits_64 : decode cX12_tellFits 64 = .ok (.iload_n 1, 1) := by decide +kernel
theorem dX12_tellFits_65 : decode cX12_tellFits 65 = .ok (.imul, 1) := by decide +kernel
theorem dX12_tellFits_66 : decode cX12_tellFits 66 = .ok (.iload_n 3, 1) := by decide +kernel
theorem dX12_tellFits_67 : decode cX12_tellFits 67 = .ok (.iadd, 1) := by decide +kernel
theorem dX12_tellFits_68 : decode cX12_tellFits 68 = .ok (.iastore, 1) := by decide +kernel
theorem dX12_tellFits_69 : decode cX12_tellFits 69 = .ok (.aload_n 0, 1) := by decide +kernel
theorem dX12_tellFits_70 : decode cX12_tellFits 70 = .ok (.dup, 1) := by decide +kernel
theorem dX12_tellFits_71 : decode cX12_tellFits 71 = .ok (.getfield 476, 3) := by decide +kernel
theorem dX12_tellFits_74 : decode cX12_tellFits 74 = .ok (.iconst 1, 1) := by decide +kernel
theorem dX12_tellFits_75 : decode cX12_tellFits 75 = .ok (.iadd, 1) := by decide +kernel
theorem dX12_tellFits_76 : decode cX12_tellFits 76 = .ok (.putfield 476, 3) := by decide +kernel
theorem dX12_tellFits_79 : decode cX12_tellFits 79 = .ok (.iinc 3 1, 3) := by decide +kernel
theorem dX12_tellFits_82 : decode cX12_tellFits 82 = .ok (.goto (-56), 3) := by decide +kernel
theorem dX12_tellFits_85 : decode cX12_tellFits 85 = .ok (.aload_n 0, 1) := by decide +kernel
theorem dX12_tellFits_86 : decode cX12_tellFits 86 = .ok (.getfield 102, 3) := by decide +kernel
theorem dX12_tellFits_89 : decode cX12_tellFits 89 = .ok (.iload_n 1, 1) := by decide +kernel
theorem dX12_tellFits_90 : decode cX12_tellFits 90 = .ok (.iload_n 2, 1) := by decide +kernel
theorem dX12_tellFits_91 : decode cX12_tellFits 91 = .ok (.iastore, 1) := by decide +kernel
theorem dX12_tellFits_92 : decode cX12_tellFits 92 = .ok (.iinc 1 1, 3) := by decide +kernel
theorem dX12_tellFits_95 : decode cX12_tellFits 95 = .ok (.goto (-88), 3) := by decide +kernel
theorem dX12_tellFits_98 : decode cX12_tellFits 98 = .ok (.return_, 1) := by decide +kernel
set_option maxRecDepth 20000 in
theorem ggX12_old_X12_isIn : GoodIn wsX12_old wsX12_isIn := goodIn_r _ [8] (by decide +kernel) (by decide +kernel)
set_option maxRecDepth 20000 in
theorem gX12_old_X12_isIn : GoodIn wsX12_old (va_wsS RX12 166 yX12_isIn wsX12_isIn) := goodIn_app (goodIn_of _ (by decide +kernel)) ggX12_old_X12_isIn
set_option maxRecDepth 20000 in
theorem ggX12_old_X12_fail : GoodIn wsX12_old wsX12_fail := goodIn_r _ [12, 1, 119, 120, 121, 122, 123, 124, 125, 126, 127, 128, 129, 130, 131, 132, 133, 134, 135, 136, 137, 138, 139, 140, 141, 142, 143, 144, 145, 146, 147, 148, 149, 150, 151, 152, 153, 154, 155, 156, 157, 158, 159, 160, 161, 162, 163, 164, 165, 166, 167, 168, 169, 170, 171, 172, 173, 174, 175, 176, 177, 178, 179, 180, 181, 182, 183] (by decide +kernel) (by decide +kernel)
set_option maxRecDepth 20000 in
theorem gX12_old_X12_fail : GoodIn wsX12_old (wsV RX12 310 RX12 yX12_fail wsX12_fail) := goodIn_app (goodIn_of _ (by decide +kernel)) ggX12_old_X12_fail
set_option maxRecDepth 20000 in
theorem ggX12_old_X12_isAsSeen : GoodIn wsX12_old wsX12_isAsSeen := goodIn_r _ [16, 17, 18, 19, 20, 21, 22, 23, 24, 25, 26, 27, 28, 29, 7, 30, 31, 32, 33, 34, 35, 36, 37, 38, 39, 40, 41, 42, 43, 44, 45, 46, 47, 48, 49, 50, 51, 52, 53, 54, 55, 56, 57, 58, 59, 60, 61, 62, 63, 64, 65, 66, 67, 68, 69, 70, 71, 72, 73, 74, 75, 76, 77, 78, 79, 80, 81, 82, 83, 84, 85, 86, 87, 88, 89, 90, 91, 92, 93, 94, 95, 96, 97, 98, 99, 100, 101, 102, 103, 104, 105, 106, 107, 108, 109, 110, 111, 112, 113, 114, 119, 120, 121, 122, 123, 124, 125, 126, 127, 128, 129, 130, 131, 132, 133, 134, 135, 136, 137, 138, 139, 140, 141, 142, 143, 144, 145, 146, 147, 148, 149, 150, 151, 152, 153, 154, 155, 156, 157, 158, 159, 160, 161, 162, 163, 164, 165, 166, 167, 168, 169, 170, 171, 172, 173, 174, 175, 176, 177, 178, 179, 180, 181, 182, 183] (by decide +kernel) (by decide +kernel)
set_option maxRecDepth 20000 in
theorem gX12_old_X12_isAsSeen : GoodIn wsX12_old (wsV RX12 479 RX12 yX12_isAsSeen wsX12_isAsSeen) := goodIn_app (goodIn_of _ (by decide +kernel)) ggX12_old_X12_isAsSeen
set_option maxRecDepth 20000 in
theorem ggX12_old_X12_tellFits : GoodIn wsX12_old wsX12_tellFits := goodIn_r _ [118, 3, 47, 36, 4, 13, 14, 15, 7, 16, 17, 18, 19, 20, 21, 22, 23, 24, 25, 26, 27, 28, 29, 30, 31, 32, 33, 34, 35, 37, 38, 39, 40, 41, 42, 43, 44, 45, 46, 48, 49, 50, 51, 52, 53, 54, 55, 56, 57, 58, 59, 60, 61, 62, 63, 64, 65, 66, 67, 68, 69, 70, 71, 72, 73, 74, 75, 76, 77, 78, 79, 80, 81, 82, 83, 84, 85, 86, 87, 88, 89, 90, 91, 92, 93, 94, 95, 96, 97, 98, 99, 100, 101, 102, 103, 104, 105, 106, 107, 108, 109, 110, 111, 112, 113, 114, 119, 120, 121, 122, 123, 124, 125, 126, 127, 128, 129, 130, 131, 132, 133, 134, 135, 136, 137, 138, 139, 140, 141, 142, 143, 144, 145, 146, 147, 148, 149, 150, 151, 152, 153, 154, 155, 156, 157, 158, 159, 160, 161, 162, 163, 164, 165, 166, 167, 168, 169, 170, 171, 172, 173, 174, 175, 176, 177, 178, 179, 180, 181, 182, 183] (by decide +kernel) (by decide +kernel)
set_option maxRecDepth 20000 in
theorem gX12_old_X12_tellFits : GoodIn wsX12_old (wsV RX12 483 RX12 yX12_tellFits wsX12_tellFits) := goodIn_app (goodIn_of _ (by decide +kernel)) ggX12_old_X12_tellFits
theorem dX12_old_0 : decode cX12_old 0 = .ok (.aload_n 0, 1) := by decide +kernel
theorem dX12_old_1 : decode cX12_old 1 = .ok (.iconst 0, 1) := by decide +kernel
theorem dX12_old_2 : decode cX12_old 2 = .ok (.putfield 163, 3) := by decide +kernel
theorem dX12_old_5 : decode cX12_old 5 = .ok (.iload_n 1, 1) := by decide +kernel
theorem dX12_old_6 : decode cX12_old 6 = .ok (.i2l, 1) := by decide +kernel
theorem dX12_old_7 : decode cX12_old 7 = .ok (.lconst 0, 1) := by decide +kernel
theorem dX12_old_8 : decode cX12_old 8 = .ok (.ldc2_w 458, 3) := by decide +kernel
theorem dX12_old_11 : decode cX12_old 11 = .ok (.invokestatic 166, 3) := by decide +kernel
theorem dX12_old_14 : decode cX12_old 14 = .ok (.ifCond .ne 9, 3) := by decide +kernel
theorem dX12_old_17 : decode cX12_old 17 = .ok (.aload_n 0, 1) := by decide +kernel
theorem dX12_old_18 : decode cX12_old 18 = .ok (.iconst 1, 1) := by decide +kernel
theorem dX12_old_19 : decode cX12_old 19 = .ok (.invokevirtual 310, 3) := by decide +kernel
theorem dX12_old_22 : decode cX12_old 22 = .ok (.ireturn, 1) := by decide +kernel
theorem dX12_old_23 : decode cX12_old 23 = .ok (.iload_n 1, 1) := by decide +kernel
theorem dX12_old_24 : decode cX12_old 24 = .ok (.iconst 2, 1) := by decide +kernel
theorem dX12_old_25 : decode cX12_old 25 = .ok (.if_icmp .ne 16, 3) := by decide +kernel
theorem dX12_old_28 : decode cX12_old 28 = .ok (.aload_n 0, 1) := by decide +kernel
theorem dX12_old_29 : decode cX12_old 29 = .ok (.invokevirtual 479, 3) := by decide +kernel
theorem dX12_old_32 : decode cX12_old 32 = .ok (.ifCond .eq 7, 3) := by decide +kernel
theorem dX12_old_35 : decode cX12_old 35 = .ok (.iconst 1, 1) := by decide +kernel
theorem dX12_old_36 : decode cX12_old 36 = .ok (.goto 4, 3) := by decide +kernel
theorem dX12_old_39 : decode cX12_old 39 = .ok (.iconst 0, 1) := by decide +kernel
theorem dX12_old_40 : decode cX12_old 40 = .ok (.ireturn, 1) := by decide +kernel
theorem dX12_old_41 : decode cX12_old 41 = .ok (.aload_n 0, 1) := by decide +kernel
theorem dX12_old_42 : decode cX12_old 42 = .ok (.invokevirtual 483, 3) := by decide +kernel
theorem dX12_old_45 : decode cX12_old 45 = .ok (.iload_n 1, 1) := by decide +kernel
theorem dX12_old_46 : decode cX12_old 46 = .ok (.ifCond .ne 10, 3) := by decide +kernel
theorem dX12_old_49 : decode cX12_old 49 = .ok (.aload_n 0, 1) := by decide +kernel
theorem dX12_old_50 : decode cX12_old 50 = .ok (.getfield 476, 3) := by decide +kernel
theorem dX12_old_53 : decode cX12_old 53 = .ok (.goto 20, 3) := by decide +kernel
theorem dX12_old_56 : decode cX12_old 56 = .ok (.aload_n 0, 1) := by decide +kernel
theorem dX12_old_57 : decode cX12_old 57 = .ok (.getfield 476, 3) := by decide +kernel
theorem dX12_old_60 : decode cX12_old 60 = .ok (.ifCond .ne 7, 3) := by decide +kernel
theorem dX12_old_63 : decode cX12_old 63 = .ok (.iconst (-1), 1) := by decide +kernel
theorem dX12_old_64 : decode cX12_old 64 = .ok (.goto 9, 3) := by decide +kernel
theorem dX12_old_67 : decode cX12_old 67 = .ok (.aload_n 0, 1) := by decide +kernel
theorem dX12_old_68 : decode cX12_old 68 = .ok (.getfield 136, 3) := by decide +kernel
theorem dX12_old_71 : decode cX12_old 71 = .ok (.iconst 0, 1) := by decide +kernel
theorem dX12_old_72 : decode cX12_old 72 = .ok (.iaload, 1) := by decide +kernel
theorem dX12_old_73 : decode cX12_old 73 = .ok (.ireturn, 1) := by decide +kernel
set_option maxRecDepth 20000 in
theorem ggX12_look_X12_isIn : GoodIn wsX12_look wsX12_isIn := goodIn_r _ [12] (by decide +kernel) (by decide +kernel)
set_option maxRecDepth 20000 in
theorem gX12_look_X12_isIn : GoodIn wsX12_look (va_wsS RX12 166 yX12_isIn wsX12_isIn) := goodIn_app (goodIn_of _ (by decide +kernel)) ggX12_look_X12_isIn
set_option maxRecDepth 20000 in
theorem ggX12_look_X12_fail : GoodIn wsX12_look wsX12_fail := goodIn_r _ [16, 1, 123, 124, 125, 126, 127, 128, 129, 130, 131, 132, 133, 134, 135, 136, 137, 138, 139, 140, 141, 142, 143, 144, 145, 146, 147, 148, 149, 150, 151, 152, 153, 154, 155, 156, 157, 158, 159, 160, 161, 162, 163, 164, 165, 166, 167, 168, 169, 170, 171, 172, 173, 174, 175, 176, 177, 178, 179, 180, 181, 182, 183, 184, 185, 186, 187] (by decide +kernel) (by decide +kernel)
set_option maxRecDepth 20000 in
theorem gX12_look_X12_fail : GoodIn wsX12_look (wsV RX12 310 RX12 yX12_fail wsX12_fail) := goodIn_app (goodIn_of _ (by decide +kernel)) ggX12_look_X12_fail
set_option maxRecDepth 20000 in
theorem ggX12_look_X12_tellFits : GoodIn wsX12_look wsX12_tellFits := goodIn_r _ [20, 4, 7, 5, 6, 21, 22, 23, 11, 24, 25, 26, 27, 28, 29, 30, 31, 32, 33, 34, 35, 36, 37, 38, 39, 40, 41, 42, 43, 44, 8, 45, 46, 47, 48, 49, 50, 51, 52, 53, 54, 55, 56, 57, 58, 59, 60, 61, 62, 63, 64, 65, 66, 67, 68, 69, 70, 71, 72, 73, 74, 75, 76, 77, 78, 79, 80, 81, 82, 83, 84, 85, 86, 87, 88, 89, 90, 91, 92, 93, 94, 95, 96, 97, 98, 99, 100, 101, 102, 103, 104, 105, 106, 107, 108, 109, 110, 111, 112, 113, 114, 115, 116, 117, 118, 119, 123, 124, 125, 126, 127, 128, 129, 130, 131, 132, 133, 134, 135, 136, 137, 138, 139, 140, 141, 142, 143, 144, 145, 146, 147, 148, 149, 150, 151, 152, 153, 154, 155, 156, 157, 158, 159, 160, 161, 162, 163, 164, 165, 166, 167, 168, 169, 170, 171, 172, 173, 174, 175, 176, 177, 178, 179, 180, 181, 182, 183, 184, 185, 186, 187] (by decide +kernel) (by decide +kernel)
set_option maxRecDepth 20000 in
theorem gX12_look_X12_tellFits : GoodIn wsX12_look (wsV RX12 483 RX12 yX12_tellFits wsX12_tellFits) := goodIn_app (goodIn_of _ (by decide +kernel)) ggX12_look_X12_tellFits
set_option maxRecDepth 20000 in
theorem ggX12_look_X12_pack : GoodIn wsX12_look wsX12_pack := goodIn_r _ [38, 39, 40, 41, 42, 32, 43, 5, 44, 8, 123, 124, 125, 126, 127, 128, 129, 130, 131, 132, 133, 134, 135, 136, 137, 138, 139, 140, 141, 142, 143, 144, 145, 146, 147, 148, 149, 150, 151, 152, 153, 154, 155, 156, 157, 158, 159, 160, 161, 162, 163, 164, 165, 166, 167, 168, 169, 170, 171, 172, 173, 174, 175, 176, 177, 178, 179, 180, 181, 182, 183, 184, 185, 186, 187] (by decide +kernel) (by decide +kernel)
set_option maxRecDepth 20000 in
theorem gX12_look_X12_pack : GoodIn wsX12_look (wsV RX12 420 RX12 yX12_pack wsX12_pack) := goodIn_app (goodIn_of _ (by decide +kernel)) ggX12_look_X12_pack
set_option maxRecDepth 20000 in
theorem ggX12_look_X12_goOn : GoodIn wsX12_look wsX12_goOn := goodIn_r _ [48, 39, 49, 50, 51, 11, 52, 7, 53, 54, 55, 56, 57, 58, 59, 60, 61, 42, 28, 29, 30, 31, 40, 41, 62, 63, 64, 65, 8, 66, 67, 68, 69, 70, 71, 72, 73, 74, 75, 76, 77, 78, 79, 80, 81, 82, 83, 84, 85, 86, 87, 88, 89, 90, 5, 44, 91, 32, 43, 92, 93, 94, 95, 96, 97, 98, 99, 100, 101, 102, 103, 104, 105, 106, 107, 108, 109, 110, 111, 112, 113, 114, 115, 123, 124, 125, 126, 127, 128, 129, 130, 131, 132, 133, 134, 135, 136, 137, 138, 139, 140, 141, 142, 143, 144, 145, 146, 147, 148, 149, 150, 151, 152, 153, 154, 155, 156, 157, 158, 159, 160, 161, 162, 163, 164, 165, 166, 167, 168, 169, 170, 171, 172, 173, 174, 175, 176, 177, 178, 179, 180, 181, 182, 183, 184, 185, 186, 187] (by decide +kernel) (by decide +kernel)
set_option maxRecDepth 20000 in
theorem gX12_look_X12_goOn : GoodIn wsX12_look (wsV RX12 432 RX12 yX12_goOn wsX12_goOn) := goodIn_app (goodIn_of _ (by decide +kernel)) ggX12_look_X12_goOn
set_option maxRecDepth 20000 in
theorem ggX12_look_X12_unpack : GoodIn wsX12_look wsX12_unpack := goodIn_r _ [119, 39, 40, 41, 42, 32, 43, 5, 44, 8, 123, 124, 125, 126, 127, 128, 129, 130, 131, 132, 133, 134, 135, 136, 137, 138, 139, 140, 141, 142, 143, 144, 145, 146, 147, 148, 149, 150, 151, 152, 153, 154, 155, 156, 157, 158, 159, 160, 161, 162, 163, 164, 165, 166, 167, 168, 169, 170, 171, 172, 173, 174, 175, 176, 177, 178, 179, 180, 181, 182, 183, 184, 185, 186, 187] (by decide +kernel) (by decide +kernel)
set_option maxRecDepth 20000 in
theorem gX12_look_X12_unpack : GoodIn wsX12_look (wsV RX12 446 RX12 yX12_unpack wsX12_unpack) := goodIn_app (goodIn_of _ (by decide +kernel)) ggX12_look_X12_unpack
set_option maxRecDepth 20000 in
theorem ggX12_look_X12_bitsOf : GoodIn wsX12_look wsX12_bitsOf := goodIn_r _ [122] (by decide +kernel) (by decide +kernel)
set_option maxRecDepth 20000 in
theorem gX12_look_X12_bitsOf : GoodIn wsX12_look (va_wsS RX12 486 yX12_bitsOf wsX12_bitsOf) := goodIn_app (goodIn_of _ (by decide +kernel)) ggX12_look_X12_bitsOf
theorem dX12_look_0 : decode cX12_look 0 = .ok (.aload_n 0, 1) := by decide +kernel
theorem dX12_look_1 : decode cX12_look 1 = .ok (.iconst 0, 1) := by decide +kernel
theorem dX12_look_2 : decode cX12_look 2 = .ok (.putfield 163, 3) := by decide +kernel
theorem dX12_look_5 : decode cX12_look 5 = .ok (.iload_n 1, 1) := by decide +kernel
theorem dX12_look_6 : decode cX12_look 6 = .ok (.i2l, 1) := by decide +kernel
theorem dX12_look_7 : decode cX12_look 7 = .ok (.lconst 0, 1) := by decide +kernel
theorem dX12_look_8 : decode cX12_look 8 = .ok (.lconst 1, 1) := by decide +kernel
theorem dX12_look_9 : decode cX12_look 9 = .ok (.invokestatic 166, 3) := by decide +kernel
theorem dX12_look_12 : decode cX12_look 12 = .ok (.ifCond .ne 9, 3) := by decide +kernel
theorem dX12_look_15 : decode cX12_look 15 = .ok (.aload_n 0, 1) := by decide +kernel
theorem dX12_look_16 : decode cX12_look 16 = .ok (.iconst 1, 1) := by decide +kernel
theorem dX12_look_17 : decode cX12_look 17 = .ok (.invokevirtual 310, 3) := by decide +kernel
theorem dX12_look_20 : decode cX12_look 20 = .ok (.ireturn, 1) := by decide +kernel
theorem dX12_look_21 : decode cX12_look 21 = .ok (.aload_n 0, 1) := by decide +kernel
theorem dX12_look_22 : decode cX12_look 22 = .ok (.invokevirtual 483, 3) := by decide +kernel
theorem dX12_look_25 : decode cX12_look 25 = .ok (.aload_n 0, 1) := by decide +kernel
theorem dX12_look_26 : decode cX12_look 26 = .ok (.aload_n 0, 1) := by decide +kernel
theorem dX12_look_27 : decode cX12_look 27 = .ok (.getfield 118, 3) := by decide +kernel
theorem dX12_look_30 : decode cX12_look 30 = .ok (.iconst 0, 1) := by decide +kernel
theorem dX12_look_31 : decode cX12_look 31 = .ok (.invokevirtual 420, 3) := by decide +kernel
theorem dX12_look_34 : decode cX12_look 34 = .ok (.iconst 0, 1) := by decide +kernel
theorem dX12_look_35 : decode cX12_look 35 = .ok (.istore_n 2, 1) := by decide +kernel
theorem dX12_look_36 : decode cX12_look 36 = .ok (.iload_n 2, 1) := by decide +kernel
theorem dX12_look_37 : decode cX12_look 37 = .ok (.bipush 8, 2) := by decide +kernel
theorem dX12_look_39 : decode cX12_look 39 = .ok (.if_icmp .ge 16, 3) := by decide +kernel
theorem dX12_look_42 : decode cX12_look 42 = .ok (.aload_n 0, 1) := by decide +kernel
theorem dX12_look_43 : decode cX12_look 43 = .ok (.getfield 139, 3) := by decide +kernel
theorem dX12_look_46 : decode cX12_look 46 = .ok (.iload_n 2, 1) := by decide +kernel
theorem dX12_look_47 : decode cX12_look 47 = .ok (.iconst 0, 1) := by decide +kernel
theorem dX12_look_48 : decode cX12_look 48 = .ok (.iastore, 1) := by decide +kernel
theorem dX12_look_49 : decode cX12_look 49 = .ok (.iinc 2 1, 3) := by decide +kernel
theorem dX12_look_52 : decode cX12_look 52 = .ok (.goto (-16), 3) := by decide +kernel
theorem dX12_look_55 : decode cX12_look 55 = .ok (.iconst 0, 1) := by decide +kernel
theorem dX12_look_56 : decode cX12_look 56 = .ok (.istore_n 2, 1) := by decide +kernel
theorem dX12_look_57 : decode cX12_look 57 = .ok (.iload_n 2, 1) := by decide +kernel
theorem dX12_look_58 : decode cX12_look 58 = .ok (.aload_n 0, 1) := by decide +kernel
theorem dX12_look_59 : decode cX12_look 59 = .ok (.getfield 476, 3) := by decide +kernel
theorem dX12_look_62 : decode cX12_look 62 = .ok (.if_icmp .ge 84, 3) := by decide +kernel
theorem dX12_look_65 : decode cX12_look 65 = .ok (.aload_n 0, 1) := by decide +kernel
theorem dX12_look_66 : decode cX12_look 66 = .ok (.getfield 102, 3) := by decide +kernel
theorem dX12_look_69 : decode cX12_look 69 = .ok (.aload_n 0, 1) := by decide +kernel
theorem dX12_look_70 : decode cX12_look 70 = .ok (.getfield 136, 3) := by decide +kernel
theorem dX12_look_73 : decode cX12_look 73 = .ok (.iload_n 2, 1) := by decide +kernel
theorem dX12_look_74 : decode cX12_look 74 = .ok (.iaload, 1) := by decide +kernel
theorem dX12_look_75 : decode cX12_look 75 = .ok (.bipush 100, 2) := by decide +kernel
theorem dX12_look_77 : decode cX12_look 77 = .ok (.idiv, 1) := by decide +kernel
theorem dX12_look_78 : decode cX12_look 78 = .ok (.aload_n 0, 1) := by decide +kernel
theorem dX12_look_79 : decode cX12_look 79 = .ok (.getfield 136, 3) := by decide +kernel
theorem dX12_look_82 : decode cX12_look 82 = .ok (.iload_n 2, 1) := by decide +kernel
theorem dX12_look_83 : decode cX12_look 83 = .ok (.iaload, 1) := by decide +kernel
theorem dX12_look_84 : decode cX12_look 84 = .ok (.bipush 100, 2) := by decide +kernel
theorem dX12_look_86 : decode cX12_look 86 = .ok (.irem, 1) := by decide +kernel
theorem dX12_look_87 : decode cX12_look 87 = .ok (.iastore, 1) := by decide +kernel
theorem dX12_look_88 : decode cX12_look 88 = .ok (.aload_n 0, 1) := by decide +kernel
theorem dX12_look_89 : decode cX12_look 89 = .ok (.bipush 6, 2) := by decide +kernel
theorem dX12_look_91 : decode cX12_look 91 = .ok (.invokevirtual 432, 3) := by decide +kernel
theorem dX12_look_94 : decode cX12_look 94 = .ok (.iconst 0, 1) := by decide +kernel
theorem dX12_look_95 : decode cX12_look 95 = .ok (.istore_n 3, 1) := by decide +kernel
theorem dX12_look_96 : decode cX12_look 96 = .ok (.iload_n 3, 1) := by decide +kernel
theorem dX12_look_97 : decode cX12_look 97 = .ok (.aload_n 0, 1) := by decide +kernel
theorem dX12_look_98 : decode cX12_look 98 = .ok (.getfield 42, 3) := by decide +kernel
theorem dX12_look_101 : decode cX12_look 101 = .ok (.iconst 1, 1) := by decide +kernel
theorem dX12_look_102 : decode cX12_look 102 = .ok (.iaload, 1) := by decide +kernel
theorem dX12_look_103 : decode cX12_look 103 = .ok (.if_icmp .ge 28, 3) := by decide +kernel
theorem dX12_look_106 : decode cX12_look 106 = .ok (.aload_n 0, 1) := by decide +kernel
theorem dX12_look_107 : decode cX12_look 107 = .ok (.getfield 139, 3) := by decide +kernel
theorem dX12_look_110 : decode cX12_look 110 = .ok (.iload_n 3, 1) := by decide +kernel
theorem dX12_look_111 : decode cX12_look 111 = .ok (.dup2, 1) := by decide +kernel
theorem dX12_look_112 : decode cX12_look 112 = .ok (.iaload, 1) := by decide +kernel
theorem dX12_look_113 : decode cX12_look 113 = .ok (.iconst 1, 1) := by decide +kernel
theorem dX12_look_114 : decode cX12_look 114 = .ok (.aload_n 0, 1) := by decide +kernel
theorem dX12_look_115 : decode cX12_look 115 = .ok (.getfield 106, 3) := by decide +kernel
theorem dX12_look_118 : decode cX12_look 118 = .ok (.iload_n 3, 1) := by decide +kernel
theorem dX12_look_119 : decode cX12_look 119 = .ok (.iaload, 1) := by decide +kernel
theorem dX12_look_120 : decode cX12_look 120 = .ok (.iconst 1, 1) := by decide +kernel
theorem dX12_look_121 : decode cX12_look 121 = .ok (.iadd, 1) := by decide +kernel
theorem dX12_look_122 : decode cX12_look 122 = .ok (.ishl, 1) := by decide +kernel
theorem dX12_look_123 : decode cX12_look 123 = .ok (.ior, 1) := by decide +kernel
theorem dX12_look_124 : decode cX12_look 124 = .ok (.iastore, 1) := by decide +kernel
theorem dX12_look_125 : decode cX12_look 125 = .ok (.iinc 3 1, 3) := by decide +kernel
theorem dX12_look_128 : decode cX12_look 128 = .ok (.goto (-32), 3) := by decide +kernel
theorem dX12_look_131 : decode cX12_look 131 = .ok (.aload_n 0, 1) := by decide +kernel
theorem dX12_look_132 : decode cX12_look 132 = .ok (.aload_n 0, 1) := by decide +kernel
theorem dX12_look_133 : decode cX12_look 133 = .ok (.getfield 118, 3) := by decide +kernel
theorem dX12_look_136 : decode cX12_look 136 = .ok (.iconst 0, 1) := by decide +kernel
theorem dX12_look_137 : decode cX12_look 137 = .ok (.invokevirtual 446, 3) := by decide +kernel
theorem dX12_look_140 : decode cX12_look 140 = .ok (.iinc 2 1, 3) := by decide +kernel
theorem dX12_look_143 : decode cX12_look 143 = .ok (.goto (-86), 3) := by decide +kernel
theorem dX12_look_146 : decode cX12_look 146 = .ok (.iconst (-1), 1) := by decide +kernel
theorem dX12_look_147 : decode cX12_look 147 = .ok (.istore_n 2, 1) := by decide +kernel
theorem dX12_look_148 : decode cX12_look 148 = .ok (.iconst 0, 1) := by decide +kernel
theorem dX12_look_149 : decode cX12_look 149 = .ok (.istore_n 3, 1) := by decide +kernel
theorem dX12_look_150 : decode cX12_look 150 = .ok (.iconst 0, 1) := by decide +kernel
theorem dX12_look_151 : decode cX12_look 151 = .ok (.istore 4, 2) := by decide +kernel
theorem dX12_look_153 : decode cX12_look 153 = .ok (.iload 4, 2) := by decide +kernel
theorem dX12_look_155 : decode cX12_look 155 = .ok (.aload_n 0, 1) := by decide +kernel
theorem dX12_look_156 : decode cX12_look 156 = .ok (.getfield 42, 3) := by decide +kernel
theorem dX12_look_159 : decode cX12_look 159 = .ok (.iconst 1, 1) := by decide +kernel
theorem dX12_look_160 : decode cX12_look 160 = .ok (.iaload, 1) := by decide +kernel
theorem dX12_look_161 : decode cX12_look 161 = .ok (.if_icmp .ge 40, 3) := by decide +kernel
theorem dX12_look_164 : decode cX12_look 164 = .ok (.aload_n 0, 1) := by decide +kernel
theorem dX12_look_165 : decode cX12_look 165 = .ok (.getfield 139, 3) := by decide +kernel
theorem dX12_look_168 : decode cX12_look 168 = .ok (.iload 4, 2) := by decide +kernel
theorem dX12_look_170 : decode cX12_look 170 = .ok (.iaload, 1) := by decide +kernel
theorem dX12_look_171 : decode cX12_look 171 = .ok (.invokestatic 486, 3) := by decide +kernel
theorem dX12_look_174 : decode cX12_look 174 = .ok (.iload_n 3, 1) := by decide +kernel
theorem dX12_look_175 : decode cX12_look 175 = .ok (.if_icmp .gt 6, 3) := by decide +kernel
theorem dX12_look_178 : decode cX12_look 178 = .ok (.goto 17, 3) := by decide +kernel
theorem dX12_look_181 : decode cX12_look 181 = .ok (.iload 4, 2) := by decide +kernel
theorem dX12_look_183 : decode cX12_look 183 = .ok (.istore_n 2, 1) := by decide +kernel
theorem dX12_look_184 : decode cX12_look 184 = .ok (.aload_n 0, 1) := by decide +kernel
theorem dX12_look_185 : decode cX12_look 185 = .ok (.getfield 139, 3) := by decide +kernel
theorem dX12_look_188 : decode cX12_look 188 = .ok (.iload 4, 2) := by decide +kernel
theorem dX12_look_190 : decode cX12_look 190 = .ok (.iaload, 1) := by decide +kernel
theorem dX12_look_191 : decode cX12_look 191 = .ok (.invokestatic 486, 3) := by decide +kernel
theorem dX12_look_194 : decode cX12_look 194 = .ok (.istore_n 3, 1) := by decide +kernel
theorem dX12_look_195 : decode cX12_look 195 = .ok (.iinc 4 1, 3) := by decide +kernel
theorem dX12_look_198 : decode cX12_look 198 = .ok (.goto (-45), 3) := by decide +kernel
theorem dX12_look_201 : decode cX12_look 201 = .ok (.iload_n 1, 1) := by decide +kernel
theorem dX12_look_202 : decode cX12_look 202 = .ok (.ifCond .ne 7, 3) := by decide +kernel
theorem dX12_look_205 : decode cX12_look 205 = .ok (.iload_n 2, 1) := by decide +kernel
theorem dX12_look_206 : decode cX12_look 206 = .ok (.goto 4, 3) := by decide +kernel
theorem dX12_look_209 : decode cX12_look 209 = .ok (.iload_n 3, 1) := by decide +kernel
theorem dX12_look_210 : decode cX12_look 210 = .ok (.ireturn, 1) := by decide +kernel
theorem dX12_forget_0 : decode cX12_forget 0 = .ok (.aload_n 0, 1) := by decide +kernel
theorem dX12_forget_1 : decode cX12_forget 1 = .ok (.iconst 0, 1) := by decide +kernel
theorem dX12_forget_2 : decode cX12_forget 2 = .ok (.putfield 163, 3) := by decide +kernel
theorem dX12_forget_5 : decode cX12_forget 5 = .ok (.aload_n 0, 1) := by decide +kernel
theorem dX12_forget_6 : decode cX12_forget 6 = .ok (.iconst 0, 1) := by decide +kernel
theorem dX12_forget_7 : decode cX12_forget 7 = .ok (.putfield 329, 3) := by decide +kernel
theorem dX12_forget_10 : decode cX12_forget 10 = .ok (.return_, 1) := by decide +kernel
set_option maxRecDepth 20000 in
theorem ggX12_wet_X12_isStone : GoodIn wsX12_wet wsX12_isStone := goodIn_r _ [10, 11, 12, 13, 9, 14, 104, 105, 106, 107, 108, 109, 110, 111, 112, 113, 114, 115, 116, 117, 118, 119, 120, 121, 122, 123, 124, 125, 126, 127, 128, 129, 130, 131, 132, 133, 134, 135, 136, 137, 138, 139, 140, 141, 142, 143, 144, 145, 146, 147, 148, 149, 150, 151, 152, 153, 154, 155, 156, 157, 158, 159, 160, 161, 162, 163, 164, 165, 166, 167, 168] (by decide +kernel) (by decide +kernel)
set_option maxRecDepth 20000 in
theorem gX12_wet_X12_isStone : GoodIn wsX12_wet (wsV RX12 411 RX12 yX12_isStone wsX12_isStone) := goodIn_app (goodIn_of _ (by decide +kernel)) ggX12_wet_X12_isStone
set_option maxRecDepth 20000 in
theorem ggX12_wet_X12_fail : GoodIn wsX12_wet wsX12_fail := goodIn_r _ [18, 1, 104, 105, 106, 107, 108, 109, 110, 111, 112, 113, 114, 115, 116, 117, 118, 119, 120, 121, 122, 123, 124, 125, 126, 127, 128, 129, 130, 131, 132, 133, 134, 135, 136, 137, 138, 139, 140, 141, 142, 143, 144, 145, 146, 147, 148, 149, 150, 151, 152, 153, 154, 155, 156, 157, 158, 159, 160, 161, 162, 163, 164, 165, 166, 167, 168] (by decide +kernel) (by decide +kernel)
set_option maxRecDepth 20000 in
theorem gX12_wet_X12_fail : GoodIn wsX12_wet (wsV RX12 310 RX12 yX12_fail wsX12_fail) := goodIn_app (goodIn_of _ (by decide +kernel)) ggX12_wet_X12_fail
set_option maxRecDepth 20000 in
theorem ggX12_wet_X12_isIn : GoodIn wsX12_wet wsX12_isIn := goodIn_r _ [14] (by decide +kernel) (by decide +kernel)
set_option maxRecDepth 20000 in
theorem gX12_wet_X12_isIn : GoodIn wsX12_wet (va_wsS RX12 166 yX12_isIn wsX12_isIn) := goodIn_app (goodIn_of _ (by decide +kernel)) ggX12_wet_X12_isIn
set_option maxRecDepth 20000 in
theorem ggX12_wet_X12_pack : GoodIn wsX12_wet wsX12_pack := goodIn_r _ [22, 23, 24, 25, 5, 26, 27, 28, 29, 30, 104, 105, 106, 107, 108, 109, 110, 111, 112, 113, 114, 115, 116, 117, 118, 119, 120, 121, 122, 123, 124, 125, 126, 127, 128, 129, 130, 131, 132, 133, 134, 135, 136, 137, 138, 139, 140, 141, 142, 143, 144, 145, 146, 147, 148, 149, 150, 151, 152, 153, 154, 155, 156, 157, 158, 159, 160, 161, 162, 163, 164, 165, 166, 167, 168] (by decide +kernel) (by decide +kernel)
set_option maxRecDepth 20000 in
theorem gX12_wet_X12_pack : GoodIn wsX12_wet (wsV RX12 420 RX12 yX12_pack wsX12_pack) := goodIn_app (goodIn_of _ (by decide +kernel)) ggX12_wet_X12_pack
set_option maxRecDepth 20000 in
theorem ggX12_wet_X12_isOf : GoodIn wsX12_wet wsX12_isOf := goodIn_r _ [33] (by decide +kernel) (by decide +kernel)
set_option maxRecDepth 20000 in
theorem gX12_wet_X12_isOf : GoodIn wsX12_wet (va_wsS RX12 396 yX12_isOf wsX12_isOf) := goodIn_app (goodIn_of _ (by decide +kernel)) ggX12_wet_X12_isOf
set_option maxRecDepth 20000 in
theorem ggX12_wet_X12_aYearOf : GoodIn wsX12_wet wsX12_aYearOf := goodIn_r _ [37, 11, 23, 38, 39, 40, 9, 41, 5, 42, 43, 44, 45, 24, 25, 46, 47, 48, 49, 30, 50, 51, 52, 53, 54, 55, 56, 57, 58, 59, 60, 61, 62, 63, 64, 65, 66, 67, 68, 69, 70, 71, 72, 73, 74, 28, 29, 75, 26, 27, 76, 77, 78, 79, 80, 81, 82, 83, 84, 85, 86, 87, 88, 89, 90, 91, 92, 93, 94, 95, 96, 97, 98, 99, 104, 105, 106, 107, 108, 109, 110, 111, 112, 113, 114, 115, 116, 117, 118, 119, 120, 121, 122, 123, 124, 125, 126, 127, 128, 129, 130, 131, 132, 133, 134, 135, 136, 137, 138, 139, 140, 141, 142, 143, 144, 145, 146, 147, 148, 149, 150, 151, 152, 153, 154, 155, 156, 157, 158, 159, 160, 161, 162, 163, 164, 165, 166, 167, 168] (by decide +kernel) (by decide +kernel)
set_option maxRecDepth 20000 in
theorem gX12_wet_X12_aYearOf : GoodIn wsX12_wet (wsV RX12 387 RX12 yX12_aYearOf wsX12_aYearOf) := goodIn_app (goodIn_of _ (by decide +kernel)) ggX12_wet_X12_aYearOf
set_option maxRecDepth 20000 in
theorem ggX12_wet_X12_unpack : GoodIn wsX12_wet wsX12_unpack := goodIn_r _ [103, 23, 24, 25, 5, 26, 27, 28, 29, 30, 104, 105, 106, 107, 108, 109, 110, 111, 112, 113, 114, 115, 116, 117, 118, 119, 120, 121, 122, 123, 124, 125, 126, 127, 128, 129, 130, 131, 132, 133, 134, 135, 136, 137, 138, 139, 140, 141, 142, 143, 144, 145, 146, 147, 148, 149, 150, 151, 152, 153, 154, 155, 156, 157, 158, 159, 160, 161, 162, 163, 164, 165, 166, 167, 168] (by decide +kernel) (by decide +kernel)
set_option maxRecDepth 20000 in
theorem gX12_wet_X12_unpack : GoodIn wsX12_wet (wsV RX12 446 RX12 yX12_unpack wsX12_unpack) := goodIn_app (goodIn_of _ (by decide +kernel)) ggX12_wet_X12_unpack
theorem dX12_wet_0 : decode cX12_wet 0 = .ok (.aload_n 0, 1) := by decide +kernel
theorem dX12_wet_1 : decode cX12_wet 1 = .ok (.iconst 0, 1) := by decide +kernel
theorem dX12_wet_2 : decode cX12_wet 2 = .ok (.putfield 163, 3) := by decide +kernel
theorem dX12_wet_5 : decode cX12_wet 5 = .ok (.aload_n 0, 1) := by decide +kernel
theorem dX12_wet_6 : decode cX12_wet 6 = .ok (.iload_n 1, 1) := by decide +kernel
theorem dX12_wet_7 : decode cX12_wet 7 = .ok (.invokevirtual 411, 3) := by decide +kernel
theorem dX12_wet_10 : decode cX12_wet 10 = .ok (.ifCond .ne 9, 3) := by decide +kernel
theorem dX12_wet_13 : decode cX12_wet 13 = .ok (.aload_n 0, 1) := by decide +kernel
theorem dX12_wet_14 : decode cX12_wet 14 = .ok (.iconst 1, 1) := by decide +kernel
theorem dX12_wet_15 : decode cX12_wet 15 = .ok (.invokevirtual 310, 3) := by decide +kernel
theorem dX12_wet_18 : decode cX12_wet 18 = .ok (.ireturn, 1) := by decide +kernel
theorem dX12_wet_19 : decode cX12_wet 19 = .ok (.iload_n 2, 1) := by decide +kernel
theorem dX12_wet_20 : decode cX12_wet 20 = .ok (.i2l, 1) := by decide +kernel
theorem dX12_wet_21 : decode cX12_wet 21 = .ok (.lconst 1, 1) := by decide +kernel
theorem dX12_wet_22 : decode cX12_wet 22 = .ok (.ldc2_w 453, 3) := by decide +kernel
theorem dX12_wet_25 : decode cX12_wet 25 = .ok (.invokestatic 166, 3) := by decide +kernel
theorem dX12_wet_28 : decode cX12_wet 28 = .ok (.ifCond .eq 15, 3) := by decide +kernel
theorem dX12_wet_31 : decode cX12_wet 31 = .ok (.iload_n 3, 1) := by decide +kernel
theorem dX12_wet_32 : decode cX12_wet 32 = .ok (.i2l, 1) := by decide +kernel
theorem dX12_wet_33 : decode cX12_wet 33 = .ok (.lconst 0, 1) := by decide +kernel
theorem dX12_wet_34 : decode cX12_wet 34 = .ok (.ldc2_w 489, 3) := by decide +kernel
theorem dX12_wet_37 : decode cX12_wet 37 = .ok (.invokestatic 166, 3) := by decide +kernel
theorem dX12_wet_40 : decode cX12_wet 40 = .ok (.ifCond .ne 9, 3) := by decide +kernel
theorem dX12_wet_43 : decode cX12_wet 43 = .ok (.aload_n 0, 1) := by decide +kernel
theorem dX12_wet_44 : decode cX12_wet 44 = .ok (.iconst 2, 1) := by decide +kernel
theorem dX12_wet_45 : decode cX12_wet 45 = .ok (.invokevirtual 310, 3) := by decide +kernel
theorem dX12_wet_48 : decode cX12_wet 48 = .ok (.ireturn, 1) := by decide +kernel
theorem dX12_wet_49 : decode cX12_wet 49 = .ok (.iconst 0, 1) := by decide +kernel
theorem dX12_wet_50 : decode cX12_wet 50 = .ok (.istore 4, 2) := by decide +kernel
theorem dX12_wet_52 : decode cX12_wet 52 = .ok (.aload_n 0, 1) := by decide +kernel
theorem dX12_wet_53 : decode cX12_wet 53 = .ok (.aload_n 0, 1) := by decide +kernel
theorem dX12_wet_54 : decode cX12_wet 54 = .ok (.getfield 118, 3) := by decide +kernel
theorem dX12_wet_57 : decode cX12_wet 57 = .ok (.iconst 0, 1) := by decide +kernel
theorem dX12_wet_58 : decode cX12_wet 58 = .ok (.invokevirtual 420, 3) := by decide +kernel
theorem dX12_wet_61 : decode cX12_wet 61 = .ok (.iconst 0, 1) := by decide +kernel
theorem dX12_wet_62 : decode cX12_wet 62 = .ok (.istore 5, 2) := by decide +kernel
theorem dX12_wet_64 : decode cX12_wet 64 = .ok (.iload 5, 2) := by decide +kernel
theorem dX12_wet_66 : decode cX12_wet 66 = .ok (.iconst 1, 1) := by decide +kernel
theorem dX12_wet_67 : decode cX12_wet 67 = .ok (.iload_n 2, 1) := by decide +kernel
theorem dX12_wet_68 : decode cX12_wet 68 = .ok (.ishl, 1) := by decide +kernel
theorem dX12_wet_69 : decode cX12_wet 69 = .ok (.if_icmp .ge 99, 3) := by decide +kernel
theorem dX12_wet_72 : decode cX12_wet 72 = .ok (.iconst 1, 1) := by decide +kernel
theorem dX12_wet_73 : decode cX12_wet 73 = .ok (.istore 6, 2) := by decide +kernel
theorem dX12_wet_75 : decode cX12_wet 75 = .ok (.iconst 0, 1) := by decide +kernel
theorem dX12_wet_76 : decode cX12_wet 76 = .ok (.istore 7, 2) := by decide +kernel
theorem dX12_wet_78 : decode cX12_wet 78 = .ok (.iload 7, 2) := by decide +kernel
theorem dX12_wet_80 : decode cX12_wet 80 = .ok (.iload_n 2, 1) := by decide +kernel
theorem dX12_wet_81 : decode cX12_wet 81 = .ok (.if_icmp .ge 52, 3) := by decide +kernel
theorem dX12_wet_84 : decode cX12_wet 84 = .ok (.iload 6, 2) := by decide +kernel
theorem dX12_wet_86 : decode cX12_wet 86 = .ok (.iload 5, 2) := by decide +kernel
theorem dX12_wet_88 : decode cX12_wet 88 = .ok (.iload 7, 2) := by decide +kernel
theorem dX12_wet_90 : decode cX12_wet 90 = .ok (.invokestatic 396, 3) := by decide +kernel
theorem dX12_wet_93 : decode cX12_wet 93 = .ok (.ifCond .eq 7, 3) := by decide +kernel
theorem dX12_wet_96 : decode cX12_wet 96 = .ok (.iload_n 3, 1) := by decide +kernel
theorem dX12_wet_97 : decode cX12_wet 97 = .ok (.goto 7, 3) := by decide +kernel
theorem dX12_wet_100 : decode cX12_wet 100 = .ok (.bipush 10, 2) := by decide +kernel
theorem dX12_wet_102 : decode cX12_wet 102 = .ok (.iload_n 3, 1) := by decide +kernel
theorem dX12_wet_103 : decode cX12_wet 103 = .ok (.isub, 1) := by decide +kernel
theorem dX12_wet_104 : decode cX12_wet 104 = .ok (.imul, 1) := by decide +kernel
theorem dX12_wet_105 : decode cX12_wet 105 = .ok (.istore 6, 2) := by decide +kernel
theorem dX12_wet_107 : decode cX12_wet 107 = .ok (.aload_n 0, 1) := by decide +kernel
theorem dX12_wet_108 : decode cX12_wet 108 = .ok (.iload 5, 2) := by decide +kernel
theorem dX12_wet_110 : decode cX12_wet 110 = .ok (.iload 7, 2) := by decide +kernel
theorem dX12_wet_112 : decode cX12_wet 112 = .ok (.invokestatic 396, 3) := by decide +kernel
theorem dX12_wet_115 : decode cX12_wet 115 = .ok (.ifCond .eq 8, 3) := by decide +kernel
theorem dX12_wet_118 : decode cX12_wet 118 = .ok (.bipush 9, 2) := by decide +kernel
theorem dX12_wet_120 : decode cX12_wet 120 = .ok (.goto 4, 3) := by decide +kernel
theorem dX12_wet_123 : decode cX12_wet 123 = .ok (.iconst 0, 1) := by decide +kernel
theorem dX12_wet_124 : decode cX12_wet 124 = .ok (.invokevirtual 387, 3) := by decide +kernel
theorem dX12_wet_127 : decode cX12_wet 127 = .ok (.iinc 7 1, 3) := by decide +kernel
theorem dX12_wet_130 : decode cX12_wet 130 = .ok (.goto (-52), 3) := by decide +kernel
theorem dX12_wet_133 : decode cX12_wet 133 = .ok (.iload 4, 2) := by decide +kernel
theorem dX12_wet_135 : decode cX12_wet 135 = .ok (.aload_n 0, 1) := by decide +kernel
theorem dX12_wet_136 : decode cX12_wet 136 = .ok (.getfield 94, 3) := by decide +kernel
theorem dX12_wet_139 : decode cX12_wet 139 = .ok (.iload_n 1, 1) := by decide +kernel
theorem dX12_wet_140 : decode cX12_wet 140 = .ok (.iaload, 1) := by decide +kernel
theorem dX12_wet_141 : decode cX12_wet 141 = .ok (.ifCond .ne 8, 3) := by decide +kernel
theorem dX12_wet_144 : decode cX12_wet 144 = .ok (.iload 6, 2) := by decide +kernel
theorem dX12_wet_146 : decode cX12_wet 146 = .ok (.goto 4, 3) := by decide +kernel
theorem dX12_wet_149 : decode cX12_wet 149 = .ok (.iconst 0, 1) := by decide +kernel
theorem dX12_wet_150 : decode cX12_wet 150 = .ok (.iadd, 1) := by decide +kernel
theorem dX12_wet_151 : decode cX12_wet 151 = .ok (.istore 4, 2) := by decide +kernel
theorem dX12_wet_153 : decode cX12_wet 153 = .ok (.aload_n 0, 1) := by decide +kernel
theorem dX12_wet_154 : decode cX12_wet 154 = .ok (.aload_n 0, 1) := by decide +kernel
theorem dX12_wet_155 : decode cX12_wet 155 = .ok (.getfield 118, 3) := by decide +kernel
theorem dX12_wet_158 : decode cX12_wet 158 = .ok (.iconst 0, 1) := by decide +kernel
theorem dX12_wet_159 : decode cX12_wet 159 = .ok (.invokevirtual 446, 3) := by decide +kernel
theorem dX12_wet_162 : decode cX12_wet 162 = .ok (.iinc 5 1, 3) := by decide +kernel
theorem dX12_wet_165 : decode cX12_wet 165 = .ok (.goto (-101), 3) := by decide +kernel
theorem dX12_wet_168 : decode cX12_wet 168 = .ok (.iload 4, 2) := by decide +kernel
theorem dX12_wet_170 : decode cX12_wet 170 = .ok (.ireturn, 1) := by decide +kernel
set_option maxRecDepth 20000 in
theorem ggX12_gainOf_X12_familyOf : GoodIn wsX12_gainOf wsX12_familyOf := goodIn_r _ [6, 7, 8, 17, 18, 19, 20, 21, 22, 23, 24, 25, 26, 27, 28, 29, 30, 31, 32, 33, 34, 35, 36, 37, 38, 39, 40, 41, 42, 43, 44, 45, 46, 47, 48, 49, 50, 51, 52, 53, 54, 55, 56, 57, 58, 59, 60, 61, 62, 63, 64, 65, 66, 67, 68, 69, 70, 71, 72, 73, 74, 75, 76, 77, 78, 79, 80, 81] (by decide +kernel) (by decide +kernel)
set_option maxRecDepth 20000 in
theorem gX12_gainOf_X12_familyOf : GoodIn wsX12_gainOf (wsV RX12 414 RX12 yX12_familyOf wsX12_familyOf) := goodIn_app (goodIn_of _ (by decide +kernel)) ggX12_gainOf_X12_familyOf
set_option maxRecDepth 20000 in
theorem ggX12_gainOf_X12_sitting : GoodIn wsX12_gainOf wsX12_sitting := goodIn_r _ [12, 7, 13, 17, 18, 19, 20, 21, 22, 23, 24, 25, 26, 27, 28, 29, 30, 31, 32, 33, 34, 35, 36, 37, 38, 39, 40, 41, 42, 43, 44, 45, 46, 47, 48, 49, 50, 51, 52, 53, 54, 55, 56, 57, 58, 59, 60, 61, 62, 63, 64, 65, 66, 67, 68, 69, 70, 71, 72, 73, 74, 75, 76, 77, 78, 79, 80, 81] (by decide +kernel) (by decide +kernel)
set_option maxRecDepth 20000 in
theorem gX12_gainOf_X12_sitting : GoodIn wsX12_gainOf (wsV RX12 399 RX12 yX12_sitting wsX12_sitting) := goodIn_app (goodIn_of _ (by decide +kernel)) ggX12_gainOf_X12_sitting
set_option maxRecDepth 20000 in
theorem ggX12_gainOf_X12_bitsOf : GoodIn wsX12_gainOf wsX12_bitsOf := goodIn_r _ [16] (by decide +kernel) (by decide +kernel)
set_option maxRecDepth 20000 in
theorem gX12_gainOf_X12_bitsOf : GoodIn wsX12_gainOf (va_wsS RX12 486 yX12_bitsOf wsX12_bitsOf) := goodIn_app (goodIn_of _ (by decide +kernel)) ggX12_gainOf_X12_bitsOf
theorem dX12_gainOf_0 : decode cX12_gainOf 0 = .ok (.aload_n 0, 1) := by decide +kernel
theorem dX12_gainOf_1 : decode cX12_gainOf 1 = .ok (.getfield 94, 3) := by decide +kernel
theorem dX12_gainOf_4 : decode cX12_gainOf 4 = .ok (.iload_n 1, 1) := by decide +kernel
theorem dX12_gainOf_5 : decode cX12_gainOf 5 = .ok (.iaload, 1) := by decide +kernel
theorem dX12_gainOf_6 : decode cX12_gainOf 6 = .ok (.bipush 10, 2) := by decide +kernel
theorem dX12_gainOf_8 : decode cX12_gainOf 8 = .ok (.idiv, 1) := by decide +kernel
theorem dX12_gainOf_9 : decode cX12_gainOf 9 = .ok (.iconst 2, 1) := by decide +kernel
theorem dX12_gainOf_10 : decode cX12_gainOf 10 = .ok (.aload_n 0, 1) := by decide +kernel
theorem dX12_gainOf_11 : decode cX12_gainOf 11 = .ok (.iload_n 1, 1) := by decide +kernel
theorem dX12_gainOf_12 : decode cX12_gainOf 12 = .ok (.invokevirtual 414, 3) := by decide +kernel
theorem dX12_gainOf_15 : decode cX12_gainOf 15 = .ok (.aload_n 0, 1) := by decide +kernel
theorem dX12_gainOf_16 : decode cX12_gainOf 16 = .ok (.invokevirtual 399, 3) := by decide +kernel
theorem dX12_gainOf_19 : decode cX12_gainOf 19 = .ok (.iand, 1) := by decide +kernel
theorem dX12_gainOf_20 : decode cX12_gainOf 20 = .ok (.invokestatic 486, 3) := by decide +kernel
theorem dX12_gainOf_23 : decode cX12_gainOf 23 = .ok (.imul, 1) := by decide +kernel
theorem dX12_gainOf_24 : decode cX12_gainOf 24 = .ok (.iadd, 1) := by decide +kernel
theorem dX12_gainOf_25 : decode cX12_gainOf 25 = .ok (.iconst 3, 1) := by decide +kernel
theorem dX12_gainOf_26 : decode cX12_gainOf 26 = .ok (.iload_n 2, 1) := by decide +kernel
theorem dX12_gainOf_27 : decode cX12_gainOf 27 = .ok (.imul, 1) := by decide +kernel
theorem dX12_gainOf_28 : decode cX12_gainOf 28 = .ok (.isub, 1) := by decide +kernel
theorem dX12_gainOf_29 : decode cX12_gainOf 29 = .ok (.ireturn, 1) := by decide +kernel
set_option maxRecDepth 20000 in
theorem ggX12_tellGains_X12_pack : GoodIn wsX12_tellGains wsX12_pack := goodIn_r _ [9, 10, 2, 3, 11, 12, 13, 14, 15, 16, 116, 117, 118, 119, 120, 121, 122, 123, 124, 125, 126, 127, 128, 129, 130, 131, 132, 133, 134, 135, 136, 137, 138, 139, 140, 141, 142, 143, 144, 145, 146, 147, 148, 149, 150, 151, 152, 153, 154, 155, 156, 157, 158, 159, 160, 161, 162, 163, 164, 165, 166, 167, 168, 169, 170, 171, 172, 173, 174, 175, 176, 177, 178, 179, 180] (by decide +kernel) (by decide +kernel)
set_option maxRecDepth 20000 in
theorem gX12_tellGains_X12_pack : GoodIn wsX12_tellGains (wsV RX12 420 RX12 yX12_pack wsX12_pack) := goodIn_app (goodIn_of _ (by decide +kernel)) ggX12_tellGains_X12_pack
set_option maxRecDepth 20000 in
theorem ggX12_tellGains_X12_carve : GoodIn wsX12_tellGains wsX12_carve := goodIn_r _ [20, 2, 3, 11, 116, 117, 118, 119, 120, 121, 122, 123, 124, 125, 126, 127, 128, 129, 130, 131, 132, 133, 134, 135, 136, 137, 138, 139, 140, 141, 142, 143, 144, 145, 146, 147, 148, 149, 150, 151, 152, 153, 154, 155, 156, 157, 158, 159, 160, 161, 162, 163, 164, 165, 166, 167, 168, 169, 170, 171, 172, 173, 174, 175, 176, 177, 178, 179, 180] (by decide +kernel) (by decide +kernel)
set_option maxRecDepth 20000 in
theorem gX12_tellGains_X12_carve : GoodIn wsX12_tellGains (wsV RX12 437 RX12 yX12_carve wsX12_carve) := goodIn_app (goodIn_of _ (by decide +kernel)) ggX12_tellGains_X12_carve
set_option maxRecDepth 20000 in
theorem ggX12_tellGains_X12_goOn : GoodIn wsX12_tellGains wsX12_goOn := goodIn_r _ [24, 10, 25, 26, 27, 8, 28, 29, 30, 31, 32, 33, 34, 35, 36, 37, 38, 11, 39, 40, 41, 42, 2, 3, 43, 44, 45, 46, 16, 47, 48, 49, 50, 51, 52, 53, 54, 55, 56, 57, 58, 59, 60, 61, 62, 63, 64, 65, 66, 67, 68, 69, 70, 71, 14, 15, 72, 12, 13, 73, 74, 75, 76, 77, 78, 79, 80, 81, 82, 83, 84, 85, 86, 87, 88, 89, 90, 91, 92, 93, 94, 95, 96, 116, 117, 118, 119, 120, 121, 122, 123, 124, 125, 126, 127, 128, 129, 130, 131, 132, 133, 134, 135, 136, 137, 138, 139, 140, 141, 142, 143, 144, 145, 146, 147, 148, 149, 150, 151, 152, 153, 154, 155, 156, 157, 158, 159, 160, 161, 162, 163, 164, 165, 166, 167, 168, 169, 170, 171, 172, 173, 174, 175, 176, 177, 178, 179, 180] (by decide +kernel) (by decide +kernel)
set_option maxRecDepth 20000 in
theorem gX12_tellGains_X12_goOn : GoodIn wsX12_tellGains (wsV RX12 432 RX12 yX12_goOn wsX12_goOn) := goodIn_app (goodIn_of _ (by decide +kernel)) ggX12_tellGains_X12_goOn
set_option maxRecDepth 20000 in
theorem ggX12_tellGains_X12_gainOf : GoodIn wsX12_tellGains wsX12_gainOf := goodIn_r _ [100, 11, 101, 102, 103, 8, 104, 29, 15, 105, 106, 107, 108, 16, 109, 110, 111, 116, 117, 118, 119, 120, 121, 122, 123, 124, 125, 126, 127, 128, 129, 130, 131, 132, 133, 134, 135, 136, 137, 138, 139, 140, 141, 142, 143, 144, 145, 146, 147, 148, 149, 150, 151, 152, 153, 154, 155, 156, 157, 158, 159, 160, 161, 162, 163, 164, 165, 166, 167, 168, 169, 170, 171, 172, 173, 174, 175, 176, 177, 178, 179, 180] (by decide +kernel) (by decide +kernel)
set_option maxRecDepth 20000 in
theorem gX12_tellGains_X12_gainOf : GoodIn wsX12_tellGains (wsV RX12 491 RX12 yX12_gainOf wsX12_gainOf) := goodIn_app (goodIn_of _ (by decide +kernel)) ggX12_tellGains_X12_gainOf
set_option maxRecDepth 20000 in
theorem ggX12_tellGains_X12_unpack : GoodIn wsX12_tellGains wsX12_unpack := goodIn_r _ [115, 10, 2, 3, 11, 12, 13, 14, 15, 16, 116, 117, 118, 119, 120, 121, 122, 123, 124, 125, 126, 127, 128, 129, 130, 131, 132, 133, 134, 135, 136, 137, 138, 139, 140, 141, 142, 143, 144, 145, 146, 147, 148, 149, 150, 151, 152, 153, 154, 155, 156, 157, 158, 159, 160, 161, 162, 163, 164, 165, 166, 167, 168, 169, 170, 171, 172, 173, 174, 175, 176, 177, 178, 179, 180] (by decide +kernel) (by decide +kernel)
set_option maxRecDepth 20000 in
theorem gX12_tellGains_X12_unpack : GoodIn wsX12_tellGains (wsV RX12 446 RX12 yX12_unpack wsX12_unpack) := goodIn_app (goodIn_of _ (by decide +kernel)) ggX12_tellGains_X12_unpack
theorem dX12_tellGains_0 : decode cX12_tellGains 0 = .ok (.aload_n 0, 1) := by decide +kernel
theorem dX12_tellGains_1 : decode cX12_tellGains 1 = .ok (.aload_n 0, 1) := by decide +kernel
theorem dX12_tellGains_2 : decode cX12_tellGains 2 = .ok (.getfield 118, 3) := by decide +kernel
theorem dX12_tellGains_5 : decode cX12_tellGains 5 = .ok (.iconst 0, 1) := by decide +kernel
theorem dX12_tellGains_6 : decode cX12_tellGains 6 = .ok (.invokevirtual 420, 3) := by decide +kernel
theorem dX12_tellGains_9 : decode cX12_tellGains 9 = .ok (.iconst 0, 1) := by decide +kernel
theorem dX12_tellGains_10 : decode cX12_tellGains 10 = .ok (.istore_n 3, 1) := by decide +kernel
theorem dX12_tellGains_11 : decode cX12_tellGains 11 = .ok (.iload_n 3, 1) := by decide +kernel
theorem dX12_tellGains_12 : decode cX12_tellGains 12 = .ok (.iconst 4, 1) := by decide +kernel
theorem dX12_tellGains_13 : decode cX12_tellGains 13 = .ok (.if_icmp .ge 106, 3) := by decide +kernel
theorem dX12_tellGains_16 : decode cX12_tellGains 16 = .ok (.iload_n 3, 1) := by decide +kernel
theorem dX12_tellGains_17 : decode cX12_tellGains 17 = .ok (.iconst 2, 1) := by decide +kernel
theorem dX12_tellGains_18 : decode cX12_tellGains 18 = .ok (.idiv, 1) := by decide +kernel
theorem dX12_tellGains_19 : decode cX12_tellGains 19 = .ok (.iconst 1, 1) := by decide +kernel
theorem dX12_tellGains_20 : decode cX12_tellGains 20 = .ok (.if_icmp .ne 20, 3) := by decide +kernel
theorem dX12_tellGains_23 : decode cX12_tellGains 23 = .ok (.aload_n 0, 1) := by decide +kernel
theorem dX12_tellGains_24 : decode cX12_tellGains 24 = .ok (.iload_n 1, 1) := by decide +kernel
theorem dX12_tellGains_25 : decode cX12_tellGains 25 = .ok (.aload_n 0, 1) := by decide +kernel
theorem dX12_tellGains_26 : decode cX12_tellGains 26 = .ok (.getfield 88, 3) := by decide +kernel
theorem dX12_tellGains_29 : decode cX12_tellGains 29 = .ok (.iload_n 1, 1) := by decide +kernel
theorem dX12_tellGains_30 : decode cX12_tellGains 30 = .ok (.iaload, 1) := by decide +kernel
theorem dX12_tellGains_31 : decode cX12_tellGains 31 = .ok (.aload_n 0, 1) := by decide +kernel
theorem dX12_tellGains_32 : decode cX12_tellGains 32 = .ok (.getfield 91, 3) := by decide +kernel
theorem dX12_tellGains_35 : decode cX12_tellGains 35 = .ok (.iload_n 1, 1) := by decide +kernel
theorem dX12_tellGains_36 : decode cX12_tellGains 36 = .ok (.iaload, 1) := by decide +kernel
theorem dX12_tellGains_37 : decode cX12_tellGains 37 = .ok (.invokevirtual 437, 3) := by decide +kernel
theorem dX12_tellGains_40 : decode cX12_tellGains 40 = .ok (.iload_n 3, 1) := by decide +kernel
theorem dX12_tellGains_41 : decode cX12_tellGains 41 = .ok (.iconst 2, 1) := by decide +kernel
theorem dX12_tellGains_42 : decode cX12_tellGains 42 = .ok (.irem, 1) := by decide +kernel
theorem dX12_tellGains_43 : decode cX12_tellGains 43 = .ok (.iconst 1, 1) := by decide +kernel
theorem dX12_tellGains_44 : decode cX12_tellGains 44 = .ok (.if_icmp .ne 20, 3) := by decide +kernel
theorem dX12_tellGains_47 : decode cX12_tellGains 47 = .ok (.aload_n 0, 1) := by decide +kernel
theorem dX12_tellGains_48 : decode cX12_tellGains 48 = .ok (.iload_n 2, 1) := by decide +kernel
theorem dX12_tellGains_49 : decode cX12_tellGains 49 = .ok (.aload_n 0, 1) := by decide +kernel
theorem dX12_tellGains_50 : decode cX12_tellGains 50 = .ok (.getfield 88, 3) := by decide +kernel
theorem dX12_tellGains_53 : decode cX12_tellGains 53 = .ok (.iload_n 2, 1) := by decide +kernel
theorem dX12_tellGains_54 : decode cX12_tellGains 54 = .ok (.iaload, 1) := by decide +kernel
theorem dX12_tellGains_55 : decode cX12_tellGains 55 = .ok (.aload_n 0, 1) := by decide +kernel
theorem dX12_tellGains_56 : decode cX12_tellGains 56 = .ok (.getfield 91, 3) := by decide +kernel
theorem dX12_tellGains_59 : decode cX12_tellGains 59 = .ok (.iload_n 2, 1) := by decide +kernel
theorem dX12_tellGains_60 : decode cX12_tellGains 60 = .ok (.iaload, 1) := by decide +kernel
theorem dX12_tellGains_61 : decode cX12_tellGains 61 = .ok (.invokevirtual 437, 3) := by decide +kernel
theorem dX12_tellGains_64 : decode cX12_tellGains 64 = .ok (.aload_n 0, 1) := by decide +kernel
theorem dX12_tellGains_65 : decode cX12_tellGains 65 = .ok (.bipush 6, 2) := by decide +kernel
theorem dX12_tellGains_67 : decode cX12_tellGains 67 = .ok (.invokevirtual 432, 3) := by decide +kernel
theorem dX12_tellGains_70 : decode cX12_tellGains 70 = .ok (.aload_n 0, 1) := by decide +kernel
theorem dX12_tellGains_71 : decode cX12_tellGains 71 = .ok (.getfield 142, 3) := by decide +kernel
theorem dX12_tellGains_74 : decode cX12_tellGains 74 = .ok (.iconst 2, 1) := by decide +kernel
theorem dX12_tellGains_75 : decode cX12_tellGains 75 = .ok (.iload_n 3, 1) := by decide +kernel
theorem dX12_tellGains_76 : decode cX12_tellGains 76 = .ok (.imul, 1) := by decide +kernel
