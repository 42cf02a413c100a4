theorem dX12_sat_65 : decode cX12_sat 65 = .ok (.invokevirtual 355, 3) := by decide +kernel
theorem dX12_sat_68 : decode cX12_sat 68 = .ok (.iconst (-1), 1) := by decide +kernel
theorem dX12_sat_69 : decode cX12_sat 69 = .ok (.if_icmp .eq 7, 3) := by decide +kernel
theorem dX12_sat_72 : decode cX12_sat 72 = .ok (.iconst 1, 1) := by decide +kernel
theorem dX12_sat_73 : decode cX12_sat 73 = .ok (.goto 4, 3) := by decide +kernel
theorem dX12_sat_76 : decode cX12_sat 76 = .ok (.iconst 0, 1) := by decide +kernel
theorem dX12_sat_77 : decode cX12_sat 77 = .ok (.iadd, 1) := by decide +kernel
theorem dX12_sat_78 : decode cX12_sat 78 = .ok (.istore_n 3, 1) := by decide +kernel
theorem dX12_sat_79 : decode cX12_sat 79 = .ok (.iinc 4 1, 3) := by decide +kernel
theorem dX12_sat_82 : decode cX12_sat 82 = .ok (.goto (-31), 3) := by decide +kernel
theorem dX12_sat_85 : decode cX12_sat 85 = .ok (.aload_n 0, 1) := by decide +kernel
theorem dX12_sat_86 : decode cX12_sat 86 = .ok (.aload_n 0, 1) := by decide +kernel
theorem dX12_sat_87 : decode cX12_sat 87 = .ok (.getfield 118, 3) := by decide +kernel
theorem dX12_sat_90 : decode cX12_sat 90 = .ok (.iconst 0, 1) := by decide +kernel
theorem dX12_sat_91 : decode cX12_sat 91 = .ok (.invokevirtual 446, 3) := by decide +kernel
theorem dX12_sat_94 : decode cX12_sat 94 = .ok (.iload_n 3, 1) := by decide +kernel
theorem dX12_sat_95 : decode cX12_sat 95 = .ok (.ireturn, 1) := by decide +kernel
set_option maxRecDepth 20000 in
theorem ggX12_fits_X12_isPerson : GoodIn wsX12_fits wsX12_isPerson := goodIn_r _ [7, 8, 9, 10, 6, 11, 112, 113, 114, 115, 116, 117, 118, 119, 120, 121, 122, 123, 124, 125, 126, 127, 128, 129, 130, 131, 132, 133, 134, 135, 136, 137, 138, 139, 140, 141, 142, 143, 144, 145, 146, 147, 148, 149, 150, 151, 152, 153, 154, 155, 156, 157, 158, 159, 160, 161, 162, 163, 164, 165, 166, 167, 168, 169, 170, 171, 172, 173, 174, 175, 176] (by decide +kernel) (by decide +kernel)
set_option maxRecDepth 20000 in
theorem gX12_fits_X12_isPerson : GoodIn wsX12_fits (wsV RX12 417 RX12 yX12_isPerson wsX12_isPerson) := goodIn_app (goodIn_of _ (by decide +kernel)) ggX12_fits_X12_isPerson
set_option maxRecDepth 20000 in
theorem ggX12_fits_X12_isStone : GoodIn wsX12_fits wsX12_isStone := goodIn_r _ [15, 8, 9, 10, 6, 11, 112, 113, 114, 115, 116, 117, 118, 119, 120, 121, 122, 123, 124, 125, 126, 127, 128, 129, 130, 131, 132, 133, 134, 135, 136, 137, 138, 139, 140, 141, 142, 143, 144, 145, 146, 147, 148, 149, 150, 151, 152, 153, 154, 155, 156, 157, 158, 159, 160, 161, 162, 163, 164, 165, 166, 167, 168, 169, 170, 171, 172, 173, 174, 175, 176] (by decide +kernel) (by decide +kernel)
set_option maxRecDepth 20000 in
theorem gX12_fits_X12_isStone : GoodIn wsX12_fits (wsV RX12 411 RX12 yX12_isStone wsX12_isStone) := goodIn_app (goodIn_of _ (by decide +kernel)) ggX12_fits_X12_isStone
set_option maxRecDepth 20000 in
theorem ggX12_fits_X12_fail : GoodIn wsX12_fits wsX12_fail := goodIn_r _ [19, 1, 112, 113, 114, 115, 116, 117, 118, 119, 120, 121, 122, 123, 124, 125, 126, 127, 128, 129, 130, 131, 132, 133, 134, 135, 136, 137, 138, 139, 140, 141, 142, 143, 144, 145, 146, 147, 148, 149, 150, 151, 152, 153, 154, 155, 156, 157, 158, 159, 160, 161, 162, 163, 164, 165, 166, 167, 168, 169, 170, 171, 172, 173, 174, 175, 176] (by decide +kernel) (by decide +kernel)
set_option maxRecDepth 20000 in
theorem gX12_fits_X12_fail : GoodIn wsX12_fits (wsV RX12 310 RX12 yX12_fail wsX12_fail) := goodIn_app (goodIn_of _ (by decide +kernel)) ggX12_fits_X12_fail
set_option maxRecDepth 20000 in
theorem ggX12_fits_X12_pack : GoodIn wsX12_fits wsX12_pack := goodIn_r _ [23, 24, 25, 26, 27, 28, 29, 30, 31, 32, 112, 113, 114, 115, 116, 117, 118, 119, 120, 121, 122, 123, 124, 125, 126, 127, 128, 129, 130, 131, 132, 133, 134, 135, 136, 137, 138, 139, 140, 141, 142, 143, 144, 145, 146, 147, 148, 149, 150, 151, 152, 153, 154, 155, 156, 157, 158, 159, 160, 161, 162, 163, 164, 165, 166, 167, 168, 169, 170, 171, 172, 173, 174, 175, 176] (by decide +kernel) (by decide +kernel)
set_option maxRecDepth 20000 in
theorem gX12_fits_X12_pack : GoodIn wsX12_fits (wsV RX12 420 RX12 yX12_pack wsX12_pack) := goodIn_app (goodIn_of _ (by decide +kernel)) ggX12_fits_X12_pack
set_option maxRecDepth 20000 in
theorem ggX12_fits_X12_unlikeOf : GoodIn wsX12_fits wsX12_unlikeOf := goodIn_r _ [36, 28, 25, 37, 38, 39, 40, 29, 26, 112, 113, 114, 115, 116, 117, 118, 119, 120, 121, 122, 123, 124, 125, 126, 127, 128, 129, 130, 131, 132, 133, 134, 135, 136, 137, 138, 139, 140, 141, 142, 143, 144, 145, 146, 147, 148, 149, 150, 151, 152, 153, 154, 155, 156, 157, 158, 159, 160, 161, 162, 163, 164, 165, 166, 167, 168, 169, 170, 171, 172, 173, 174, 175, 176] (by decide +kernel) (by decide +kernel)
set_option maxRecDepth 20000 in
theorem gX12_fits_X12_unlikeOf : GoodIn wsX12_fits (wsV RX12 352 RX12 yX12_unlikeOf wsX12_unlikeOf) := goodIn_app (goodIn_of _ (by decide +kernel)) ggX12_fits_X12_unlikeOf
set_option maxRecDepth 20000 in
theorem ggX12_fits_X12_goOn : GoodIn wsX12_fits wsX12_goOn := goodIn_r _ [44, 24, 45, 46, 47, 6, 48, 8, 49, 50, 51, 52, 53, 54, 55, 56, 57, 27, 58, 59, 39, 60, 25, 26, 61, 62, 63, 64, 32, 65, 66, 67, 68, 69, 70, 71, 72, 73, 74, 75, 76, 77, 78, 79, 80, 81, 82, 83, 84, 85, 86, 87, 88, 89, 30, 31, 90, 28, 29, 91, 92, 93, 94, 95, 96, 97, 98, 99, 100, 101, 102, 103, 33, 34, 35, 36, 37, 38, 40, 104, 105, 106, 107, 112, 113, 114, 115, 116, 117, 118, 119, 120, 121, 122, 123, 124, 125, 126, 127, 128, 129, 130, 131, 132, 133, 134, 135, 136, 137, 138, 139, 140, 141, 142, 143, 144, 145, 146, 147, 148, 149, 150, 151, 152, 153, 154, 155, 156, 157, 158, 159, 160, 161, 162, 163, 164, 165, 166, 167, 168, 169, 170, 171, 172, 173, 174, 175, 176] (by decide +kernel) (by decide +kernel)
set_option maxRecDepth 20000 in
theorem gX12_fits_X12_goOn : GoodIn wsX12_fits (wsV RX12 432 RX12 yX12_goOn wsX12_goOn) := goodIn_app (goodIn_of _ (by decide +kernel)) ggX12_fits_X12_goOn
set_option maxRecDepth 20000 in
theorem ggX12_fits_X12_unpack : GoodIn wsX12_fits wsX12_unpack := goodIn_r _ [111, 24, 25, 26, 27, 28, 29, 30, 31, 32, 112, 113, 114, 115, 116, 117, 118, 119, 120, 121, 122, 123, 124, 125, 126, 127, 128, 129, 130, 131, 132, 133, 134, 135, 136, 137, 138, 139, 140, 141, 142, 143, 144, 145, 146, 147, 148, 149, 150, 151, 152, 153, 154, 155, 156, 157, 158, 159, 160, 161, 162, 163, 164, 165, 166, 167, 168, 169, 170, 171, 172, 173, 174, 175, 176] (by decide +kernel) (by decide +kernel)
set_option maxRecDepth 20000 in
theorem gX12_fits_X12_unpack : GoodIn wsX12_fits (wsV RX12 446 RX12 yX12_unpack wsX12_unpack) := goodIn_app (goodIn_of _ (by decide +kernel)) ggX12_fits_X12_unpack
theorem dX12_fits_0 : decode cX12_fits 0 = .ok (.aload_n 0, 1) := by decide +kernel
theorem dX12_fits_1 : decode cX12_fits 1 = .ok (.iconst 0, 1) := by decide +kernel
theorem dX12_fits_2 : decode cX12_fits 2 = .ok (.putfield 163, 3) := by decide +kernel
theorem dX12_fits_5 : decode cX12_fits 5 = .ok (.aload_n 0, 1) := by decide +kernel
theorem dX12_fits_6 : decode cX12_fits 6 = .ok (.iload_n 1, 1) := by decide +kernel
theorem dX12_fits_7 : decode cX12_fits 7 = .ok (.invokevirtual 417, 3) := by decide +kernel
theorem dX12_fits_10 : decode cX12_fits 10 = .ok (.ifCond .eq 11, 3) := by decide +kernel
theorem dX12_fits_13 : decode cX12_fits 13 = .ok (.aload_n 0, 1) := by decide +kernel
theorem dX12_fits_14 : decode cX12_fits 14 = .ok (.iload_n 2, 1) := by decide +kernel
theorem dX12_fits_15 : decode cX12_fits 15 = .ok (.invokevirtual 411, 3) := by decide +kernel
theorem dX12_fits_18 : decode cX12_fits 18 = .ok (.ifCond .ne 9, 3) := by decide +kernel
theorem dX12_fits_21 : decode cX12_fits 21 = .ok (.aload_n 0, 1) := by decide +kernel
theorem dX12_fits_22 : decode cX12_fits 22 = .ok (.iconst 1, 1) := by decide +kernel
theorem dX12_fits_23 : decode cX12_fits 23 = .ok (.invokevirtual 310, 3) := by decide +kernel
theorem dX12_fits_26 : decode cX12_fits 26 = .ok (.ireturn, 1) := by decide +kernel
theorem dX12_fits_27 : decode cX12_fits 27 = .ok (.aload_n 0, 1) := by decide +kernel
theorem dX12_fits_28 : decode cX12_fits 28 = .ok (.aload_n 0, 1) := by decide +kernel
theorem dX12_fits_29 : decode cX12_fits 29 = .ok (.getfield 118, 3) := by decide +kernel
theorem dX12_fits_32 : decode cX12_fits 32 = .ok (.iconst 0, 1) := by decide +kernel
theorem dX12_fits_33 : decode cX12_fits 33 = .ok (.invokevirtual 420, 3) := by decide +kernel
theorem dX12_fits_36 : decode cX12_fits 36 = .ok (.iconst (-1), 1) := by decide +kernel
theorem dX12_fits_37 : decode cX12_fits 37 = .ok (.istore_n 3, 1) := by decide +kernel
theorem dX12_fits_38 : decode cX12_fits 38 = .ok (.iconst 0, 1) := by decide +kernel
theorem dX12_fits_39 : decode cX12_fits 39 = .ok (.istore 4, 2) := by decide +kernel
theorem dX12_fits_41 : decode cX12_fits 41 = .ok (.iload 4, 2) := by decide +kernel
theorem dX12_fits_43 : decode cX12_fits 43 = .ok (.bipush 60, 2) := by decide +kernel
theorem dX12_fits_45 : decode cX12_fits 45 = .ok (.if_icmp .gt 31, 3) := by decide +kernel
theorem dX12_fits_48 : decode cX12_fits 48 = .ok (.iload_n 3, 1) := by decide +kernel
theorem dX12_fits_49 : decode cX12_fits 49 = .ok (.iconst (-1), 1) := by decide +kernel
theorem dX12_fits_50 : decode cX12_fits 50 = .ok (.if_icmp .ne 26, 3) := by decide +kernel
theorem dX12_fits_53 : decode cX12_fits 53 = .ok (.aload_n 0, 1) := by decide +kernel
theorem dX12_fits_54 : decode cX12_fits 54 = .ok (.iload_n 1, 1) := by decide +kernel
theorem dX12_fits_55 : decode cX12_fits 55 = .ok (.iload_n 2, 1) := by decide +kernel
theorem dX12_fits_56 : decode cX12_fits 56 = .ok (.invokevirtual 352, 3) := by decide +kernel
theorem dX12_fits_59 : decode cX12_fits 59 = .ok (.ifCond .ne 6, 3) := by decide +kernel
theorem dX12_fits_62 : decode cX12_fits 62 = .ok (.iload 4, 2) := by decide +kernel
theorem dX12_fits_64 : decode cX12_fits 64 = .ok (.istore_n 3, 1) := by decide +kernel
theorem dX12_fits_65 : decode cX12_fits 65 = .ok (.aload_n 0, 1) := by decide +kernel
theorem dX12_fits_66 : decode cX12_fits 66 = .ok (.iconst 1, 1) := by decide +kernel
theorem dX12_fits_67 : decode cX12_fits 67 = .ok (.invokevirtual 432, 3) := by decide +kernel
theorem dX12_fits_70 : decode cX12_fits 70 = .ok (.iinc 4 1, 3) := by decide +kernel
theorem dX12_fits_73 : decode cX12_fits 73 = .ok (.goto (-32), 3) := by decide +kernel
theorem dX12_fits_76 : decode cX12_fits 76 = .ok (.aload_n 0, 1) := by decide +kernel
theorem dX12_fits_77 : decode cX12_fits 77 = .ok (.aload_n 0, 1) := by decide +kernel
theorem dX12_fits_78 : decode cX12_fits 78 = .ok (.getfield 118, 3) := by decide +kernel
theorem dX12_fits_81 : decode cX12_fits 81 = .ok (.iconst 0, 1) := by decide +kernel
theorem dX12_fits_82 : decode cX12_fits 82 = .ok (.invokevirtual 446, 3) := by decide +kernel
theorem dX12_fits_85 : decode cX12_fits 85 = .ok (.iload_n 3, 1) := by decide +kernel
theorem dX12_fits_86 : decode cX12_fits 86 = .ok (.ireturn, 1) := by decide +kernel
theorem dX12_eldestSitting_0 : decode cX12_eldestSitting 0 = .ok (.iconst (-1), 1) := by decide +kernel
theorem dX12_eldestSitting_1 : decode cX12_eldestSitting 1 = .ok (.istore_n 1, 1) := by decide +kernel
theorem dX12_eldestSitting_2 : decode cX12_eldestSitting 2 = .ok (.iconst 0, 1) := by decide +kernel
theorem dX12_eldestSitting_3 : decode cX12_eldestSitting 3 = .ok (.istore_n 2, 1) := by decide +kernel
theorem dX12_eldestSitting_4 : decode cX12_eldestSitting 4 = .ok (.iload_n 2, 1) := by decide +kernel
theorem dX12_eldestSitting_5 : decode cX12_eldestSitting 5 = .ok (.aload_n 0, 1) := by decide +kernel
theorem dX12_eldestSitting_6 : decode cX12_eldestSitting 6 = .ok (.getfield 42, 3) := by decide +kernel
theorem dX12_eldestSitting_9 : decode cX12_eldestSitting 9 = .ok (.iconst 1, 1) := by decide +kernel
theorem dX12_eldestSitting_10 : decode cX12_eldestSitting 10 = .ok (.iaload, 1) := by decide +kernel
theorem dX12_eldestSitting_11 : decode cX12_eldestSitting 11 = .ok (.if_icmp .ge 41, 3) := by decide +kernel
theorem dX12_eldestSitting_14 : decode cX12_eldestSitting 14 = .ok (.aload_n 0, 1) := by decide +kernel
theorem dX12_eldestSitting_15 : decode cX12_eldestSitting 15 = .ok (.getfield 106, 3) := by decide +kernel
theorem dX12_eldestSitting_18 : decode cX12_eldestSitting 18 = .ok (.iload_n 2, 1) := by decide +kernel
theorem dX12_eldestSitting_19 : decode cX12_eldestSitting 19 = .ok (.iaload, 1) := by decide +kernel
theorem dX12_eldestSitting_20 : decode cX12_eldestSitting 20 = .ok (.iconst (-1), 1) := by decide +kernel
theorem dX12_eldestSitting_21 : decode cX12_eldestSitting 21 = .ok (.if_icmp .eq 25, 3) := by decide +kernel
theorem dX12_eldestSitting_24 : decode cX12_eldestSitting 24 = .ok (.iload_n 1, 1) := by decide +kernel
theorem dX12_eldestSitting_25 : decode cX12_eldestSitting 25 = .ok (.iconst (-1), 1) := by decide +kernel
theorem dX12_eldestSitting_26 : decode cX12_eldestSitting 26 = .ok (.if_icmp .eq 18, 3) := by decide +kernel
theorem dX12_eldestSitting_29 : decode cX12_eldestSitting 29 = .ok (.aload_n 0, 1) := by decide +kernel
theorem dX12_eldestSitting_30 : decode cX12_eldestSitting 30 = .ok (.getfield 102, 3) := by decide +kernel
theorem dX12_eldestSitting_33 : decode cX12_eldestSitting 33 = .ok (.iload_n 2, 1) := by decide +kernel
theorem dX12_eldestSitting_34 : decode cX12_eldestSitting 34 = .ok (.iaload, 1) := by decide +kernel
theorem dX12_eldestSitting_35 : decode cX12_eldestSitting 35 = .ok (.aload_n 0, 1) := by decide +kernel
theorem dX12_eldestSitting_36 : decode cX12_eldestSitting 36 = .ok (.getfield 102, 3) := by decide +kernel
theorem dX12_eldestSitting_39 : decode cX12_eldestSitting 39 = .ok (.iload_n 1, 1) := by decide +kernel
theorem dX12_eldestSitting_40 : decode cX12_eldestSitting 40 = .ok (.iaload, 1) := by decide +kernel
theorem dX12_eldestSitting_41 : decode cX12_eldestSitting 41 = .ok (.if_icmp .le 5, 3) := by decide +kernel
theorem dX12_eldestSitting_44 : decode cX12_eldestSitting 44 = .ok (.iload_n 2, 1) := by decide +kernel
theorem dX12_eldestSitting_45 : decode cX12_eldestSitting 45 = .ok (.istore_n 1, 1) := by decide +kernel
theorem dX12_eldestSitting_46 : decode cX12_eldestSitting 46 = .ok (.iinc 2 1, 3) := by decide +kernel
theorem dX12_eldestSitting_49 : decode cX12_eldestSitting 49 = .ok (.goto (-45), 3) := by decide +kernel
theorem dX12_eldestSitting_52 : decode cX12_eldestSitting 52 = .ok (.iload_n 1, 1) := by decide +kernel
theorem dX12_eldestSitting_53 : decode cX12_eldestSitting 53 = .ok (.ireturn, 1) := by decide +kernel
theorem dX12_mostStone_0 : decode cX12_mostStone 0 = .ok (.iconst (-1), 1) := by decide +kernel
theorem dX12_mostStone_1 : decode cX12_mostStone 1 = .ok (.istore_n 1, 1) := by decide +kernel
theorem dX12_mostStone_2 : decode cX12_mostStone 2 = .ok (.iconst 0, 1) := by decide +kernel
theorem dX12_mostStone_3 : decode cX12_mostStone 3 = .ok (.istore_n 2, 1) := by decide +kernel
theorem dX12_mostStone_4 : decode cX12_mostStone 4 = .ok (.iload_n 2, 1) := by decide +kernel
theorem dX12_mostStone_5 : decode cX12_mostStone 5 = .ok (.aload_n 0, 1) := by decide +kernel
theorem dX12_mostStone_6 : decode cX12_mostStone 6 = .ok (.getfield 42, 3) := by decide +kernel
theorem dX12_mostStone_9 : decode cX12_mostStone 9 = .ok (.iconst 0, 1) := by decide +kernel
theorem dX12_mostStone_10 : decode cX12_mostStone 10 = .ok (.iaload, 1) := by decide +kernel
theorem dX12_mostStone_11 : decode cX12_mostStone 11 = .ok (.if_icmp .ge 31, 3) := by decide +kernel
theorem dX12_mostStone_14 : decode cX12_mostStone 14 = .ok (.iload_n 1, 1) := by decide +kernel
theorem dX12_mostStone_15 : decode cX12_mostStone 15 = .ok (.iconst (-1), 1) := by decide +kernel
theorem dX12_mostStone_16 : decode cX12_mostStone 16 = .ok (.if_icmp .eq 18, 3) := by decide +kernel
theorem dX12_mostStone_19 : decode cX12_mostStone 19 = .ok (.aload_n 0, 1) := by decide +kernel
theorem dX12_mostStone_20 : decode cX12_mostStone 20 = .ok (.getfield 94, 3) := by decide +kernel
theorem dX12_mostStone_23 : decode cX12_mostStone 23 = .ok (.iload_n 2, 1) := by decide +kernel
theorem dX12_mostStone_24 : decode cX12_mostStone 24 = .ok (.iaload, 1) := by decide +kernel
theorem dX12_mostStone_25 : decode cX12_mostStone 25 = .ok (.aload_n 0, 1) := by decide +kernel
theorem dX12_mostStone_26 : decode cX12_mostStone 26 = .ok (.getfield 94, 3) := by decide +kernel
theorem dX12_mostStone_29 : decode cX12_mostStone 29 = .ok (.iload_n 1, 1) := by decide +kernel
theorem dX12_mostStone_30 : decode cX12_mostStone 30 = .ok (.iaload, 1) := by decide +kernel
theorem dX12_mostStone_31 : decode cX12_mostStone 31 = .ok (.if_icmp .le 5, 3) := by decide +kernel
theorem dX12_mostStone_34 : decode cX12_mostStone 34 = .ok (.iload_n 2, 1) := by decide +kernel
theorem dX12_mostStone_35 : decode cX12_mostStone 35 = .ok (.istore_n 1, 1) := by decide +kernel
theorem dX12_mostStone_36 : decode cX12_mostStone 36 = .ok (.iinc 2 1, 3) := by decide +kernel
theorem dX12_mostStone_39 : decode cX12_mostStone 39 = .ok (.goto (-35), 3) := by decide +kernel
theorem dX12_mostStone_42 : decode cX12_mostStone 42 = .ok (.iload_n 1, 1) := by decide +kernel
theorem dX12_mostStone_43 : decode cX12_mostStone 43 = .ok (.ireturn, 1) := by decide +kernel
set_option maxRecDepth 20000 in
theorem ggX12_greatest_X12_isIn : GoodIn wsX12_greatest wsX12_isIn := goodIn_r _ [7] (by decide +kernel) (by decide +kernel)
set_option maxRecDepth 20000 in
theorem gX12_greatest_X12_isIn : GoodIn wsX12_greatest (va_wsS RX12 166 yX12_isIn wsX12_isIn) := goodIn_app (goodIn_of _ (by decide +kernel)) ggX12_greatest_X12_isIn
set_option maxRecDepth 20000 in
theorem ggX12_greatest_X12_fail : GoodIn wsX12_greatest wsX12_fail := goodIn_r _ [11, 1, 113, 114, 115, 116, 117, 118, 119, 120, 121, 122, 123, 124, 125, 126, 127, 128, 129, 130, 131, 132, 133, 134, 135, 136, 137, 138, 139, 140, 141, 142, 143, 144, 145, 146, 147, 148, 149, 150, 151, 152, 153, 154, 155, 156, 157, 158, 159, 160, 161, 162, 163, 164, 165, 166, 167, 168, 169, 170, 171, 172, 173, 174, 175, 176, 177] (by decide +kernel) (by decide +kernel)
set_option maxRecDepth 20000 in
theorem gX12_greatest_X12_fail : GoodIn wsX12_greatest (wsV RX12 310 RX12 yX12_fail wsX12_fail) := goodIn_app (goodIn_of _ (by decide +kernel)) ggX12_greatest_X12_fail
set_option maxRecDepth 20000 in
theorem ggX12_greatest_X12_pack : GoodIn wsX12_greatest wsX12_pack := goodIn_r _ [15, 16, 17, 18, 19, 20, 21, 22, 23, 24, 113, 114, 115, 116, 117, 118, 119, 120, 121, 122, 123, 124, 125, 126, 127, 128, 129, 130, 131, 132, 133, 134, 135, 136, 137, 138, 139, 140, 141, 142, 143, 144, 145, 146, 147, 148, 149, 150, 151, 152, 153, 154, 155, 156, 157, 158, 159, 160, 161, 162, 163, 164, 165, 166, 167, 168, 169, 170, 171, 172, 173, 174, 175, 176, 177] (by decide +kernel) (by decide +kernel)
set_option maxRecDepth 20000 in
theorem gX12_greatest_X12_pack : GoodIn wsX12_greatest (wsV RX12 420 RX12 yX12_pack wsX12_pack) := goodIn_app (goodIn_of _ (by decide +kernel)) ggX12_greatest_X12_pack
set_option maxRecDepth 20000 in
theorem ggX12_greatest_X12_goOn : GoodIn wsX12_greatest wsX12_goOn := goodIn_r _ [28, 16, 29, 30, 31, 6, 32, 33, 34, 35, 36, 37, 38, 39, 40, 41, 42, 19, 43, 44, 45, 46, 17, 18, 47, 48, 49, 50, 24, 51, 52, 53, 54, 55, 56, 57, 58, 59, 60, 61, 62, 63, 64, 65, 66, 67, 68, 69, 70, 71, 72, 73, 74, 75, 22, 23, 76, 20, 21, 77, 78, 79, 80, 81, 82, 83, 84, 85, 86, 87, 88, 89, 90, 91, 92, 93, 94, 95, 96, 97, 98, 99, 100, 113, 114, 115, 116, 117, 118, 119, 120, 121, 122, 123, 124, 125, 126, 127, 128, 129, 130, 131, 132, 133, 134, 135, 136, 137, 138, 139, 140, 141, 142, 143, 144, 145, 146, 147, 148, 149, 150, 151, 152, 153, 154, 155, 156, 157, 158, 159, 160, 161, 162, 163, 164, 165, 166, 167, 168, 169, 170, 171, 172, 173, 174, 175, 176, 177] (by decide +kernel) (by decide +kernel)
set_option maxRecDepth 20000 in
theorem gX12_greatest_X12_goOn : GoodIn wsX12_greatest (wsV RX12 432 RX12 yX12_goOn wsX12_goOn) := goodIn_app (goodIn_of _ (by decide +kernel)) ggX12_greatest_X12_goOn
set_option maxRecDepth 20000 in
theorem ggX12_greatest_X12_eldestSitting : GoodIn wsX12_greatest wsX12_eldestSitting := goodIn_r _ [104, 33, 24, 22, 113, 114, 115, 116, 117, 118, 119, 120, 121, 122, 123, 124, 125, 126, 127, 128, 129, 130, 131, 132, 133, 134, 135, 136, 137, 138, 139, 140, 141, 142, 143, 144, 145, 146, 147, 148, 149, 150, 151, 152, 153, 154, 155, 156, 157, 158, 159, 160, 161, 162, 163, 164, 165, 166, 167, 168, 169, 170, 171, 172, 173, 174, 175, 176, 177] (by decide +kernel) (by decide +kernel)
set_option maxRecDepth 20000 in
theorem gX12_greatest_X12_eldestSitting : GoodIn wsX12_greatest (wsV RX12 460 RX12 yX12_eldestSitting wsX12_eldestSitting) := goodIn_app (goodIn_of _ (by decide +kernel)) ggX12_greatest_X12_eldestSitting
set_option maxRecDepth 20000 in
theorem ggX12_greatest_X12_mostStone : GoodIn wsX12_greatest wsX12_mostStone := goodIn_r _ [108, 33, 19, 113, 114, 115, 116, 117, 118, 119, 120, 121, 122, 123, 124, 125, 126, 127, 128, 129, 130, 131, 132, 133, 134, 135, 136, 137, 138, 139, 140, 141, 142, 143, 144, 145, 146, 147, 148, 149, 150, 151, 152, 153, 154, 155, 156, 157, 158, 159, 160, 161, 162, 163, 164, 165, 166, 167, 168, 169, 170, 171, 172, 173, 174, 175, 176, 177] (by decide +kernel) (by decide +kernel)
set_option maxRecDepth 20000 in
theorem gX12_greatest_X12_mostStone : GoodIn wsX12_greatest (wsV RX12 463 RX12 yX12_mostStone wsX12_mostStone) := goodIn_app (goodIn_of _ (by decide +kernel)) ggX12_greatest_X12_mostStone
set_option maxRecDepth 20000 in
theorem ggX12_greatest_X12_unpack : GoodIn wsX12_greatest wsX12_unpack := goodIn_r _ [112, 16, 17, 18, 19, 20, 21, 22, 23, 24, 113, 114, 115, 116, 117, 118, 119, 120, 121, 122, 123, 124, 125, 126, 127, 128, 129, 130, 131, 132, 133, 134, 135, 136, 137, 138, 139, 140, 141, 142, 143, 144, 145, 146, 147, 148, 149, 150, 151, 152, 153, 154, 155, 156, 157, 158, 159, 160, 161, 162, 163, 164, 165, 166, 167, 168, 169, 170, 171, 172, 173, 174, 175, 176, 177] (by decide +kernel) (by decide +kernel)
set_option maxRecDepth 20000 in
theorem gX12_greatest_X12_unpack : GoodIn wsX12_greatest (wsV RX12 446 RX12 yX12_unpack wsX12_unpack) := goodIn_app (goodIn_of _ (by decide +kernel)) ggX12_greatest_X12_unpack
theorem dX12_greatest_0 : decode cX12_greatest 0 = .ok (.aload_n 0, 1) := by decide +kernel
theorem dX12_greatest_1 : decode cX12_greatest 1 = .ok (.iconst 0, 1) := by decide +kernel
theorem dX12_greatest_2 : decode cX12_greatest 2 = .ok (.putfield 163, 3) := by decide +kernel
theorem dX12_greatest_5 : decode cX12_greatest 5 = .ok (.iload_n 2, 1) := by decide +kernel
theorem dX12_greatest_6 : decode cX12_greatest 6 = .ok (.i2l, 1) := by decide +kernel
theorem dX12_greatest_7 : decode cX12_greatest 7 = .ok (.lconst 0, 1) := by decide +kernel
theorem dX12_greatest_8 : decode cX12_greatest 8 = .ok (.lconst 1, 1) := by decide +kernel
theorem dX12_greatest_9 : decode cX12_greatest 9 = .ok (.invokestatic 166, 3) := by decide +kernel
theorem dX12_greatest_12 : decode cX12_greatest 12 = .ok (.ifCond .ne 9, 3) := by decide +kernel
theorem dX12_greatest_15 : decode cX12_greatest 15 = .ok (.aload_n 0, 1) := by decide +kernel
theorem dX12_greatest_16 : decode cX12_greatest 16 = .ok (.iconst 1, 1) := by decide +kernel
theorem dX12_greatest_17 : decode cX12_greatest 17 = .ok (.invokevirtual 310, 3) := by decide +kernel
theorem dX12_greatest_20 : decode cX12_greatest 20 = .ok (.ireturn, 1) := by decide +kernel
theorem dX12_greatest_21 : decode cX12_greatest 21 = .ok (.iload_n 1, 1) := by decide +kernel
theorem dX12_greatest_22 : decode cX12_greatest 22 = .ok (.i2l, 1) := by decide +kernel
theorem dX12_greatest_23 : decode cX12_greatest 23 = .ok (.lconst 0, 1) := by decide +kernel
theorem dX12_greatest_24 : decode cX12_greatest 24 = .ok (.ldc2_w 451, 3) := by decide +kernel
theorem dX12_greatest_27 : decode cX12_greatest 27 = .ok (.invokestatic 166, 3) := by decide +kernel
theorem dX12_greatest_30 : decode cX12_greatest 30 = .ok (.ifCond .ne 9, 3) := by decide +kernel
theorem dX12_greatest_33 : decode cX12_greatest 33 = .ok (.aload_n 0, 1) := by decide +kernel
theorem dX12_greatest_34 : decode cX12_greatest 34 = .ok (.iconst 2, 1) := by decide +kernel
theorem dX12_greatest_35 : decode cX12_greatest 35 = .ok (.invokevirtual 310, 3) := by decide +kernel
theorem dX12_greatest_38 : decode cX12_greatest 38 = .ok (.ireturn, 1) := by decide +kernel
theorem dX12_greatest_39 : decode cX12_greatest 39 = .ok (.aload_n 0, 1) := by decide +kernel
theorem dX12_greatest_40 : decode cX12_greatest 40 = .ok (.aload_n 0, 1) := by decide +kernel
theorem dX12_greatest_41 : decode cX12_greatest 41 = .ok (.getfield 118, 3) := by decide +kernel
theorem dX12_greatest_44 : decode cX12_greatest 44 = .ok (.iconst 0, 1) := by decide +kernel
theorem dX12_greatest_45 : decode cX12_greatest 45 = .ok (.invokevirtual 420, 3) := by decide +kernel
theorem dX12_greatest_48 : decode cX12_greatest 48 = .ok (.aload_n 0, 1) := by decide +kernel
theorem dX12_greatest_49 : decode cX12_greatest 49 = .ok (.iload_n 1, 1) := by decide +kernel
theorem dX12_greatest_50 : decode cX12_greatest 50 = .ok (.invokevirtual 432, 3) := by decide +kernel
theorem dX12_greatest_53 : decode cX12_greatest 53 = .ok (.iload_n 2, 1) := by decide +kernel
theorem dX12_greatest_54 : decode cX12_greatest 54 = .ok (.ifCond .ne 10, 3) := by decide +kernel
theorem dX12_greatest_57 : decode cX12_greatest 57 = .ok (.aload_n 0, 1) := by decide +kernel
theorem dX12_greatest_58 : decode cX12_greatest 58 = .ok (.invokevirtual 460, 3) := by decide +kernel
theorem dX12_greatest_61 : decode cX12_greatest 61 = .ok (.goto 7, 3) := by decide +kernel
theorem dX12_greatest_64 : decode cX12_greatest 64 = .ok (.aload_n 0, 1) := by decide +kernel
theorem dX12_greatest_65 : decode cX12_greatest 65 = .ok (.invokevirtual 463, 3) := by decide +kernel
theorem dX12_greatest_68 : decode cX12_greatest 68 = .ok (.istore_n 3, 1) := by decide +kernel
theorem dX12_greatest_69 : decode cX12_greatest 69 = .ok (.aload_n 0, 1) := by decide +kernel
theorem dX12_greatest_70 : decode cX12_greatest 70 = .ok (.aload_n 0, 1) := by decide +kernel
theorem dX12_greatest_71 : decode cX12_greatest 71 = .ok (.getfield 118, 3) := by decide +kernel
theorem dX12_greatest_74 : decode cX12_greatest 74 = .ok (.iconst 0, 1) := by decide +kernel
theorem dX12_greatest_75 : decode cX12_greatest 75 = .ok (.invokevirtual 446, 3) := by decide +kernel
theorem dX12_greatest_78 : decode cX12_greatest 78 = .ok (.iload_n 3, 1) := by decide +kernel
theorem dX12_greatest_79 : decode cX12_greatest 79 = .ok (.ireturn, 1) := by decide +kernel
set_option maxRecDepth 20000 in
theorem ggX12_empty_X12_isIn : GoodIn wsX12_empty wsX12_isIn := goodIn_r _ [7] (by decide +kernel) (by decide +kernel)
set_option maxRecDepth 20000 in
theorem gX12_empty_X12_isIn : GoodIn wsX12_empty (va_wsS RX12 166 yX12_isIn wsX12_isIn) := goodIn_app (goodIn_of _ (by decide +kernel)) ggX12_empty_X12_isIn
set_option maxRecDepth 20000 in
theorem ggX12_empty_X12_fail : GoodIn wsX12_empty wsX12_fail := goodIn_r _ [11, 1, 109, 110, 111, 112, 113, 114, 115, 116, 117, 118, 119, 120, 121, 122, 123, 124, 125, 126, 127, 128, 129, 130, 131, 132, 133, 134, 135, 136, 137, 138, 139, 140, 141, 142, 143, 144, 145, 146, 147, 148, 149, 150, 151, 152, 153, 154, 155, 156, 157, 158, 159, 160, 161, 162, 163, 164, 165, 166, 167, 168, 169, 170, 171, 172, 173] (by decide +kernel) (by decide +kernel)
set_option maxRecDepth 20000 in
theorem gX12_empty_X12_fail : GoodIn wsX12_empty (wsV RX12 310 RX12 yX12_fail wsX12_fail) := goodIn_app (goodIn_of _ (by decide +kernel)) ggX12_empty_X12_fail
set_option maxRecDepth 20000 in
theorem ggX12_empty_X12_pack : GoodIn wsX12_empty wsX12_pack := goodIn_r _ [15, 16, 17, 18, 19, 20, 21, 22, 23, 24, 109, 110, 111, 112, 113, 114, 115, 116, 117, 118, 119, 120, 121, 122, 123, 124, 125, 126, 127, 128, 129, 130, 131, 132, 133, 134, 135, 136, 137, 138, 139, 140, 141, 142, 143, 144, 145, 146, 147, 148, 149, 150, 151, 152, 153, 154, 155, 156, 157, 158, 159, 160, 161, 162, 163, 164, 165, 166, 167, 168, 169, 170, 171, 172, 173] (by decide +kernel) (by decide +kernel)
set_option maxRecDepth 20000 in
theorem gX12_empty_X12_pack : GoodIn wsX12_empty (wsV RX12 420 RX12 yX12_pack wsX12_pack) := goodIn_app (goodIn_of _ (by decide +kernel)) ggX12_empty_X12_pack
set_option maxRecDepth 20000 in
theorem ggX12_empty_X12_goOn : GoodIn wsX12_empty wsX12_goOn := goodIn_r _ [28, 16, 29, 30, 31, 6, 32, 33, 34, 35, 36, 37, 38, 39, 40, 41, 42, 19, 43, 44, 45, 46, 17, 18, 47, 48, 49, 50, 24, 51, 52, 53, 54, 55, 56, 57, 58, 59, 60, 61, 62, 63, 64, 65, 66, 67, 68, 69, 70, 71, 72, 73, 74, 75, 22, 23, 76, 20, 21, 77, 78, 79, 80, 81, 82, 83, 84, 85, 86, 87, 88, 89, 90, 91, 92, 93, 94, 95, 96, 97, 98, 99, 100, 109, 110, 111, 112, 113, 114, 115, 116, 117, 118, 119, 120, 121, 122, 123, 124, 125, 126, 127, 128, 129, 130, 131, 132, 133, 134, 135, 136, 137, 138, 139, 140, 141, 142, 143, 144, 145, 146, 147, 148, 149, 150, 151, 152, 153, 154, 155, 156, 157, 158, 159, 160, 161, 162, 163, 164, 165, 166, 167, 168, 169, 170, 171, 172, 173] (by decide +kernel) (by decide +kernel)
set_option maxRecDepth 20000 in
theorem gX12_empty_X12_goOn : GoodIn wsX12_empty (wsV RX12 432 RX12 yX12_goOn wsX12_goOn) := goodIn_app (goodIn_of _ (by decide +kernel)) ggX12_empty_X12_goOn
set_option maxRecDepth 20000 in
theorem ggX12_empty_X12_sitting : GoodIn wsX12_empty wsX12_sitting := goodIn_r _ [104, 33, 24, 109, 110, 111, 112, 113, 114, 115, 116, 117, 118, 119, 120, 121, 122, 123, 124, 125, 126, 127, 128, 129, 130, 131, 132, 133, 134, 135, 136, 137, 138, 139, 140, 141, 142, 143, 144, 145, 146, 147, 148, 149, 150, 151, 152, 153, 154, 155, 156, 157, 158, 159, 160, 161, 162, 163, 164, 165, 166, 167, 168, 169, 170, 171, 172, 173] (by decide +kernel) (by decide +kernel)
set_option maxRecDepth 20000 in
theorem gX12_empty_X12_sitting : GoodIn wsX12_empty (wsV RX12 399 RX12 yX12_sitting wsX12_sitting) := goodIn_app (goodIn_of _ (by decide +kernel)) ggX12_empty_X12_sitting
set_option maxRecDepth 20000 in
theorem ggX12_empty_X12_unpack : GoodIn wsX12_empty wsX12_unpack := goodIn_r _ [108, 16, 17, 18, 19, 20, 21, 22, 23, 24, 109, 110, 111, 112, 113, 114, 115, 116, 117, 118, 119, 120, 121, 122, 123, 124, 125, 126, 127, 128, 129, 130, 131, 132, 133, 134, 135, 136, 137, 138, 139, 140, 141, 142, 143, 144, 145, 146, 147, 148, 149, 150, 151, 152, 153, 154, 155, 156, 157, 158, 159, 160, 161, 162, 163, 164, 165, 166, 167, 168, 169, 170, 171, 172, 173] (by decide +kernel) (by decide +kernel)
set_option maxRecDepth 20000 in
theorem gX12_empty_X12_unpack : GoodIn wsX12_empty (wsV RX12 446 RX12 yX12_unpack wsX12_unpack) := goodIn_app (goodIn_of _ (by decide +kernel)) ggX12_empty_X12_unpack
theorem dX12_empty_0 : decode cX12_empty 0 = .ok (.aload_n 0, 1) := by decide +kernel
theorem dX12_empty_1 : decode cX12_empty 1 = .ok (.iconst 0, 1) := by decide +kernel
theorem dX12_empty_2 : decode cX12_empty 2 = .ok (.putfield 163, 3) := by decide +kernel
theorem dX12_empty_5 : decode cX12_empty 5 = .ok (.iload_n 1, 1) := by decide +kernel
theorem dX12_empty_6 : decode cX12_empty 6 = .ok (.i2l, 1) := by decide +kernel
theorem dX12_empty_7 : decode cX12_empty 7 = .ok (.lconst 1, 1) := by decide +kernel
theorem dX12_empty_8 : decode cX12_empty 8 = .ok (.ldc2_w 451, 3) := by decide +kernel
theorem dX12_empty_11 : decode cX12_empty 11 = .ok (.invokestatic 166, 3) := by decide +kernel
theorem dX12_empty_14 : decode cX12_empty 14 = .ok (.ifCond .ne 9, 3) := by decide +kernel
theorem dX12_empty_17 : decode cX12_empty 17 = .ok (.aload_n 0, 1) := by decide +kernel
theorem dX12_empty_18 : decode cX12_empty 18 = .ok (.iconst 1, 1) := by decide +kernel
theorem dX12_empty_19 : decode cX12_empty 19 = .ok (.invokevirtual 310, 3) := by decide +kernel
theorem dX12_empty_22 : decode cX12_empty 22 = .ok (.ireturn, 1) := by decide +kernel
theorem dX12_empty_23 : decode cX12_empty 23 = .ok (.aload_n 0, 1) := by decide +kernel
theorem dX12_empty_24 : decode cX12_empty 24 = .ok (.aload_n 0, 1) := by decide +kernel
theorem dX12_empty_25 : decode cX12_empty 25 = .ok (.getfield 118, 3) := by decide +kernel
theorem dX12_empty_28 : decode cX12_empty 28 = .ok (.iconst 0, 1) := by decide +kernel
theorem dX12_empty_29 : decode cX12_empty 29 = .ok (.invokevirtual 420, 3) := by decide +kernel
theorem dX12_empty_32 : decode cX12_empty 32 = .ok (.iconst 0, 1) := by decide +kernel
theorem dX12_empty_33 : decode cX12_empty 33 = .ok (.istore_n 2, 1) := by decide +kernel
theorem dX12_empty_34 : decode cX12_empty 34 = .ok (.iconst 0, 1) := by decide +kernel
theorem dX12_empty_35 : decode cX12_empty 35 = .ok (.istore_n 3, 1) := by decide +kernel
theorem dX12_empty_36 : decode cX12_empty 36 = .ok (.iload_n 3, 1) := by decide +kernel
theorem dX12_empty_37 : decode cX12_empty 37 = .ok (.iload_n 1, 1) := by decide +kernel
theorem dX12_empty_38 : decode cX12_empty 38 = .ok (.if_icmp .ge 29, 3) := by decide +kernel
theorem dX12_empty_41 : decode cX12_empty 41 = .ok (.aload_n 0, 1) := by decide +kernel
theorem dX12_empty_42 : decode cX12_empty 42 = .ok (.iconst 1, 1) := by decide +kernel
theorem dX12_empty_43 : decode cX12_empty 43 = .ok (.invokevirtual 432, 3) := by decide +kernel
theorem dX12_empty_46 : decode cX12_empty 46 = .ok (.iload_n 2, 1) := by decide +kernel
theorem dX12_empty_47 : decode cX12_empty 47 = .ok (.aload_n 0, 1) := by decide +kernel
theorem dX12_empty_48 : decode cX12_empty 48 = .ok (.invokevirtual 399, 3) := by decide +kernel
theorem dX12_empty_51 : decode cX12_empty 51 = .ok (.ifCond .ne 7, 3) := by decide +kernel
theorem dX12_empty_54 : decode cX12_empty 54 = .ok (.iconst 1, 1) := by decide +kernel
theorem dX12_empty_55 : decode cX12_empty 55 = .ok (.goto 4, 3) := by decide +kernel
theorem dX12_empty_58 : decode cX12_empty 58 = .ok (.iconst 0, 1) := by decide +kernel
theorem dX12_empty_59 : decode cX12_empty 59 = .ok (.iadd, 1) := by decide +kernel
theorem dX12_empty_60 : decode cX12_empty 60 = .ok (.istore_n 2, 1) := by decide +kernel
theorem dX12_empty_61 : decode cX12_empty 61 = .ok (.iinc 3 1, 3) := by decide +kernel
theorem dX12_empty_64 : decode cX12_empty 64 = .ok (.goto (-28), 3) := by decide +kernel
theorem dX12_empty_67 : decode cX12_empty 67 = .ok (.aload_n 0, 1) := by decide +kernel
theorem dX12_empty_68 : decode cX12_empty 68 = .ok (.aload_n 0, 1) := by decide +kernel
theorem dX12_empty_69 : decode cX12_empty 69 = .ok (.getfield 118, 3) := by decide +kernel
theorem dX12_empty_72 : decode cX12_empty 72 = .ok (.iconst 0, 1) := by decide +kernel
theorem dX12_empty_73 : decode cX12_empty 73 = .ok (.invokevirtual 446, 3) := by decide +kernel
theorem dX12_empty_76 : decode cX12_empty 76 = .ok (.iload_n 2, 1) := by decide +kernel
theorem dX12_empty_77 : decode cX12_empty 77 = .ok (.ireturn, 1) := by decide +kernel
theorem dX12_homes_0 : decode cX12_homes 0 = .ok (.aload_n 0, 1) := by decide +kernel
theorem dX12_homes_1 : decode cX12_homes 1 = .ok (.iconst 0, 1) := by decide +kernel
theorem dX12_homes_2 : decode cX12_homes 2 = .ok (.putfield 163, 3) := by decide +kernel
theorem dX12_homes_5 : decode cX12_homes 5 = .ok (.iconst 0, 1) := by decide +kernel
theorem dX12_homes_6 : decode cX12_homes 6 = .ok (.istore_n 1, 1) := by decide +kernel
theorem dX12_homes_7 : decode cX12_homes 7 = .ok (.iconst 0, 1) := by decide +kernel
theorem dX12_homes_8 : decode cX12_homes 8 = .ok (.istore_n 2, 1) := by decide +kernel
theorem dX12_homes_9 : decode cX12_homes 9 = .ok (.iload_n 2, 1) := by decide +kernel
theorem dX12_homes_10 : decode cX12_homes 10 = .ok (.aload_n 0, 1) := by decide +kernel
theorem dX12_homes_11 : decode cX12_homes 11 = .ok (.getfield 42, 3) := by decide +kernel
theorem dX12_homes_14 : decode cX12_homes 14 = .ok (.iconst 1, 1) := by decide +kernel
theorem dX12_homes_15 : decode cX12_homes 15 = .ok (.iaload, 1) := by decide +kernel
theorem dX12_homes_16 : decode cX12_homes 16 = .ok (.if_icmp .ge 44, 3) := by decide +kernel
theorem dX12_homes_19 : decode cX12_homes 19 = .ok (.iload_n 1, 1) := by decide +kernel
theorem dX12_homes_20 : decode cX12_homes 20 = .ok (.aload_n 0, 1) := by decide +kernel
theorem dX12_homes_21 : decode cX12_homes 21 = .ok (.getfield 106, 3) := by decide +kernel
theorem dX12_homes_24 : decode cX12_homes 24 = .ok (.iload_n 2, 1) := by decide +kernel
theorem dX12_homes_25 : decode cX12_homes 25 = .ok (.iaload, 1) := by decide +kernel
theorem dX12_homes_26 : decode cX12_homes 26 = .ok (.iconst (-1), 1) := by decide +kernel
theorem dX12_homes_27 : decode cX12_homes 27 = .ok (.if_icmp .eq 24, 3) := by decide +kernel
theorem dX12_homes_30 : decode cX12_homes 30 = .ok (.aload_n 0, 1) := by decide +kernel
theorem dX12_homes_31 : decode cX12_homes 31 = .ok (.getfield 106, 3) := by decide +kernel
theorem dX12_homes_34 : decode cX12_homes 34 = .ok (.iload_n 2, 1) := by decide +kernel
theorem dX12_homes_35 : decode cX12_homes 35 = .ok (.iaload, 1) := by decide +kernel
theorem dX12_homes_36 : decode cX12_homes 36 = .ok (.aload_n 0, 1) := by decide +kernel
theorem dX12_homes_37 : decode cX12_homes 37 = .ok (.getfield 104, 3) := by decide +kernel
theorem dX12_homes_40 : decode cX12_homes 40 = .ok (.iload_n 2, 1) := by decide +kernel
theorem dX12_homes_41 : decode cX12_homes 41 = .ok (.iaload, 1) := by decide +kernel
theorem dX12_homes_42 : decode cX12_homes 42 = .ok (.if_icmp .ne 9, 3) := by decide +kernel
theorem dX12_homes_45 : decode cX12_homes 45 = .ok (.iconst 1, 1) := by decide +kernel
theorem dX12_homes_46 : decode cX12_homes 46 = .ok (.iload_n 2, 1) := by decide +kernel
theorem dX12_homes_47 : decode cX12_homes 47 = .ok (.ishl, 1) := by decide +kernel
theorem dX12_homes_48 : decode cX12_homes 48 = .ok (.goto 4, 3) := by decide +kernel
theorem dX12_homes_51 : decode cX12_homes 51 = .ok (.iconst 0, 1) := by decide +kernel
theorem dX12_homes_52 : decode cX12_homes 52 = .ok (.ior, 1) := by decide +kernel
theorem dX12_homes_53 : decode cX12_homes 53 = .ok (.istore_n 1, 1) := by decide +kernel
theorem dX12_homes_54 : decode cX12_homes 54 = .ok (.iinc 2 1, 3) := by decide +kernel
theorem dX12_homes_57 : decode cX12_homes 57 = .ok (.goto (-48), 3) := by decide +kernel
theorem dX12_homes_60 : decode cX12_homes 60 = .ok (.iload_n 1, 1) := by decide +kernel
theorem dX12_homes_61 : decode cX12_homes 61 = .ok (.ireturn, 1) := by decide +kernel
set_option maxRecDepth 20000 in
theorem ggX12_unlike_X12_isStone : GoodIn wsX12_unlike wsX12_isStone := goodIn_r _ [13, 14, 15, 16, 12, 17, 36, 37, 38, 39, 40, 41, 42, 43, 44, 45, 46, 47, 48, 49, 50, 51, 52, 53, 54, 55, 56, 57, 58, 59, 60, 61, 62, 63, 64, 65, 66, 67, 68, 69, 70, 71, 72, 73, 74, 75, 76, 77, 78, 79, 80, 81, 82, 83, 84, 85, 86, 87, 88, 89, 90, 91, 92, 93, 94, 95, 96, 97, 98, 99, 100] (by decide +kernel) (by decide +kernel)
set_option maxRecDepth 20000 in
theorem gX12_unlike_X12_isStone : GoodIn wsX12_unlike (wsV RX12 411 RX12 yX12_isStone wsX12_isStone) := goodIn_app (goodIn_of _ (by decide +kernel)) ggX12_unlike_X12_isStone
set_option maxRecDepth 20000 in
theorem ggX12_unlike_X12_isPerson : GoodIn wsX12_unlike wsX12_isPerson := goodIn_r _ [21, 14, 15, 16, 12, 17, 36, 37, 38, 39, 40, 41, 42, 43, 44, 45, 46, 47, 48, 49, 50, 51, 52, 53, 54, 55, 56, 57, 58, 59, 60, 61, 62, 63, 64, 65, 66, 67, 68, 69, 70, 71, 72, 73, 74, 75, 76, 77, 78, 79, 80, 81, 82, 83, 84, 85, 86, 87, 88, 89, 90, 91, 92, 93, 94, 95, 96, 97, 98, 99, 100] (by decide +kernel) (by decide +kernel)
set_option maxRecDepth 20000 in
theorem gX12_unlike_X12_isPerson : GoodIn wsX12_unlike (wsV RX12 417 RX12 yX12_isPerson wsX12_isPerson) := goodIn_app (goodIn_of _ (by decide +kernel)) ggX12_unlike_X12_isPerson
set_option maxRecDepth 20000 in
theorem ggX12_unlike_X12_isIn : GoodIn wsX12_unlike wsX12_isIn := goodIn_r _ [17] (by decide +kernel) (by decide +kernel)
set_option maxRecDepth 20000 in
theorem gX12_unlike_X12_isIn : GoodIn wsX12_unlike (va_wsS RX12 166 yX12_isIn wsX12_isIn) := goodIn_app (goodIn_of _ (by decide +kernel)) ggX12_unlike_X12_isIn
set_option maxRecDepth 20000 in
theorem ggX12_unlike_X12_fail : GoodIn wsX12_unlike wsX12_fail := goodIn_r _ [25, 1, 36, 37, 38, 39, 40, 41, 42, 43, 44, 45, 46, 47, 48, 49, 50, 51, 52, 53, 54, 55, 56, 57, 58, 59, 60, 61, 62, 63, 64, 65, 66, 67, 68, 69, 70, 71, 72, 73, 74, 75, 76, 77, 78, 79, 80, 81, 82, 83, 84, 85, 86, 87, 88, 89, 90, 91, 92, 93, 94, 95, 96, 97, 98, 99, 100] (by decide +kernel) (by decide +kernel)
set_option maxRecDepth 20000 in
theorem gX12_unlike_X12_fail : GoodIn wsX12_unlike (wsV RX12 310 RX12 yX12_fail wsX12_fail) := goodIn_app (goodIn_of _ (by decide +kernel)) ggX12_unlike_X12_fail
set_option maxRecDepth 20000 in
theorem ggX12_unlike_X12_unlikeOf : GoodIn wsX12_unlike wsX12_unlikeOf := goodIn_r _ [29, 30, 3, 4, 5, 6, 7, 31, 8, 36, 37, 38, 39, 40, 41, 42, 43, 44, 45, 46, 47, 48, 49, 50, 51, 52, 53, 54, 55, 56, 57, 58, 59, 60, 61, 62, 63, 64, 65, 66, 67, 68, 69, 70, 71, 72, 73, 74, 75, 76, 77, 78, 79, 80, 81, 82, 83, 84, 85, 86, 87, 88, 89, 90, 91, 92, 93, 94, 95, 96, 97, 98, 99, 100] (by decide +kernel) (by decide +kernel)
set_option maxRecDepth 20000 in
theorem gX12_unlike_X12_unlikeOf : GoodIn wsX12_unlike (wsV RX12 352 RX12 yX12_unlikeOf wsX12_unlikeOf) := goodIn_app (goodIn_of _ (by decide +kernel)) ggX12_unlike_X12_unlikeOf
set_option maxRecDepth 20000 in
theorem ggX12_unlike_X12_unlikePeople : GoodIn wsX12_unlike wsX12_unlikePeople := goodIn_r _ [35, 30, 4, 5, 6, 7, 31, 36, 37, 38, 39, 40, 41, 42, 43, 44, 45, 46, 47, 48, 49, 50, 51, 52, 53, 54, 55, 56, 57, 58, 59, 60, 61, 62, 63, 64, 65, 66, 67, 68, 69, 70, 71, 72, 73, 74, 75, 76, 77, 78, 79, 80, 81, 82, 83, 84, 85, 86, 87, 88, 89, 90, 91, 92, 93, 94, 95, 96, 97, 98, 99, 100] (by decide +kernel) (by decide +kernel)
set_option maxRecDepth 20000 in
theorem gX12_unlike_X12_unlikePeople : GoodIn wsX12_unlike (wsV RX12 390 RX12 yX12_unlikePeople wsX12_unlikePeople) := goodIn_app (goodIn_of _ (by decide +kernel)) ggX12_unlike_X12_unlikePeople
theorem dX12_unlike_0 : decode cX12_unlike 0 = .ok (.aload_n 0, 1) := by decide +kernel
theorem dX12_unlike_1 : decode cX12_unlike 1 = .ok (.iconst 0, 1) := by decide +kernel
theorem dX12_unlike_2 : decode cX12_unlike 2 = .ok (.putfield 163, 3) := by decide +kernel
theorem dX12_unlike_5 : decode cX12_unlike 5 = .ok (.iload_n 3, 1) := by decide +kernel
theorem dX12_unlike_6 : decode cX12_unlike 6 = .ok (.iconst 1, 1) := by decide +kernel
theorem dX12_unlike_7 : decode cX12_unlike 7 = .ok (.if_icmp .ne 11, 3) := by decide +kernel
theorem dX12_unlike_10 : decode cX12_unlike 10 = .ok (.aload_n 0, 1) := by decide +kernel
theorem dX12_unlike_11 : decode cX12_unlike 11 = .ok (.iload_n 1, 1) := by decide +kernel
theorem dX12_unlike_12 : decode cX12_unlike 12 = .ok (.invokevirtual 411, 3) := by decide +kernel
theorem dX12_unlike_15 : decode cX12_unlike 15 = .ok (.goto 8, 3) := by decide +kernel
theorem dX12_unlike_18 : decode cX12_unlike 18 = .ok (.aload_n 0, 1) := by decide +kernel
theorem dX12_unlike_19 : decode cX12_unlike 19 = .ok (.iload_n 1, 1) := by decide +kernel
theorem dX12_unlike_20 : decode cX12_unlike 20 = .ok (.invokevirtual 417, 3) := by decide +kernel
theorem dX12_unlike_23 : decode cX12_unlike 23 = .ok (.istore 4, 2) := by decide +kernel
theorem dX12_unlike_25 : decode cX12_unlike 25 = .ok (.iload_n 3, 1) := by decide +kernel
theorem dX12_unlike_26 : decode cX12_unlike 26 = .ok (.iconst 2, 1) := by decide +kernel
theorem dX12_unlike_27 : decode cX12_unlike 27 = .ok (.if_icmp .ne 11, 3) := by decide +kernel
theorem dX12_unlike_30 : decode cX12_unlike 30 = .ok (.aload_n 0, 1) := by decide +kernel
theorem dX12_unlike_31 : decode cX12_unlike 31 = .ok (.iload_n 2, 1) := by decide +kernel
theorem dX12_unlike_32 : decode cX12_unlike 32 = .ok (.invokevirtual 417, 3) := by decide +kernel
theorem dX12_unlike_35 : decode cX12_unlike 35 = .ok (.goto 8, 3) := by decide +kernel
theorem dX12_unlike_38 : decode cX12_unlike 38 = .ok (.aload_n 0, 1) := by decide +kernel
theorem dX12_unlike_39 : decode cX12_unlike 39 = .ok (.iload_n 2, 1) := by decide +kernel
theorem dX12_unlike_40 : decode cX12_unlike 40 = .ok (.invokevirtual 411, 3) := by decide +kernel
theorem dX12_unlike_43 : decode cX12_unlike 43 = .ok (.istore 5, 2) := by decide +kernel
theorem dX12_unlike_45 : decode cX12_unlike 45 = .ok (.iload_n 3, 1) := by decide +kernel
theorem dX12_unlike_46 : decode cX12_unlike 46 = .ok (.i2l, 1) := by decide +kernel
theorem dX12_unlike_47 : decode cX12_unlike 47 = .ok (.lconst 0, 1) := by decide +kernel
theorem dX12_unlike_48 : decode cX12_unlike 48 = .ok (.ldc2_w 458, 3) := by decide +kernel
theorem dX12_unlike_51 : decode cX12_unlike 51 = .ok (.invokestatic 166, 3) := by decide +kernel
theorem dX12_unlike_54 : decode cX12_unlike 54 = .ok (.ifCond .eq 13, 3) := by decide +kernel
theorem dX12_unlike_57 : decode cX12_unlike 57 = .ok (.iload 4, 2) := by decide +kernel
theorem dX12_unlike_59 : decode cX12_unlike 59 = .ok (.ifCond .eq 8, 3) := by decide +kernel
theorem dX12_unlike_62 : decode cX12_unlike 62 = .ok (.iload 5, 2) := by decide +kernel
theorem dX12_unlike_64 : decode cX12_unlike 64 = .ok (.ifCond .ne 9, 3) := by decide +kernel
theorem dX12_unlike_67 : decode cX12_unlike 67 = .ok (.aload_n 0, 1) := by decide +kernel
theorem dX12_unlike_68 : decode cX12_unlike 68 = .ok (.iconst 1, 1) := by decide +kernel
theorem dX12_unlike_69 : decode cX12_unlike 69 = .ok (.invokevirtual 310, 3) := by decide +kernel
theorem dX12_unlike_72 : decode cX12_unlike 72 = .ok (.ireturn, 1) := by decide +kernel
theorem dX12_unlike_73 : decode cX12_unlike 73 = .ok (.iload_n 3, 1) := by decide +kernel
theorem dX12_unlike_74 : decode cX12_unlike 74 = .ok (.ifCond .ne 12, 3) := by decide +kernel
theorem dX12_unlike_77 : decode cX12_unlike 77 = .ok (.aload_n 0, 1) := by decide +kernel
theorem dX12_unlike_78 : decode cX12_unlike 78 = .ok (.iload_n 1, 1) := by decide +kernel
theorem dX12_unlike_79 : decode cX12_unlike 79 = .ok (.iload_n 2, 1) := by decide +kernel
theorem dX12_unlike_80 : decode cX12_unlike 80 = .ok (.invokevirtual 352, 3) := by decide +kernel
theorem dX12_unlike_83 : decode cX12_unlike 83 = .ok (.goto 50, 3) := by decide +kernel
theorem dX12_unlike_86 : decode cX12_unlike 86 = .ok (.iload_n 3, 1) := by decide +kernel
theorem dX12_unlike_87 : decode cX12_unlike 87 = .ok (.iconst 2, 1) := by decide +kernel
theorem dX12_unlike_88 : decode cX12_unlike 88 = .ok (.if_icmp .ne 12, 3) := by decide +kernel
theorem dX12_unlike_91 : decode cX12_unlike 91 = .ok (.aload_n 0, 1) := by decide +kernel
theorem dX12_unlike_92 : decode cX12_unlike 92 = .ok (.iload_n 1, 1) := by decide +kernel
theorem dX12_unlike_93 : decode cX12_unlike 93 = .ok (.iload_n 2, 1) := by decide +kernel
theorem dX12_unlike_94 : decode cX12_unlike 94 = .ok (.invokevirtual 390, 3) := by decide +kernel
theorem dX12_unlike_97 : decode cX12_unlike 97 = .ok (.goto 36, 3) := by decide +kernel
theorem dX12_unlike_100 : decode cX12_unlike 100 = .ok (.aload_n 0, 1) := by decide +kernel
theorem dX12_unlike_101 : decode cX12_unlike 101 = .ok (.getfield 88, 3) := by decide +kernel
theorem dX12_unlike_104 : decode cX12_unlike 104 = .ok (.iload_n 1, 1) := by decide +kernel
theorem dX12_unlike_105 : decode cX12_unlike 105 = .ok (.iaload, 1) := by decide +kernel
theorem dX12_unlike_106 : decode cX12_unlike 106 = .ok (.aload_n 0, 1) := by decide +kernel
theorem dX12_unlike_107 : decode cX12_unlike 107 = .ok (.getfield 88, 3) := by decide +kernel
theorem dX12_unlike_110 : decode cX12_unlike 110 = .ok (.iload_n 2, 1) := by decide +kernel
theorem dX12_unlike_111 : decode cX12_unlike 111 = .ok (.iaload, 1) := by decide +kernel
theorem dX12_unlike_112 : decode cX12_unlike 112 = .ok (.isub, 1) := by decide +kernel
theorem dX12_unlike_113 : decode cX12_unlike 113 = .ok (.invokestatic 339, 3) := by decide +kernel
theorem dX12_unlike_116 : decode cX12_unlike 116 = .ok (.aload_n 0, 1) := by decide +kernel
theorem dX12_unlike_117 : decode cX12_unlike 117 = .ok (.getfield 91, 3) := by decide +kernel
theorem dX12_unlike_120 : decode cX12_unlike 120 = .ok (.iload_n 1, 1) := by decide +kernel
theorem dX12_unlike_121 : decode cX12_unlike 121 = .ok (.iaload, 1) := by decide +kernel
theorem dX12_unlike_122 : decode cX12_unlike 122 = .ok (.aload_n 0, 1) := by decide +kernel
theorem dX12_unlike_123 : decode cX12_unlike 123 = .ok (.getfield 91, 3) := by decide +kernel
theorem dX12_unlike_126 : decode cX12_unlike 126 = .ok (.iload_n 2, 1) := by decide +kernel
theorem dX12_unlike_127 : decode cX12_unlike 127 = .ok (.iaload, 1) := by decide +kernel
theorem dX12_unlike_128 : decode cX12_unlike 128 = .ok (.isub, 1) := by decide +kernel
theorem dX12_unlike_129 : decode cX12_unlike 129 = .ok (.invokestatic 339, 3) := by decide +kernel
theorem dX12_unlike_132 : decode cX12_unlike 132 = .ok (.iadd, 1) := by decide +kernel
theorem dX12_unlike_133 : decode cX12_unlike 133 = .ok (.ireturn, 1) := by decide +kernel
theorem dX12_goesOn_0 : decode cX12_goesOn 0 = .ok (.aload_n 0, 1) := by decide +kernel
theorem dX12_goesOn_1 : decode cX12_goesOn 1 = .ok (.getfield 121, 3) := by decide +kernel
theorem dX12_goesOn_4 : decode cX12_goesOn 4 = .ok (.iload_n 1, 1) := by decide +kernel
theorem dX12_goesOn_5 : decode cX12_goesOn 5 = .ok (.iconst 1, 1) := by decide +kernel
theorem dX12_goesOn_6 : decode cX12_goesOn 6 = .ok (.iadd, 1) := by decide +kernel
theorem dX12_goesOn_7 : decode cX12_goesOn 7 = .ok (.bipush 8, 2) := by decide +kernel
theorem dX12_goesOn_9 : decode cX12_goesOn 9 = .ok (.ishl, 1) := by decide +kernel
theorem dX12_goesOn_10 : decode cX12_goesOn 10 = .ok (.iload_n 2, 1) := by decide +kernel
theorem dX12_goesOn_11 : decode cX12_goesOn 11 = .ok (.iadd, 1) := by decide +kernel
theorem dX12_goesOn_12 : decode cX12_goesOn 12 = .ok (.iaload, 1) := by decide +kernel
theorem dX12_goesOn_13 : decode cX12_goesOn 13 = .ok (.ireturn, 1) := by decide +kernel
set_option maxRecDepth 20000 in
theorem ggX12_tellSeats_X12_goesOn : GoodIn wsX12_tellSeats wsX12_goesOn := goodIn_r _ [11, 2, 26, 27, 28, 29, 30, 31, 32, 33, 34, 35, 36, 37, 38, 39, 40, 41, 42, 43, 44, 45, 46, 47, 48, 49, 50, 51, 52, 53, 54, 55, 56, 57, 58, 59, 60, 61, 62, 63, 64, 65, 66, 67, 68, 69, 70, 71, 72, 73, 74, 75, 76, 77, 78, 79, 80, 81, 82, 83, 84, 85, 86, 87, 88, 89, 90] (by decide +kernel) (by decide +kernel)
set_option maxRecDepth 20000 in
theorem gX12_tellSeats_X12_goesOn : GoodIn wsX12_tellSeats (wsV RX12 466 RX12 yX12_goesOn wsX12_goesOn) := goodIn_app (goodIn_of _ (by decide +kernel)) ggX12_tellSeats_X12_goesOn
set_option maxRecDepth 20000 in
theorem ggX12_tellSeats_X12_isOf : GoodIn wsX12_tellSeats wsX12_isOf := goodIn_r _ [14] (by decide +kernel) (by decide +kernel)
set_option maxRecDepth 20000 in
theorem gX12_tellSeats_X12_isOf : GoodIn wsX12_tellSeats (va_wsS RX12 396 yX12_isOf wsX12_isOf) := goodIn_app (goodIn_of _ (by decide +kernel)) ggX12_tellSeats_X12_isOf
set_option maxRecDepth 20000 in
theorem ggX12_tellSeats_X12_unlikeOf : GoodIn wsX12_tellSeats wsX12_unlikeOf := goodIn_r _ [18, 19, 20, 21, 22, 5, 23, 24, 25, 26, 27, 28, 29, 30, 31, 32, 33, 34, 35, 36, 37, 38, 39, 40, 41, 42, 43, 44, 45, 46, 47, 48, 49, 50, 51, 52, 53, 54, 55, 56, 57, 58, 59, 60, 61, 62, 63, 64, 65, 66, 67, 68, 69, 70, 71, 72, 73, 74, 75, 76, 77, 78, 79, 80, 81, 82, 83, 84, 85, 86, 87, 88, 89, 90] (by decide +kernel) (by decide +kernel)
set_option maxRecDepth 20000 in
theorem gX12_tellSeats_X12_unlikeOf : GoodIn wsX12_tellSeats (wsV RX12 352 RX12 yX12_unlikeOf wsX12_unlikeOf) := goodIn_app (goodIn_of _ (by decide +kernel)) ggX12_tellSeats_X12_unlikeOf
theorem dX12_tellSeats_0 : decode cX12_tellSeats 0 = .ok (.iconst 0, 1) := by decide +kernel
theorem dX12_tellSeats_1 : decode cX12_tellSeats 1 = .ok (.istore_n 1, 1) := by decide +kernel
theorem dX12_tellSeats_2 : decode cX12_tellSeats 2 = .ok (.iload_n 1, 1) := by decide +kernel
theorem dX12_tellSeats_3 : decode cX12_tellSeats 3 = .ok (.iconst 1, 1) := by decide +kernel
theorem dX12_tellSeats_4 : decode cX12_tellSeats 4 = .ok (.aload_n 0, 1) := by decide +kernel
theorem dX12_tellSeats_5 : decode cX12_tellSeats 5 = .ok (.getfield 42, 3) := by decide +kernel
theorem dX12_tellSeats_8 : decode cX12_tellSeats 8 = .ok (.iconst 0, 1) := by decide +kernel
theorem dX12_tellSeats_9 : decode cX12_tellSeats 9 = .ok (.iaload, 1) := by decide +kernel
theorem dX12_tellSeats_10 : decode cX12_tellSeats 10 = .ok (.ishl, 1) := by decide +kernel
theorem dX12_tellSeats_11 : decode cX12_tellSeats 11 = .ok (.if_icmp .ge 26, 3) := by decide +kernel
theorem dX12_tellSeats_14 : decode cX12_tellSeats 14 = .ok (.aload_n 0, 1) := by decide +kernel
theorem dX12_tellSeats_15 : decode cX12_tellSeats 15 = .ok (.getfield 121, 3) := by decide +kernel
theorem dX12_tellSeats_18 : decode cX12_tellSeats 18 = .ok (.aload_n 0, 1) := by decide +kernel
theorem dX12_tellSeats_19 : decode cX12_tellSeats 19 = .ok (.getfield 42, 3) := by decide +kernel
theorem dX12_tellSeats_22 : decode cX12_tellSeats 22 = .ok (.iconst 1, 1) := by decide +kernel
theorem dX12_tellSeats_23 : decode cX12_tellSeats 23 = .ok (.iaload, 1) := by decide +kernel
theorem dX12_tellSeats_24 : decode cX12_tellSeats 24 = .ok (.bipush 8, 2) := by decide +kernel
theorem dX12_tellSeats_26 : decode cX12_tellSeats 26 = .ok (.ishl, 1) := by decide +kernel
theorem dX12_tellSeats_27 : decode cX12_tellSeats 27 = .ok (.iload_n 1, 1) := by decide +kernel
theorem dX12_tellSeats_28 : decode cX12_tellSeats 28 = .ok (.iadd, 1) := by decide +kernel
theorem dX12_tellSeats_29 : decode cX12_tellSeats 29 = .ok (.iconst 0, 1) := by decide +kernel
theorem dX12_tellSeats_30 : decode cX12_tellSeats 30 = .ok (.iastore, 1) := by decide +kernel
theorem dX12_tellSeats_31 : decode cX12_tellSeats 31 = .ok (.iinc 1 1, 3) := by decide +kernel
theorem dX12_tellSeats_34 : decode cX12_tellSeats 34 = .ok (.goto (-32), 3) := by decide +kernel
theorem dX12_tellSeats_37 : decode cX12_tellSeats 37 = .ok (.aload_n 0, 1) := by decide +kernel
theorem dX12_tellSeats_38 : decode cX12_tellSeats 38 = .ok (.getfield 42, 3) := by decide +kernel
theorem dX12_tellSeats_41 : decode cX12_tellSeats 41 = .ok (.iconst 1, 1) := by decide +kernel
theorem dX12_tellSeats_42 : decode cX12_tellSeats 42 = .ok (.iaload, 1) := by decide +kernel
theorem dX12_tellSeats_43 : decode cX12_tellSeats 43 = .ok (.iconst 1, 1) := by decide +kernel
theorem dX12_tellSeats_44 : decode cX12_tellSeats 44 = .ok (.isub, 1) := by decide +kernel
theorem dX12_tellSeats_45 : decode cX12_tellSeats 45 = .ok (.istore_n 1, 1) := by decide +kernel
theorem dX12_tellSeats_46 : decode cX12_tellSeats 46 = .ok (.iload_n 1, 1) := by decide +kernel
theorem dX12_tellSeats_47 : decode cX12_tellSeats 47 = .ok (.ifCond .lt 105, 3) := by decide +kernel
theorem dX12_tellSeats_50 : decode cX12_tellSeats 50 = .ok (.iconst 0, 1) := by decide +kernel
theorem dX12_tellSeats_51 : decode cX12_tellSeats 51 = .ok (.istore_n 2, 1) := by decide +kernel
theorem dX12_tellSeats_52 : decode cX12_tellSeats 52 = .ok (.iload_n 2, 1) := by decide +kernel
theorem dX12_tellSeats_53 : decode cX12_tellSeats 53 = .ok (.iconst 1, 1) := by decide +kernel
theorem dX12_tellSeats_54 : decode cX12_tellSeats 54 = .ok (.aload_n 0, 1) := by decide +kernel
theorem dX12_tellSeats_55 : decode cX12_tellSeats 55 = .ok (.getfield 42, 3) := by decide +kernel
theorem dX12_tellSeats_58 : decode cX12_tellSeats 58 = .ok (.iconst 0, 1) := by decide +kernel
theorem dX12_tellSeats_59 : decode cX12_tellSeats 59 = .ok (.iaload, 1) := by decide +kernel
theorem dX12_tellSeats_60 : decode cX12_tellSeats 60 = .ok (.ishl, 1) := by decide +kernel
theorem dX12_tellSeats_61 : decode cX12_tellSeats 61 = .ok (.if_icmp .ge 85, 3) := by decide +kernel
theorem dX12_tellSeats_64 : decode cX12_tellSeats 64 = .ok (.sipush 1000, 3) := by decide +kernel
theorem dX12_tellSeats_67 : decode cX12_tellSeats 67 = .ok (.aload_n 0, 1) := by decide +kernel
theorem dX12_tellSeats_68 : decode cX12_tellSeats 68 = .ok (.iload_n 1, 1) := by decide +kernel
theorem dX12_tellSeats_69 : decode cX12_tellSeats 69 = .ok (.iload_n 2, 1) := by decide +kernel
theorem dX12_tellSeats_70 : decode cX12_tellSeats 70 = .ok (.invokevirtual 466, 3) := by decide +kernel
theorem dX12_tellSeats_73 : decode cX12_tellSeats 73 = .ok (.iadd, 1) := by decide +kernel
theorem dX12_tellSeats_74 : decode cX12_tellSeats 74 = .ok (.istore_n 3, 1) := by decide +kernel
theorem dX12_tellSeats_75 : decode cX12_tellSeats 75 = .ok (.iconst 0, 1) := by decide +kernel
theorem dX12_tellSeats_76 : decode cX12_tellSeats 76 = .ok (.istore 4, 2) := by decide +kernel
theorem dX12_tellSeats_78 : decode cX12_tellSeats 78 = .ok (.iload 4, 2) := by decide +kernel
theorem dX12_tellSeats_80 : decode cX12_tellSeats 80 = .ok (.aload_n 0, 1) := by decide +kernel
theorem dX12_tellSeats_81 : decode cX12_tellSeats 81 = .ok (.getfield 42, 3) := by decide +kernel
theorem dX12_tellSeats_84 : decode cX12_tellSeats 84 = .ok (.iconst 0, 1) := by decide +kernel
theorem dX12_tellSeats_85 : decode cX12_tellSeats 85 = .ok (.iaload, 1) := by decide +kernel
theorem dX12_tellSeats_86 : decode cX12_tellSeats 86 = .ok (.if_icmp .ge 42, 3) := by decide +kernel
theorem dX12_tellSeats_89 : decode cX12_tellSeats 89 = .ok (.iload_n 2, 1) := by decide +kernel
theorem dX12_tellSeats_90 : decode cX12_tellSeats 90 = .ok (.iload 4, 2) := by decide +kernel
theorem dX12_tellSeats_92 : decode cX12_tellSeats 92 = .ok (.invokestatic 396, 3) := by decide +kernel
theorem dX12_tellSeats_95 : decode cX12_tellSeats 95 = .ok (.ifCond .ne 27, 3) := by decide +kernel
theorem dX12_tellSeats_98 : decode cX12_tellSeats 98 = .ok (.iload_n 3, 1) := by decide +kernel
theorem dX12_tellSeats_99 : decode cX12_tellSeats 99 = .ok (.aload_n 0, 1) := by decide +kernel
theorem dX12_tellSeats_100 : decode cX12_tellSeats 100 = .ok (.iload_n 1, 1) := by decide +kernel
theorem dX12_tellSeats_101 : decode cX12_tellSeats 101 = .ok (.iload 4, 2) := by decide +kernel
theorem dX12_tellSeats_103 : decode cX12_tellSeats 103 = .ok (.invokevirtual 352, 3) := by decide +kernel
theorem dX12_tellSeats_106 : decode cX12_tellSeats 106 = .ok (.aload_n 0, 1) := by decide +kernel
theorem dX12_tellSeats_107 : decode cX12_tellSeats 107 = .ok (.iload_n 1, 1) := by decide +kernel
theorem dX12_tellSeats_108 : decode cX12_tellSeats 108 = .ok (.iload_n 2, 1) := by decide +kernel
theorem dX12_tellSeats_109 : decode cX12_tellSeats 109 = .ok (.iconst 1, 1) := by decide +kernel
theorem dX12_tellSeats_110 : decode cX12_tellSeats 110 = .ok (.iload 4, 2) := by decide +kernel
theorem dX12_tellSeats_112 : decode cX12_tellSeats 112 = .ok (.ishl, 1) := by decide +kernel
theorem dX12_tellSeats_113 : decode cX12_tellSeats 113 = .ok (.ior, 1) := by decide +kernel
theorem dX12_tellSeats_114 : decode cX12_tellSeats 114 = .ok (.invokevirtual 466, 3) := by decide +kernel
theorem dX12_tellSeats_117 : decode cX12_tellSeats 117 = .ok (.iadd, 1) := by decide +kernel
theorem dX12_tellSeats_118 : decode cX12_tellSeats 118 = .ok (.invokestatic 200, 3) := by decide +kernel
theorem dX12_tellSeats_121 : decode cX12_tellSeats 121 = .ok (.istore_n 3, 1) := by decide +kernel
theorem dX12_tellSeats_122 : decode cX12_tellSeats 122 = .ok (.iinc 4 1, 3) := by decide +kernel
theorem dX12_tellSeats_125 : decode cX12_tellSeats 125 = .ok (.goto (-47), 3) := by decide +kernel
theorem dX12_tellSeats_128 : decode cX12_tellSeats 128 = .ok (.aload_n 0, 1) := by decide +kernel
theorem dX12_tellSeats_129 : decode cX12_tellSeats 129 = .ok (.getfield 121, 3) := by decide +kernel
theorem dX12_tellSeats_132 : decode cX12_tellSeats 132 = .ok (.iload_n 1, 1) := by decide +kernel
theorem dX12_tellSeats_133 : decode cX12_tellSeats 133 = .ok (.bipush 8, 2) := by decide +kernel
theorem dX12_tellSeats_135 : decode cX12_tellSeats 135 = .ok (.ishl, 1) := by decide +kernel
theorem dX12_tellSeats_136 : decode cX12_tellSeats 136 = .ok (.iload_n 2, 1) := by decide +kernel
theorem dX12_tellSeats_137 : decode cX12_tellSeats 137 = .ok (.iadd, 1) := by decide +kernel
theorem dX12_tellSeats_138 : decode cX12_tellSeats 138 = .ok (.iload_n 3, 1) := by decide +kernel
theorem dX12_tellSeats_139 : decode cX12_tellSeats 139 = .ok (.iastore, 1) := by decide +kernel
theorem dX12_tellSeats_140 : decode cX12_tellSeats 140 = .ok (.iinc 2 1, 3) := by decide +kernel
theorem dX12_tellSeats_143 : decode cX12_tellSeats 143 = .ok (.goto (-91), 3) := by decide +kernel
theorem dX12_tellSeats_146 : decode cX12_tellSeats 146 = .ok (.iinc 1 (-1), 3) := by decide +kernel
theorem dX12_tellSeats_149 : decode cX12_tellSeats 149 = .ok (.goto (-103), 3) := by decide +kernel
theorem dX12_tellSeats_152 : decode cX12_tellSeats 152 = .ok (.return_, 1) := by decide +kernel
set_option maxRecDepth 20000 in
theorem ggX12_seats_X12_isIn : GoodIn wsX12_seats wsX12_isIn := goodIn_r _ [8] (by decide +kernel) (by decide +kernel)
set_option maxRecDepth 20000 in
theorem gX12_seats_X12_isIn : GoodIn wsX12_seats (va_wsS RX12 166 yX12_isIn wsX12_isIn) := goodIn_app (goodIn_of _ (by decide +kernel)) ggX12_seats_X12_isIn
set_option maxRecDepth 20000 in
theorem ggX12_seats_X12_fail : GoodIn wsX12_seats wsX12_fail := goodIn_r _ [12, 1, 39, 40, 41, 42, 43, 44, 45, 46, 47, 48, 49, 50, 51, 52, 53, 54, 55, 56, 57, 58, 59, 60, 61, 62, 63, 64, 65, 66, 67, 68, 69, 70, 71, 72, 73, 74, 75, 76, 77, 78, 79, 80, 81, 82, 83, 84, 85, 86, 87, 88, 89, 90, 91, 92, 93, 94, 95, 96, 97, 98, 99, 100, 101, 102, 103] (by decide +kernel) (by decide +kernel)
set_option maxRecDepth 20000 in
theorem gX12_seats_X12_fail : GoodIn wsX12_seats (wsV RX12 310 RX12 yX12_fail wsX12_fail) := goodIn_app (goodIn_of _ (by decide +kernel)) ggX12_seats_X12_fail
set_option maxRecDepth 20000 in
theorem ggX12_seats_X12_tellSeats : GoodIn wsX12_seats wsX12_tellSeats := goodIn_r _ [16, 3, 4, 17, 18, 19, 20, 21, 22, 23, 7, 24, 25, 26, 27, 28, 29, 30, 31, 32, 33, 34, 35, 36, 37, 38, 39, 40, 41, 42, 43, 44, 45, 46, 47, 48, 49, 50, 51, 52, 53, 54, 55, 56, 57, 58, 59, 60, 61, 62, 63, 64, 65, 66, 67, 68, 69, 70, 71, 72, 73, 74, 75, 76, 77, 78, 79, 80, 81, 82, 83, 84, 85, 86, 87, 88, 89, 90, 91, 92, 93, 94, 95, 96, 97, 98, 99, 100, 101, 102, 103] (by decide +kernel) (by decide +kernel)
set_option maxRecDepth 20000 in
theorem gX12_seats_X12_tellSeats : GoodIn wsX12_seats (wsV RX12 469 RX12 yX12_tellSeats wsX12_tellSeats) := goodIn_app (goodIn_of _ (by decide +kernel)) ggX12_seats_X12_tellSeats
set_option maxRecDepth 20000 in
theorem ggX12_seats_X12_isOf : GoodIn wsX12_seats wsX12_isOf := goodIn_r _ [27] (by decide +kernel) (by decide +kernel)
set_option maxRecDepth 20000 in
theorem gX12_seats_X12_isOf : GoodIn wsX12_seats (va_wsS RX12 396 yX12_isOf wsX12_isOf) := goodIn_app (goodIn_of _ (by decide +kernel)) ggX12_seats_X12_isOf
set_option maxRecDepth 20000 in
theorem ggX12_seats_X12_unlikeOf : GoodIn wsX12_seats wsX12_unlikeOf := goodIn_r _ [31, 32, 33, 34, 35, 19, 36, 37, 38, 39, 40, 41, 42, 43, 44, 45, 46, 47, 48, 49, 50, 51, 52, 53, 54, 55, 56, 57, 58, 59, 60, 61, 62, 63, 64, 65, 66, 67, 68, 69, 70, 71, 72, 73, 74, 75, 76, 77, 78, 79, 80, 81, 82, 83, 84, 85, 86, 87, 88, 89, 90, 91, 92, 93, 94, 95, 96, 97, 98, 99, 100, 101, 102, 103] (by decide +kernel) (by decide +kernel)
set_option maxRecDepth 20000 in
theorem gX12_seats_X12_unlikeOf : GoodIn wsX12_seats (wsV RX12 352 RX12 yX12_unlikeOf wsX12_unlikeOf) := goodIn_app (goodIn_of _ (by decide +kernel)) ggX12_seats_X12_unlikeOf
set_option maxRecDepth 20000 in
theorem ggX12_seats_X12_goesOn : GoodIn wsX12_seats wsX12_goesOn := goodIn_r _ [24, 4, 39, 40, 41, 42, 43, 44, 45, 46, 47, 48, 49, 50, 51, 52, 53, 54, 55, 56, 57, 58, 59, 60, 61, 62, 63, 64, 65, 66, 67, 68, 69, 70, 71, 72, 73, 74, 75, 76, 77, 78, 79, 80, 81, 82, 83, 84, 85, 86, 87, 88, 89, 90, 91, 92, 93, 94, 95, 96, 97, 98, 99, 100, 101, 102, 103] (by decide +kernel) (by decide +kernel)
set_option maxRecDepth 20000 in
theorem gX12_seats_X12_goesOn : GoodIn wsX12_seats (wsV RX12 466 RX12 yX12_goesOn wsX12_goesOn) := goodIn_app (goodIn_of _ (by decide +kernel)) ggX12_seats_X12_goesOn
theorem dX12_seats_0 : decode cX12_seats 0 = .ok (.aload_n 0, 1) := by decide +kernel
theorem dX12_seats_1 : decode cX12_seats 1 = .ok (.iconst 0, 1) := by decide +kernel
theorem dX12_seats_2 : decode cX12_seats 2 = .ok (.putfield 163, 3) := by decide +kernel
theorem dX12_seats_5 : decode cX12_seats 5 = .ok (.iload_n 1, 1) := by decide +kernel
theorem dX12_seats_6 : decode cX12_seats 6 = .ok (.i2l, 1) := by decide +kernel
theorem dX12_seats_7 : decode cX12_seats 7 = .ok (.ldc2_w 444, 3) := by decide +kernel
theorem dX12_seats_10 : decode cX12_seats 10 = .ok (.aload_n 0, 1) := by decide +kernel
theorem dX12_seats_11 : decode cX12_seats 11 = .ok (.getfield 42, 3) := by decide +kernel
theorem dX12_seats_14 : decode cX12_seats 14 = .ok (.iconst 1, 1) := by decide +kernel
theorem dX12_seats_15 : decode cX12_seats 15 = .ok (.iaload, 1) := by decide +kernel
theorem dX12_seats_16 : decode cX12_seats 16 = .ok (.iconst 1, 1) := by decide +kernel
theorem dX12_seats_17 : decode cX12_seats 17 = .ok (.isub, 1) := by decide +kernel
theorem dX12_seats_18 : decode cX12_seats 18 = .ok (.i2l, 1) := by decide +kernel
theorem dX12_seats_19 : decode cX12_seats 19 = .ok (.invokestatic 166, 3) := by decide +kernel
theorem dX12_seats_22 : decode cX12_seats 22 = .ok (.ifCond .ne 9, 3) := by decide +kernel
theorem dX12_seats_25 : decode cX12_seats 25 = .ok (.aload_n 0, 1) := by decide +kernel
theorem dX12_seats_26 : decode cX12_seats 26 = .ok (.iconst 1, 1) := by decide +kernel
theorem dX12_seats_27 : decode cX12_seats 27 = .ok (.invokevirtual 310, 3) := by decide +kernel
theorem dX12_seats_30 : decode cX12_seats 30 = .ok (.ireturn, 1) := by decide +kernel
theorem dX12_seats_31 : decode cX12_seats 31 = .ok (.aload_n 0, 1) := by decide +kernel
theorem dX12_seats_32 : decode cX12_seats 32 = .ok (.invokevirtual 469, 3) := by decide +kernel
theorem dX12_seats_35 : decode cX12_seats 35 = .ok (.iload_n 1, 1) := by decide +kernel
theorem dX12_seats_36 : decode cX12_seats 36 = .ok (.iconst (-1), 1) := by decide +kernel
theorem dX12_seats_37 : decode cX12_seats 37 = .ok (.if_icmp .ne 14, 3) := by decide +kernel
theorem dX12_seats_40 : decode cX12_seats 40 = .ok (.aload_n 0, 1) := by decide +kernel
theorem dX12_seats_41 : decode cX12_seats 41 = .ok (.getfield 121, 3) := by decide +kernel
theorem dX12_seats_44 : decode cX12_seats 44 = .ok (.iconst 0, 1) := by decide +kernel
theorem dX12_seats_45 : decode cX12_seats 45 = .ok (.iaload, 1) := by decide +kernel
theorem dX12_seats_46 : decode cX12_seats 46 = .ok (.sipush 1000, 3) := by decide +kernel
theorem dX12_seats_49 : decode cX12_seats 49 = .ok (.irem, 1) := by decide +kernel
theorem dX12_seats_50 : decode cX12_seats 50 = .ok (.ireturn, 1) := by decide +kernel
theorem dX12_seats_51 : decode cX12_seats 51 = .ok (.iconst 0, 1) := by decide +kernel
theorem dX12_seats_52 : decode cX12_seats 52 = .ok (.istore_n 2, 1) := by decide +kernel
theorem dX12_seats_53 : decode cX12_seats 53 = .ok (.iconst (-1), 1) := by decide +kernel
theorem dX12_seats_54 : decode cX12_seats 54 = .ok (.istore_n 3, 1) := by decide +kernel
theorem dX12_seats_55 : decode cX12_seats 55 = .ok (.iconst 0, 1) := by decide +kernel
theorem dX12_seats_56 : decode cX12_seats 56 = .ok (.istore 4, 2) := by decide +kernel
theorem dX12_seats_58 : decode cX12_seats 58 = .ok (.iload 4, 2) := by decide +kernel
theorem dX12_seats_60 : decode cX12_seats 60 = .ok (.iload_n 1, 1) := by decide +kernel
theorem dX12_seats_61 : decode cX12_seats 61 = .ok (.if_icmp .gt 95, 3) := by decide +kernel
theorem dX12_seats_64 : decode cX12_seats 64 = .ok (.iconst (-1), 1) := by decide +kernel
theorem dX12_seats_65 : decode cX12_seats 65 = .ok (.istore_n 3, 1) := by decide +kernel
theorem dX12_seats_66 : decode cX12_seats 66 = .ok (.aload_n 0, 1) := by decide +kernel
theorem dX12_seats_67 : decode cX12_seats 67 = .ok (.getfield 42, 3) := by decide +kernel
theorem dX12_seats_70 : decode cX12_seats 70 = .ok (.iconst 0, 1) := by decide +kernel
theorem dX12_seats_71 : decode cX12_seats 71 = .ok (.iaload, 1) := by decide +kernel
theorem dX12_seats_72 : decode cX12_seats 72 = .ok (.iconst 1, 1) := by decide +kernel
theorem dX12_seats_73 : decode cX12_seats 73 = .ok (.isub, 1) := by decide +kernel
theorem dX12_seats_74 : decode cX12_seats 74 = .ok (.istore 5, 2) := by decide +kernel
theorem dX12_seats_76 : decode cX12_seats 76 = .ok (.iload 5, 2) := by decide +kernel
theorem dX12_seats_78 : decode cX12_seats 78 = .ok (.ifCond .lt 57, 3) := by decide +kernel
theorem dX12_seats_81 : decode cX12_seats 81 = .ok (.iload_n 2, 1) := by decide +kernel
theorem dX12_seats_82 : decode cX12_seats 82 = .ok (.iload 5, 2) := by decide +kernel
theorem dX12_seats_84 : decode cX12_seats 84 = .ok (.invokestatic 396, 3) := by decide +kernel
theorem dX12_seats_87 : decode cX12_seats 87 = .ok (.ifCond .ne 42, 3) := by decide +kernel
theorem dX12_seats_90 : decode cX12_seats 90 = .ok (.aload_n 0, 1) := by decide +kernel
theorem dX12_seats_91 : decode cX12_seats 91 = .ok (.iload 4, 2) := by decide +kernel
theorem dX12_seats_93 : decode cX12_seats 93 = .ok (.iload 5, 2) := by decide +kernel
theorem dX12_seats_95 : decode cX12_seats 95 = .ok (.invokevirtual 352, 3) := by decide +kernel
theorem dX12_seats_98 : decode cX12_seats 98 = .ok (.aload_n 0, 1) := by decide +kernel
theorem dX12_seats_99 : decode cX12_seats 99 = .ok (.iload 4, 2) := by decide +kernel
theorem dX12_seats_101 : decode cX12_seats 101 = .ok (.iload_n 2, 1) := by decide +kernel
theorem dX12_seats_102 : decode cX12_seats 102 = .ok (.iconst 1, 1) := by decide +kernel
theorem dX12_seats_103 : decode cX12_seats 103 = .ok (.iload 5, 2) := by decide +kernel
theorem dX12_seats_105 : decode cX12_seats 105 = .ok (.ishl, 1) := by decide +kernel
theorem dX12_seats_106 : decode cX12_seats 106 = .ok (.ior, 1) := by decide +kernel
theorem dX12_seats_107 : decode cX12_seats 107 = .ok (.invokevirtual 466, 3) := by decide +kernel
theorem dX12_seats_110 : decode cX12_seats 110 = .ok (.iadd, 1) := by decide +kernel
theorem dX12_seats_111 : decode cX12_seats 111 = .ok (.aload_n 0, 1) := by decide +kernel
theorem dX12_seats_112 : decode cX12_seats 112 = .ok (.getfield 121, 3) := by decide +kernel
theorem dX12_seats_115 : decode cX12_seats 115 = .ok (.iload 4, 2) := by decide +kernel
theorem dX12_seats_117 : decode cX12_seats 117 = .ok (.bipush 8, 2) := by decide +kernel
theorem dX12_seats_119 : decode cX12_seats 119 = .ok (.ishl, 1) := by decide +kernel
theorem dX12_seats_120 : decode cX12_seats 120 = .ok (.iload_n 2, 1) := by decide +kernel
theorem dX12_seats_121 : decode cX12_seats 121 = .ok (.iadd, 1) := by decide +kernel
theorem dX12_seats_122 : decode cX12_seats 122 = .ok (.iaload, 1) := by decide +kernel
theorem dX12_seats_123 : decode cX12_seats 123 = .ok (.if_icmp .ne 6, 3) := by decide +kernel
theorem dX12_seats_126 : decode cX12_seats 126 = .ok (.iload 5, 2) := by decide +kernel
theorem dX12_seats_128 : decode cX12_seats 128 = .ok (.istore_n 3, 1) := by decide +kernel
theorem dX12_seats_129 : decode cX12_seats 129 = .ok (.iinc 5 (-1), 3) := by decide +kernel
theorem dX12_seats_132 : decode cX12_seats 132 = .ok (.goto (-56), 3) := by decide +kernel
theorem dX12_seats_135 : decode cX12_seats 135 = .ok (.iload_n 2, 1) := by decide +kernel
theorem dX12_seats_136 : decode cX12_seats 136 = .ok (.iload_n 3, 1) := by decide +kernel
theorem dX12_seats_137 : decode cX12_seats 137 = .ok (.iconst (-1), 1) := by decide +kernel
theorem dX12_seats_138 : decode cX12_seats 138 = .ok (.if_icmp .ne 7, 3) := by decide +kernel
theorem dX12_seats_141 : decode cX12_seats 141 = .ok (.iconst 0, 1) := by decide +kernel
theorem dX12_seats_142 : decode cX12_seats 142 = .ok (.goto 6, 3) := by decide +kernel
theorem dX12_seats_145 : decode cX12_seats 145 = .ok (.iconst 1, 1) := by decide +kernel
theorem dX12_seats_146 : decode cX12_seats 146 = .ok (.iload_n 3, 1) := by decide +kernel
theorem dX12_seats_147 : decode cX12_seats 147 = .ok (.ishl, 1) := by decide +kernel
theorem dX12_seats_148 : decode cX12_seats 148 = .ok (.ior, 1) := by decide +kernel
theorem dX12_seats_149 : decode cX12_seats 149 = .ok (.istore_n 2, 1) := by decide +kernel
theorem dX12_seats_150 : decode cX12_seats 150 = .ok (.iinc 4 1, 3) := by decide +kernel
theorem dX12_seats_153 : decode cX12_seats 153 = .ok (.goto (-95), 3) := by decide +kernel
theorem dX12_seats_156 : decode cX12_seats 156 = .ok (.iload_n 3, 1) := by decide +kernel
theorem dX12_seats_157 : decode cX12_seats 157 = .ok (.ireturn, 1) := by decide +kernel
set_option maxRecDepth 20000 in
theorem ggX12_turn_X12_isIn : GoodIn wsX12_turn wsX12_isIn := goodIn_r _ [7] (by decide +kernel) (by decide +kernel)
set_option maxRecDepth 20000 in
theorem gX12_turn_X12_isIn : GoodIn wsX12_turn (va_wsS RX12 166 yX12_isIn wsX12_isIn) := goodIn_app (goodIn_of _ (by decide +kernel)) ggX12_turn_X12_isIn
set_option maxRecDepth 20000 in
theorem ggX12_turn_X12_fail : GoodIn wsX12_turn wsX12_fail := goodIn_r _ [11, 1, 24, 25, 26, 27, 28, 29, 30, 31, 32, 33, 34, 35, 36, 37, 38, 39, 40, 41, 42, 43, 44, 45, 46, 47, 48, 49, 50, 51, 52, 53, 54, 55, 56, 57, 58, 59, 60, 61, 62, 63, 64, 65, 66, 67, 68, 69, 70, 71, 72, 73, 74, 75, 76, 77, 78, 79, 80, 81, 82, 83, 84, 85, 86, 87, 88] (by decide +kernel) (by decide +kernel)
set_option maxRecDepth 20000 in
theorem gX12_turn_X12_fail : GoodIn wsX12_turn (wsV RX12 310 RX12 yX12_fail wsX12_fail) := goodIn_app (goodIn_of _ (by decide +kernel)) ggX12_turn_X12_fail
set_option maxRecDepth 20000 in
theorem ggX12_turn_X12_unlikeOf : GoodIn wsX12_turn wsX12_unlikeOf := goodIn_r _ [15, 16, 17, 18, 19, 20, 21, 22, 23, 24, 25, 26, 27, 28, 29, 30, 31, 32, 33, 34, 35, 36, 37, 38, 39, 40, 41, 42, 43, 44, 45, 46, 47, 48, 49, 50, 51, 52, 53, 54, 55, 56, 57, 58, 59, 60, 61, 62, 63, 64, 65, 66, 67, 68, 69, 70, 71, 72, 73, 74, 75, 76, 77, 78, 79, 80, 81, 82, 83, 84, 85, 86, 87, 88] (by decide +kernel) (by decide +kernel)
set_option maxRecDepth 20000 in
theorem gX12_turn_X12_unlikeOf : GoodIn wsX12_turn (wsV RX12 352 RX12 yX12_unlikeOf wsX12_unlikeOf) := goodIn_app (goodIn_of _ (by decide +kernel)) ggX12_turn_X12_unlikeOf
theorem dX12_turn_0 : decode cX12_turn 0 = .ok (.aload_n 0, 1) := by decide +kernel
theorem dX12_turn_1 : decode cX12_turn 1 = .ok (.iconst 0, 1) := by decide +kernel
theorem dX12_turn_2 : decode cX12_turn 2 = .ok (.putfield 163, 3) := by decide +kernel
theorem dX12_turn_5 : decode cX12_turn 5 = .ok (.iload_n 1, 1) := by decide +kernel
theorem dX12_turn_6 : decode cX12_turn 6 = .ok (.i2l, 1) := by decide +kernel
theorem dX12_turn_7 : decode cX12_turn 7 = .ok (.lconst 0, 1) := by decide +kernel
theorem dX12_turn_8 : decode cX12_turn 8 = .ok (.lconst 1, 1) := by decide +kernel
theorem dX12_turn_9 : decode cX12_turn 9 = .ok (.invokestatic 166, 3) := by decide +kernel
theorem dX12_turn_12 : decode cX12_turn 12 = .ok (.ifCond .ne 9, 3) := by decide +kernel
theorem dX12_turn_15 : decode cX12_turn 15 = .ok (.aload_n 0, 1) := by decide +kernel
theorem dX12_turn_16 : decode cX12_turn 16 = .ok (.iconst 1, 1) := by decide +kernel
theorem dX12_turn_17 : decode cX12_turn 17 = .ok (.invokevirtual 310, 3) := by decide +kernel
theorem dX12_turn_20 : decode cX12_turn 20 = .ok (.ireturn, 1) := by decide +kernel
theorem dX12_turn_21 : decode cX12_turn 21 = .ok (.iconst (-1), 1) := by decide +kernel
theorem dX12_turn_22 : decode cX12_turn 22 = .ok (.istore_n 2, 1) := by decide +kernel
theorem dX12_turn_23 : decode cX12_turn 23 = .ok (.ldc_w 472, 3) := by decide +kernel
theorem dX12_turn_26 : decode cX12_turn 26 = .ok (.istore_n 3, 1) := by decide +kernel
theorem dX12_turn_27 : decode cX12_turn 27 = .ok (.iconst 0, 1) := by decide +kernel
theorem dX12_turn_28 : decode cX12_turn 28 = .ok (.istore 4, 2) := by decide +kernel
theorem dX12_turn_30 : decode cX12_turn 30 = .ok (.iload 4, 2) := by decide +kernel
theorem dX12_turn_32 : decode cX12_turn 32 = .ok (.aload_n 0, 1) := by decide +kernel
theorem dX12_turn_33 : decode cX12_turn 33 = .ok (.getfield 42, 3) := by decide +kernel
theorem dX12_turn_36 : decode cX12_turn 36 = .ok (.iconst 0, 1) := by decide +kernel
theorem dX12_turn_37 : decode cX12_turn 37 = .ok (.iaload, 1) := by decide +kernel
theorem dX12_turn_38 : decode cX12_turn 38 = .ok (.if_icmp .ge 70, 3) := by decide +kernel
theorem dX12_turn_41 : decode cX12_turn 41 = .ok (.iconst 0, 1) := by decide +kernel
theorem dX12_turn_42 : decode cX12_turn 42 = .ok (.istore 5, 2) := by decide +kernel
theorem dX12_turn_44 : decode cX12_turn 44 = .ok (.iconst 0, 1) := by decide +kernel
theorem dX12_turn_45 : decode cX12_turn 45 = .ok (.istore 6, 2) := by decide +kernel
theorem dX12_turn_47 : decode cX12_turn 47 = .ok (.iload 6, 2) := by decide +kernel
theorem dX12_turn_49 : decode cX12_turn 49 = .ok (.aload_n 0, 1) := by decide +kernel
theorem dX12_turn_50 : decode cX12_turn 50 = .ok (.getfield 42, 3) := by decide +kernel
theorem dX12_turn_53 : decode cX12_turn 53 = .ok (.iconst 1, 1) := by decide +kernel
theorem dX12_turn_54 : decode cX12_turn 54 = .ok (.iaload, 1) := by decide +kernel
theorem dX12_turn_55 : decode cX12_turn 55 = .ok (.if_icmp .ge 32, 3) := by decide +kernel
theorem dX12_turn_58 : decode cX12_turn 58 = .ok (.iload 5, 2) := by decide +kernel
theorem dX12_turn_60 : decode cX12_turn 60 = .ok (.aload_n 0, 1) := by decide +kernel
theorem dX12_turn_61 : decode cX12_turn 61 = .ok (.iload 6, 2) := by decide +kernel
theorem dX12_turn_63 : decode cX12_turn 63 = .ok (.iload 6, 2) := by decide +kernel
theorem dX12_turn_65 : decode cX12_turn 65 = .ok (.iload 4, 2) := by decide +kernel
theorem dX12_turn_67 : decode cX12_turn 67 = .ok (.iadd, 1) := by decide +kernel
theorem dX12_turn_68 : decode cX12_turn 68 = .ok (.aload_n 0, 1) := by decide +kernel
theorem dX12_turn_69 : decode cX12_turn 69 = .ok (.getfield 42, 3) := by decide +kernel
theorem dX12_turn_72 : decode cX12_turn 72 = .ok (.iconst 0, 1) := by decide +kernel
theorem dX12_turn_73 : decode cX12_turn 73 = .ok (.iaload, 1) := by decide +kernel
theorem dX12_turn_74 : decode cX12_turn 74 = .ok (.irem, 1) := by decide +kernel
theorem dX12_turn_75 : decode cX12_turn 75 = .ok (.invokevirtual 352, 3) := by decide +kernel
theorem dX12_turn_78 : decode cX12_turn 78 = .ok (.iadd, 1) := by decide +kernel
theorem dX12_turn_79 : decode cX12_turn 79 = .ok (.istore 5, 2) := by decide +kernel
theorem dX12_turn_81 : decode cX12_turn 81 = .ok (.iinc 6 1, 3) := by decide +kernel
theorem dX12_turn_84 : decode cX12_turn 84 = .ok (.goto (-37), 3) := by decide +kernel
theorem dX12_turn_87 : decode cX12_turn 87 = .ok (.iload 5, 2) := by decide +kernel
theorem dX12_turn_89 : decode cX12_turn 89 = .ok (.iload_n 3, 1) := by decide +kernel
theorem dX12_turn_90 : decode cX12_turn 90 = .ok (.if_icmp .lt 6, 3) := by decide +kernel
theorem dX12_turn_93 : decode cX12_turn 93 = .ok (.goto 9, 3) := by decide +kernel
theorem dX12_turn_96 : decode cX12_turn 96 = .ok (.iload 4, 2) := by decide +kernel
theorem dX12_turn_98 : decode cX12_turn 98 = .ok (.istore_n 2, 1) := by decide +kernel
theorem dX12_turn_99 : decode cX12_turn 99 = .ok (.iload 5, 2) := by decide +kernel
theorem dX12_turn_101 : decode cX12_turn 101 = .ok (.istore_n 3, 1) := by decide +kernel
theorem dX12_turn_102 : decode cX12_turn 102 = .ok (.iinc 4 1, 3) := by decide +kernel
theorem dX12_turn_105 : decode cX12_turn 105 = .ok (.goto (-75), 3) := by decide +kernel
theorem dX12_turn_108 : decode cX12_turn 108 = .ok (.iload_n 1, 1) := by decide +kernel
theorem dX12_turn_109 : decode cX12_turn 109 = .ok (.ifCond .eq 8, 3) := by decide +kernel
theorem dX12_turn_112 : decode cX12_turn 112 = .ok (.iload_n 2, 1) := by decide +kernel
theorem dX12_turn_113 : decode cX12_turn 113 = .ok (.iconst (-1), 1) := by decide +kernel
theorem dX12_turn_114 : decode cX12_turn 114 = .ok (.if_icmp .ne 7, 3) := by decide +kernel
theorem dX12_turn_117 : decode cX12_turn 117 = .ok (.iload_n 2, 1) := by decide +kernel
theorem dX12_turn_118 : decode cX12_turn 118 = .ok (.goto 4, 3) := by decide +kernel
theorem dX12_turn_121 : decode cX12_turn 121 = .ok (.iload_n 3, 1) := by decide +kernel
theorem dX12_turn_122 : decode cX12_turn 122 = .ok (.ireturn, 1) := by decide +kernel
set_option maxRecDepth 20000 in
theorem ggX12_seatAt_X12_sitterOf : GoodIn wsX12_seatAt wsX12_sitterOf := goodIn_r _ [6, 7, 1, 8, 9, 10, 11, 12, 13, 14, 15, 16, 17, 18, 19, 20, 21, 22, 23, 24, 25, 26, 27, 28, 29, 30, 31, 32, 33, 34, 35, 36, 37, 38, 39, 40, 41, 42, 43, 44, 45, 46, 47, 48, 49, 50, 51, 52, 53, 54, 55, 56, 57, 58, 59, 60, 61, 62, 63, 64, 65, 66, 67, 68, 69, 70, 71, 72] (by decide +kernel) (by decide +kernel)
set_option maxRecDepth 20000 in
theorem gX12_seatAt_X12_sitterOf : GoodIn wsX12_seatAt (wsV RX12 355 RX12 yX12_sitterOf wsX12_sitterOf) := goodIn_app (goodIn_of _ (by decide +kernel)) ggX12_seatAt_X12_sitterOf
theorem dX12_seatAt_0 : decode cX12_seatAt 0 = .ok (.aload_n 0, 1) := by decide +kernel
theorem dX12_seatAt_1 : decode cX12_seatAt 1 = .ok (.iload_n 2, 1) := by decide +kernel
theorem dX12_seatAt_2 : decode cX12_seatAt 2 = .ok (.invokevirtual 355, 3) := by decide +kernel
theorem dX12_seatAt_5 : decode cX12_seatAt 5 = .ok (.istore_n 3, 1) := by decide +kernel
theorem dX12_seatAt_6 : decode cX12_seatAt 6 = .ok (.iload_n 3, 1) := by decide +kernel
theorem dX12_seatAt_7 : decode cX12_seatAt 7 = .ok (.iconst (-1), 1) := by decide +kernel
theorem dX12_seatAt_8 : decode cX12_seatAt 8 = .ok (.if_icmp .eq 10, 3) := by decide +kernel
theorem dX12_seatAt_11 : decode cX12_seatAt 11 = .ok (.aload_n 0, 1) := by decide +kernel
theorem dX12_seatAt_12 : decode cX12_seatAt 12 = .ok (.getfield 106, 3) := by decide +kernel
theorem dX12_seatAt_15 : decode cX12_seatAt 15 = .ok (.iload_n 3, 1) := by decide +kernel
theorem dX12_seatAt_16 : decode cX12_seatAt 16 = .ok (.iconst (-1), 1) := by decide +kernel
theorem dX12_seatAt_17 : decode cX12_seatAt 17 = .ok (.iastore, 1) := by decide +kernel
theorem dX12_seatAt_18 : decode cX12_seatAt 18 = .ok (.aload_n 0, 1) := by decide +kernel
theorem dX12_seatAt_19 : decode cX12_seatAt 19 = .ok (.getfield 106, 3) := by decide +kernel
theorem dX12_seatAt_22 : decode cX12_seatAt 22 = .ok (.iload_n 1, 1) := by decide +kernel
theorem dX12_seatAt_23 : decode cX12_seatAt 23 = .ok (.iload_n 2, 1) := by decide +kernel
theorem dX12_seatAt_24 : decode cX12_seatAt 24 = .ok (.iastore, 1) := by decide +kernel
theorem dX12_seatAt_25 : decode cX12_seatAt 25 = .ok (.return_, 1) := by decide +kernel
set_option maxRecDepth 20000 in
theorem ggX12_lasts_X12_isPerson : GoodIn wsX12_lasts wsX12_isPerson := goodIn_r _ [7, 8, 9, 10, 6, 11, 120, 121, 122, 123, 124, 125, 126, 127, 128, 129, 130, 131, 132, 133, 134, 135, 136, 137, 138, 139, 140, 141, 142, 143, 144, 145, 146, 147, 148, 149, 150, 151, 152, 153, 154, 155, 156, 157, 158, 159, 160, 161, 162, 163, 164, 165, 166, 167, 168, 169, 170, 171, 172, 173, 174, 175, 176, 177, 178, 179, 180, 181, 182, 183, 184] (by decide +kernel) (by decide +kernel)
set_option maxRecDepth 20000 in
theorem gX12_lasts_X12_isPerson : GoodIn wsX12_lasts (wsV RX12 417 RX12 yX12_isPerson wsX12_isPerson) := goodIn_app (goodIn_of _ (by decide +kernel)) ggX12_lasts_X12_isPerson
set_option maxRecDepth 20000 in
theorem ggX12_lasts_X12_isStone : GoodIn wsX12_lasts wsX12_isStone := goodIn_r _ [15, 8, 9, 10, 6, 11, 120, 121, 122, 123, 124, 125, 126, 127, 128, 129, 130, 131, 132, 133, 134, 135, 136, 137, 138, 139, 140, 141, 142, 143, 144, 145, 146, 147, 148, 149, 150, 151, 152, 153, 154, 155, 156, 157, 158, 159, 160, 161, 162, 163, 164, 165, 166, 167, 168, 169, 170, 171, 172, 173, 174, 175, 176, 177, 178, 179, 180, 181, 182, 183, 184] (by decide +kernel) (by decide +kernel)
set_option maxRecDepth 20000 in
theorem gX12_lasts_X12_isStone : GoodIn wsX12_lasts (wsV RX12 411 RX12 yX12_isStone wsX12_isStone) := goodIn_app (goodIn_of _ (by decide +kernel)) ggX12_lasts_X12_isStone
set_option maxRecDepth 20000 in
theorem ggX12_lasts_X12_fail : GoodIn wsX12_lasts wsX12_fail := goodIn_r _ [19, 1, 120, 121, 122, 123, 124, 125, 126, 127, 128, 129, 130, 131, 132, 133, 134, 135, 136, 137, 138, 139, 140, 141, 142, 143, 144, 145, 146, 147, 148, 149, 150, 151, 152, 153, 154, 155, 156, 157, 158, 159, 160, 161, 162, 163, 164, 165, 166, 167, 168, 169, 170, 171, 172, 173, 174, 175, 176, 177, 178, 179, 180, 181, 182, 183, 184] (by decide +kernel) (by decide +kernel)
set_option maxRecDepth 20000 in
theorem gX12_lasts_X12_fail : GoodIn wsX12_lasts (wsV RX12 310 RX12 yX12_fail wsX12_fail) := goodIn_app (goodIn_of _ (by decide +kernel)) ggX12_lasts_X12_fail
set_option maxRecDepth 20000 in
theorem ggX12_lasts_X12_pack : GoodIn wsX12_lasts wsX12_pack := goodIn_r _ [23, 24, 25, 26, 27, 28, 29, 30, 31, 32, 120, 121, 122, 123, 124, 125, 126, 127, 128, 129, 130, 131, 132, 133, 134, 135, 136, 137, 138, 139, 140, 141, 142, 143, 144, 145, 146, 147, 148, 149, 150, 151, 152, 153, 154, 155, 156, 157, 158, 159, 160, 161, 162, 163, 164, 165, 166, 167, 168, 169, 170, 171, 172, 173, 174, 175, 176, 177, 178, 179, 180, 181, 182, 183, 184] (by decide +kernel) (by decide +kernel)
set_option maxRecDepth 20000 in
theorem gX12_lasts_X12_pack : GoodIn wsX12_lasts (wsV RX12 420 RX12 yX12_pack wsX12_pack) := goodIn_app (goodIn_of _ (by decide +kernel)) ggX12_lasts_X12_pack
set_option maxRecDepth 20000 in
theorem ggX12_lasts_X12_seatAt : GoodIn wsX12_lasts wsX12_seatAt := goodIn_r _ [36, 32, 37, 38, 39, 6, 40, 8, 120, 121, 122, 123, 124, 125, 126, 127, 128, 129, 130, 131, 132, 133, 134, 135, 136, 137, 138, 139, 140, 141, 142, 143, 144, 145, 146, 147, 148, 149, 150, 151, 152, 153, 154, 155, 156, 157, 158, 159, 160, 161, 162, 163, 164, 165, 166, 167, 168, 169, 170, 171, 172, 173, 174, 175, 176, 177, 178, 179, 180, 181, 182, 183, 184] (by decide +kernel) (by decide +kernel)
set_option maxRecDepth 20000 in
theorem gX12_lasts_X12_seatAt : GoodIn wsX12_lasts (wsV RX12 473 RX12 yX12_seatAt wsX12_seatAt) := goodIn_app (goodIn_of _ (by decide +kernel)) ggX12_lasts_X12_seatAt
