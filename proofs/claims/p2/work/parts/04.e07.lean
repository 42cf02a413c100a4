theorem dX12_keep_35 : decode cX12_keep 35 = .ok (.iastore, 1) := by decide +kernel
theorem dX12_keep_36 : decode cX12_keep 36 = .ok (.iinc 1 1, 3) := by decide +kernel
theorem dX12_keep_39 : decode cX12_keep 39 = .ok (.goto (-27), 3) := by decide +kernel
theorem dX12_keep_42 : decode cX12_keep 42 = .ok (.aload_n 0, 1) := by decide +kernel
theorem dX12_keep_43 : decode cX12_keep 43 = .ok (.dup, 1) := by decide +kernel
theorem dX12_keep_44 : decode cX12_keep 44 = .ok (.getfield 326, 3) := by decide +kernel
theorem dX12_keep_47 : decode cX12_keep 47 = .ok (.iconst 1, 1) := by decide +kernel
theorem dX12_keep_48 : decode cX12_keep 48 = .ok (.isub, 1) := by decide +kernel
theorem dX12_keep_49 : decode cX12_keep 49 = .ok (.putfield 326, 3) := by decide +kernel
theorem dX12_keep_52 : decode cX12_keep 52 = .ok (.aload_n 0, 1) := by decide +kernel
theorem dX12_keep_53 : decode cX12_keep 53 = .ok (.aload_n 0, 1) := by decide +kernel
theorem dX12_keep_54 : decode cX12_keep 54 = .ok (.getfield 109, 3) := by decide +kernel
theorem dX12_keep_57 : decode cX12_keep 57 = .ok (.bipush 65, 2) := by decide +kernel
theorem dX12_keep_59 : decode cX12_keep 59 = .ok (.aload_n 0, 1) := by decide +kernel
theorem dX12_keep_60 : decode cX12_keep 60 = .ok (.getfield 326, 3) := by decide +kernel
theorem dX12_keep_63 : decode cX12_keep 63 = .ok (.imul, 1) := by decide +kernel
theorem dX12_keep_64 : decode cX12_keep 64 = .ok (.invokevirtual 420, 3) := by decide +kernel
theorem dX12_keep_67 : decode cX12_keep 67 = .ok (.aload_n 0, 1) := by decide +kernel
theorem dX12_keep_68 : decode cX12_keep 68 = .ok (.dup, 1) := by decide +kernel
theorem dX12_keep_69 : decode cX12_keep 69 = .ok (.getfield 326, 3) := by decide +kernel
theorem dX12_keep_72 : decode cX12_keep 72 = .ok (.iconst 1, 1) := by decide +kernel
theorem dX12_keep_73 : decode cX12_keep 73 = .ok (.iadd, 1) := by decide +kernel
theorem dX12_keep_74 : decode cX12_keep 74 = .ok (.putfield 326, 3) := by decide +kernel
theorem dX12_keep_77 : decode cX12_keep 77 = .ok (.return_, 1) := by decide +kernel
set_option maxRecDepth 20000 in
theorem ggX12_years_X12_isIn : GoodIn wsX12_years wsX12_isIn := goodIn_r _ [7] (by decide +kernel) (by decide +kernel)
set_option maxRecDepth 20000 in
theorem gX12_years_X12_isIn : GoodIn wsX12_years (va_wsS RX12 166 yX12_isIn wsX12_isIn) := goodIn_app (goodIn_of _ (by decide +kernel)) ggX12_years_X12_isIn
set_option maxRecDepth 20000 in
theorem ggX12_years_X12_refuse : GoodIn wsX12_years wsX12_refuse := goodIn_r _ [11, 12, 107, 108, 109, 110, 111, 112, 113, 114, 115, 116, 117, 118, 119, 120, 121, 122, 123, 124, 125, 126, 127, 128, 129, 130, 131, 132, 133, 134, 135, 136, 137, 138, 139, 140, 141, 142, 143, 144, 145, 146, 147, 148, 149, 150, 151, 152, 153, 154, 155, 156, 157, 158, 159, 160, 161, 162, 163, 164, 165, 166, 167, 168, 169, 170, 171] (by decide +kernel) (by decide +kernel)
set_option maxRecDepth 20000 in
theorem gX12_years_X12_refuse : GoodIn wsX12_years (wsV RX12 426 RX12 yX12_refuse wsX12_refuse) := goodIn_app (goodIn_of _ (by decide +kernel)) ggX12_years_X12_refuse
set_option maxRecDepth 20000 in
theorem ggX12_years_X12_keep : GoodIn wsX12_years wsX12_keep := goodIn_r _ [16, 17, 18, 19, 20, 21, 6, 22, 3, 23, 24, 25, 26, 27, 28, 29, 30, 107, 108, 109, 110, 111, 112, 113, 114, 115, 116, 117, 118, 119, 120, 121, 122, 123, 124, 125, 126, 127, 128, 129, 130, 131, 132, 133, 134, 135, 136, 137, 138, 139, 140, 141, 142, 143, 144, 145, 146, 147, 148, 149, 150, 151, 152, 153, 154, 155, 156, 157, 158, 159, 160, 161, 162, 163, 164, 165, 166, 167, 168, 169, 170, 171] (by decide +kernel) (by decide +kernel)
set_option maxRecDepth 20000 in
theorem gX12_years_X12_keep : GoodIn wsX12_years (wsV RX12 429 RX12 yX12_keep wsX12_keep) := goodIn_app (goodIn_of _ (by decide +kernel)) ggX12_years_X12_keep
set_option maxRecDepth 20000 in
theorem ggX12_years_X12_goOn : GoodIn wsX12_years wsX12_goOn := goodIn_r _ [34, 3, 35, 36, 37, 6, 38, 39, 40, 41, 42, 43, 44, 45, 46, 47, 48, 25, 49, 50, 51, 52, 23, 24, 53, 54, 55, 56, 30, 57, 58, 59, 60, 61, 62, 63, 64, 65, 66, 67, 68, 69, 70, 71, 72, 73, 74, 75, 76, 77, 78, 79, 80, 81, 28, 29, 82, 26, 27, 83, 84, 85, 86, 87, 88, 89, 90, 91, 92, 93, 94, 95, 96, 97, 98, 99, 100, 101, 102, 103, 104, 105, 106, 107, 108, 109, 110, 111, 112, 113, 114, 115, 116, 117, 118, 119, 120, 121, 122, 123, 124, 125, 126, 127, 128, 129, 130, 131, 132, 133, 134, 135, 136, 137, 138, 139, 140, 141, 142, 143, 144, 145, 146, 147, 148, 149, 150, 151, 152, 153, 154, 155, 156, 157, 158, 159, 160, 161, 162, 163, 164, 165, 166, 167, 168, 169, 170, 171] (by decide +kernel) (by decide +kernel)
set_option maxRecDepth 20000 in
theorem gX12_years_X12_goOn : GoodIn wsX12_years (wsV RX12 432 RX12 yX12_goOn wsX12_goOn) := goodIn_app (goodIn_of _ (by decide +kernel)) ggX12_years_X12_goOn
theorem dX12_years_0 : decode cX12_years 0 = .ok (.aload_n 0, 1) := by decide +kernel
theorem dX12_years_1 : decode cX12_years 1 = .ok (.iconst 0, 1) := by decide +kernel
theorem dX12_years_2 : decode cX12_years 2 = .ok (.putfield 163, 3) := by decide +kernel
theorem dX12_years_5 : decode cX12_years 5 = .ok (.iload_n 1, 1) := by decide +kernel
theorem dX12_years_6 : decode cX12_years 6 = .ok (.i2l, 1) := by decide +kernel
theorem dX12_years_7 : decode cX12_years 7 = .ok (.lconst 1, 1) := by decide +kernel
theorem dX12_years_8 : decode cX12_years 8 = .ok (.ldc2_w 424, 3) := by decide +kernel
theorem dX12_years_11 : decode cX12_years 11 = .ok (.invokestatic 166, 3) := by decide +kernel
theorem dX12_years_14 : decode cX12_years 14 = .ok (.ifCond .eq 15, 3) := by decide +kernel
theorem dX12_years_17 : decode cX12_years 17 = .ok (.aload_n 0, 1) := by decide +kernel
theorem dX12_years_18 : decode cX12_years 18 = .ok (.getfield 323, 3) := by decide +kernel
theorem dX12_years_21 : decode cX12_years 21 = .ok (.iload_n 1, 1) := by decide +kernel
theorem dX12_years_22 : decode cX12_years 22 = .ok (.iadd, 1) := by decide +kernel
theorem dX12_years_23 : decode cX12_years 23 = .ok (.sipush 999, 3) := by decide +kernel
theorem dX12_years_26 : decode cX12_years 26 = .ok (.if_icmp .le 9, 3) := by decide +kernel
theorem dX12_years_29 : decode cX12_years 29 = .ok (.aload_n 0, 1) := by decide +kernel
theorem dX12_years_30 : decode cX12_years 30 = .ok (.iconst 1, 1) := by decide +kernel
theorem dX12_years_31 : decode cX12_years 31 = .ok (.invokevirtual 426, 3) := by decide +kernel
theorem dX12_years_34 : decode cX12_years 34 = .ok (.ireturn, 1) := by decide +kernel
theorem dX12_years_35 : decode cX12_years 35 = .ok (.aload_n 0, 1) := by decide +kernel
theorem dX12_years_36 : decode cX12_years 36 = .ok (.invokevirtual 429, 3) := by decide +kernel
theorem dX12_years_39 : decode cX12_years 39 = .ok (.aload_n 0, 1) := by decide +kernel
theorem dX12_years_40 : decode cX12_years 40 = .ok (.iload_n 1, 1) := by decide +kernel
theorem dX12_years_41 : decode cX12_years 41 = .ok (.invokevirtual 432, 3) := by decide +kernel
theorem dX12_years_44 : decode cX12_years 44 = .ok (.aload_n 0, 1) := by decide +kernel
theorem dX12_years_45 : decode cX12_years 45 = .ok (.getfield 323, 3) := by decide +kernel
theorem dX12_years_48 : decode cX12_years 48 = .ok (.ireturn, 1) := by decide +kernel
theorem dX12_carve_0 : decode cX12_carve 0 = .ok (.aload_n 0, 1) := by decide +kernel
theorem dX12_carve_1 : decode cX12_carve 1 = .ok (.getfield 88, 3) := by decide +kernel
theorem dX12_carve_4 : decode cX12_carve 4 = .ok (.iload_n 1, 1) := by decide +kernel
theorem dX12_carve_5 : decode cX12_carve 5 = .ok (.iload_n 2, 1) := by decide +kernel
theorem dX12_carve_6 : decode cX12_carve 6 = .ok (.iastore, 1) := by decide +kernel
theorem dX12_carve_7 : decode cX12_carve 7 = .ok (.aload_n 0, 1) := by decide +kernel
theorem dX12_carve_8 : decode cX12_carve 8 = .ok (.getfield 91, 3) := by decide +kernel
theorem dX12_carve_11 : decode cX12_carve 11 = .ok (.iload_n 1, 1) := by decide +kernel
theorem dX12_carve_12 : decode cX12_carve 12 = .ok (.iload_n 3, 1) := by decide +kernel
theorem dX12_carve_13 : decode cX12_carve 13 = .ok (.iastore, 1) := by decide +kernel
theorem dX12_carve_14 : decode cX12_carve 14 = .ok (.aload_n 0, 1) := by decide +kernel
theorem dX12_carve_15 : decode cX12_carve 15 = .ok (.getfield 94, 3) := by decide +kernel
theorem dX12_carve_18 : decode cX12_carve 18 = .ok (.iload_n 1, 1) := by decide +kernel
theorem dX12_carve_19 : decode cX12_carve 19 = .ok (.bipush 99, 2) := by decide +kernel
theorem dX12_carve_21 : decode cX12_carve 21 = .ok (.iastore, 1) := by decide +kernel
theorem dX12_carve_22 : decode cX12_carve 22 = .ok (.return_, 1) := by decide +kernel
set_option maxRecDepth 20000 in
theorem ggX12_cut_X12_isStone : GoodIn wsX12_cut wsX12_isStone := goodIn_r _ [8, 9, 10, 11, 7, 12, 44, 45, 46, 47, 48, 49, 50, 51, 52, 53, 54, 55, 56, 57, 58, 59, 60, 61, 62, 63, 64, 65, 66, 67, 68, 69, 70, 71, 72, 73, 74, 75, 76, 77, 78, 79, 80, 81, 82, 83, 84, 85, 86, 87, 88, 89, 90, 91, 92, 93, 94, 95, 96, 97, 98, 99, 100, 101, 102, 103, 104, 105, 106, 107, 108] (by decide +kernel) (by decide +kernel)
set_option maxRecDepth 20000 in
theorem gX12_cut_X12_isStone : GoodIn wsX12_cut (wsV RX12 411 RX12 yX12_isStone wsX12_isStone) := goodIn_app (goodIn_of _ (by decide +kernel)) ggX12_cut_X12_isStone
set_option maxRecDepth 20000 in
theorem ggX12_cut_X12_fail : GoodIn wsX12_cut wsX12_fail := goodIn_r _ [16, 1, 44, 45, 46, 47, 48, 49, 50, 51, 52, 53, 54, 55, 56, 57, 58, 59, 60, 61, 62, 63, 64, 65, 66, 67, 68, 69, 70, 71, 72, 73, 74, 75, 76, 77, 78, 79, 80, 81, 82, 83, 84, 85, 86, 87, 88, 89, 90, 91, 92, 93, 94, 95, 96, 97, 98, 99, 100, 101, 102, 103, 104, 105, 106, 107, 108] (by decide +kernel) (by decide +kernel)
set_option maxRecDepth 20000 in
theorem gX12_cut_X12_fail : GoodIn wsX12_cut (wsV RX12 310 RX12 yX12_fail wsX12_fail) := goodIn_app (goodIn_of _ (by decide +kernel)) ggX12_cut_X12_fail
set_option maxRecDepth 20000 in
theorem ggX12_cut_X12_isIn : GoodIn wsX12_cut wsX12_isIn := goodIn_r _ [12] (by decide +kernel) (by decide +kernel)
set_option maxRecDepth 20000 in
theorem gX12_cut_X12_isIn : GoodIn wsX12_cut (va_wsS RX12 166 yX12_isIn wsX12_isIn) := goodIn_app (goodIn_of _ (by decide +kernel)) ggX12_cut_X12_isIn
set_option maxRecDepth 20000 in
theorem ggX12_cut_X12_refuse : GoodIn wsX12_cut wsX12_refuse := goodIn_r _ [20, 21, 44, 45, 46, 47, 48, 49, 50, 51, 52, 53, 54, 55, 56, 57, 58, 59, 60, 61, 62, 63, 64, 65, 66, 67, 68, 69, 70, 71, 72, 73, 74, 75, 76, 77, 78, 79, 80, 81, 82, 83, 84, 85, 86, 87, 88, 89, 90, 91, 92, 93, 94, 95, 96, 97, 98, 99, 100, 101, 102, 103, 104, 105, 106, 107, 108] (by decide +kernel) (by decide +kernel)
set_option maxRecDepth 20000 in
theorem gX12_cut_X12_refuse : GoodIn wsX12_cut (wsV RX12 426 RX12 yX12_refuse wsX12_refuse) := goodIn_app (goodIn_of _ (by decide +kernel)) ggX12_cut_X12_refuse
set_option maxRecDepth 20000 in
theorem ggX12_cut_X12_keep : GoodIn wsX12_cut wsX12_keep := goodIn_r _ [25, 26, 27, 28, 29, 30, 7, 31, 32, 33, 34, 3, 35, 36, 37, 38, 39, 44, 45, 46, 47, 48, 49, 50, 51, 52, 53, 54, 55, 56, 57, 58, 59, 60, 61, 62, 63, 64, 65, 66, 67, 68, 69, 70, 71, 72, 73, 74, 75, 76, 77, 78, 79, 80, 81, 82, 83, 84, 85, 86, 87, 88, 89, 90, 91, 92, 93, 94, 95, 96, 97, 98, 99, 100, 101, 102, 103, 104, 105, 106, 107, 108] (by decide +kernel) (by decide +kernel)
set_option maxRecDepth 20000 in
theorem gX12_cut_X12_keep : GoodIn wsX12_cut (wsV RX12 429 RX12 yX12_keep wsX12_keep) := goodIn_app (goodIn_of _ (by decide +kernel)) ggX12_cut_X12_keep
set_option maxRecDepth 20000 in
theorem ggX12_cut_X12_carve : GoodIn wsX12_cut wsX12_carve := goodIn_r _ [43, 33, 34, 3, 44, 45, 46, 47, 48, 49, 50, 51, 52, 53, 54, 55, 56, 57, 58, 59, 60, 61, 62, 63, 64, 65, 66, 67, 68, 69, 70, 71, 72, 73, 74, 75, 76, 77, 78, 79, 80, 81, 82, 83, 84, 85, 86, 87, 88, 89, 90, 91, 92, 93, 94, 95, 96, 97, 98, 99, 100, 101, 102, 103, 104, 105, 106, 107, 108] (by decide +kernel) (by decide +kernel)
set_option maxRecDepth 20000 in
theorem gX12_cut_X12_carve : GoodIn wsX12_cut (wsV RX12 437 RX12 yX12_carve wsX12_carve) := goodIn_app (goodIn_of _ (by decide +kernel)) ggX12_cut_X12_carve
theorem dX12_cut_0 : decode cX12_cut 0 = .ok (.aload_n 0, 1) := by decide +kernel
theorem dX12_cut_1 : decode cX12_cut 1 = .ok (.iconst 0, 1) := by decide +kernel
theorem dX12_cut_2 : decode cX12_cut 2 = .ok (.putfield 163, 3) := by decide +kernel
theorem dX12_cut_5 : decode cX12_cut 5 = .ok (.aload_n 0, 1) := by decide +kernel
theorem dX12_cut_6 : decode cX12_cut 6 = .ok (.iload_n 1, 1) := by decide +kernel
theorem dX12_cut_7 : decode cX12_cut 7 = .ok (.invokevirtual 411, 3) := by decide +kernel
theorem dX12_cut_10 : decode cX12_cut 10 = .ok (.ifCond .ne 9, 3) := by decide +kernel
theorem dX12_cut_13 : decode cX12_cut 13 = .ok (.aload_n 0, 1) := by decide +kernel
theorem dX12_cut_14 : decode cX12_cut 14 = .ok (.iconst 1, 1) := by decide +kernel
theorem dX12_cut_15 : decode cX12_cut 15 = .ok (.invokevirtual 310, 3) := by decide +kernel
theorem dX12_cut_18 : decode cX12_cut 18 = .ok (.ireturn, 1) := by decide +kernel
theorem dX12_cut_19 : decode cX12_cut 19 = .ok (.iload_n 2, 1) := by decide +kernel
theorem dX12_cut_20 : decode cX12_cut 20 = .ok (.i2l, 1) := by decide +kernel
theorem dX12_cut_21 : decode cX12_cut 21 = .ok (.lconst 0, 1) := by decide +kernel
theorem dX12_cut_22 : decode cX12_cut 22 = .ok (.ldc2_w 435, 3) := by decide +kernel
theorem dX12_cut_25 : decode cX12_cut 25 = .ok (.invokestatic 166, 3) := by decide +kernel
theorem dX12_cut_28 : decode cX12_cut 28 = .ok (.ifCond .eq 15, 3) := by decide +kernel
theorem dX12_cut_31 : decode cX12_cut 31 = .ok (.iload_n 3, 1) := by decide +kernel
theorem dX12_cut_32 : decode cX12_cut 32 = .ok (.i2l, 1) := by decide +kernel
theorem dX12_cut_33 : decode cX12_cut 33 = .ok (.lconst 0, 1) := by decide +kernel
theorem dX12_cut_34 : decode cX12_cut 34 = .ok (.ldc2_w 435, 3) := by decide +kernel
theorem dX12_cut_37 : decode cX12_cut 37 = .ok (.invokestatic 166, 3) := by decide +kernel
theorem dX12_cut_40 : decode cX12_cut 40 = .ok (.ifCond .ne 9, 3) := by decide +kernel
theorem dX12_cut_43 : decode cX12_cut 43 = .ok (.aload_n 0, 1) := by decide +kernel
theorem dX12_cut_44 : decode cX12_cut 44 = .ok (.iconst 1, 1) := by decide +kernel
theorem dX12_cut_45 : decode cX12_cut 45 = .ok (.invokevirtual 426, 3) := by decide +kernel
theorem dX12_cut_48 : decode cX12_cut 48 = .ok (.ireturn, 1) := by decide +kernel
theorem dX12_cut_49 : decode cX12_cut 49 = .ok (.aload_n 0, 1) := by decide +kernel
theorem dX12_cut_50 : decode cX12_cut 50 = .ok (.invokevirtual 429, 3) := by decide +kernel
theorem dX12_cut_53 : decode cX12_cut 53 = .ok (.aload_n 0, 1) := by decide +kernel
theorem dX12_cut_54 : decode cX12_cut 54 = .ok (.getfield 94, 3) := by decide +kernel
theorem dX12_cut_57 : decode cX12_cut 57 = .ok (.iload_n 1, 1) := by decide +kernel
theorem dX12_cut_58 : decode cX12_cut 58 = .ok (.iaload, 1) := by decide +kernel
theorem dX12_cut_59 : decode cX12_cut 59 = .ok (.istore 4, 2) := by decide +kernel
theorem dX12_cut_61 : decode cX12_cut 61 = .ok (.aload_n 0, 1) := by decide +kernel
theorem dX12_cut_62 : decode cX12_cut 62 = .ok (.iload_n 1, 1) := by decide +kernel
theorem dX12_cut_63 : decode cX12_cut 63 = .ok (.iload_n 2, 1) := by decide +kernel
theorem dX12_cut_64 : decode cX12_cut 64 = .ok (.iload_n 3, 1) := by decide +kernel
theorem dX12_cut_65 : decode cX12_cut 65 = .ok (.invokevirtual 437, 3) := by decide +kernel
theorem dX12_cut_68 : decode cX12_cut 68 = .ok (.iload 4, 2) := by decide +kernel
theorem dX12_cut_70 : decode cX12_cut 70 = .ok (.ireturn, 1) := by decide +kernel
set_option maxRecDepth 20000 in
theorem ggX12_call_X12_isPerson : GoodIn wsX12_call wsX12_isPerson := goodIn_r _ [7, 8, 9, 10, 6, 11, 39, 40, 41, 42, 43, 44, 45, 46, 47, 48, 49, 50, 51, 52, 53, 54, 55, 56, 57, 58, 59, 60, 61, 62, 63, 64, 65, 66, 67, 68, 69, 70, 71, 72, 73, 74, 75, 76, 77, 78, 79, 80, 81, 82, 83, 84, 85, 86, 87, 88, 89, 90, 91, 92, 93, 94, 95, 96, 97, 98, 99, 100, 101, 102, 103] (by decide +kernel) (by decide +kernel)
set_option maxRecDepth 20000 in
theorem gX12_call_X12_isPerson : GoodIn wsX12_call (wsV RX12 417 RX12 yX12_isPerson wsX12_isPerson) := goodIn_app (goodIn_of _ (by decide +kernel)) ggX12_call_X12_isPerson
set_option maxRecDepth 20000 in
theorem ggX12_call_X12_fail : GoodIn wsX12_call wsX12_fail := goodIn_r _ [15, 1, 39, 40, 41, 42, 43, 44, 45, 46, 47, 48, 49, 50, 51, 52, 53, 54, 55, 56, 57, 58, 59, 60, 61, 62, 63, 64, 65, 66, 67, 68, 69, 70, 71, 72, 73, 74, 75, 76, 77, 78, 79, 80, 81, 82, 83, 84, 85, 86, 87, 88, 89, 90, 91, 92, 93, 94, 95, 96, 97, 98, 99, 100, 101, 102, 103] (by decide +kernel) (by decide +kernel)
set_option maxRecDepth 20000 in
theorem gX12_call_X12_fail : GoodIn wsX12_call (wsV RX12 310 RX12 yX12_fail wsX12_fail) := goodIn_app (goodIn_of _ (by decide +kernel)) ggX12_call_X12_fail
set_option maxRecDepth 20000 in
theorem ggX12_call_X12_refuse : GoodIn wsX12_call wsX12_refuse := goodIn_r _ [19, 20, 39, 40, 41, 42, 43, 44, 45, 46, 47, 48, 49, 50, 51, 52, 53, 54, 55, 56, 57, 58, 59, 60, 61, 62, 63, 64, 65, 66, 67, 68, 69, 70, 71, 72, 73, 74, 75, 76, 77, 78, 79, 80, 81, 82, 83, 84, 85, 86, 87, 88, 89, 90, 91, 92, 93, 94, 95, 96, 97, 98, 99, 100, 101, 102, 103] (by decide +kernel) (by decide +kernel)
set_option maxRecDepth 20000 in
theorem gX12_call_X12_refuse : GoodIn wsX12_call (wsV RX12 426 RX12 yX12_refuse wsX12_refuse) := goodIn_app (goodIn_of _ (by decide +kernel)) ggX12_call_X12_refuse
set_option maxRecDepth 20000 in
theorem ggX12_call_X12_keep : GoodIn wsX12_call wsX12_keep := goodIn_r _ [24, 25, 26, 27, 28, 29, 6, 30, 31, 32, 33, 34, 35, 36, 37, 38, 2, 39, 40, 41, 42, 43, 44, 45, 46, 47, 48, 49, 50, 51, 52, 53, 54, 55, 56, 57, 58, 59, 60, 61, 62, 63, 64, 65, 66, 67, 68, 69, 70, 71, 72, 73, 74, 75, 76, 77, 78, 79, 80, 81, 82, 83, 84, 85, 86, 87, 88, 89, 90, 91, 92, 93, 94, 95, 96, 97, 98, 99, 100, 101, 102, 103] (by decide +kernel) (by decide +kernel)
set_option maxRecDepth 20000 in
theorem gX12_call_X12_keep : GoodIn wsX12_call (wsV RX12 429 RX12 yX12_keep wsX12_keep) := goodIn_app (goodIn_of _ (by decide +kernel)) ggX12_call_X12_keep
theorem dX12_call_0 : decode cX12_call 0 = .ok (.aload_n 0, 1) := by decide +kernel
theorem dX12_call_1 : decode cX12_call 1 = .ok (.iconst 0, 1) := by decide +kernel
theorem dX12_call_2 : decode cX12_call 2 = .ok (.putfield 163, 3) := by decide +kernel
theorem dX12_call_5 : decode cX12_call 5 = .ok (.aload_n 0, 1) := by decide +kernel
theorem dX12_call_6 : decode cX12_call 6 = .ok (.iload_n 1, 1) := by decide +kernel
theorem dX12_call_7 : decode cX12_call 7 = .ok (.invokevirtual 417, 3) := by decide +kernel
theorem dX12_call_10 : decode cX12_call 10 = .ok (.ifCond .ne 9, 3) := by decide +kernel
theorem dX12_call_13 : decode cX12_call 13 = .ok (.aload_n 0, 1) := by decide +kernel
theorem dX12_call_14 : decode cX12_call 14 = .ok (.iconst 1, 1) := by decide +kernel
theorem dX12_call_15 : decode cX12_call 15 = .ok (.invokevirtual 310, 3) := by decide +kernel
theorem dX12_call_18 : decode cX12_call 18 = .ok (.ireturn, 1) := by decide +kernel
theorem dX12_call_19 : decode cX12_call 19 = .ok (.aload_n 0, 1) := by decide +kernel
theorem dX12_call_20 : decode cX12_call 20 = .ok (.getfield 106, 3) := by decide +kernel
theorem dX12_call_23 : decode cX12_call 23 = .ok (.iload_n 1, 1) := by decide +kernel
theorem dX12_call_24 : decode cX12_call 24 = .ok (.iaload, 1) := by decide +kernel
theorem dX12_call_25 : decode cX12_call 25 = .ok (.istore_n 2, 1) := by decide +kernel
theorem dX12_call_26 : decode cX12_call 26 = .ok (.iload_n 2, 1) := by decide +kernel
theorem dX12_call_27 : decode cX12_call 27 = .ok (.iconst (-1), 1) := by decide +kernel
theorem dX12_call_28 : decode cX12_call 28 = .ok (.if_icmp .ne 9, 3) := by decide +kernel
theorem dX12_call_31 : decode cX12_call 31 = .ok (.aload_n 0, 1) := by decide +kernel
theorem dX12_call_32 : decode cX12_call 32 = .ok (.iconst 1, 1) := by decide +kernel
theorem dX12_call_33 : decode cX12_call 33 = .ok (.invokevirtual 426, 3) := by decide +kernel
theorem dX12_call_36 : decode cX12_call 36 = .ok (.ireturn, 1) := by decide +kernel
theorem dX12_call_37 : decode cX12_call 37 = .ok (.aload_n 0, 1) := by decide +kernel
theorem dX12_call_38 : decode cX12_call 38 = .ok (.invokevirtual 429, 3) := by decide +kernel
theorem dX12_call_41 : decode cX12_call 41 = .ok (.aload_n 0, 1) := by decide +kernel
theorem dX12_call_42 : decode cX12_call 42 = .ok (.getfield 106, 3) := by decide +kernel
theorem dX12_call_45 : decode cX12_call 45 = .ok (.iload_n 1, 1) := by decide +kernel
theorem dX12_call_46 : decode cX12_call 46 = .ok (.iconst (-1), 1) := by decide +kernel
theorem dX12_call_47 : decode cX12_call 47 = .ok (.iastore, 1) := by decide +kernel
theorem dX12_call_48 : decode cX12_call 48 = .ok (.iload_n 2, 1) := by decide +kernel
theorem dX12_call_49 : decode cX12_call 49 = .ok (.ireturn, 1) := by decide +kernel
set_option maxRecDepth 20000 in
theorem ggX12_lift_X12_isPerson : GoodIn wsX12_lift wsX12_isPerson := goodIn_r _ [8, 9, 10, 11, 7, 12, 43, 44, 45, 46, 47, 48, 49, 50, 51, 52, 53, 54, 55, 56, 57, 58, 59, 60, 61, 62, 63, 64, 65, 66, 67, 68, 69, 70, 71, 72, 73, 74, 75, 76, 77, 78, 79, 80, 81, 82, 83, 84, 85, 86, 87, 88, 89, 90, 91, 92, 93, 94, 95, 96, 97, 98, 99, 100, 101, 102, 103, 104, 105, 106, 107] (by decide +kernel) (by decide +kernel)
set_option maxRecDepth 20000 in
theorem gX12_lift_X12_isPerson : GoodIn wsX12_lift (wsV RX12 417 RX12 yX12_isPerson wsX12_isPerson) := goodIn_app (goodIn_of _ (by decide +kernel)) ggX12_lift_X12_isPerson
set_option maxRecDepth 20000 in
theorem ggX12_lift_X12_isStone : GoodIn wsX12_lift wsX12_isStone := goodIn_r _ [16, 9, 10, 11, 7, 12, 43, 44, 45, 46, 47, 48, 49, 50, 51, 52, 53, 54, 55, 56, 57, 58, 59, 60, 61, 62, 63, 64, 65, 66, 67, 68, 69, 70, 71, 72, 73, 74, 75, 76, 77, 78, 79, 80, 81, 82, 83, 84, 85, 86, 87, 88, 89, 90, 91, 92, 93, 94, 95, 96, 97, 98, 99, 100, 101, 102, 103, 104, 105, 106, 107] (by decide +kernel) (by decide +kernel)
set_option maxRecDepth 20000 in
theorem gX12_lift_X12_isStone : GoodIn wsX12_lift (wsV RX12 411 RX12 yX12_isStone wsX12_isStone) := goodIn_app (goodIn_of _ (by decide +kernel)) ggX12_lift_X12_isStone
set_option maxRecDepth 20000 in
theorem ggX12_lift_X12_failing : GoodIn wsX12_lift wsX12_failing := goodIn_r _ [20, 1, 43, 44, 45, 46, 47, 48, 49, 50, 51, 52, 53, 54, 55, 56, 57, 58, 59, 60, 61, 62, 63, 64, 65, 66, 67, 68, 69, 70, 71, 72, 73, 74, 75, 76, 77, 78, 79, 80, 81, 82, 83, 84, 85, 86, 87, 88, 89, 90, 91, 92, 93, 94, 95, 96, 97, 98, 99, 100, 101, 102, 103, 104, 105, 106, 107] (by decide +kernel) (by decide +kernel)
set_option maxRecDepth 20000 in
theorem gX12_lift_X12_failing : GoodIn wsX12_lift (wsV RX12 441 RX12 yX12_failing wsX12_failing) := goodIn_app (goodIn_of _ (by decide +kernel)) ggX12_lift_X12_failing
set_option maxRecDepth 20000 in
theorem ggX12_lift_X12_sitterOf : GoodIn wsX12_lift wsX12_sitterOf := goodIn_r _ [24, 9, 2, 43, 44, 45, 46, 47, 48, 49, 50, 51, 52, 53, 54, 55, 56, 57, 58, 59, 60, 61, 62, 63, 64, 65, 66, 67, 68, 69, 70, 71, 72, 73, 74, 75, 76, 77, 78, 79, 80, 81, 82, 83, 84, 85, 86, 87, 88, 89, 90, 91, 92, 93, 94, 95, 96, 97, 98, 99, 100, 101, 102, 103, 104, 105, 106, 107] (by decide +kernel) (by decide +kernel)
set_option maxRecDepth 20000 in
theorem gX12_lift_X12_sitterOf : GoodIn wsX12_lift (wsV RX12 355 RX12 yX12_sitterOf wsX12_sitterOf) := goodIn_app (goodIn_of _ (by decide +kernel)) ggX12_lift_X12_sitterOf
set_option maxRecDepth 20000 in
theorem ggX12_lift_X12_keep : GoodIn wsX12_lift wsX12_keep := goodIn_r _ [28, 29, 30, 31, 32, 33, 7, 34, 35, 36, 37, 38, 39, 40, 41, 42, 2, 43, 44, 45, 46, 47, 48, 49, 50, 51, 52, 53, 54, 55, 56, 57, 58, 59, 60, 61, 62, 63, 64, 65, 66, 67, 68, 69, 70, 71, 72, 73, 74, 75, 76, 77, 78, 79, 80, 81, 82, 83, 84, 85, 86, 87, 88, 89, 90, 91, 92, 93, 94, 95, 96, 97, 98, 99, 100, 101, 102, 103, 104, 105, 106, 107] (by decide +kernel) (by decide +kernel)
set_option maxRecDepth 20000 in
theorem gX12_lift_X12_keep : GoodIn wsX12_lift (wsV RX12 429 RX12 yX12_keep wsX12_keep) := goodIn_app (goodIn_of _ (by decide +kernel)) ggX12_lift_X12_keep
theorem dX12_lift_0 : decode cX12_lift 0 = .ok (.aload_n 0, 1) := by decide +kernel
theorem dX12_lift_1 : decode cX12_lift 1 = .ok (.iconst 0, 1) := by decide +kernel
theorem dX12_lift_2 : decode cX12_lift 2 = .ok (.putfield 163, 3) := by decide +kernel
theorem dX12_lift_5 : decode cX12_lift 5 = .ok (.aload_n 0, 1) := by decide +kernel
theorem dX12_lift_6 : decode cX12_lift 6 = .ok (.iload_n 1, 1) := by decide +kernel
theorem dX12_lift_7 : decode cX12_lift 7 = .ok (.invokevirtual 417, 3) := by decide +kernel
theorem dX12_lift_10 : decode cX12_lift 10 = .ok (.ifCond .eq 11, 3) := by decide +kernel
theorem dX12_lift_13 : decode cX12_lift 13 = .ok (.aload_n 0, 1) := by decide +kernel
theorem dX12_lift_14 : decode cX12_lift 14 = .ok (.iload_n 2, 1) := by decide +kernel
theorem dX12_lift_15 : decode cX12_lift 15 = .ok (.invokevirtual 411, 3) := by decide +kernel
theorem dX12_lift_18 : decode cX12_lift 18 = .ok (.ifCond .ne 9, 3) := by decide +kernel
theorem dX12_lift_21 : decode cX12_lift 21 = .ok (.aload_n 0, 1) := by decide +kernel
theorem dX12_lift_22 : decode cX12_lift 22 = .ok (.iconst 1, 1) := by decide +kernel
theorem dX12_lift_23 : decode cX12_lift 23 = .ok (.invokevirtual 441, 3) := by decide +kernel
theorem dX12_lift_26 : decode cX12_lift 26 = .ok (.ireturn, 1) := by decide +kernel
theorem dX12_lift_27 : decode cX12_lift 27 = .ok (.aload_n 0, 1) := by decide +kernel
theorem dX12_lift_28 : decode cX12_lift 28 = .ok (.getfield 106, 3) := by decide +kernel
theorem dX12_lift_31 : decode cX12_lift 31 = .ok (.iload_n 1, 1) := by decide +kernel
theorem dX12_lift_32 : decode cX12_lift 32 = .ok (.iaload, 1) := by decide +kernel
theorem dX12_lift_33 : decode cX12_lift 33 = .ok (.iconst (-1), 1) := by decide +kernel
theorem dX12_lift_34 : decode cX12_lift 34 = .ok (.if_icmp .ne 12, 3) := by decide +kernel
theorem dX12_lift_37 : decode cX12_lift 37 = .ok (.aload_n 0, 1) := by decide +kernel
theorem dX12_lift_38 : decode cX12_lift 38 = .ok (.iload_n 2, 1) := by decide +kernel
theorem dX12_lift_39 : decode cX12_lift 39 = .ok (.invokevirtual 355, 3) := by decide +kernel
theorem dX12_lift_42 : decode cX12_lift 42 = .ok (.iconst (-1), 1) := by decide +kernel
theorem dX12_lift_43 : decode cX12_lift 43 = .ok (.if_icmp .eq 15, 3) := by decide +kernel
theorem dX12_lift_46 : decode cX12_lift 46 = .ok (.aload_n 0, 1) := by decide +kernel
theorem dX12_lift_47 : decode cX12_lift 47 = .ok (.getfield 78, 3) := by decide +kernel
theorem dX12_lift_50 : decode cX12_lift 50 = .ok (.iconst 1, 1) := by decide +kernel
theorem dX12_lift_51 : decode cX12_lift 51 = .ok (.dup2, 1) := by decide +kernel
theorem dX12_lift_52 : decode cX12_lift 52 = .ok (.iaload, 1) := by decide +kernel
theorem dX12_lift_53 : decode cX12_lift 53 = .ok (.iconst 1, 1) := by decide +kernel
theorem dX12_lift_54 : decode cX12_lift 54 = .ok (.iadd, 1) := by decide +kernel
theorem dX12_lift_55 : decode cX12_lift 55 = .ok (.iastore, 1) := by decide +kernel
theorem dX12_lift_56 : decode cX12_lift 56 = .ok (.iconst 0, 1) := by decide +kernel
theorem dX12_lift_57 : decode cX12_lift 57 = .ok (.ireturn, 1) := by decide +kernel
theorem dX12_lift_58 : decode cX12_lift 58 = .ok (.aload_n 0, 1) := by decide +kernel
theorem dX12_lift_59 : decode cX12_lift 59 = .ok (.invokevirtual 429, 3) := by decide +kernel
theorem dX12_lift_62 : decode cX12_lift 62 = .ok (.aload_n 0, 1) := by decide +kernel
theorem dX12_lift_63 : decode cX12_lift 63 = .ok (.getfield 106, 3) := by decide +kernel
theorem dX12_lift_66 : decode cX12_lift 66 = .ok (.iload_n 1, 1) := by decide +kernel
theorem dX12_lift_67 : decode cX12_lift 67 = .ok (.iload_n 2, 1) := by decide +kernel
theorem dX12_lift_68 : decode cX12_lift 68 = .ok (.iastore, 1) := by decide +kernel
theorem dX12_lift_69 : decode cX12_lift 69 = .ok (.iconst 1, 1) := by decide +kernel
theorem dX12_lift_70 : decode cX12_lift 70 = .ok (.ireturn, 1) := by decide +kernel
set_option maxRecDepth 20000 in
theorem ggX12_leave_X12_isPerson : GoodIn wsX12_leave wsX12_isPerson := goodIn_r _ [10, 3, 11, 12, 9, 13, 36, 37, 38, 39, 40, 41, 42, 43, 44, 45, 46, 47, 48, 49, 50, 51, 52, 53, 54, 55, 56, 57, 58, 59, 60, 61, 62, 63, 64, 65, 66, 67, 68, 69, 70, 71, 72, 73, 74, 75, 76, 77, 78, 79, 80, 81, 82, 83, 84, 85, 86, 87, 88, 89, 90, 91, 92, 93, 94, 95, 96, 97, 98, 99, 100] (by decide +kernel) (by decide +kernel)
set_option maxRecDepth 20000 in
theorem gX12_leave_X12_isPerson : GoodIn wsX12_leave (wsV RX12 417 RX12 yX12_isPerson wsX12_isPerson) := goodIn_app (goodIn_of _ (by decide +kernel)) ggX12_leave_X12_isPerson
set_option maxRecDepth 20000 in
theorem ggX12_leave_X12_isIn : GoodIn wsX12_leave wsX12_isIn := goodIn_r _ [13] (by decide +kernel) (by decide +kernel)
set_option maxRecDepth 20000 in
theorem gX12_leave_X12_isIn : GoodIn wsX12_leave (va_wsS RX12 166 yX12_isIn wsX12_isIn) := goodIn_app (goodIn_of _ (by decide +kernel)) ggX12_leave_X12_isIn
set_option maxRecDepth 20000 in
theorem ggX12_leave_X12_fail : GoodIn wsX12_leave wsX12_fail := goodIn_r _ [17, 1, 36, 37, 38, 39, 40, 41, 42, 43, 44, 45, 46, 47, 48, 49, 50, 51, 52, 53, 54, 55, 56, 57, 58, 59, 60, 61, 62, 63, 64, 65, 66, 67, 68, 69, 70, 71, 72, 73, 74, 75, 76, 77, 78, 79, 80, 81, 82, 83, 84, 85, 86, 87, 88, 89, 90, 91, 92, 93, 94, 95, 96, 97, 98, 99, 100] (by decide +kernel) (by decide +kernel)
set_option maxRecDepth 20000 in
theorem gX12_leave_X12_fail : GoodIn wsX12_leave (wsV RX12 310 RX12 yX12_fail wsX12_fail) := goodIn_app (goodIn_of _ (by decide +kernel)) ggX12_leave_X12_fail
set_option maxRecDepth 20000 in
theorem ggX12_leave_X12_keep : GoodIn wsX12_leave wsX12_keep := goodIn_r _ [21, 22, 23, 24, 25, 26, 9, 27, 28, 29, 30, 31, 32, 33, 34, 4, 35, 36, 37, 38, 39, 40, 41, 42, 43, 44, 45, 46, 47, 48, 49, 50, 51, 52, 53, 54, 55, 56, 57, 58, 59, 60, 61, 62, 63, 64, 65, 66, 67, 68, 69, 70, 71, 72, 73, 74, 75, 76, 77, 78, 79, 80, 81, 82, 83, 84, 85, 86, 87, 88, 89, 90, 91, 92, 93, 94, 95, 96, 97, 98, 99, 100] (by decide +kernel) (by decide +kernel)
set_option maxRecDepth 20000 in
theorem gX12_leave_X12_keep : GoodIn wsX12_leave (wsV RX12 429 RX12 yX12_keep wsX12_keep) := goodIn_app (goodIn_of _ (by decide +kernel)) ggX12_leave_X12_keep
theorem dX12_leave_0 : decode cX12_leave 0 = .ok (.aload_n 0, 1) := by decide +kernel
theorem dX12_leave_1 : decode cX12_leave 1 = .ok (.iconst 0, 1) := by decide +kernel
theorem dX12_leave_2 : decode cX12_leave 2 = .ok (.putfield 163, 3) := by decide +kernel
theorem dX12_leave_5 : decode cX12_leave 5 = .ok (.aload_n 0, 1) := by decide +kernel
theorem dX12_leave_6 : decode cX12_leave 6 = .ok (.iload_n 1, 1) := by decide +kernel
theorem dX12_leave_7 : decode cX12_leave 7 = .ok (.invokevirtual 417, 3) := by decide +kernel
theorem dX12_leave_10 : decode cX12_leave 10 = .ok (.ifCond .eq 23, 3) := by decide +kernel
theorem dX12_leave_13 : decode cX12_leave 13 = .ok (.iload_n 2, 1) := by decide +kernel
theorem dX12_leave_14 : decode cX12_leave 14 = .ok (.i2l, 1) := by decide +kernel
theorem dX12_leave_15 : decode cX12_leave 15 = .ok (.ldc2_w 444, 3) := by decide +kernel
theorem dX12_leave_18 : decode cX12_leave 18 = .ok (.aload_n 0, 1) := by decide +kernel
theorem dX12_leave_19 : decode cX12_leave 19 = .ok (.getfield 42, 3) := by decide +kernel
theorem dX12_leave_22 : decode cX12_leave 22 = .ok (.iconst 0, 1) := by decide +kernel
theorem dX12_leave_23 : decode cX12_leave 23 = .ok (.iaload, 1) := by decide +kernel
theorem dX12_leave_24 : decode cX12_leave 24 = .ok (.iconst 1, 1) := by decide +kernel
theorem dX12_leave_25 : decode cX12_leave 25 = .ok (.isub, 1) := by decide +kernel
theorem dX12_leave_26 : decode cX12_leave 26 = .ok (.i2l, 1) := by decide +kernel
theorem dX12_leave_27 : decode cX12_leave 27 = .ok (.invokestatic 166, 3) := by decide +kernel
theorem dX12_leave_30 : decode cX12_leave 30 = .ok (.ifCond .ne 9, 3) := by decide +kernel
theorem dX12_leave_33 : decode cX12_leave 33 = .ok (.aload_n 0, 1) := by decide +kernel
theorem dX12_leave_34 : decode cX12_leave 34 = .ok (.iconst 1, 1) := by decide +kernel
theorem dX12_leave_35 : decode cX12_leave 35 = .ok (.invokevirtual 310, 3) := by decide +kernel
theorem dX12_leave_38 : decode cX12_leave 38 = .ok (.ireturn, 1) := by decide +kernel
theorem dX12_leave_39 : decode cX12_leave 39 = .ok (.aload_n 0, 1) := by decide +kernel
theorem dX12_leave_40 : decode cX12_leave 40 = .ok (.getfield 104, 3) := by decide +kernel
theorem dX12_leave_43 : decode cX12_leave 43 = .ok (.iload_n 1, 1) := by decide +kernel
theorem dX12_leave_44 : decode cX12_leave 44 = .ok (.iaload, 1) := by decide +kernel
theorem dX12_leave_45 : decode cX12_leave 45 = .ok (.istore_n 3, 1) := by decide +kernel
theorem dX12_leave_46 : decode cX12_leave 46 = .ok (.iload_n 3, 1) := by decide +kernel
theorem dX12_leave_47 : decode cX12_leave 47 = .ok (.iload_n 2, 1) := by decide +kernel
theorem dX12_leave_48 : decode cX12_leave 48 = .ok (.if_icmp .ne 16, 3) := by decide +kernel
theorem dX12_leave_51 : decode cX12_leave 51 = .ok (.aload_n 0, 1) := by decide +kernel
theorem dX12_leave_52 : decode cX12_leave 52 = .ok (.getfield 78, 3) := by decide +kernel
theorem dX12_leave_55 : decode cX12_leave 55 = .ok (.iconst 1, 1) := by decide +kernel
theorem dX12_leave_56 : decode cX12_leave 56 = .ok (.dup2, 1) := by decide +kernel
theorem dX12_leave_57 : decode cX12_leave 57 = .ok (.iaload, 1) := by decide +kernel
theorem dX12_leave_58 : decode cX12_leave 58 = .ok (.iconst 1, 1) := by decide +kernel
theorem dX12_leave_59 : decode cX12_leave 59 = .ok (.iadd, 1) := by decide +kernel
theorem dX12_leave_60 : decode cX12_leave 60 = .ok (.iastore, 1) := by decide +kernel
theorem dX12_leave_61 : decode cX12_leave 61 = .ok (.bipush (-2), 2) := by decide +kernel
theorem dX12_leave_63 : decode cX12_leave 63 = .ok (.ireturn, 1) := by decide +kernel
theorem dX12_leave_64 : decode cX12_leave 64 = .ok (.aload_n 0, 1) := by decide +kernel
theorem dX12_leave_65 : decode cX12_leave 65 = .ok (.invokevirtual 429, 3) := by decide +kernel
theorem dX12_leave_68 : decode cX12_leave 68 = .ok (.aload_n 0, 1) := by decide +kernel
theorem dX12_leave_69 : decode cX12_leave 69 = .ok (.getfield 104, 3) := by decide +kernel
theorem dX12_leave_72 : decode cX12_leave 72 = .ok (.iload_n 1, 1) := by decide +kernel
theorem dX12_leave_73 : decode cX12_leave 73 = .ok (.iload_n 2, 1) := by decide +kernel
theorem dX12_leave_74 : decode cX12_leave 74 = .ok (.iastore, 1) := by decide +kernel
theorem dX12_leave_75 : decode cX12_leave 75 = .ok (.iload_n 3, 1) := by decide +kernel
theorem dX12_leave_76 : decode cX12_leave 76 = .ok (.ireturn, 1) := by decide +kernel
set_option maxRecDepth 20000 in
theorem ggX12_undo_X12_unpack : GoodIn wsX12_undo wsX12_unpack := goodIn_r _ [8, 9, 10, 11, 12, 13, 14, 15, 16, 17, 18, 19, 20, 21, 22, 23, 24, 25, 26, 27, 28, 29, 30, 31, 32, 33, 34, 35, 36, 37, 38, 39, 40, 41, 42, 43, 44, 45, 46, 47, 48, 49, 50, 51, 52, 53, 54, 55, 56, 57, 58, 59, 60, 61, 62, 63, 64, 65, 66, 67, 68, 69, 70, 71, 72, 73, 74, 75, 76, 77, 78, 79, 80, 81, 82] (by decide +kernel) (by decide +kernel)
set_option maxRecDepth 20000 in
theorem gX12_undo_X12_unpack : GoodIn wsX12_undo (wsV RX12 446 RX12 yX12_unpack wsX12_unpack) := goodIn_app (goodIn_of _ (by decide +kernel)) ggX12_undo_X12_unpack
theorem dX12_undo_0 : decode cX12_undo 0 = .ok (.aload_n 0, 1) := by decide +kernel
theorem dX12_undo_1 : decode cX12_undo 1 = .ok (.iconst 0, 1) := by decide +kernel
theorem dX12_undo_2 : decode cX12_undo 2 = .ok (.putfield 163, 3) := by decide +kernel
theorem dX12_undo_5 : decode cX12_undo 5 = .ok (.aload_n 0, 1) := by decide +kernel
theorem dX12_undo_6 : decode cX12_undo 6 = .ok (.getfield 326, 3) := by decide +kernel
theorem dX12_undo_9 : decode cX12_undo 9 = .ok (.ifCond .ne 5, 3) := by decide +kernel
theorem dX12_undo_12 : decode cX12_undo 12 = .ok (.iconst (-1), 1) := by decide +kernel
theorem dX12_undo_13 : decode cX12_undo 13 = .ok (.ireturn, 1) := by decide +kernel
theorem dX12_undo_14 : decode cX12_undo 14 = .ok (.aload_n 0, 1) := by decide +kernel
theorem dX12_undo_15 : decode cX12_undo 15 = .ok (.dup, 1) := by decide +kernel
theorem dX12_undo_16 : decode cX12_undo 16 = .ok (.getfield 326, 3) := by decide +kernel
theorem dX12_undo_19 : decode cX12_undo 19 = .ok (.iconst 1, 1) := by decide +kernel
theorem dX12_undo_20 : decode cX12_undo 20 = .ok (.isub, 1) := by decide +kernel
theorem dX12_undo_21 : decode cX12_undo 21 = .ok (.putfield 326, 3) := by decide +kernel
theorem dX12_undo_24 : decode cX12_undo 24 = .ok (.aload_n 0, 1) := by decide +kernel
theorem dX12_undo_25 : decode cX12_undo 25 = .ok (.aload_n 0, 1) := by decide +kernel
theorem dX12_undo_26 : decode cX12_undo 26 = .ok (.getfield 109, 3) := by decide +kernel
theorem dX12_undo_29 : decode cX12_undo 29 = .ok (.bipush 65, 2) := by decide +kernel
theorem dX12_undo_31 : decode cX12_undo 31 = .ok (.aload_n 0, 1) := by decide +kernel
theorem dX12_undo_32 : decode cX12_undo 32 = .ok (.getfield 326, 3) := by decide +kernel
theorem dX12_undo_35 : decode cX12_undo 35 = .ok (.imul, 1) := by decide +kernel
theorem dX12_undo_36 : decode cX12_undo 36 = .ok (.invokevirtual 446, 3) := by decide +kernel
theorem dX12_undo_39 : decode cX12_undo 39 = .ok (.aload_n 0, 1) := by decide +kernel
theorem dX12_undo_40 : decode cX12_undo 40 = .ok (.getfield 326, 3) := by decide +kernel
theorem dX12_undo_43 : decode cX12_undo 43 = .ok (.ireturn, 1) := by decide +kernel
set_option maxRecDepth 20000 in
theorem ggX12_then_X12_isStone : GoodIn wsX12_then wsX12_isStone := goodIn_r _ [12, 13, 14, 15, 11, 16, 110, 111, 112, 113, 114, 115, 116, 117, 118, 119, 120, 121, 122, 123, 124, 125, 126, 127, 128, 129, 130, 131, 132, 133, 134, 135, 136, 137, 138, 139, 140, 141, 142, 143, 144, 145, 146, 147, 148, 149, 150, 151, 152, 153, 154, 155, 156, 157, 158, 159, 160, 161, 162, 163, 164, 165, 166, 167, 168, 169, 170, 171, 172, 173, 174] (by decide +kernel) (by decide +kernel)
set_option maxRecDepth 20000 in
theorem gX12_then_X12_isStone : GoodIn wsX12_then (wsV RX12 411 RX12 yX12_isStone wsX12_isStone) := goodIn_app (goodIn_of _ (by decide +kernel)) ggX12_then_X12_isStone
set_option maxRecDepth 20000 in
theorem ggX12_then_X12_isIn : GoodIn wsX12_then wsX12_isIn := goodIn_r _ [16] (by decide +kernel) (by decide +kernel)
set_option maxRecDepth 20000 in
theorem gX12_then_X12_isIn : GoodIn wsX12_then (va_wsS RX12 166 yX12_isIn wsX12_isIn) := goodIn_app (goodIn_of _ (by decide +kernel)) ggX12_then_X12_isIn
set_option maxRecDepth 20000 in
theorem ggX12_then_X12_fail : GoodIn wsX12_then wsX12_fail := goodIn_r _ [20, 1, 110, 111, 112, 113, 114, 115, 116, 117, 118, 119, 120, 121, 122, 123, 124, 125, 126, 127, 128, 129, 130, 131, 132, 133, 134, 135, 136, 137, 138, 139, 140, 141, 142, 143, 144, 145, 146, 147, 148, 149, 150, 151, 152, 153, 154, 155, 156, 157, 158, 159, 160, 161, 162, 163, 164, 165, 166, 167, 168, 169, 170, 171, 172, 173, 174] (by decide +kernel) (by decide +kernel)
set_option maxRecDepth 20000 in
theorem gX12_then_X12_fail : GoodIn wsX12_then (wsV RX12 310 RX12 yX12_fail wsX12_fail) := goodIn_app (goodIn_of _ (by decide +kernel)) ggX12_then_X12_fail
set_option maxRecDepth 20000 in
theorem ggX12_then_X12_pack : GoodIn wsX12_then wsX12_pack := goodIn_r _ [24, 25, 6, 7, 5, 26, 27, 28, 29, 30, 110, 111, 112, 113, 114, 115, 116, 117, 118, 119, 120, 121, 122, 123, 124, 125, 126, 127, 128, 129, 130, 131, 132, 133, 134, 135, 136, 137, 138, 139, 140, 141, 142, 143, 144, 145, 146, 147, 148, 149, 150, 151, 152, 153, 154, 155, 156, 157, 158, 159, 160, 161, 162, 163, 164, 165, 166, 167, 168, 169, 170, 171, 172, 173, 174] (by decide +kernel) (by decide +kernel)
set_option maxRecDepth 20000 in
theorem gX12_then_X12_pack : GoodIn wsX12_then (wsV RX12 420 RX12 yX12_pack wsX12_pack) := goodIn_app (goodIn_of _ (by decide +kernel)) ggX12_then_X12_pack
set_option maxRecDepth 20000 in
theorem ggX12_then_X12_goOn : GoodIn wsX12_then wsX12_goOn := goodIn_r _ [34, 25, 35, 36, 37, 11, 38, 13, 39, 40, 41, 42, 43, 44, 45, 46, 47, 5, 48, 49, 50, 51, 6, 7, 52, 53, 54, 55, 30, 56, 57, 58, 59, 60, 61, 62, 63, 64, 65, 66, 67, 68, 69, 70, 71, 72, 73, 74, 75, 76, 77, 78, 79, 80, 28, 29, 81, 26, 27, 82, 83, 84, 85, 86, 87, 88, 89, 90, 91, 92, 93, 94, 95, 96, 97, 98, 99, 100, 101, 102, 103, 104, 105, 110, 111, 112, 113, 114, 115, 116, 117, 118, 119, 120, 121, 122, 123, 124, 125, 126, 127, 128, 129, 130, 131, 132, 133, 134, 135, 136, 137, 138, 139, 140, 141, 142, 143, 144, 145, 146, 147, 148, 149, 150, 151, 152, 153, 154, 155, 156, 157, 158, 159, 160, 161, 162, 163, 164, 165, 166, 167, 168, 169, 170, 171, 172, 173, 174] (by decide +kernel) (by decide +kernel)
set_option maxRecDepth 20000 in
theorem gX12_then_X12_goOn : GoodIn wsX12_then (wsV RX12 432 RX12 yX12_goOn wsX12_goOn) := goodIn_app (goodIn_of _ (by decide +kernel)) ggX12_then_X12_goOn
set_option maxRecDepth 20000 in
theorem ggX12_then_X12_sitterOf : GoodIn wsX12_then wsX12_sitterOf := goodIn_r _ [55, 13, 30, 110, 111, 112, 113, 114, 115, 116, 117, 118, 119, 120, 121, 122, 123, 124, 125, 126, 127, 128, 129, 130, 131, 132, 133, 134, 135, 136, 137, 138, 139, 140, 141, 142, 143, 144, 145, 146, 147, 148, 149, 150, 151, 152, 153, 154, 155, 156, 157, 158, 159, 160, 161, 162, 163, 164, 165, 166, 167, 168, 169, 170, 171, 172, 173, 174] (by decide +kernel) (by decide +kernel)
set_option maxRecDepth 20000 in
theorem gX12_then_X12_sitterOf : GoodIn wsX12_then (wsV RX12 355 RX12 yX12_sitterOf wsX12_sitterOf) := goodIn_app (goodIn_of _ (by decide +kernel)) ggX12_then_X12_sitterOf
set_option maxRecDepth 20000 in
theorem ggX12_then_X12_unpack : GoodIn wsX12_then wsX12_unpack := goodIn_r _ [109, 25, 6, 7, 5, 26, 27, 28, 29, 30, 110, 111, 112, 113, 114, 115, 116, 117, 118, 119, 120, 121, 122, 123, 124, 125, 126, 127, 128, 129, 130, 131, 132, 133, 134, 135, 136, 137, 138, 139, 140, 141, 142, 143, 144, 145, 146, 147, 148, 149, 150, 151, 152, 153, 154, 155, 156, 157, 158, 159, 160, 161, 162, 163, 164, 165, 166, 167, 168, 169, 170, 171, 172, 173, 174] (by decide +kernel) (by decide +kernel)
set_option maxRecDepth 20000 in
theorem gX12_then_X12_unpack : GoodIn wsX12_then (wsV RX12 446 RX12 yX12_unpack wsX12_unpack) := goodIn_app (goodIn_of _ (by decide +kernel)) ggX12_then_X12_unpack
theorem dX12_then_0 : decode cX12_then 0 = .ok (.aload_n 0, 1) := by decide +kernel
theorem dX12_then_1 : decode cX12_then 1 = .ok (.iconst 0, 1) := by decide +kernel
theorem dX12_then_2 : decode cX12_then 2 = .ok (.putfield 163, 3) := by decide +kernel
theorem dX12_then_5 : decode cX12_then 5 = .ok (.aload_n 0, 1) := by decide +kernel
theorem dX12_then_6 : decode cX12_then 6 = .ok (.iload_n 1, 1) := by decide +kernel
theorem dX12_then_7 : decode cX12_then 7 = .ok (.invokevirtual 411, 3) := by decide +kernel
theorem dX12_then_10 : decode cX12_then 10 = .ok (.ifCond .eq 15, 3) := by decide +kernel
theorem dX12_then_13 : decode cX12_then 13 = .ok (.iload_n 3, 1) := by decide +kernel
theorem dX12_then_14 : decode cX12_then 14 = .ok (.i2l, 1) := by decide +kernel
theorem dX12_then_15 : decode cX12_then 15 = .ok (.lconst 0, 1) := by decide +kernel
theorem dX12_then_16 : decode cX12_then 16 = .ok (.ldc2_w 449, 3) := by decide +kernel
theorem dX12_then_19 : decode cX12_then 19 = .ok (.invokestatic 166, 3) := by decide +kernel
theorem dX12_then_22 : decode cX12_then 22 = .ok (.ifCond .ne 9, 3) := by decide +kernel
theorem dX12_then_25 : decode cX12_then 25 = .ok (.aload_n 0, 1) := by decide +kernel
theorem dX12_then_26 : decode cX12_then 26 = .ok (.iconst 1, 1) := by decide +kernel
theorem dX12_then_27 : decode cX12_then 27 = .ok (.invokevirtual 310, 3) := by decide +kernel
theorem dX12_then_30 : decode cX12_then 30 = .ok (.ireturn, 1) := by decide +kernel
theorem dX12_then_31 : decode cX12_then 31 = .ok (.iload_n 2, 1) := by decide +kernel
theorem dX12_then_32 : decode cX12_then 32 = .ok (.i2l, 1) := by decide +kernel
theorem dX12_then_33 : decode cX12_then 33 = .ok (.lconst 0, 1) := by decide +kernel
theorem dX12_then_34 : decode cX12_then 34 = .ok (.ldc2_w 451, 3) := by decide +kernel
theorem dX12_then_37 : decode cX12_then 37 = .ok (.invokestatic 166, 3) := by decide +kernel
theorem dX12_then_40 : decode cX12_then 40 = .ok (.ifCond .ne 9, 3) := by decide +kernel
theorem dX12_then_43 : decode cX12_then 43 = .ok (.aload_n 0, 1) := by decide +kernel
theorem dX12_then_44 : decode cX12_then 44 = .ok (.iconst 2, 1) := by decide +kernel
theorem dX12_then_45 : decode cX12_then 45 = .ok (.invokevirtual 310, 3) := by decide +kernel
theorem dX12_then_48 : decode cX12_then 48 = .ok (.ireturn, 1) := by decide +kernel
theorem dX12_then_49 : decode cX12_then 49 = .ok (.aload_n 0, 1) := by decide +kernel
theorem dX12_then_50 : decode cX12_then 50 = .ok (.aload_n 0, 1) := by decide +kernel
theorem dX12_then_51 : decode cX12_then 51 = .ok (.getfield 118, 3) := by decide +kernel
theorem dX12_then_54 : decode cX12_then 54 = .ok (.iconst 0, 1) := by decide +kernel
theorem dX12_then_55 : decode cX12_then 55 = .ok (.invokevirtual 420, 3) := by decide +kernel
theorem dX12_then_58 : decode cX12_then 58 = .ok (.aload_n 0, 1) := by decide +kernel
theorem dX12_then_59 : decode cX12_then 59 = .ok (.iload_n 2, 1) := by decide +kernel
theorem dX12_then_60 : decode cX12_then 60 = .ok (.invokevirtual 432, 3) := by decide +kernel
theorem dX12_then_63 : decode cX12_then 63 = .ok (.iload_n 3, 1) := by decide +kernel
theorem dX12_then_64 : decode cX12_then 64 = .ok (.ifCond .ne 12, 3) := by decide +kernel
theorem dX12_then_67 : decode cX12_then 67 = .ok (.aload_n 0, 1) := by decide +kernel
theorem dX12_then_68 : decode cX12_then 68 = .ok (.getfield 94, 3) := by decide +kernel
theorem dX12_then_71 : decode cX12_then 71 = .ok (.iload_n 1, 1) := by decide +kernel
theorem dX12_then_72 : decode cX12_then 72 = .ok (.iaload, 1) := by decide +kernel
theorem dX12_then_73 : decode cX12_then 73 = .ok (.goto 36, 3) := by decide +kernel
theorem dX12_then_76 : decode cX12_then 76 = .ok (.iload_n 3, 1) := by decide +kernel
theorem dX12_then_77 : decode cX12_then 77 = .ok (.iconst 1, 1) := by decide +kernel
theorem dX12_then_78 : decode cX12_then 78 = .ok (.if_icmp .ne 12, 3) := by decide +kernel
theorem dX12_then_81 : decode cX12_then 81 = .ok (.aload_n 0, 1) := by decide +kernel
theorem dX12_then_82 : decode cX12_then 82 = .ok (.getfield 88, 3) := by decide +kernel
theorem dX12_then_85 : decode cX12_then 85 = .ok (.iload_n 1, 1) := by decide +kernel
theorem dX12_then_86 : decode cX12_then 86 = .ok (.iaload, 1) := by decide +kernel
theorem dX12_then_87 : decode cX12_then 87 = .ok (.goto 22, 3) := by decide +kernel
theorem dX12_then_90 : decode cX12_then 90 = .ok (.iload_n 3, 1) := by decide +kernel
theorem dX12_then_91 : decode cX12_then 91 = .ok (.iconst 2, 1) := by decide +kernel
theorem dX12_then_92 : decode cX12_then 92 = .ok (.if_icmp .ne 12, 3) := by decide +kernel
theorem dX12_then_95 : decode cX12_then 95 = .ok (.aload_n 0, 1) := by decide +kernel
theorem dX12_then_96 : decode cX12_then 96 = .ok (.getfield 91, 3) := by decide +kernel
theorem dX12_then_99 : decode cX12_then 99 = .ok (.iload_n 1, 1) := by decide +kernel
theorem dX12_then_100 : decode cX12_then 100 = .ok (.iaload, 1) := by decide +kernel
theorem dX12_then_101 : decode cX12_then 101 = .ok (.goto 8, 3) := by decide +kernel
theorem dX12_then_104 : decode cX12_then 104 = .ok (.aload_n 0, 1) := by decide +kernel
theorem dX12_then_105 : decode cX12_then 105 = .ok (.iload_n 1, 1) := by decide +kernel
theorem dX12_then_106 : decode cX12_then 106 = .ok (.invokevirtual 355, 3) := by decide +kernel
theorem dX12_then_109 : decode cX12_then 109 = .ok (.istore 4, 2) := by decide +kernel
theorem dX12_then_111 : decode cX12_then 111 = .ok (.aload_n 0, 1) := by decide +kernel
theorem dX12_then_112 : decode cX12_then 112 = .ok (.aload_n 0, 1) := by decide +kernel
theorem dX12_then_113 : decode cX12_then 113 = .ok (.getfield 118, 3) := by decide +kernel
theorem dX12_then_116 : decode cX12_then 116 = .ok (.iconst 0, 1) := by decide +kernel
theorem dX12_then_117 : decode cX12_then 117 = .ok (.invokevirtual 446, 3) := by decide +kernel
theorem dX12_then_120 : decode cX12_then 120 = .ok (.iload 4, 2) := by decide +kernel
theorem dX12_then_122 : decode cX12_then 122 = .ok (.ireturn, 1) := by decide +kernel
set_option maxRecDepth 20000 in
theorem ggX12_where_X12_isPerson : GoodIn wsX12_where wsX12_isPerson := goodIn_r _ [13, 14, 15, 16, 12, 17, 110, 111, 112, 113, 114, 115, 116, 117, 118, 119, 120, 121, 122, 123, 124, 125, 126, 127, 128, 129, 130, 131, 132, 133, 134, 135, 136, 137, 138, 139, 140, 141, 142, 143, 144, 145, 146, 147, 148, 149, 150, 151, 152, 153, 154, 155, 156, 157, 158, 159, 160, 161, 162, 163, 164, 165, 166, 167, 168, 169, 170, 171, 172, 173, 174] (by decide +kernel) (by decide +kernel)
set_option maxRecDepth 20000 in
theorem gX12_where_X12_isPerson : GoodIn wsX12_where (wsV RX12 417 RX12 yX12_isPerson wsX12_isPerson) := goodIn_app (goodIn_of _ (by decide +kernel)) ggX12_where_X12_isPerson
set_option maxRecDepth 20000 in
theorem ggX12_where_X12_isIn : GoodIn wsX12_where wsX12_isIn := goodIn_r _ [17] (by decide +kernel) (by decide +kernel)
set_option maxRecDepth 20000 in
theorem gX12_where_X12_isIn : GoodIn wsX12_where (va_wsS RX12 166 yX12_isIn wsX12_isIn) := goodIn_app (goodIn_of _ (by decide +kernel)) ggX12_where_X12_isIn
set_option maxRecDepth 20000 in
theorem ggX12_where_X12_fail : GoodIn wsX12_where wsX12_fail := goodIn_r _ [21, 1, 110, 111, 112, 113, 114, 115, 116, 117, 118, 119, 120, 121, 122, 123, 124, 125, 126, 127, 128, 129, 130, 131, 132, 133, 134, 135, 136, 137, 138, 139, 140, 141, 142, 143, 144, 145, 146, 147, 148, 149, 150, 151, 152, 153, 154, 155, 156, 157, 158, 159, 160, 161, 162, 163, 164, 165, 166, 167, 168, 169, 170, 171, 172, 173, 174] (by decide +kernel) (by decide +kernel)
set_option maxRecDepth 20000 in
theorem gX12_where_X12_fail : GoodIn wsX12_where (wsV RX12 310 RX12 yX12_fail wsX12_fail) := goodIn_app (goodIn_of _ (by decide +kernel)) ggX12_where_X12_fail
set_option maxRecDepth 20000 in
theorem ggX12_where_X12_pack : GoodIn wsX12_where wsX12_pack := goodIn_r _ [25, 26, 27, 28, 29, 6, 7, 8, 30, 5, 110, 111, 112, 113, 114, 115, 116, 117, 118, 119, 120, 121, 122, 123, 124, 125, 126, 127, 128, 129, 130, 131, 132, 133, 134, 135, 136, 137, 138, 139, 140, 141, 142, 143, 144, 145, 146, 147, 148, 149, 150, 151, 152, 153, 154, 155, 156, 157, 158, 159, 160, 161, 162, 163, 164, 165, 166, 167, 168, 169, 170, 171, 172, 173, 174] (by decide +kernel) (by decide +kernel)
set_option maxRecDepth 20000 in
theorem gX12_where_X12_pack : GoodIn wsX12_where (wsV RX12 420 RX12 yX12_pack wsX12_pack) := goodIn_app (goodIn_of _ (by decide +kernel)) ggX12_where_X12_pack
set_option maxRecDepth 20000 in
theorem ggX12_where_X12_goOn : GoodIn wsX12_where wsX12_goOn := goodIn_r _ [34, 26, 35, 36, 37, 12, 38, 14, 39, 40, 41, 42, 43, 44, 45, 46, 47, 29, 48, 49, 50, 51, 27, 28, 52, 53, 54, 55, 5, 56, 57, 58, 59, 60, 61, 62, 63, 64, 65, 66, 67, 68, 69, 70, 71, 72, 73, 74, 75, 76, 77, 78, 79, 80, 8, 30, 81, 6, 7, 82, 83, 84, 85, 86, 87, 88, 89, 90, 91, 92, 93, 94, 95, 96, 97, 98, 99, 100, 101, 102, 103, 104, 105, 110, 111, 112, 113, 114, 115, 116, 117, 118, 119, 120, 121, 122, 123, 124, 125, 126, 127, 128, 129, 130, 131, 132, 133, 134, 135, 136, 137, 138, 139, 140, 141, 142, 143, 144, 145, 146, 147, 148, 149, 150, 151, 152, 153, 154, 155, 156, 157, 158, 159, 160, 161, 162, 163, 164, 165, 166, 167, 168, 169, 170, 171, 172, 173, 174] (by decide +kernel) (by decide +kernel)
set_option maxRecDepth 20000 in
theorem gX12_where_X12_goOn : GoodIn wsX12_where (wsV RX12 432 RX12 yX12_goOn wsX12_goOn) := goodIn_app (goodIn_of _ (by decide +kernel)) ggX12_where_X12_goOn
set_option maxRecDepth 20000 in
theorem ggX12_where_X12_mostLike : GoodIn wsX12_where wsX12_mostLike := goodIn_r _ [105, 14, 52, 53, 54, 12, 55, 5, 95, 96, 97, 98, 6, 27, 99, 100, 50, 101, 7, 28, 110, 111, 112, 113, 114, 115, 116, 117, 118, 119, 120, 121, 122, 123, 124, 125, 126, 127, 128, 129, 130, 131, 132, 133, 134, 135, 136, 137, 138, 139, 140, 141, 142, 143, 144, 145, 146, 147, 148, 149, 150, 151, 152, 153, 154, 155, 156, 157, 158, 159, 160, 161, 162, 163, 164, 165, 166, 167, 168, 169, 170, 171, 172, 173, 174] (by decide +kernel) (by decide +kernel)
set_option maxRecDepth 20000 in
theorem gX12_where_X12_mostLike : GoodIn wsX12_where (wsV RX12 367 RX12 yX12_mostLike wsX12_mostLike) := goodIn_app (goodIn_of _ (by decide +kernel)) ggX12_where_X12_mostLike
set_option maxRecDepth 20000 in
theorem ggX12_where_X12_unlikeOf : GoodIn wsX12_where wsX12_unlikeOf := goodIn_r _ [98, 6, 27, 99, 100, 50, 101, 7, 28, 110, 111, 112, 113, 114, 115, 116, 117, 118, 119, 120, 121, 122, 123, 124, 125, 126, 127, 128, 129, 130, 131, 132, 133, 134, 135, 136, 137, 138, 139, 140, 141, 142, 143, 144, 145, 146, 147, 148, 149, 150, 151, 152, 153, 154, 155, 156, 157, 158, 159, 160, 161, 162, 163, 164, 165, 166, 167, 168, 169, 170, 171, 172, 173, 174] (by decide +kernel) (by decide +kernel)
set_option maxRecDepth 20000 in
theorem gX12_where_X12_unlikeOf : GoodIn wsX12_where (wsV RX12 352 RX12 yX12_unlikeOf wsX12_unlikeOf) := goodIn_app (goodIn_of _ (by decide +kernel)) ggX12_where_X12_unlikeOf
set_option maxRecDepth 20000 in
theorem ggX12_where_X12_unpack : GoodIn wsX12_where wsX12_unpack := goodIn_r _ [109, 26, 27, 28, 29, 6, 7, 8, 30, 5, 110, 111, 112, 113, 114, 115, 116, 117, 118, 119, 120, 121, 122, 123, 124, 125, 126, 127, 128, 129, 130, 131, 132, 133, 134, 135, 136, 137, 138, 139, 140, 141, 142, 143, 144, 145, 146, 147, 148, 149, 150, 151, 152, 153, 154, 155, 156, 157, 158, 159, 160, 161, 162, 163, 164, 165, 166, 167, 168, 169, 170, 171, 172, 173, 174] (by decide +kernel) (by decide +kernel)
set_option maxRecDepth 20000 in
theorem gX12_where_X12_unpack : GoodIn wsX12_where (wsV RX12 446 RX12 yX12_unpack wsX12_unpack) := goodIn_app (goodIn_of _ (by decide +kernel)) ggX12_where_X12_unpack
theorem dX12_where_0 : decode cX12_where 0 = .ok (.aload_n 0, 1) := by decide +kernel
theorem dX12_where_1 : decode cX12_where 1 = .ok (.iconst 0, 1) := by decide +kernel
theorem dX12_where_2 : decode cX12_where 2 = .ok (.putfield 163, 3) := by decide +kernel
theorem dX12_where_5 : decode cX12_where 5 = .ok (.aload_n 0, 1) := by decide +kernel
theorem dX12_where_6 : decode cX12_where 6 = .ok (.iload_n 1, 1) := by decide +kernel
theorem dX12_where_7 : decode cX12_where 7 = .ok (.invokevirtual 417, 3) := by decide +kernel
theorem dX12_where_10 : decode cX12_where 10 = .ok (.ifCond .eq 15, 3) := by decide +kernel
theorem dX12_where_13 : decode cX12_where 13 = .ok (.iload_n 3, 1) := by decide +kernel
theorem dX12_where_14 : decode cX12_where 14 = .ok (.i2l, 1) := by decide +kernel
theorem dX12_where_15 : decode cX12_where 15 = .ok (.lconst 0, 1) := by decide +kernel
theorem dX12_where_16 : decode cX12_where 16 = .ok (.ldc2_w 453, 3) := by decide +kernel
theorem dX12_where_19 : decode cX12_where 19 = .ok (.invokestatic 166, 3) := by decide +kernel
theorem dX12_where_22 : decode cX12_where 22 = .ok (.ifCond .ne 9, 3) := by decide +kernel
theorem dX12_where_25 : decode cX12_where 25 = .ok (.aload_n 0, 1) := by decide +kernel
theorem dX12_where_26 : decode cX12_where 26 = .ok (.iconst 1, 1) := by decide +kernel
theorem dX12_where_27 : decode cX12_where 27 = .ok (.invokevirtual 310, 3) := by decide +kernel
theorem dX12_where_30 : decode cX12_where 30 = .ok (.ireturn, 1) := by decide +kernel
theorem dX12_where_31 : decode cX12_where 31 = .ok (.iload_n 2, 1) := by decide +kernel
theorem dX12_where_32 : decode cX12_where 32 = .ok (.i2l, 1) := by decide +kernel
theorem dX12_where_33 : decode cX12_where 33 = .ok (.lconst 0, 1) := by decide +kernel
theorem dX12_where_34 : decode cX12_where 34 = .ok (.ldc2_w 451, 3) := by decide +kernel
theorem dX12_where_37 : decode cX12_where 37 = .ok (.invokestatic 166, 3) := by decide +kernel
theorem dX12_where_40 : decode cX12_where 40 = .ok (.ifCond .ne 9, 3) := by decide +kernel
theorem dX12_where_43 : decode cX12_where 43 = .ok (.aload_n 0, 1) := by decide +kernel
theorem dX12_where_44 : decode cX12_where 44 = .ok (.iconst 2, 1) := by decide +kernel
theorem dX12_where_45 : decode cX12_where 45 = .ok (.invokevirtual 310, 3) := by decide +kernel
theorem dX12_where_48 : decode cX12_where 48 = .ok (.ireturn, 1) := by decide +kernel
theorem dX12_where_49 : decode cX12_where 49 = .ok (.aload_n 0, 1) := by decide +kernel
theorem dX12_where_50 : decode cX12_where 50 = .ok (.aload_n 0, 1) := by decide +kernel
theorem dX12_where_51 : decode cX12_where 51 = .ok (.getfield 118, 3) := by decide +kernel
theorem dX12_where_54 : decode cX12_where 54 = .ok (.iconst 0, 1) := by decide +kernel
theorem dX12_where_55 : decode cX12_where 55 = .ok (.invokevirtual 420, 3) := by decide +kernel
theorem dX12_where_58 : decode cX12_where 58 = .ok (.aload_n 0, 1) := by decide +kernel
theorem dX12_where_59 : decode cX12_where 59 = .ok (.iload_n 2, 1) := by decide +kernel
theorem dX12_where_60 : decode cX12_where 60 = .ok (.invokevirtual 432, 3) := by decide +kernel
theorem dX12_where_63 : decode cX12_where 63 = .ok (.aload_n 0, 1) := by decide +kernel
theorem dX12_where_64 : decode cX12_where 64 = .ok (.iload_n 1, 1) := by decide +kernel
theorem dX12_where_65 : decode cX12_where 65 = .ok (.iconst 0, 1) := by decide +kernel
theorem dX12_where_66 : decode cX12_where 66 = .ok (.invokevirtual 367, 3) := by decide +kernel
theorem dX12_where_69 : decode cX12_where 69 = .ok (.istore 4, 2) := by decide +kernel
theorem dX12_where_71 : decode cX12_where 71 = .ok (.iload_n 3, 1) := by decide +kernel
theorem dX12_where_72 : decode cX12_where 72 = .ok (.ifCond .ne 12, 3) := by decide +kernel
theorem dX12_where_75 : decode cX12_where 75 = .ok (.aload_n 0, 1) := by decide +kernel
theorem dX12_where_76 : decode cX12_where 76 = .ok (.getfield 106, 3) := by decide +kernel
theorem dX12_where_79 : decode cX12_where 79 = .ok (.iload_n 1, 1) := by decide +kernel
theorem dX12_where_80 : decode cX12_where 80 = .ok (.iaload, 1) := by decide +kernel
theorem dX12_where_81 : decode cX12_where 81 = .ok (.goto 68, 3) := by decide +kernel
theorem dX12_where_84 : decode cX12_where 84 = .ok (.iload_n 3, 1) := by decide +kernel
theorem dX12_where_85 : decode cX12_where 85 = .ok (.iconst 1, 1) := by decide +kernel
theorem dX12_where_86 : decode cX12_where 86 = .ok (.if_icmp .ne 12, 3) := by decide +kernel
theorem dX12_where_89 : decode cX12_where 89 = .ok (.aload_n 0, 1) := by decide +kernel
theorem dX12_where_90 : decode cX12_where 90 = .ok (.getfield 96, 3) := by decide +kernel
theorem dX12_where_93 : decode cX12_where 93 = .ok (.iload_n 1, 1) := by decide +kernel
theorem dX12_where_94 : decode cX12_where 94 = .ok (.iaload, 1) := by decide +kernel
theorem dX12_where_95 : decode cX12_where 95 = .ok (.goto 54, 3) := by decide +kernel
theorem dX12_where_98 : decode cX12_where 98 = .ok (.iload_n 3, 1) := by decide +kernel
theorem dX12_where_99 : decode cX12_where 99 = .ok (.iconst 2, 1) := by decide +kernel
theorem dX12_where_100 : decode cX12_where 100 = .ok (.if_icmp .ne 12, 3) := by decide +kernel
theorem dX12_where_103 : decode cX12_where 103 = .ok (.aload_n 0, 1) := by decide +kernel
theorem dX12_where_104 : decode cX12_where 104 = .ok (.getfield 99, 3) := by decide +kernel
theorem dX12_where_107 : decode cX12_where 107 = .ok (.iload_n 1, 1) := by decide +kernel
theorem dX12_where_108 : decode cX12_where 108 = .ok (.iaload, 1) := by decide +kernel
theorem dX12_where_109 : decode cX12_where 109 = .ok (.goto 40, 3) := by decide +kernel
theorem dX12_where_112 : decode cX12_where 112 = .ok (.iload_n 3, 1) := by decide +kernel
theorem dX12_where_113 : decode cX12_where 113 = .ok (.iconst 3, 1) := by decide +kernel
theorem dX12_where_114 : decode cX12_where 114 = .ok (.if_icmp .ne 12, 3) := by decide +kernel
theorem dX12_where_117 : decode cX12_where 117 = .ok (.aload_n 0, 1) := by decide +kernel
theorem dX12_where_118 : decode cX12_where 118 = .ok (.getfield 102, 3) := by decide +kernel
theorem dX12_where_121 : decode cX12_where 121 = .ok (.iload_n 1, 1) := by decide +kernel
theorem dX12_where_122 : decode cX12_where 122 = .ok (.iaload, 1) := by decide +kernel
theorem dX12_where_123 : decode cX12_where 123 = .ok (.goto 26, 3) := by decide +kernel
theorem dX12_where_126 : decode cX12_where 126 = .ok (.iload_n 3, 1) := by decide +kernel
theorem dX12_where_127 : decode cX12_where 127 = .ok (.iconst 4, 1) := by decide +kernel
theorem dX12_where_128 : decode cX12_where 128 = .ok (.if_icmp .eq 9, 3) := by decide +kernel
theorem dX12_where_131 : decode cX12_where 131 = .ok (.iload 4, 2) := by decide +kernel
theorem dX12_where_133 : decode cX12_where 133 = .ok (.iconst (-1), 1) := by decide +kernel
theorem dX12_where_134 : decode cX12_where 134 = .ok (.if_icmp .ne 8, 3) := by decide +kernel
theorem dX12_where_137 : decode cX12_where 137 = .ok (.iload 4, 2) := by decide +kernel
theorem dX12_where_139 : decode cX12_where 139 = .ok (.goto 10, 3) := by decide +kernel
theorem dX12_where_142 : decode cX12_where 142 = .ok (.aload_n 0, 1) := by decide +kernel
theorem dX12_where_143 : decode cX12_where 143 = .ok (.iload_n 1, 1) := by decide +kernel
theorem dX12_where_144 : decode cX12_where 144 = .ok (.iload 4, 2) := by decide +kernel
theorem dX12_where_146 : decode cX12_where 146 = .ok (.invokevirtual 352, 3) := by decide +kernel
theorem dX12_where_149 : decode cX12_where 149 = .ok (.istore 5, 2) := by decide +kernel
theorem dX12_where_151 : decode cX12_where 151 = .ok (.aload_n 0, 1) := by decide +kernel
theorem dX12_where_152 : decode cX12_where 152 = .ok (.aload_n 0, 1) := by decide +kernel
theorem dX12_where_153 : decode cX12_where 153 = .ok (.getfield 118, 3) := by decide +kernel
theorem dX12_where_156 : decode cX12_where 156 = .ok (.iconst 0, 1) := by decide +kernel
theorem dX12_where_157 : decode cX12_where 157 = .ok (.invokevirtual 446, 3) := by decide +kernel
theorem dX12_where_160 : decode cX12_where 160 = .ok (.iload 5, 2) := by decide +kernel
theorem dX12_where_162 : decode cX12_where 162 = .ok (.ireturn, 1) := by decide +kernel
set_option maxRecDepth 20000 in
theorem ggX12_loafIn_X12_goOn : GoodIn wsX12_loafIn wsX12_goOn := goodIn_r _ [7, 8, 9, 10, 11, 6, 12, 13, 14, 15, 16, 17, 18, 19, 20, 21, 22, 1, 23, 24, 25, 26, 27, 28, 29, 30, 31, 32, 33, 34, 35, 36, 37, 38, 39, 40, 41, 42, 43, 44, 45, 46, 47, 48, 49, 50, 51, 52, 53, 54, 55, 56, 57, 58, 59, 60, 61, 62, 63, 64, 65, 66, 67, 68, 69, 70, 71, 72, 73, 74, 75, 76, 77, 78, 79, 80, 81, 82, 83, 84, 85, 86, 87, 92, 93, 94, 95, 96, 97, 98, 99, 100, 101, 102, 103, 104, 105, 106, 107, 108, 109, 110, 111, 112, 113, 114, 115, 116, 117, 118, 119, 120, 121, 122, 123, 124, 125, 126, 127, 128, 129, 130, 131, 132, 133, 134, 135, 136, 137, 138, 139, 140, 141, 142, 143, 144, 145, 146, 147, 148, 149, 150, 151, 152, 153, 154, 155, 156] (by decide +kernel) (by decide +kernel)
set_option maxRecDepth 20000 in
theorem gX12_loafIn_X12_goOn : GoodIn wsX12_loafIn (wsV RX12 432 RX12 yX12_goOn wsX12_goOn) := goodIn_app (goodIn_of _ (by decide +kernel)) ggX12_loafIn_X12_goOn
set_option maxRecDepth 20000 in
theorem ggX12_loafIn_X12_unpack : GoodIn wsX12_loafIn wsX12_unpack := goodIn_r _ [91, 8, 27, 28, 1, 62, 63, 59, 60, 33, 92, 93, 94, 95, 96, 97, 98, 99, 100, 101, 102, 103, 104, 105, 106, 107, 108, 109, 110, 111, 112, 113, 114, 115, 116, 117, 118, 119, 120, 121, 122, 123, 124, 125, 126, 127, 128, 129, 130, 131, 132, 133, 134, 135, 136, 137, 138, 139, 140, 141, 142, 143, 144, 145, 146, 147, 148, 149, 150, 151, 152, 153, 154, 155, 156] (by decide +kernel) (by decide +kernel)
set_option maxRecDepth 20000 in
theorem gX12_loafIn_X12_unpack : GoodIn wsX12_loafIn (wsV RX12 446 RX12 yX12_unpack wsX12_unpack) := goodIn_app (goodIn_of _ (by decide +kernel)) ggX12_loafIn_X12_unpack
theorem dX12_loafIn_0 : decode cX12_loafIn 0 = .ok (.iconst (-1), 1) := by decide +kernel
theorem dX12_loafIn_1 : decode cX12_loafIn 1 = .ok (.istore_n 2, 1) := by decide +kernel
theorem dX12_loafIn_2 : decode cX12_loafIn 2 = .ok (.iconst 0, 1) := by decide +kernel
theorem dX12_loafIn_3 : decode cX12_loafIn 3 = .ok (.istore_n 3, 1) := by decide +kernel
theorem dX12_loafIn_4 : decode cX12_loafIn 4 = .ok (.iload_n 3, 1) := by decide +kernel
theorem dX12_loafIn_5 : decode cX12_loafIn 5 = .ok (.bipush 60, 2) := by decide +kernel
theorem dX12_loafIn_7 : decode cX12_loafIn 7 = .ok (.if_icmp .gt 30, 3) := by decide +kernel
theorem dX12_loafIn_10 : decode cX12_loafIn 10 = .ok (.iload_n 2, 1) := by decide +kernel
theorem dX12_loafIn_11 : decode cX12_loafIn 11 = .ok (.iconst (-1), 1) := by decide +kernel
theorem dX12_loafIn_12 : decode cX12_loafIn 12 = .ok (.if_icmp .ne 25, 3) := by decide +kernel
theorem dX12_loafIn_15 : decode cX12_loafIn 15 = .ok (.aload_n 0, 1) := by decide +kernel
theorem dX12_loafIn_16 : decode cX12_loafIn 16 = .ok (.getfield 94, 3) := by decide +kernel
theorem dX12_loafIn_19 : decode cX12_loafIn 19 = .ok (.iload_n 1, 1) := by decide +kernel
theorem dX12_loafIn_20 : decode cX12_loafIn 20 = .ok (.iaload, 1) := by decide +kernel
theorem dX12_loafIn_21 : decode cX12_loafIn 21 = .ok (.ifCond .ne 5, 3) := by decide +kernel
theorem dX12_loafIn_24 : decode cX12_loafIn 24 = .ok (.iload_n 3, 1) := by decide +kernel
theorem dX12_loafIn_25 : decode cX12_loafIn 25 = .ok (.istore_n 2, 1) := by decide +kernel
theorem dX12_loafIn_26 : decode cX12_loafIn 26 = .ok (.aload_n 0, 1) := by decide +kernel
theorem dX12_loafIn_27 : decode cX12_loafIn 27 = .ok (.iconst 1, 1) := by decide +kernel
theorem dX12_loafIn_28 : decode cX12_loafIn 28 = .ok (.invokevirtual 432, 3) := by decide +kernel
theorem dX12_loafIn_31 : decode cX12_loafIn 31 = .ok (.iinc 3 1, 3) := by decide +kernel
theorem dX12_loafIn_34 : decode cX12_loafIn 34 = .ok (.goto (-30), 3) := by decide +kernel
theorem dX12_loafIn_37 : decode cX12_loafIn 37 = .ok (.aload_n 0, 1) := by decide +kernel
theorem dX12_loafIn_38 : decode cX12_loafIn 38 = .ok (.aload_n 0, 1) := by decide +kernel
theorem dX12_loafIn_39 : decode cX12_loafIn 39 = .ok (.getfield 118, 3) := by decide +kernel
theorem dX12_loafIn_42 : decode cX12_loafIn 42 = .ok (.iconst 0, 1) := by decide +kernel
theorem dX12_loafIn_43 : decode cX12_loafIn 43 = .ok (.invokevirtual 446, 3) := by decide +kernel
theorem dX12_loafIn_46 : decode cX12_loafIn 46 = .ok (.iload_n 2, 1) := by decide +kernel
theorem dX12_loafIn_47 : decode cX12_loafIn 47 = .ok (.ireturn, 1) := by decide +kernel
set_option maxRecDepth 20000 in
theorem ggX12_loaf_X12_isStone : GoodIn wsX12_loaf wsX12_isStone := goodIn_r _ [7, 8, 9, 10, 6, 11, 112, 113, 114, 115, 116, 117, 118, 119, 120, 121, 122, 123, 124, 125, 126, 127, 128, 129, 130, 131, 132, 133, 134, 135, 136, 137, 138, 139, 140, 141, 142, 143, 144, 145, 146, 147, 148, 149, 150, 151, 152, 153, 154, 155, 156, 157, 158, 159, 160, 161, 162, 163, 164, 165, 166, 167, 168, 169, 170, 171, 172, 173, 174, 175, 176] (by decide +kernel) (by decide +kernel)
set_option maxRecDepth 20000 in
theorem gX12_loaf_X12_isStone : GoodIn wsX12_loaf (wsV RX12 411 RX12 yX12_isStone wsX12_isStone) := goodIn_app (goodIn_of _ (by decide +kernel)) ggX12_loaf_X12_isStone
set_option maxRecDepth 20000 in
theorem ggX12_loaf_X12_fail : GoodIn wsX12_loaf wsX12_fail := goodIn_r _ [15, 1, 112, 113, 114, 115, 116, 117, 118, 119, 120, 121, 122, 123, 124, 125, 126, 127, 128, 129, 130, 131, 132, 133, 134, 135, 136, 137, 138, 139, 140, 141, 142, 143, 144, 145, 146, 147, 148, 149, 150, 151, 152, 153, 154, 155, 156, 157, 158, 159, 160, 161, 162, 163, 164, 165, 166, 167, 168, 169, 170, 171, 172, 173, 174, 175, 176] (by decide +kernel) (by decide +kernel)
set_option maxRecDepth 20000 in
theorem gX12_loaf_X12_fail : GoodIn wsX12_loaf (wsV RX12 310 RX12 yX12_fail wsX12_fail) := goodIn_app (goodIn_of _ (by decide +kernel)) ggX12_loaf_X12_fail
set_option maxRecDepth 20000 in
theorem ggX12_loaf_X12_pack : GoodIn wsX12_loaf wsX12_pack := goodIn_r _ [19, 20, 21, 22, 23, 24, 25, 26, 27, 28, 112, 113, 114, 115, 116, 117, 118, 119, 120, 121, 122, 123, 124, 125, 126, 127, 128, 129, 130, 131, 132, 133, 134, 135, 136, 137, 138, 139, 140, 141, 142, 143, 144, 145, 146, 147, 148, 149, 150, 151, 152, 153, 154, 155, 156, 157, 158, 159, 160, 161, 162, 163, 164, 165, 166, 167, 168, 169, 170, 171, 172, 173, 174, 175, 176] (by decide +kernel) (by decide +kernel)
set_option maxRecDepth 20000 in
theorem gX12_loaf_X12_pack : GoodIn wsX12_loaf (wsV RX12 420 RX12 yX12_pack wsX12_pack) := goodIn_app (goodIn_of _ (by decide +kernel)) ggX12_loaf_X12_pack
set_option maxRecDepth 20000 in
theorem ggX12_loaf_X12_loafIn : GoodIn wsX12_loaf wsX12_loafIn := goodIn_r _ [32, 23, 2, 33, 34, 35, 6, 36, 20, 37, 38, 39, 40, 8, 41, 42, 43, 44, 45, 46, 47, 48, 49, 50, 51, 52, 53, 21, 22, 54, 55, 56, 57, 28, 58, 59, 60, 61, 62, 63, 64, 65, 66, 67, 68, 69, 70, 71, 72, 73, 74, 75, 76, 77, 78, 79, 80, 81, 82, 26, 27, 83, 24, 25, 84, 85, 86, 87, 88, 89, 90, 91, 92, 93, 94, 95, 96, 97, 98, 99, 100, 101, 102, 103, 104, 105, 106, 107, 108, 109, 110, 111, 112, 113, 114, 115, 116, 117, 118, 119, 120, 121, 122, 123, 124, 125, 126, 127, 128, 129, 130, 131, 132, 133, 134, 135, 136, 137, 138, 139, 140, 141, 142, 143, 144, 145, 146, 147, 148, 149, 150, 151, 152, 153, 154, 155, 156, 157, 158, 159, 160, 161, 162, 163, 164, 165, 166, 167, 168, 169, 170, 171, 172, 173, 174, 175, 176] (by decide +kernel) (by decide +kernel)
set_option maxRecDepth 20000 in
theorem gX12_loaf_X12_loafIn : GoodIn wsX12_loaf (wsV RX12 455 RX12 yX12_loafIn wsX12_loafIn) := goodIn_app (goodIn_of _ (by decide +kernel)) ggX12_loaf_X12_loafIn
theorem dX12_loaf_0 : decode cX12_loaf 0 = .ok (.aload_n 0, 1) := by decide +kernel
theorem dX12_loaf_1 : decode cX12_loaf 1 = .ok (.iconst 0, 1) := by decide +kernel
theorem dX12_loaf_2 : decode cX12_loaf 2 = .ok (.putfield 163, 3) := by decide +kernel
theorem dX12_loaf_5 : decode cX12_loaf 5 = .ok (.aload_n 0, 1) := by decide +kernel
theorem dX12_loaf_6 : decode cX12_loaf 6 = .ok (.iload_n 1, 1) := by decide +kernel
theorem dX12_loaf_7 : decode cX12_loaf 7 = .ok (.invokevirtual 411, 3) := by decide +kernel
theorem dX12_loaf_10 : decode cX12_loaf 10 = .ok (.ifCond .ne 9, 3) := by decide +kernel
theorem dX12_loaf_13 : decode cX12_loaf 13 = .ok (.aload_n 0, 1) := by decide +kernel
theorem dX12_loaf_14 : decode cX12_loaf 14 = .ok (.iconst 1, 1) := by decide +kernel
theorem dX12_loaf_15 : decode cX12_loaf 15 = .ok (.invokevirtual 310, 3) := by decide +kernel
theorem dX12_loaf_18 : decode cX12_loaf 18 = .ok (.ireturn, 1) := by decide +kernel
theorem dX12_loaf_19 : decode cX12_loaf 19 = .ok (.aload_n 0, 1) := by decide +kernel
theorem dX12_loaf_20 : decode cX12_loaf 20 = .ok (.aload_n 0, 1) := by decide +kernel
theorem dX12_loaf_21 : decode cX12_loaf 21 = .ok (.getfield 118, 3) := by decide +kernel
theorem dX12_loaf_24 : decode cX12_loaf 24 = .ok (.iconst 0, 1) := by decide +kernel
theorem dX12_loaf_25 : decode cX12_loaf 25 = .ok (.invokevirtual 420, 3) := by decide +kernel
theorem dX12_loaf_28 : decode cX12_loaf 28 = .ok (.aload_n 0, 1) := by decide +kernel
theorem dX12_loaf_29 : decode cX12_loaf 29 = .ok (.iload_n 1, 1) := by decide +kernel
theorem dX12_loaf_30 : decode cX12_loaf 30 = .ok (.invokevirtual 455, 3) := by decide +kernel
theorem dX12_loaf_33 : decode cX12_loaf 33 = .ok (.ireturn, 1) := by decide +kernel
set_option maxRecDepth 20000 in
theorem ggX12_later_X12_isIn : GoodIn wsX12_later wsX12_isIn := goodIn_r _ [8] (by decide +kernel) (by decide +kernel)
set_option maxRecDepth 20000 in
theorem gX12_later_X12_isIn : GoodIn wsX12_later (va_wsS RX12 166 yX12_isIn wsX12_isIn) := goodIn_app (goodIn_of _ (by decide +kernel)) ggX12_later_X12_isIn
set_option maxRecDepth 20000 in
theorem ggX12_later_X12_fail : GoodIn wsX12_later wsX12_fail := goodIn_r _ [12, 1, 118, 119, 120, 121, 122, 123, 124, 125, 126, 127, 128, 129, 130, 131, 132, 133, 134, 135, 136, 137, 138, 139, 140, 141, 142, 143, 144, 145, 146, 147, 148, 149, 150, 151, 152, 153, 154, 155, 156, 157, 158, 159, 160, 161, 162, 163, 164, 165, 166, 167, 168, 169, 170, 171, 172, 173, 174, 175, 176, 177, 178, 179, 180, 181, 182] (by decide +kernel) (by decide +kernel)
set_option maxRecDepth 20000 in
theorem gX12_later_X12_fail : GoodIn wsX12_later (wsV RX12 310 RX12 yX12_fail wsX12_fail) := goodIn_app (goodIn_of _ (by decide +kernel)) ggX12_later_X12_fail
set_option maxRecDepth 20000 in
theorem ggX12_later_X12_pack : GoodIn wsX12_later wsX12_pack := goodIn_r _ [16, 17, 18, 19, 20, 21, 22, 23, 24, 25, 118, 119, 120, 121, 122, 123, 124, 125, 126, 127, 128, 129, 130, 131, 132, 133, 134, 135, 136, 137, 138, 139, 140, 141, 142, 143, 144, 145, 146, 147, 148, 149, 150, 151, 152, 153, 154, 155, 156, 157, 158, 159, 160, 161, 162, 163, 164, 165, 166, 167, 168, 169, 170, 171, 172, 173, 174, 175, 176, 177, 178, 179, 180, 181, 182] (by decide +kernel) (by decide +kernel)
set_option maxRecDepth 20000 in
theorem gX12_later_X12_pack : GoodIn wsX12_later (wsV RX12 420 RX12 yX12_pack wsX12_pack) := goodIn_app (goodIn_of _ (by decide +kernel)) ggX12_later_X12_pack
set_option maxRecDepth 20000 in
theorem ggX12_later_X12_goOn : GoodIn wsX12_later wsX12_goOn := goodIn_r _ [29, 17, 30, 31, 32, 7, 33, 34, 35, 36, 37, 38, 39, 40, 41, 42, 43, 20, 44, 45, 46, 47, 18, 19, 48, 49, 50, 51, 25, 52, 53, 54, 55, 56, 57, 58, 59, 60, 61, 62, 63, 64, 65, 66, 67, 68, 69, 70, 71, 72, 73, 74, 75, 76, 23, 24, 77, 21, 22, 78, 79, 80, 81, 82, 83, 84, 85, 86, 87, 88, 89, 90, 91, 92, 93, 94, 95, 96, 97, 98, 99, 100, 101, 118, 119, 120, 121, 122, 123, 124, 125, 126, 127, 128, 129, 130, 131, 132, 133, 134, 135, 136, 137, 138, 139, 140, 141, 142, 143, 144, 145, 146, 147, 148, 149, 150, 151, 152, 153, 154, 155, 156, 157, 158, 159, 160, 161, 162, 163, 164, 165, 166, 167, 168, 169, 170, 171, 172, 173, 174, 175, 176, 177, 178, 179, 180, 181, 182] (by decide +kernel) (by decide +kernel)
set_option maxRecDepth 20000 in
theorem gX12_later_X12_goOn : GoodIn wsX12_later (wsV RX12 432 RX12 yX12_goOn wsX12_goOn) := goodIn_app (goodIn_of _ (by decide +kernel)) ggX12_later_X12_goOn
set_option maxRecDepth 20000 in
theorem ggX12_later_X12_loaves : GoodIn wsX12_later wsX12_loaves := goodIn_r _ [105, 34, 20, 118, 119, 120, 121, 122, 123, 124, 125, 126, 127, 128, 129, 130, 131, 132, 133, 134, 135, 136, 137, 138, 139, 140, 141, 142, 143, 144, 145, 146, 147, 148, 149, 150, 151, 152, 153, 154, 155, 156, 157, 158, 159, 160, 161, 162, 163, 164, 165, 166, 167, 168, 169, 170, 171, 172, 173, 174, 175, 176, 177, 178, 179, 180, 181, 182] (by decide +kernel) (by decide +kernel)
set_option maxRecDepth 20000 in
theorem gX12_later_X12_loaves : GoodIn wsX12_later (wsV RX12 393 RX12 yX12_loaves wsX12_loaves) := goodIn_app (goodIn_of _ (by decide +kernel)) ggX12_later_X12_loaves
set_option maxRecDepth 20000 in
theorem ggX12_later_X12_sitting : GoodIn wsX12_later wsX12_sitting := goodIn_r _ [109, 34, 25, 118, 119, 120, 121, 122, 123, 124, 125, 126, 127, 128, 129, 130, 131, 132, 133, 134, 135, 136, 137, 138, 139, 140, 141, 142, 143, 144, 145, 146, 147, 148, 149, 150, 151, 152, 153, 154, 155, 156, 157, 158, 159, 160, 161, 162, 163, 164, 165, 166, 167, 168, 169, 170, 171, 172, 173, 174, 175, 176, 177, 178, 179, 180, 181, 182] (by decide +kernel) (by decide +kernel)
set_option maxRecDepth 20000 in
theorem gX12_later_X12_sitting : GoodIn wsX12_later (wsV RX12 399 RX12 yX12_sitting wsX12_sitting) := goodIn_app (goodIn_of _ (by decide +kernel)) ggX12_later_X12_sitting
set_option maxRecDepth 20000 in
theorem ggX12_later_X12_allStone : GoodIn wsX12_later wsX12_allStone := goodIn_r _ [113, 34, 20, 118, 119, 120, 121, 122, 123, 124, 125, 126, 127, 128, 129, 130, 131, 132, 133, 134, 135, 136, 137, 138, 139, 140, 141, 142, 143, 144, 145, 146, 147, 148, 149, 150, 151, 152, 153, 154, 155, 156, 157, 158, 159, 160, 161, 162, 163, 164, 165, 166, 167, 168, 169, 170, 171, 172, 173, 174, 175, 176, 177, 178, 179, 180, 181, 182] (by decide +kernel) (by decide +kernel)
set_option maxRecDepth 20000 in
theorem gX12_later_X12_allStone : GoodIn wsX12_later (wsV RX12 402 RX12 yX12_allStone wsX12_allStone) := goodIn_app (goodIn_of _ (by decide +kernel)) ggX12_later_X12_allStone
set_option maxRecDepth 20000 in
theorem ggX12_later_X12_unpack : GoodIn wsX12_later wsX12_unpack := goodIn_r _ [117, 17, 18, 19, 20, 21, 22, 23, 24, 25, 118, 119, 120, 121, 122, 123, 124, 125, 126, 127, 128, 129, 130, 131, 132, 133, 134, 135, 136, 137, 138, 139, 140, 141, 142, 143, 144, 145, 146, 147, 148, 149, 150, 151, 152, 153, 154, 155, 156, 157, 158, 159, 160, 161, 162, 163, 164, 165, 166, 167, 168, 169, 170, 171, 172, 173, 174, 175, 176, 177, 178, 179, 180, 181, 182] (by decide +kernel) (by decide +kernel)
set_option maxRecDepth 20000 in
theorem gX12_later_X12_unpack : GoodIn wsX12_later (wsV RX12 446 RX12 yX12_unpack wsX12_unpack) := goodIn_app (goodIn_of _ (by decide +kernel)) ggX12_later_X12_unpack
theorem dX12_later_0 : decode cX12_later 0 = .ok (.aload_n 0, 1) := by decide +kernel
theorem dX12_later_1 : decode cX12_later 1 = .ok (.iconst 0, 1) := by decide +kernel
theorem dX12_later_2 : decode cX12_later 2 = .ok (.putfield 163, 3) := by decide +kernel
theorem dX12_later_5 : decode cX12_later 5 = .ok (.iload_n 2, 1) := by decide +kernel
theorem dX12_later_6 : decode cX12_later 6 = .ok (.i2l, 1) := by decide +kernel
theorem dX12_later_7 : decode cX12_later 7 = .ok (.lconst 0, 1) := by decide +kernel
theorem dX12_later_8 : decode cX12_later 8 = .ok (.ldc2_w 458, 3) := by decide +kernel
theorem dX12_later_11 : decode cX12_later 11 = .ok (.invokestatic 166, 3) := by decide +kernel
theorem dX12_later_14 : decode cX12_later 14 = .ok (.ifCond .ne 9, 3) := by decide +kernel
theorem dX12_later_17 : decode cX12_later 17 = .ok (.aload_n 0, 1) := by decide +kernel
theorem dX12_later_18 : decode cX12_later 18 = .ok (.iconst 1, 1) := by decide +kernel
theorem dX12_later_19 : decode cX12_later 19 = .ok (.invokevirtual 310, 3) := by decide +kernel
theorem dX12_later_22 : decode cX12_later 22 = .ok (.ireturn, 1) := by decide +kernel
theorem dX12_later_23 : decode cX12_later 23 = .ok (.iload_n 1, 1) := by decide +kernel
theorem dX12_later_24 : decode cX12_later 24 = .ok (.i2l, 1) := by decide +kernel
theorem dX12_later_25 : decode cX12_later 25 = .ok (.lconst 0, 1) := by decide +kernel
theorem dX12_later_26 : decode cX12_later 26 = .ok (.ldc2_w 451, 3) := by decide +kernel
theorem dX12_later_29 : decode cX12_later 29 = .ok (.invokestatic 166, 3) := by decide +kernel
theorem dX12_later_32 : decode cX12_later 32 = .ok (.ifCond .ne 9, 3) := by decide +kernel
theorem dX12_later_35 : decode cX12_later 35 = .ok (.aload_n 0, 1) := by decide +kernel
theorem dX12_later_36 : decode cX12_later 36 = .ok (.iconst 2, 1) := by decide +kernel
theorem dX12_later_37 : decode cX12_later 37 = .ok (.invokevirtual 310, 3) := by decide +kernel
theorem dX12_later_40 : decode cX12_later 40 = .ok (.ireturn, 1) := by decide +kernel
theorem dX12_later_41 : decode cX12_later 41 = .ok (.aload_n 0, 1) := by decide +kernel
theorem dX12_later_42 : decode cX12_later 42 = .ok (.aload_n 0, 1) := by decide +kernel
theorem dX12_later_43 : decode cX12_later 43 = .ok (.getfield 118, 3) := by decide +kernel
theorem dX12_later_46 : decode cX12_later 46 = .ok (.iconst 0, 1) := by decide +kernel
theorem dX12_later_47 : decode cX12_later 47 = .ok (.invokevirtual 420, 3) := by decide +kernel
theorem dX12_later_50 : decode cX12_later 50 = .ok (.aload_n 0, 1) := by decide +kernel
theorem dX12_later_51 : decode cX12_later 51 = .ok (.iload_n 1, 1) := by decide +kernel
theorem dX12_later_52 : decode cX12_later 52 = .ok (.invokevirtual 432, 3) := by decide +kernel
theorem dX12_later_55 : decode cX12_later 55 = .ok (.iload_n 2, 1) := by decide +kernel
theorem dX12_later_56 : decode cX12_later 56 = .ok (.ifCond .ne 10, 3) := by decide +kernel
theorem dX12_later_59 : decode cX12_later 59 = .ok (.aload_n 0, 1) := by decide +kernel
theorem dX12_later_60 : decode cX12_later 60 = .ok (.invokevirtual 393, 3) := by decide +kernel
theorem dX12_later_63 : decode cX12_later 63 = .ok (.goto 19, 3) := by decide +kernel
theorem dX12_later_66 : decode cX12_later 66 = .ok (.iload_n 2, 1) := by decide +kernel
theorem dX12_later_67 : decode cX12_later 67 = .ok (.iconst 1, 1) := by decide +kernel
theorem dX12_later_68 : decode cX12_later 68 = .ok (.if_icmp .ne 10, 3) := by decide +kernel
theorem dX12_later_71 : decode cX12_later 71 = .ok (.aload_n 0, 1) := by decide +kernel
theorem dX12_later_72 : decode cX12_later 72 = .ok (.invokevirtual 399, 3) := by decide +kernel
theorem dX12_later_75 : decode cX12_later 75 = .ok (.goto 7, 3) := by decide +kernel
theorem dX12_later_78 : decode cX12_later 78 = .ok (.aload_n 0, 1) := by decide +kernel
theorem dX12_later_79 : decode cX12_later 79 = .ok (.invokevirtual 402, 3) := by decide +kernel
theorem dX12_later_82 : decode cX12_later 82 = .ok (.istore_n 3, 1) := by decide +kernel
theorem dX12_later_83 : decode cX12_later 83 = .ok (.aload_n 0, 1) := by decide +kernel
theorem dX12_later_84 : decode cX12_later 84 = .ok (.aload_n 0, 1) := by decide +kernel
theorem dX12_later_85 : decode cX12_later 85 = .ok (.getfield 118, 3) := by decide +kernel
theorem dX12_later_88 : decode cX12_later 88 = .ok (.iconst 0, 1) := by decide +kernel
theorem dX12_later_89 : decode cX12_later 89 = .ok (.invokevirtual 446, 3) := by decide +kernel
theorem dX12_later_92 : decode cX12_later 92 = .ok (.iload_n 3, 1) := by decide +kernel
theorem dX12_later_93 : decode cX12_later 93 = .ok (.ireturn, 1) := by decide +kernel
set_option maxRecDepth 20000 in
theorem ggX12_sat_X12_isStone : GoodIn wsX12_sat wsX12_isStone := goodIn_r _ [8, 9, 10, 11, 7, 12, 109, 110, 111, 112, 113, 114, 115, 116, 117, 118, 119, 120, 121, 122, 123, 124, 125, 126, 127, 128, 129, 130, 131, 132, 133, 134, 135, 136, 137, 138, 139, 140, 141, 142, 143, 144, 145, 146, 147, 148, 149, 150, 151, 152, 153, 154, 155, 156, 157, 158, 159, 160, 161, 162, 163, 164, 165, 166, 167, 168, 169, 170, 171, 172, 173] (by decide +kernel) (by decide +kernel)
set_option maxRecDepth 20000 in
theorem gX12_sat_X12_isStone : GoodIn wsX12_sat (wsV RX12 411 RX12 yX12_isStone wsX12_isStone) := goodIn_app (goodIn_of _ (by decide +kernel)) ggX12_sat_X12_isStone
set_option maxRecDepth 20000 in
theorem ggX12_sat_X12_fail : GoodIn wsX12_sat wsX12_fail := goodIn_r _ [16, 1, 109, 110, 111, 112, 113, 114, 115, 116, 117, 118, 119, 120, 121, 122, 123, 124, 125, 126, 127, 128, 129, 130, 131, 132, 133, 134, 135, 136, 137, 138, 139, 140, 141, 142, 143, 144, 145, 146, 147, 148, 149, 150, 151, 152, 153, 154, 155, 156, 157, 158, 159, 160, 161, 162, 163, 164, 165, 166, 167, 168, 169, 170, 171, 172, 173] (by decide +kernel) (by decide +kernel)
set_option maxRecDepth 20000 in
theorem gX12_sat_X12_fail : GoodIn wsX12_sat (wsV RX12 310 RX12 yX12_fail wsX12_fail) := goodIn_app (goodIn_of _ (by decide +kernel)) ggX12_sat_X12_fail
set_option maxRecDepth 20000 in
theorem ggX12_sat_X12_isIn : GoodIn wsX12_sat wsX12_isIn := goodIn_r _ [12] (by decide +kernel) (by decide +kernel)
set_option maxRecDepth 20000 in
theorem gX12_sat_X12_isIn : GoodIn wsX12_sat (va_wsS RX12 166 yX12_isIn wsX12_isIn) := goodIn_app (goodIn_of _ (by decide +kernel)) ggX12_sat_X12_isIn
set_option maxRecDepth 20000 in
theorem ggX12_sat_X12_pack : GoodIn wsX12_sat wsX12_pack := goodIn_r _ [20, 21, 22, 23, 24, 25, 26, 27, 28, 29, 109, 110, 111, 112, 113, 114, 115, 116, 117, 118, 119, 120, 121, 122, 123, 124, 125, 126, 127, 128, 129, 130, 131, 132, 133, 134, 135, 136, 137, 138, 139, 140, 141, 142, 143, 144, 145, 146, 147, 148, 149, 150, 151, 152, 153, 154, 155, 156, 157, 158, 159, 160, 161, 162, 163, 164, 165, 166, 167, 168, 169, 170, 171, 172, 173] (by decide +kernel) (by decide +kernel)
set_option maxRecDepth 20000 in
theorem gX12_sat_X12_pack : GoodIn wsX12_sat (wsV RX12 420 RX12 yX12_pack wsX12_pack) := goodIn_app (goodIn_of _ (by decide +kernel)) ggX12_sat_X12_pack
set_option maxRecDepth 20000 in
theorem ggX12_sat_X12_goOn : GoodIn wsX12_sat wsX12_goOn := goodIn_r _ [33, 21, 34, 35, 36, 7, 37, 9, 38, 39, 40, 41, 42, 43, 44, 45, 46, 24, 47, 48, 49, 50, 22, 23, 51, 52, 53, 54, 29, 55, 56, 57, 58, 59, 60, 61, 62, 63, 64, 65, 66, 67, 68, 69, 70, 71, 72, 73, 74, 75, 76, 77, 78, 79, 27, 28, 80, 25, 26, 81, 82, 83, 84, 85, 86, 87, 88, 89, 90, 91, 92, 93, 94, 95, 96, 97, 98, 99, 100, 101, 102, 103, 104, 109, 110, 111, 112, 113, 114, 115, 116, 117, 118, 119, 120, 121, 122, 123, 124, 125, 126, 127, 128, 129, 130, 131, 132, 133, 134, 135, 136, 137, 138, 139, 140, 141, 142, 143, 144, 145, 146, 147, 148, 149, 150, 151, 152, 153, 154, 155, 156, 157, 158, 159, 160, 161, 162, 163, 164, 165, 166, 167, 168, 169, 170, 171, 172, 173] (by decide +kernel) (by decide +kernel)
set_option maxRecDepth 20000 in
theorem gX12_sat_X12_goOn : GoodIn wsX12_sat (wsV RX12 432 RX12 yX12_goOn wsX12_goOn) := goodIn_app (goodIn_of _ (by decide +kernel)) ggX12_sat_X12_goOn
set_option maxRecDepth 20000 in
theorem ggX12_sat_X12_sitterOf : GoodIn wsX12_sat wsX12_sitterOf := goodIn_r _ [54, 9, 29, 109, 110, 111, 112, 113, 114, 115, 116, 117, 118, 119, 120, 121, 122, 123, 124, 125, 126, 127, 128, 129, 130, 131, 132, 133, 134, 135, 136, 137, 138, 139, 140, 141, 142, 143, 144, 145, 146, 147, 148, 149, 150, 151, 152, 153, 154, 155, 156, 157, 158, 159, 160, 161, 162, 163, 164, 165, 166, 167, 168, 169, 170, 171, 172, 173] (by decide +kernel) (by decide +kernel)
set_option maxRecDepth 20000 in
theorem gX12_sat_X12_sitterOf : GoodIn wsX12_sat (wsV RX12 355 RX12 yX12_sitterOf wsX12_sitterOf) := goodIn_app (goodIn_of _ (by decide +kernel)) ggX12_sat_X12_sitterOf
set_option maxRecDepth 20000 in
theorem ggX12_sat_X12_unpack : GoodIn wsX12_sat wsX12_unpack := goodIn_r _ [108, 21, 22, 23, 24, 25, 26, 27, 28, 29, 109, 110, 111, 112, 113, 114, 115, 116, 117, 118, 119, 120, 121, 122, 123, 124, 125, 126, 127, 128, 129, 130, 131, 132, 133, 134, 135, 136, 137, 138, 139, 140, 141, 142, 143, 144, 145, 146, 147, 148, 149, 150, 151, 152, 153, 154, 155, 156, 157, 158, 159, 160, 161, 162, 163, 164, 165, 166, 167, 168, 169, 170, 171, 172, 173] (by decide +kernel) (by decide +kernel)
set_option maxRecDepth 20000 in
theorem gX12_sat_X12_unpack : GoodIn wsX12_sat (wsV RX12 446 RX12 yX12_unpack wsX12_unpack) := goodIn_app (goodIn_of _ (by decide +kernel)) ggX12_sat_X12_unpack
theorem dX12_sat_0 : decode cX12_sat 0 = .ok (.aload_n 0, 1) := by decide +kernel
theorem dX12_sat_1 : decode cX12_sat 1 = .ok (.iconst 0, 1) := by decide +kernel
theorem dX12_sat_2 : decode cX12_sat 2 = .ok (.putfield 163, 3) := by decide +kernel
theorem dX12_sat_5 : decode cX12_sat 5 = .ok (.aload_n 0, 1) := by decide +kernel
theorem dX12_sat_6 : decode cX12_sat 6 = .ok (.iload_n 1, 1) := by decide +kernel
theorem dX12_sat_7 : decode cX12_sat 7 = .ok (.invokevirtual 411, 3) := by decide +kernel
theorem dX12_sat_10 : decode cX12_sat 10 = .ok (.ifCond .ne 9, 3) := by decide +kernel
theorem dX12_sat_13 : decode cX12_sat 13 = .ok (.aload_n 0, 1) := by decide +kernel
theorem dX12_sat_14 : decode cX12_sat 14 = .ok (.iconst 1, 1) := by decide +kernel
theorem dX12_sat_15 : decode cX12_sat 15 = .ok (.invokevirtual 310, 3) := by decide +kernel
theorem dX12_sat_18 : decode cX12_sat 18 = .ok (.ireturn, 1) := by decide +kernel
theorem dX12_sat_19 : decode cX12_sat 19 = .ok (.iload_n 2, 1) := by decide +kernel
theorem dX12_sat_20 : decode cX12_sat 20 = .ok (.i2l, 1) := by decide +kernel
theorem dX12_sat_21 : decode cX12_sat 21 = .ok (.lconst 1, 1) := by decide +kernel
theorem dX12_sat_22 : decode cX12_sat 22 = .ok (.ldc2_w 451, 3) := by decide +kernel
theorem dX12_sat_25 : decode cX12_sat 25 = .ok (.invokestatic 166, 3) := by decide +kernel
theorem dX12_sat_28 : decode cX12_sat 28 = .ok (.ifCond .ne 9, 3) := by decide +kernel
theorem dX12_sat_31 : decode cX12_sat 31 = .ok (.aload_n 0, 1) := by decide +kernel
theorem dX12_sat_32 : decode cX12_sat 32 = .ok (.iconst 2, 1) := by decide +kernel
theorem dX12_sat_33 : decode cX12_sat 33 = .ok (.invokevirtual 310, 3) := by decide +kernel
theorem dX12_sat_36 : decode cX12_sat 36 = .ok (.ireturn, 1) := by decide +kernel
theorem dX12_sat_37 : decode cX12_sat 37 = .ok (.aload_n 0, 1) := by decide +kernel
theorem dX12_sat_38 : decode cX12_sat 38 = .ok (.aload_n 0, 1) := by decide +kernel
theorem dX12_sat_39 : decode cX12_sat 39 = .ok (.getfield 118, 3) := by decide +kernel
theorem dX12_sat_42 : decode cX12_sat 42 = .ok (.iconst 0, 1) := by decide +kernel
theorem dX12_sat_43 : decode cX12_sat 43 = .ok (.invokevirtual 420, 3) := by decide +kernel
theorem dX12_sat_46 : decode cX12_sat 46 = .ok (.iconst 0, 1) := by decide +kernel
theorem dX12_sat_47 : decode cX12_sat 47 = .ok (.istore_n 3, 1) := by decide +kernel
theorem dX12_sat_48 : decode cX12_sat 48 = .ok (.iconst 0, 1) := by decide +kernel
theorem dX12_sat_49 : decode cX12_sat 49 = .ok (.istore 4, 2) := by decide +kernel
theorem dX12_sat_51 : decode cX12_sat 51 = .ok (.iload 4, 2) := by decide +kernel
theorem dX12_sat_53 : decode cX12_sat 53 = .ok (.iload_n 2, 1) := by decide +kernel
theorem dX12_sat_54 : decode cX12_sat 54 = .ok (.if_icmp .ge 31, 3) := by decide +kernel
theorem dX12_sat_57 : decode cX12_sat 57 = .ok (.aload_n 0, 1) := by decide +kernel
theorem dX12_sat_58 : decode cX12_sat 58 = .ok (.iconst 1, 1) := by decide +kernel
theorem dX12_sat_59 : decode cX12_sat 59 = .ok (.invokevirtual 432, 3) := by decide +kernel
theorem dX12_sat_62 : decode cX12_sat 62 = .ok (.iload_n 3, 1) := by decide +kernel
theorem dX12_sat_63 : decode cX12_sat 63 = .ok (.aload_n 0, 1) := by decide +kernel
theorem dX12_sat_64 : decode cX12_sat 64 = .ok (.iload_n 1, 1) := by decide +kernel
