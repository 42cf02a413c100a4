theorem dX11_addPlaces_35 : decode cX11_addPlaces 35 = .ok (.iload_n 3, 1) := by decide +kernel
theorem dX11_addPlaces_36 : decode cX11_addPlaces 36 = .ok (.dup2, 1) := by decide +kernel
theorem dX11_addPlaces_37 : decode cX11_addPlaces 37 = .ok (.iaload, 1) := by decide +kernel
theorem dX11_addPlaces_38 : decode cX11_addPlaces 38 = .ok (.iconst 1, 1) := by decide +kernel
theorem dX11_addPlaces_39 : decode cX11_addPlaces 39 = .ok (.aload_n 0, 1) := by decide +kernel
theorem dX11_addPlaces_40 : decode cX11_addPlaces 40 = .ok (.getfield 55, 3) := by decide +kernel
theorem dX11_addPlaces_43 : decode cX11_addPlaces 43 = .ok (.getfield 230, 3) := by decide +kernel
theorem dX11_addPlaces_46 : decode cX11_addPlaces 46 = .ok (.getfield 210, 3) := by decide +kernel
theorem dX11_addPlaces_49 : decode cX11_addPlaces 49 = .ok (.iload_n 3, 1) := by decide +kernel
theorem dX11_addPlaces_50 : decode cX11_addPlaces 50 = .ok (.iaload, 1) := by decide +kernel
theorem dX11_addPlaces_51 : decode cX11_addPlaces 51 = .ok (.iconst 1, 1) := by decide +kernel
theorem dX11_addPlaces_52 : decode cX11_addPlaces 52 = .ok (.iadd, 1) := by decide +kernel
theorem dX11_addPlaces_53 : decode cX11_addPlaces 53 = .ok (.ishl, 1) := by decide +kernel
theorem dX11_addPlaces_54 : decode cX11_addPlaces 54 = .ok (.ior, 1) := by decide +kernel
theorem dX11_addPlaces_55 : decode cX11_addPlaces 55 = .ok (.iastore, 1) := by decide +kernel
theorem dX11_addPlaces_56 : decode cX11_addPlaces 56 = .ok (.iinc 3 1, 3) := by decide +kernel
theorem dX11_addPlaces_59 : decode cX11_addPlaces 59 = .ok (.goto (-42), 3) := by decide +kernel
theorem dX11_addPlaces_62 : decode cX11_addPlaces 62 = .ok (.return_, 1) := by decide +kernel
theorem dX11_weightOf_0 : decode cX11_weightOf 0 = .ok (.iconst 1, 1) := by decide +kernel
theorem dX11_weightOf_1 : decode cX11_weightOf 1 = .ok (.istore_n 3, 1) := by decide +kernel
theorem dX11_weightOf_2 : decode cX11_weightOf 2 = .ok (.iconst 0, 1) := by decide +kernel
theorem dX11_weightOf_3 : decode cX11_weightOf 3 = .ok (.istore 4, 2) := by decide +kernel
theorem dX11_weightOf_5 : decode cX11_weightOf 5 = .ok (.iload 4, 2) := by decide +kernel
theorem dX11_weightOf_7 : decode cX11_weightOf 7 = .ok (.iload_n 1, 1) := by decide +kernel
theorem dX11_weightOf_8 : decode cX11_weightOf 8 = .ok (.if_icmp .ge 30, 3) := by decide +kernel
theorem dX11_weightOf_11 : decode cX11_weightOf 11 = .ok (.iload_n 3, 1) := by decide +kernel
theorem dX11_weightOf_12 : decode cX11_weightOf 12 = .ok (.iload_n 0, 1) := by decide +kernel
theorem dX11_weightOf_13 : decode cX11_weightOf 13 = .ok (.iload 4, 2) := by decide +kernel
theorem dX11_weightOf_15 : decode cX11_weightOf 15 = .ok (.ishr, 1) := by decide +kernel
theorem dX11_weightOf_16 : decode cX11_weightOf 16 = .ok (.iconst 1, 1) := by decide +kernel
theorem dX11_weightOf_17 : decode cX11_weightOf 17 = .ok (.iand, 1) := by decide +kernel
theorem dX11_weightOf_18 : decode cX11_weightOf 18 = .ok (.iconst 1, 1) := by decide +kernel
theorem dX11_weightOf_19 : decode cX11_weightOf 19 = .ok (.if_icmp .ne 7, 3) := by decide +kernel
theorem dX11_weightOf_22 : decode cX11_weightOf 22 = .ok (.iload_n 2, 1) := by decide +kernel
theorem dX11_weightOf_23 : decode cX11_weightOf 23 = .ok (.goto 7, 3) := by decide +kernel
theorem dX11_weightOf_26 : decode cX11_weightOf 26 = .ok (.bipush 10, 2) := by decide +kernel
theorem dX11_weightOf_28 : decode cX11_weightOf 28 = .ok (.iload_n 2, 1) := by decide +kernel
theorem dX11_weightOf_29 : decode cX11_weightOf 29 = .ok (.isub, 1) := by decide +kernel
theorem dX11_weightOf_30 : decode cX11_weightOf 30 = .ok (.imul, 1) := by decide +kernel
theorem dX11_weightOf_31 : decode cX11_weightOf 31 = .ok (.istore_n 3, 1) := by decide +kernel
theorem dX11_weightOf_32 : decode cX11_weightOf 32 = .ok (.iinc 4 1, 3) := by decide +kernel
theorem dX11_weightOf_35 : decode cX11_weightOf 35 = .ok (.goto (-30), 3) := by decide +kernel
theorem dX11_weightOf_38 : decode cX11_weightOf 38 = .ok (.iload_n 3, 1) := by decide +kernel
theorem dX11_weightOf_39 : decode cX11_weightOf 39 = .ok (.ireturn, 1) := by decide +kernel
set_option maxRecDepth 20000 in
theorem ggX11_isLoafBehind_X9_begin : GoodIn wsX11_isLoafBehind wsX9_begin := goodIn_r _ [10, 11, 12, 13, 14, 15, 16, 17, 18, 19, 20, 21, 22, 23, 24, 25, 26, 27, 28, 29, 30, 144, 145, 146, 147, 148, 149, 150, 151, 152, 153, 154, 155, 156, 157] (by decide +kernel) (by decide +kernel)
set_option maxRecDepth 20000 in
theorem gX11_isLoafBehind_X9_begin : GoodIn wsX11_isLoafBehind (wsV RX11 224 RX9 yX9_begin wsX9_begin) := goodIn_app (goodIn_of _ (by decide +kernel)) ggX11_isLoafBehind_X9_begin
set_option maxRecDepth 20000 in
theorem ggX11_isLoafBehind_X9_passYear : GoodIn wsX11_isLoafBehind wsX9_passYear := goodIn_r _ [34, 35, 11, 36, 37, 38, 39, 9, 40, 41, 42, 43, 44, 45, 46, 47, 48, 49, 50, 51, 52, 53, 54, 55, 16, 56, 19, 30, 57, 58, 59, 60, 61, 62, 63, 64, 65, 66, 67, 68, 69, 70, 71, 72, 73, 74, 75, 27, 76, 77, 78, 79, 80, 21, 26, 81, 82, 83, 84, 85, 86, 87, 88, 89, 90, 91, 92, 93, 94, 95, 96, 97, 98, 99, 100, 101, 102, 103, 104, 105, 106, 107, 108, 12, 109, 110, 111, 112, 113, 114, 115, 116, 117, 118, 119, 120, 121, 122, 123, 124, 125, 18, 126, 144, 145, 146, 147, 148, 149, 150, 151, 152, 153, 154, 155, 156, 157, 158, 159, 160, 161, 162, 163, 164, 165, 166, 167] (by decide +kernel) (by decide +kernel)
set_option maxRecDepth 20000 in
theorem gX11_isLoafBehind_X9_passYear : GoodIn wsX11_isLoafBehind (wsV RX11 348 RX9 yX9_passYear wsX9_passYear) := goodIn_app (goodIn_of _ (by decide +kernel)) ggX11_isLoafBehind_X9_passYear
theorem dX11_isLoafBehind_0 : decode cX11_isLoafBehind 0 = .ok (.aload_n 0, 1) := by decide +kernel
theorem dX11_isLoafBehind_1 : decode cX11_isLoafBehind 1 = .ok (.getfield 55, 3) := by decide +kernel
theorem dX11_isLoafBehind_4 : decode cX11_isLoafBehind 4 = .ok (.aload_n 0, 1) := by decide +kernel
theorem dX11_isLoafBehind_5 : decode cX11_isLoafBehind 5 = .ok (.getfield 39, 3) := by decide +kernel
theorem dX11_isLoafBehind_8 : decode cX11_isLoafBehind 8 = .ok (.getfield 61, 3) := by decide +kernel
theorem dX11_isLoafBehind_11 : decode cX11_isLoafBehind 11 = .ok (.invokevirtual 224, 3) := by decide +kernel
theorem dX11_isLoafBehind_14 : decode cX11_isLoafBehind 14 = .ok (.iconst 0, 1) := by decide +kernel
theorem dX11_isLoafBehind_15 : decode cX11_isLoafBehind 15 = .ok (.istore 4, 2) := by decide +kernel
theorem dX11_isLoafBehind_17 : decode cX11_isLoafBehind 17 = .ok (.iload 4, 2) := by decide +kernel
theorem dX11_isLoafBehind_19 : decode cX11_isLoafBehind 19 = .ok (.iload_n 2, 1) := by decide +kernel
theorem dX11_isLoafBehind_20 : decode cX11_isLoafBehind 20 = .ok (.if_icmp .ge 32, 3) := by decide +kernel
theorem dX11_isLoafBehind_23 : decode cX11_isLoafBehind 23 = .ok (.aload_n 0, 1) := by decide +kernel
theorem dX11_isLoafBehind_24 : decode cX11_isLoafBehind 24 = .ok (.getfield 55, 3) := by decide +kernel
theorem dX11_isLoafBehind_27 : decode cX11_isLoafBehind 27 = .ok (.iload_n 3, 1) := by decide +kernel
theorem dX11_isLoafBehind_28 : decode cX11_isLoafBehind 28 = .ok (.iload 4, 2) := by decide +kernel
theorem dX11_isLoafBehind_30 : decode cX11_isLoafBehind 30 = .ok (.ishr, 1) := by decide +kernel
theorem dX11_isLoafBehind_31 : decode cX11_isLoafBehind 31 = .ok (.iconst 1, 1) := by decide +kernel
theorem dX11_isLoafBehind_32 : decode cX11_isLoafBehind 32 = .ok (.iand, 1) := by decide +kernel
theorem dX11_isLoafBehind_33 : decode cX11_isLoafBehind 33 = .ok (.iconst 1, 1) := by decide +kernel
theorem dX11_isLoafBehind_34 : decode cX11_isLoafBehind 34 = .ok (.if_icmp .ne 8, 3) := by decide +kernel
theorem dX11_isLoafBehind_37 : decode cX11_isLoafBehind 37 = .ok (.bipush 9, 2) := by decide +kernel
theorem dX11_isLoafBehind_39 : decode cX11_isLoafBehind 39 = .ok (.goto 4, 3) := by decide +kernel
theorem dX11_isLoafBehind_42 : decode cX11_isLoafBehind 42 = .ok (.iconst 0, 1) := by decide +kernel
theorem dX11_isLoafBehind_43 : decode cX11_isLoafBehind 43 = .ok (.invokevirtual 348, 3) := by decide +kernel
theorem dX11_isLoafBehind_46 : decode cX11_isLoafBehind 46 = .ok (.iinc 4 1, 3) := by decide +kernel
theorem dX11_isLoafBehind_49 : decode cX11_isLoafBehind 49 = .ok (.goto (-32), 3) := by decide +kernel
theorem dX11_isLoafBehind_52 : decode cX11_isLoafBehind 52 = .ok (.aload_n 0, 1) := by decide +kernel
theorem dX11_isLoafBehind_53 : decode cX11_isLoafBehind 53 = .ok (.getfield 55, 3) := by decide +kernel
theorem dX11_isLoafBehind_56 : decode cX11_isLoafBehind 56 = .ok (.getfield 230, 3) := by decide +kernel
theorem dX11_isLoafBehind_59 : decode cX11_isLoafBehind 59 = .ok (.getfield 187, 3) := by decide +kernel
theorem dX11_isLoafBehind_62 : decode cX11_isLoafBehind 62 = .ok (.iload_n 1, 1) := by decide +kernel
theorem dX11_isLoafBehind_63 : decode cX11_isLoafBehind 63 = .ok (.iaload, 1) := by decide +kernel
theorem dX11_isLoafBehind_64 : decode cX11_isLoafBehind 64 = .ok (.ifCond .ne 7, 3) := by decide +kernel
theorem dX11_isLoafBehind_67 : decode cX11_isLoafBehind 67 = .ok (.iconst 1, 1) := by decide +kernel
theorem dX11_isLoafBehind_68 : decode cX11_isLoafBehind 68 = .ok (.goto 4, 3) := by decide +kernel
theorem dX11_isLoafBehind_71 : decode cX11_isLoafBehind 71 = .ok (.iconst 0, 1) := by decide +kernel
theorem dX11_isLoafBehind_72 : decode cX11_isLoafBehind 72 = .ok (.ireturn, 1) := by decide +kernel
set_option maxRecDepth 20000 in
theorem ggX11_play_X9_begin : GoodIn wsX11_play wsX9_begin := goodIn_r _ [10, 11, 12, 13, 14, 15, 16, 17, 18, 19, 20, 21, 22, 23, 24, 25, 26, 27, 28, 29, 30, 177, 178, 179, 180, 181, 182, 183, 184, 185, 186, 187, 188, 189, 190] (by decide +kernel) (by decide +kernel)
set_option maxRecDepth 20000 in
theorem gX11_play_X9_begin : GoodIn wsX11_play (wsV RX11 224 RX9 yX9_begin wsX9_begin) := goodIn_app (goodIn_of _ (by decide +kernel)) ggX11_play_X9_begin
set_option maxRecDepth 20000 in
theorem ggX11_play_X8_carveAsItIs : GoodIn wsX11_play wsX8_carveAsItIs := goodIn_r _ [34, 27, 182, 183, 184, 185, 186, 187, 188, 189, 190] (by decide +kernel) (by decide +kernel)
set_option maxRecDepth 20000 in
theorem gX11_play_X8_carveAsItIs : GoodIn wsX11_play (wsV RX11 351 RX8 yX8_carveAsItIs wsX8_carveAsItIs) := goodIn_app (goodIn_of _ (by decide +kernel)) ggX11_play_X8_carveAsItIs
set_option maxRecDepth 20000 in
theorem ggX11_play_X9_passYears : GoodIn wsX11_play wsX9_passYears := goodIn_r _ [38, 39, 11, 40, 41, 42, 43, 44, 45, 46, 47, 48, 49, 50, 9, 51, 52, 53, 54, 55, 56, 57, 58, 59, 60, 61, 62, 63, 64, 65, 66, 67, 68, 69, 70, 16, 71, 19, 30, 72, 73, 74, 75, 76, 77, 78, 79, 80, 81, 82, 83, 84, 85, 86, 87, 88, 89, 90, 27, 91, 92, 93, 94, 95, 21, 26, 96, 97, 98, 99, 100, 101, 102, 103, 104, 105, 106, 107, 108, 109, 110, 111, 112, 113, 114, 115, 116, 117, 118, 119, 120, 121, 122, 123, 12, 124, 125, 126, 127, 128, 129, 130, 131, 132, 133, 134, 135, 136, 137, 138, 139, 140, 18, 141, 177, 178, 179, 180, 181, 182, 183, 184, 185, 186, 187, 188, 189, 190, 191, 192, 193, 194, 195, 196, 197, 198, 199, 200] (by decide +kernel) (by decide +kernel)
set_option maxRecDepth 20000 in
theorem gX11_play_X9_passYears : GoodIn wsX11_play (wsV RX11 227 RX9 yX9_passYears wsX9_passYears) := goodIn_app (goodIn_of _ (by decide +kernel)) ggX11_play_X9_passYears
set_option maxRecDepth 20000 in
theorem ggX11_play_X8_gainOf : GoodIn wsX11_play wsX8_gainOf := goodIn_r _ [145, 27, 146, 147, 148, 16, 149, 19, 29, 150, 151, 152, 153, 30, 154, 155, 117, 156, 157, 158, 159, 182, 183, 184, 185, 186, 187, 188, 189, 190] (by decide +kernel) (by decide +kernel)
set_option maxRecDepth 20000 in
theorem gX11_play_X8_gainOf : GoodIn wsX11_play (wsV RX11 354 RX8 yX8_gainOf wsX8_gainOf) := goodIn_app (goodIn_of _ (by decide +kernel)) ggX11_play_X8_gainOf
theorem dX11_play_0 : decode cX11_play 0 = .ok (.iload_n 3, 1) := by decide +kernel
theorem dX11_play_1 : decode cX11_play 1 = .ok (.iconst 1, 1) := by decide +kernel
theorem dX11_play_2 : decode cX11_play 2 = .ok (.ishr, 1) := by decide +kernel
theorem dX11_play_3 : decode cX11_play 3 = .ok (.istore 4, 2) := by decide +kernel
theorem dX11_play_5 : decode cX11_play 5 = .ok (.iload_n 3, 1) := by decide +kernel
theorem dX11_play_6 : decode cX11_play 6 = .ok (.iconst 1, 1) := by decide +kernel
theorem dX11_play_7 : decode cX11_play 7 = .ok (.iand, 1) := by decide +kernel
theorem dX11_play_8 : decode cX11_play 8 = .ok (.istore 5, 2) := by decide +kernel
theorem dX11_play_10 : decode cX11_play 10 = .ok (.aload_n 0, 1) := by decide +kernel
theorem dX11_play_11 : decode cX11_play 11 = .ok (.getfield 55, 3) := by decide +kernel
theorem dX11_play_14 : decode cX11_play 14 = .ok (.aload_n 0, 1) := by decide +kernel
theorem dX11_play_15 : decode cX11_play 15 = .ok (.getfield 39, 3) := by decide +kernel
theorem dX11_play_18 : decode cX11_play 18 = .ok (.getfield 61, 3) := by decide +kernel
theorem dX11_play_21 : decode cX11_play 21 = .ok (.invokevirtual 224, 3) := by decide +kernel
theorem dX11_play_24 : decode cX11_play 24 = .ok (.iload 4, 2) := by decide +kernel
theorem dX11_play_26 : decode cX11_play 26 = .ok (.iconst 1, 1) := by decide +kernel
theorem dX11_play_27 : decode cX11_play 27 = .ok (.if_icmp .ne 14, 3) := by decide +kernel
theorem dX11_play_30 : decode cX11_play 30 = .ok (.aload_n 0, 1) := by decide +kernel
theorem dX11_play_31 : decode cX11_play 31 = .ok (.getfield 55, 3) := by decide +kernel
theorem dX11_play_34 : decode cX11_play 34 = .ok (.getfield 230, 3) := by decide +kernel
theorem dX11_play_37 : decode cX11_play 37 = .ok (.iload_n 1, 1) := by decide +kernel
theorem dX11_play_38 : decode cX11_play 38 = .ok (.invokevirtual 351, 3) := by decide +kernel
theorem dX11_play_41 : decode cX11_play 41 = .ok (.iload 5, 2) := by decide +kernel
theorem dX11_play_43 : decode cX11_play 43 = .ok (.iconst 1, 1) := by decide +kernel
theorem dX11_play_44 : decode cX11_play 44 = .ok (.if_icmp .ne 14, 3) := by decide +kernel
theorem dX11_play_47 : decode cX11_play 47 = .ok (.aload_n 0, 1) := by decide +kernel
theorem dX11_play_48 : decode cX11_play 48 = .ok (.getfield 55, 3) := by decide +kernel
theorem dX11_play_51 : decode cX11_play 51 = .ok (.getfield 230, 3) := by decide +kernel
theorem dX11_play_54 : decode cX11_play 54 = .ok (.iload_n 2, 1) := by decide +kernel
theorem dX11_play_55 : decode cX11_play 55 = .ok (.invokevirtual 351, 3) := by decide +kernel
theorem dX11_play_58 : decode cX11_play 58 = .ok (.aload_n 0, 1) := by decide +kernel
theorem dX11_play_59 : decode cX11_play 59 = .ok (.getfield 55, 3) := by decide +kernel
theorem dX11_play_62 : decode cX11_play 62 = .ok (.bipush 6, 2) := by decide +kernel
theorem dX11_play_64 : decode cX11_play 64 = .ok (.invokevirtual 227, 3) := by decide +kernel
theorem dX11_play_67 : decode cX11_play 67 = .ok (.aload_n 0, 1) := by decide +kernel
theorem dX11_play_68 : decode cX11_play 68 = .ok (.getfield 79, 3) := by decide +kernel
theorem dX11_play_71 : decode cX11_play 71 = .ok (.iconst 2, 1) := by decide +kernel
theorem dX11_play_72 : decode cX11_play 72 = .ok (.iload_n 3, 1) := by decide +kernel
theorem dX11_play_73 : decode cX11_play 73 = .ok (.imul, 1) := by decide +kernel
theorem dX11_play_74 : decode cX11_play 74 = .ok (.aload_n 0, 1) := by decide +kernel
theorem dX11_play_75 : decode cX11_play 75 = .ok (.getfield 55, 3) := by decide +kernel
theorem dX11_play_78 : decode cX11_play 78 = .ok (.getfield 230, 3) := by decide +kernel
theorem dX11_play_81 : decode cX11_play 81 = .ok (.iload_n 1, 1) := by decide +kernel
theorem dX11_play_82 : decode cX11_play 82 = .ok (.invokevirtual 354, 3) := by decide +kernel
theorem dX11_play_85 : decode cX11_play 85 = .ok (.iconst 3, 1) := by decide +kernel
theorem dX11_play_86 : decode cX11_play 86 = .ok (.iload 4, 2) := by decide +kernel
theorem dX11_play_88 : decode cX11_play 88 = .ok (.imul, 1) := by decide +kernel
theorem dX11_play_89 : decode cX11_play 89 = .ok (.isub, 1) := by decide +kernel
theorem dX11_play_90 : decode cX11_play 90 = .ok (.iastore, 1) := by decide +kernel
theorem dX11_play_91 : decode cX11_play 91 = .ok (.aload_n 0, 1) := by decide +kernel
theorem dX11_play_92 : decode cX11_play 92 = .ok (.getfield 79, 3) := by decide +kernel
theorem dX11_play_95 : decode cX11_play 95 = .ok (.iconst 2, 1) := by decide +kernel
theorem dX11_play_96 : decode cX11_play 96 = .ok (.iload_n 3, 1) := by decide +kernel
theorem dX11_play_97 : decode cX11_play 97 = .ok (.imul, 1) := by decide +kernel
theorem dX11_play_98 : decode cX11_play 98 = .ok (.iconst 1, 1) := by decide +kernel
theorem dX11_play_99 : decode cX11_play 99 = .ok (.iadd, 1) := by decide +kernel
theorem dX11_play_100 : decode cX11_play 100 = .ok (.aload_n 0, 1) := by decide +kernel
theorem dX11_play_101 : decode cX11_play 101 = .ok (.getfield 55, 3) := by decide +kernel
theorem dX11_play_104 : decode cX11_play 104 = .ok (.getfield 230, 3) := by decide +kernel
theorem dX11_play_107 : decode cX11_play 107 = .ok (.iload_n 2, 1) := by decide +kernel
theorem dX11_play_108 : decode cX11_play 108 = .ok (.invokevirtual 354, 3) := by decide +kernel
theorem dX11_play_111 : decode cX11_play 111 = .ok (.iconst 3, 1) := by decide +kernel
theorem dX11_play_112 : decode cX11_play 112 = .ok (.iload 5, 2) := by decide +kernel
theorem dX11_play_114 : decode cX11_play 114 = .ok (.imul, 1) := by decide +kernel
theorem dX11_play_115 : decode cX11_play 115 = .ok (.isub, 1) := by decide +kernel
theorem dX11_play_116 : decode cX11_play 116 = .ok (.iastore, 1) := by decide +kernel
theorem dX11_play_117 : decode cX11_play 117 = .ok (.return_, 1) := by decide +kernel
theorem dX11_rests_0 : decode cX11_rests 0 = .ok (.aload_n 0, 1) := by decide +kernel
theorem dX11_rests_1 : decode cX11_rests 1 = .ok (.getfield 79, 3) := by decide +kernel
theorem dX11_rests_4 : decode cX11_rests 4 = .ok (.iconst 2, 1) := by decide +kernel
theorem dX11_rests_5 : decode cX11_rests 5 = .ok (.iload_n 1, 1) := by decide +kernel
theorem dX11_rests_6 : decode cX11_rests 6 = .ok (.iconst 2, 1) := by decide +kernel
theorem dX11_rests_7 : decode cX11_rests 7 = .ok (.ixor, 1) := by decide +kernel
theorem dX11_rests_8 : decode cX11_rests 8 = .ok (.imul, 1) := by decide +kernel
theorem dX11_rests_9 : decode cX11_rests 9 = .ok (.iaload, 1) := by decide +kernel
theorem dX11_rests_10 : decode cX11_rests 10 = .ok (.istore_n 2, 1) := by decide +kernel
theorem dX11_rests_11 : decode cX11_rests 11 = .ok (.aload_n 0, 1) := by decide +kernel
theorem dX11_rests_12 : decode cX11_rests 12 = .ok (.getfield 79, 3) := by decide +kernel
theorem dX11_rests_15 : decode cX11_rests 15 = .ok (.iconst 2, 1) := by decide +kernel
theorem dX11_rests_16 : decode cX11_rests 16 = .ok (.iload_n 1, 1) := by decide +kernel
theorem dX11_rests_17 : decode cX11_rests 17 = .ok (.iconst 1, 1) := by decide +kernel
theorem dX11_rests_18 : decode cX11_rests 18 = .ok (.ixor, 1) := by decide +kernel
theorem dX11_rests_19 : decode cX11_rests 19 = .ok (.imul, 1) := by decide +kernel
theorem dX11_rests_20 : decode cX11_rests 20 = .ok (.iconst 1, 1) := by decide +kernel
theorem dX11_rests_21 : decode cX11_rests 21 = .ok (.iadd, 1) := by decide +kernel
theorem dX11_rests_22 : decode cX11_rests 22 = .ok (.iaload, 1) := by decide +kernel
theorem dX11_rests_23 : decode cX11_rests 23 = .ok (.istore_n 3, 1) := by decide +kernel
theorem dX11_rests_24 : decode cX11_rests 24 = .ok (.iload_n 2, 1) := by decide +kernel
theorem dX11_rests_25 : decode cX11_rests 25 = .ok (.aload_n 0, 1) := by decide +kernel
theorem dX11_rests_26 : decode cX11_rests 26 = .ok (.getfield 79, 3) := by decide +kernel
theorem dX11_rests_29 : decode cX11_rests 29 = .ok (.iconst 2, 1) := by decide +kernel
theorem dX11_rests_30 : decode cX11_rests 30 = .ok (.iload_n 1, 1) := by decide +kernel
theorem dX11_rests_31 : decode cX11_rests 31 = .ok (.imul, 1) := by decide +kernel
theorem dX11_rests_32 : decode cX11_rests 32 = .ok (.iaload, 1) := by decide +kernel
theorem dX11_rests_33 : decode cX11_rests 33 = .ok (.if_icmp .gt 21, 3) := by decide +kernel
theorem dX11_rests_36 : decode cX11_rests 36 = .ok (.iload_n 3, 1) := by decide +kernel
theorem dX11_rests_37 : decode cX11_rests 37 = .ok (.aload_n 0, 1) := by decide +kernel
theorem dX11_rests_38 : decode cX11_rests 38 = .ok (.getfield 79, 3) := by decide +kernel
theorem dX11_rests_41 : decode cX11_rests 41 = .ok (.iconst 2, 1) := by decide +kernel
theorem dX11_rests_42 : decode cX11_rests 42 = .ok (.iload_n 1, 1) := by decide +kernel
theorem dX11_rests_43 : decode cX11_rests 43 = .ok (.imul, 1) := by decide +kernel
theorem dX11_rests_44 : decode cX11_rests 44 = .ok (.iconst 1, 1) := by decide +kernel
theorem dX11_rests_45 : decode cX11_rests 45 = .ok (.iadd, 1) := by decide +kernel
theorem dX11_rests_46 : decode cX11_rests 46 = .ok (.iaload, 1) := by decide +kernel
theorem dX11_rests_47 : decode cX11_rests 47 = .ok (.if_icmp .gt 7, 3) := by decide +kernel
theorem dX11_rests_50 : decode cX11_rests 50 = .ok (.iconst 1, 1) := by decide +kernel
theorem dX11_rests_51 : decode cX11_rests 51 = .ok (.goto 4, 3) := by decide +kernel
theorem dX11_rests_54 : decode cX11_rests 54 = .ok (.iconst 0, 1) := by decide +kernel
theorem dX11_rests_55 : decode cX11_rests 55 = .ok (.ireturn, 1) := by decide +kernel
