theorem dX11_best_104 : decode cX11_best 104 = .ok (.goto (-80), 3) := by decide +kernel
theorem dX11_best_107 : decode cX11_best 107 = .ok (.iload_n 3, 1) := by decide +kernel
theorem dX11_best_108 : decode cX11_best 108 = .ok (.ifCond .ne 8, 3) := by decide +kernel
theorem dX11_best_111 : decode cX11_best 111 = .ok (.iload 4, 2) := by decide +kernel
theorem dX11_best_113 : decode cX11_best 113 = .ok (.goto 5, 3) := by decide +kernel
theorem dX11_best_116 : decode cX11_best 116 = .ok (.iload 5, 2) := by decide +kernel
theorem dX11_best_118 : decode cX11_best 118 = .ok (.ireturn, 1) := by decide +kernel
set_option maxRecDepth 20000 in
theorem ggX11_greatest_X11_needWhat : GoodIn wsX11_greatest wsX11_needWhat := goodIn_ca (goodIn_r _ [4, 5, 6] (by decide +kernel) (by decide +kernel)) (goodIn_sub (fun _ h => List.mem_cons_of_mem _ (List.mem_append_left _ (List.mem_append_right _ h))) (by decide +kernel))
set_option maxRecDepth 20000 in
theorem gX11_greatest_X11_needWhat : GoodIn wsX11_greatest (va_wsS RX11 240 yX11_needWhat wsX11_needWhat) := goodIn_app (goodIn_of _ (by decide +kernel)) ggX11_greatest_X11_needWhat
set_option maxRecDepth 20000 in
theorem ggX11_greatest_X11_stateBehind : GoodIn wsX11_greatest wsX11_stateBehind := goodIn_ca (goodIn_r _ [10, 11, 12, 13, 14, 15, 16, 3, 17, 18, 19, 20, 21, 22, 23, 24, 25, 26, 27, 28, 29, 30, 31, 32, 33, 34, 35, 36, 37, 38, 39, 40, 41, 42, 43, 44, 45, 46, 47, 48, 49, 50, 51, 52, 53, 54, 55, 56, 57, 58, 59, 60, 61, 62, 63, 64, 65, 66, 67, 68, 69, 70, 71, 72, 73, 74, 75, 76, 77, 78, 79, 80, 81, 82, 83, 84, 85, 86, 87, 88, 89, 90, 91, 92, 93, 94, 95, 96, 97, 98, 99, 100, 101, 102, 103, 104, 105, 106, 107, 108, 109, 110, 111, 112, 113, 114, 115, 116, 117, 118, 119, 120, 121, 122, 123, 124, 125, 126, 127, 128, 129, 130, 131, 132, 133, 134, 135, 136, 137, 138, 139, 140, 141, 142, 143, 144, 145, 146, 147, 148, 149, 150, 151, 160, 161, 162, 163, 164, 165, 166, 167, 168, 169, 170, 171, 172, 173, 174, 175, 176, 177, 178, 179, 180, 181, 182, 183, 184, 185, 186, 187, 188, 189, 190, 191, 192, 193, 194, 195, 196, 197, 198, 199, 200] (by decide +kernel) (by decide +kernel)) (goodIn_sub (fun _ h => List.mem_cons_of_mem _ (List.mem_append_right _ h)) (by decide +kernel))
set_option maxRecDepth 20000 in
theorem gX11_greatest_X11_stateBehind : GoodIn wsX11_greatest (wsV RX11 244 RX11 yX11_stateBehind wsX11_stateBehind) := goodIn_app (goodIn_of _ (by decide +kernel)) ggX11_greatest_X11_stateBehind
set_option maxRecDepth 20000 in
theorem ggX11_greatest_X8_oldestSitter : GoodIn wsX11_greatest wsX8_oldestSitter := goodIn_r _ [155, 33, 44, 42, 182, 183, 184, 185, 186, 187, 188, 189, 190] (by decide +kernel) (by decide +kernel)
set_option maxRecDepth 20000 in
theorem gX11_greatest_X8_oldestSitter : GoodIn wsX11_greatest (wsV RX11 276 RX8 yX8_oldestSitter wsX8_oldestSitter) := goodIn_app (goodIn_of _ (by decide +kernel)) ggX11_greatest_X8_oldestSitter
set_option maxRecDepth 20000 in
theorem ggX11_greatest_X8_mostStone : GoodIn wsX11_greatest wsX8_mostStone := goodIn_r _ [159, 32, 41, 182, 183, 184, 185, 186, 187, 188, 189, 190] (by decide +kernel) (by decide +kernel)
set_option maxRecDepth 20000 in
theorem gX11_greatest_X8_mostStone : GoodIn wsX11_greatest (wsV RX11 279 RX8 yX8_mostStone wsX8_mostStone) := goodIn_app (goodIn_of _ (by decide +kernel)) ggX11_greatest_X8_mostStone
theorem dX11_greatest_0 : decode cX11_greatest 0 = .ok (.iload_n 2, 1) := by decide +kernel
theorem dX11_greatest_1 : decode cX11_greatest 1 = .ok (.iconst 1, 1) := by decide +kernel
theorem dX11_greatest_2 : decode cX11_greatest 2 = .ok (.invokestatic 240, 3) := by decide +kernel
theorem dX11_greatest_5 : decode cX11_greatest 5 = .ok (.aload_n 0, 1) := by decide +kernel
theorem dX11_greatest_6 : decode cX11_greatest 6 = .ok (.iload_n 1, 1) := by decide +kernel
theorem dX11_greatest_7 : decode cX11_greatest 7 = .ok (.invokevirtual 244, 3) := by decide +kernel
theorem dX11_greatest_10 : decode cX11_greatest 10 = .ok (.astore_n 3, 1) := by decide +kernel
theorem dX11_greatest_11 : decode cX11_greatest 11 = .ok (.iload_n 2, 1) := by decide +kernel
theorem dX11_greatest_12 : decode cX11_greatest 12 = .ok (.ifCond .ne 10, 3) := by decide +kernel
theorem dX11_greatest_15 : decode cX11_greatest 15 = .ok (.aload_n 3, 1) := by decide +kernel
theorem dX11_greatest_16 : decode cX11_greatest 16 = .ok (.invokevirtual 276, 3) := by decide +kernel
theorem dX11_greatest_19 : decode cX11_greatest 19 = .ok (.goto 7, 3) := by decide +kernel
theorem dX11_greatest_22 : decode cX11_greatest 22 = .ok (.aload_n 3, 1) := by decide +kernel
theorem dX11_greatest_23 : decode cX11_greatest 23 = .ok (.invokevirtual 279, 3) := by decide +kernel
theorem dX11_greatest_26 : decode cX11_greatest 26 = .ok (.ireturn, 1) := by decide +kernel
set_option maxRecDepth 20000 in
theorem ggX11_empty_X11_needYears : GoodIn wsX11_empty wsX11_needYears := goodIn_ca (goodIn_r _ [8, 9, 10] (by decide +kernel) (by decide +kernel)) (goodIn_sub (fun _ h => List.mem_cons_of_mem _ (List.mem_append_right _ h)) (by decide +kernel))
set_option maxRecDepth 20000 in
theorem gX11_empty_X11_needYears : GoodIn wsX11_empty (va_wsS RX11 258 yX11_needYears wsX11_needYears) := goodIn_app (goodIn_of _ (by decide +kernel)) ggX11_empty_X11_needYears
set_option maxRecDepth 20000 in
theorem ggX11_empty_X9_begin : GoodIn wsX11_empty wsX9_begin := goodIn_r _ [15, 16, 17, 18, 19, 20, 21, 22, 23, 24, 25, 26, 27, 28, 29, 30, 31, 32, 33, 34, 35, 164, 165, 166, 167, 168, 169, 170, 171, 172, 173, 174, 175, 176, 177] (by decide +kernel) (by decide +kernel)
set_option maxRecDepth 20000 in
theorem gX11_empty_X9_begin : GoodIn wsX11_empty (wsV RX11 224 RX9 yX9_begin wsX9_begin) := goodIn_app (goodIn_of _ (by decide +kernel)) ggX11_empty_X9_begin
set_option maxRecDepth 20000 in
theorem ggX11_empty_X9_passYears : GoodIn wsX11_empty wsX9_passYears := goodIn_r _ [39, 40, 16, 41, 42, 43, 44, 45, 46, 47, 48, 49, 50, 51, 14, 52, 53, 54, 55, 56, 57, 58, 59, 60, 61, 62, 63, 64, 65, 66, 67, 68, 69, 70, 71, 21, 72, 24, 35, 73, 74, 75, 76, 77, 78, 79, 80, 81, 82, 83, 84, 85, 86, 87, 88, 89, 90, 91, 32, 92, 93, 94, 95, 96, 26, 31, 97, 98, 99, 100, 101, 102, 103, 104, 105, 106, 107, 108, 109, 110, 111, 112, 113, 114, 115, 116, 117, 118, 119, 120, 121, 122, 123, 124, 17, 125, 126, 127, 128, 129, 130, 131, 132, 133, 134, 135, 136, 137, 138, 139, 140, 141, 23, 142, 164, 165, 166, 167, 168, 169, 170, 171, 172, 173, 174, 175, 176, 177, 178, 179, 180, 181, 182, 183, 184, 185, 186, 187] (by decide +kernel) (by decide +kernel)
set_option maxRecDepth 20000 in
theorem gX11_empty_X9_passYears : GoodIn wsX11_empty (wsV RX11 227 RX9 yX9_passYears wsX9_passYears) := goodIn_app (goodIn_of _ (by decide +kernel)) ggX11_empty_X9_passYears
set_option maxRecDepth 20000 in
theorem ggX11_empty_X8_sitterBits : GoodIn wsX11_empty wsX8_sitterBits := goodIn_r _ [146, 24, 35, 169, 170, 171, 172, 173, 174, 175, 176, 177] (by decide +kernel) (by decide +kernel)
set_option maxRecDepth 20000 in
theorem gX11_empty_X8_sitterBits : GoodIn wsX11_empty (wsV RX11 145 RX8 yX8_sitterBits wsX8_sitterBits) := goodIn_app (goodIn_of _ (by decide +kernel)) ggX11_empty_X8_sitterBits
theorem dX11_empty_0 : decode cX11_empty 0 = .ok (.iload_n 1, 1) := by decide +kernel
theorem dX11_empty_1 : decode cX11_empty 1 = .ok (.iconst 1, 1) := by decide +kernel
theorem dX11_empty_2 : decode cX11_empty 2 = .ok (.invokestatic 258, 3) := by decide +kernel
theorem dX11_empty_5 : decode cX11_empty 5 = .ok (.aload_n 0, 1) := by decide +kernel
theorem dX11_empty_6 : decode cX11_empty 6 = .ok (.getfield 55, 3) := by decide +kernel
theorem dX11_empty_9 : decode cX11_empty 9 = .ok (.aload_n 0, 1) := by decide +kernel
theorem dX11_empty_10 : decode cX11_empty 10 = .ok (.getfield 39, 3) := by decide +kernel
theorem dX11_empty_13 : decode cX11_empty 13 = .ok (.getfield 61, 3) := by decide +kernel
theorem dX11_empty_16 : decode cX11_empty 16 = .ok (.invokevirtual 224, 3) := by decide +kernel
theorem dX11_empty_19 : decode cX11_empty 19 = .ok (.iconst 0, 1) := by decide +kernel
theorem dX11_empty_20 : decode cX11_empty 20 = .ok (.istore_n 2, 1) := by decide +kernel
theorem dX11_empty_21 : decode cX11_empty 21 = .ok (.iconst 0, 1) := by decide +kernel
theorem dX11_empty_22 : decode cX11_empty 22 = .ok (.istore_n 3, 1) := by decide +kernel
theorem dX11_empty_23 : decode cX11_empty 23 = .ok (.iload_n 3, 1) := by decide +kernel
theorem dX11_empty_24 : decode cX11_empty 24 = .ok (.iload_n 1, 1) := by decide +kernel
theorem dX11_empty_25 : decode cX11_empty 25 = .ok (.if_icmp .ge 33, 3) := by decide +kernel
theorem dX11_empty_28 : decode cX11_empty 28 = .ok (.aload_n 0, 1) := by decide +kernel
theorem dX11_empty_29 : decode cX11_empty 29 = .ok (.getfield 55, 3) := by decide +kernel
theorem dX11_empty_32 : decode cX11_empty 32 = .ok (.iconst 1, 1) := by decide +kernel
theorem dX11_empty_33 : decode cX11_empty 33 = .ok (.invokevirtual 227, 3) := by decide +kernel
theorem dX11_empty_36 : decode cX11_empty 36 = .ok (.aload_n 0, 1) := by decide +kernel
theorem dX11_empty_37 : decode cX11_empty 37 = .ok (.getfield 55, 3) := by decide +kernel
theorem dX11_empty_40 : decode cX11_empty 40 = .ok (.getfield 230, 3) := by decide +kernel
theorem dX11_empty_43 : decode cX11_empty 43 = .ok (.invokevirtual 145, 3) := by decide +kernel
theorem dX11_empty_46 : decode cX11_empty 46 = .ok (.ifCond .ne 6, 3) := by decide +kernel
theorem dX11_empty_49 : decode cX11_empty 49 = .ok (.iinc 2 1, 3) := by decide +kernel
theorem dX11_empty_52 : decode cX11_empty 52 = .ok (.iinc 3 1, 3) := by decide +kernel
theorem dX11_empty_55 : decode cX11_empty 55 = .ok (.goto (-32), 3) := by decide +kernel
theorem dX11_empty_58 : decode cX11_empty 58 = .ok (.iload_n 2, 1) := by decide +kernel
theorem dX11_empty_59 : decode cX11_empty 59 = .ok (.ireturn, 1) := by decide +kernel
set_option maxRecDepth 20000 in
theorem ggX11_homes_X8_homeBits : GoodIn wsX11_homes wsX8_homeBits := goodIn_r _ [7, 8, 9, 10, 28, 29, 30, 31, 32, 33, 34, 35, 36] (by decide +kernel) (by decide +kernel)
set_option maxRecDepth 20000 in
theorem gX11_homes_X8_homeBits : GoodIn wsX11_homes (wsV RX11 282 RX8 yX8_homeBits wsX8_homeBits) := goodIn_app (goodIn_of _ (by decide +kernel)) ggX11_homes_X8_homeBits
theorem dX11_homes_0 : decode cX11_homes 0 = .ok (.aload_n 0, 1) := by decide +kernel
theorem dX11_homes_1 : decode cX11_homes 1 = .ok (.getfield 39, 3) := by decide +kernel
theorem dX11_homes_4 : decode cX11_homes 4 = .ok (.getfield 61, 3) := by decide +kernel
theorem dX11_homes_7 : decode cX11_homes 7 = .ok (.invokevirtual 282, 3) := by decide +kernel
theorem dX11_homes_10 : decode cX11_homes 10 = .ok (.ireturn, 1) := by decide +kernel
set_option maxRecDepth 20000 in
theorem ggX11_see_X11_needPerson : GoodIn wsX11_see wsX11_needPerson := goodIn_ca (goodIn_r _ [9, 10, 11, 1, 12, 13, 23, 24, 25, 26, 27, 28, 29, 30, 31, 32, 33, 34, 35, 36, 37, 38, 39, 44, 45, 46, 47, 48, 49, 50, 51, 52] (by decide +kernel) (by decide +kernel)) (goodIn_sub (fun _ h => List.mem_cons_of_mem _ (List.mem_append_right _ h)) (by decide +kernel))
set_option maxRecDepth 20000 in
theorem gX11_see_X11_needPerson : GoodIn wsX11_see (wsV RX11 198 RX11 yX11_needPerson wsX11_needPerson) := goodIn_app (goodIn_of _ (by decide +kernel)) ggX11_see_X11_needPerson
set_option maxRecDepth 20000 in
theorem ggX11_see_X7_put : GoodIn wsX11_see wsX7_put := goodIn_r _ [18, 19, 20, 21, 22, 40, 41, 42, 43] (by decide +kernel) (by decide +kernel)
set_option maxRecDepth 20000 in
theorem gX11_see_X7_put : GoodIn wsX11_see (wsV RX11 285 RX7 yX7_put wsX7_put) := goodIn_app (goodIn_of _ (by decide +kernel)) ggX11_see_X7_put
theorem dX11_see_0 : decode cX11_see 0 = .ok (.aload_n 0, 1) := by decide +kernel
theorem dX11_see_1 : decode cX11_see 1 = .ok (.iload_n 1, 1) := by decide +kernel
theorem dX11_see_2 : decode cX11_see 2 = .ok (.invokevirtual 198, 3) := by decide +kernel
theorem dX11_see_5 : decode cX11_see 5 = .ok (.iload_n 2, 1) := by decide +kernel
theorem dX11_see_6 : decode cX11_see 6 = .ok (.ifCond .lt 23, 3) := by decide +kernel
theorem dX11_see_9 : decode cX11_see 9 = .ok (.iload_n 2, 1) := by decide +kernel
theorem dX11_see_10 : decode cX11_see 10 = .ok (.bipush 20, 2) := by decide +kernel
theorem dX11_see_12 : decode cX11_see 12 = .ok (.if_icmp .gt 17, 3) := by decide +kernel
theorem dX11_see_15 : decode cX11_see 15 = .ok (.iload_n 3, 1) := by decide +kernel
theorem dX11_see_16 : decode cX11_see 16 = .ok (.ifCond .lt 13, 3) := by decide +kernel
theorem dX11_see_19 : decode cX11_see 19 = .ok (.iload_n 3, 1) := by decide +kernel
theorem dX11_see_20 : decode cX11_see 20 = .ok (.bipush 9, 2) := by decide +kernel
theorem dX11_see_22 : decode cX11_see 22 = .ok (.if_icmp .gt 7, 3) := by decide +kernel
theorem dX11_see_25 : decode cX11_see 25 = .ok (.iconst 1, 1) := by decide +kernel
theorem dX11_see_26 : decode cX11_see 26 = .ok (.goto 4, 3) := by decide +kernel
theorem dX11_see_29 : decode cX11_see 29 = .ok (.iconst 0, 1) := by decide +kernel
theorem dX11_see_30 : decode cX11_see 30 = .ok (.istore 4, 2) := by decide +kernel
theorem dX11_see_32 : decode cX11_see 32 = .ok (.iload 4, 2) := by decide +kernel
theorem dX11_see_34 : decode cX11_see 34 = .ok (.ifCond .eq 18, 3) := by decide +kernel
theorem dX11_see_37 : decode cX11_see 37 = .ok (.aload_n 0, 1) := by decide +kernel
theorem dX11_see_38 : decode cX11_see 38 = .ok (.getfield 39, 3) := by decide +kernel
theorem dX11_see_41 : decode cX11_see 41 = .ok (.getfield 166, 3) := by decide +kernel
theorem dX11_see_44 : decode cX11_see 44 = .ok (.getfield 170, 3) := by decide +kernel
theorem dX11_see_47 : decode cX11_see 47 = .ok (.bipush 8, 2) := by decide +kernel
theorem dX11_see_49 : decode cX11_see 49 = .ok (.if_icmp .lt 18, 3) := by decide +kernel
theorem dX11_see_52 : decode cX11_see 52 = .ok (.aload_n 0, 1) := by decide +kernel
theorem dX11_see_53 : decode cX11_see 53 = .ok (.getfield 39, 3) := by decide +kernel
theorem dX11_see_56 : decode cX11_see 56 = .ok (.getfield 104, 3) := by decide +kernel
theorem dX11_see_59 : decode cX11_see 59 = .ok (.iconst 2, 1) := by decide +kernel
theorem dX11_see_60 : decode cX11_see 60 = .ok (.dup2, 1) := by decide +kernel
theorem dX11_see_61 : decode cX11_see 61 = .ok (.iaload, 1) := by decide +kernel
theorem dX11_see_62 : decode cX11_see 62 = .ok (.iconst 1, 1) := by decide +kernel
theorem dX11_see_63 : decode cX11_see 63 = .ok (.iadd, 1) := by decide +kernel
theorem dX11_see_64 : decode cX11_see 64 = .ok (.iastore, 1) := by decide +kernel
theorem dX11_see_65 : decode cX11_see 65 = .ok (.iconst (-1), 1) := by decide +kernel
theorem dX11_see_66 : decode cX11_see 66 = .ok (.ireturn, 1) := by decide +kernel
theorem dX11_see_67 : decode cX11_see 67 = .ok (.aload_n 0, 1) := by decide +kernel
theorem dX11_see_68 : decode cX11_see 68 = .ok (.getfield 39, 3) := by decide +kernel
theorem dX11_see_71 : decode cX11_see 71 = .ok (.getfield 166, 3) := by decide +kernel
theorem dX11_see_74 : decode cX11_see 74 = .ok (.iload_n 1, 1) := by decide +kernel
theorem dX11_see_75 : decode cX11_see 75 = .ok (.iload_n 2, 1) := by decide +kernel
theorem dX11_see_76 : decode cX11_see 76 = .ok (.iload_n 3, 1) := by decide +kernel
theorem dX11_see_77 : decode cX11_see 77 = .ok (.invokevirtual 285, 3) := by decide +kernel
theorem dX11_see_80 : decode cX11_see 80 = .ok (.aload_n 0, 1) := by decide +kernel
theorem dX11_see_81 : decode cX11_see 81 = .ok (.getfield 39, 3) := by decide +kernel
theorem dX11_see_84 : decode cX11_see 84 = .ok (.getfield 166, 3) := by decide +kernel
theorem dX11_see_87 : decode cX11_see 87 = .ok (.getfield 170, 3) := by decide +kernel
theorem dX11_see_90 : decode cX11_see 90 = .ok (.ireturn, 1) := by decide +kernel
set_option maxRecDepth 20000 in
theorem ggX11_old_X11_needWhat : GoodIn wsX11_old wsX11_needWhat := goodIn_ca (goodIn_r _ [9, 10, 11] (by decide +kernel) (by decide +kernel)) (goodIn_sub (fun _ h => List.mem_cons_of_mem _ (List.mem_append_right _ h)) (by decide +kernel))
set_option maxRecDepth 20000 in
theorem gX11_old_X11_needWhat : GoodIn wsX11_old (va_wsS RX11 240 yX11_needWhat wsX11_needWhat) := goodIn_app (goodIn_of _ (by decide +kernel)) ggX11_old_X11_needWhat
set_option maxRecDepth 20000 in
theorem ggX11_old_X9_begin : GoodIn wsX11_old wsX9_begin := goodIn_r _ [16, 17, 18, 19, 20, 21, 22, 23, 24, 25, 26, 27, 28, 29, 30, 31, 32, 33, 34, 35, 36, 196, 197, 198, 199, 200, 187, 188, 189, 190, 191, 192, 193, 194, 195] (by decide +kernel) (by decide +kernel)
set_option maxRecDepth 20000 in
theorem gX11_old_X9_begin : GoodIn wsX11_old (wsV RX11 224 RX9 yX9_begin wsX9_begin) := goodIn_app (goodIn_of _ (by decide +kernel)) ggX11_old_X9_begin
set_option maxRecDepth 20000 in
theorem ggX11_old_X9_keepsTo : GoodIn wsX11_old wsX9_keepsTo := goodIn_r _ [40, 17, 41, 42, 43, 44, 45, 46, 47, 48, 49, 50, 51, 52, 53, 54, 55, 56, 57, 58, 59, 60, 61, 62, 22, 63, 64, 65, 66, 67, 68, 69, 70, 71, 72, 73, 15, 74, 75, 76, 77, 78, 79, 80, 81, 82, 83, 84, 85, 86, 87, 88, 89, 90, 91, 25, 36, 92, 93, 94, 95, 96, 97, 98, 99, 100, 101, 102, 103, 104, 105, 106, 107, 108, 109, 110, 33, 111, 112, 113, 114, 115, 27, 32, 116, 117, 118, 119, 120, 121, 122, 123, 124, 125, 126, 127, 128, 129, 130, 131, 132, 133, 134, 135, 136, 137, 138, 139, 140, 141, 18, 142, 143, 144, 145, 146, 147, 148, 149, 150, 151, 152, 153, 154, 155, 156, 157, 158, 24, 159, 196, 197, 198, 199, 200, 187, 188, 189, 190, 191, 192, 193, 194, 195, 201, 202, 203, 204, 205, 206, 207, 208, 209, 210, 211, 212, 213, 214] (by decide +kernel) (by decide +kernel)
set_option maxRecDepth 20000 in
theorem gX11_old_X9_keepsTo : GoodIn wsX11_old (wsV RX11 288 RX9 yX9_keepsTo wsX9_keepsTo) := goodIn_app (goodIn_of _ (by decide +kernel)) ggX11_old_X9_keepsTo
set_option maxRecDepth 20000 in
theorem ggX11_old_X11_couldBe : GoodIn wsX11_old wsX11_couldBe := goodIn_r _ [163, 2, 3, 164, 1, 4, 165, 166, 167, 8, 168, 169, 12, 13, 14, 15, 16, 17, 18, 19, 20, 21, 22, 23, 24, 25, 26, 27, 28, 29, 30, 31, 32, 33, 34, 35, 36, 37, 38, 39, 40, 41, 42, 43, 44, 45, 46, 47, 48, 49, 50, 51, 52, 53, 54, 55, 56, 57, 58, 59, 60, 61, 62, 63, 64, 65, 66, 67, 68, 69, 70, 71, 72, 73, 74, 75, 76, 77, 78, 79, 80, 81, 82, 83, 84, 85, 86, 87, 88, 89, 90, 91, 92, 93, 94, 95, 96, 97, 98, 99, 100, 101, 102, 103, 104, 105, 106, 107, 108, 109, 110, 111, 112, 113, 114, 115, 116, 117, 118, 119, 120, 121, 122, 123, 124, 125, 126, 127, 128, 129, 130, 131, 132, 133, 134, 135, 136, 137, 138, 139, 140, 141, 142, 143, 144, 145, 146, 147, 148, 149, 150, 151, 152, 153, 154, 155, 156, 157, 158, 159, 170, 171, 172, 173, 174, 175, 176, 177, 178, 179, 180, 181, 182, 183, 184, 185, 186, 187, 188, 189, 190, 191, 192, 193, 194, 195, 196, 197, 198, 199, 200, 201, 202, 203, 204, 205, 206, 207, 208, 209, 210, 211, 212, 213, 214] (by decide +kernel) (by decide +kernel)
set_option maxRecDepth 20000 in
theorem gX11_old_X11_couldBe : GoodIn wsX11_old (wsV RX11 292 RX11 yX11_couldBe wsX11_couldBe) := goodIn_app (goodIn_of _ (by decide +kernel)) ggX11_old_X11_couldBe
theorem dX11_old_0 : decode cX11_old 0 = .ok (.iload_n 1, 1) := by decide +kernel
theorem dX11_old_1 : decode cX11_old 1 = .ok (.iconst 2, 1) := by decide +kernel
theorem dX11_old_2 : decode cX11_old 2 = .ok (.invokestatic 240, 3) := by decide +kernel
theorem dX11_old_5 : decode cX11_old 5 = .ok (.iload_n 1, 1) := by decide +kernel
theorem dX11_old_6 : decode cX11_old 6 = .ok (.iconst 2, 1) := by decide +kernel
theorem dX11_old_7 : decode cX11_old 7 = .ok (.if_icmp .ne 40, 3) := by decide +kernel
theorem dX11_old_10 : decode cX11_old 10 = .ok (.aload_n 0, 1) := by decide +kernel
theorem dX11_old_11 : decode cX11_old 11 = .ok (.getfield 55, 3) := by decide +kernel
theorem dX11_old_14 : decode cX11_old 14 = .ok (.aload_n 0, 1) := by decide +kernel
theorem dX11_old_15 : decode cX11_old 15 = .ok (.getfield 39, 3) := by decide +kernel
theorem dX11_old_18 : decode cX11_old 18 = .ok (.getfield 61, 3) := by decide +kernel
theorem dX11_old_21 : decode cX11_old 21 = .ok (.invokevirtual 224, 3) := by decide +kernel
theorem dX11_old_24 : decode cX11_old 24 = .ok (.aload_n 0, 1) := by decide +kernel
theorem dX11_old_25 : decode cX11_old 25 = .ok (.getfield 55, 3) := by decide +kernel
theorem dX11_old_28 : decode cX11_old 28 = .ok (.aload_n 0, 1) := by decide +kernel
theorem dX11_old_29 : decode cX11_old 29 = .ok (.getfield 39, 3) := by decide +kernel
theorem dX11_old_32 : decode cX11_old 32 = .ok (.getfield 166, 3) := by decide +kernel
theorem dX11_old_35 : decode cX11_old 35 = .ok (.invokevirtual 288, 3) := by decide +kernel
theorem dX11_old_38 : decode cX11_old 38 = .ok (.ifCond .eq 7, 3) := by decide +kernel
theorem dX11_old_41 : decode cX11_old 41 = .ok (.iconst 1, 1) := by decide +kernel
theorem dX11_old_42 : decode cX11_old 42 = .ok (.goto 4, 3) := by decide +kernel
theorem dX11_old_45 : decode cX11_old 45 = .ok (.iconst 0, 1) := by decide +kernel
theorem dX11_old_46 : decode cX11_old 46 = .ok (.ireturn, 1) := by decide +kernel
theorem dX11_old_47 : decode cX11_old 47 = .ok (.iconst 0, 1) := by decide +kernel
theorem dX11_old_48 : decode cX11_old 48 = .ok (.istore_n 2, 1) := by decide +kernel
theorem dX11_old_49 : decode cX11_old 49 = .ok (.iconst (-1), 1) := by decide +kernel
theorem dX11_old_50 : decode cX11_old 50 = .ok (.istore_n 3, 1) := by decide +kernel
theorem dX11_old_51 : decode cX11_old 51 = .ok (.iconst 0, 1) := by decide +kernel
theorem dX11_old_52 : decode cX11_old 52 = .ok (.istore 4, 2) := by decide +kernel
theorem dX11_old_54 : decode cX11_old 54 = .ok (.iload 4, 2) := by decide +kernel
theorem dX11_old_56 : decode cX11_old 56 = .ok (.aload_n 0, 1) := by decide +kernel
theorem dX11_old_57 : decode cX11_old 57 = .ok (.getfield 39, 3) := by decide +kernel
theorem dX11_old_60 : decode cX11_old 60 = .ok (.getfield 61, 3) := by decide +kernel
theorem dX11_old_63 : decode cX11_old 63 = .ok (.getfield 124, 3) := by decide +kernel
theorem dX11_old_66 : decode cX11_old 66 = .ok (.if_icmp .ge 57, 3) := by decide +kernel
theorem dX11_old_69 : decode cX11_old 69 = .ok (.iconst 0, 1) := by decide +kernel
theorem dX11_old_70 : decode cX11_old 70 = .ok (.istore 5, 2) := by decide +kernel
theorem dX11_old_72 : decode cX11_old 72 = .ok (.iload 5, 2) := by decide +kernel
theorem dX11_old_74 : decode cX11_old 74 = .ok (.bipush 99, 2) := by decide +kernel
theorem dX11_old_76 : decode cX11_old 76 = .ok (.if_icmp .gt 41, 3) := by decide +kernel
theorem dX11_old_79 : decode cX11_old 79 = .ok (.aload_n 0, 1) := by decide +kernel
theorem dX11_old_80 : decode cX11_old 80 = .ok (.iload 4, 2) := by decide +kernel
theorem dX11_old_82 : decode cX11_old 82 = .ok (.iload 5, 2) := by decide +kernel
theorem dX11_old_84 : decode cX11_old 84 = .ok (.invokevirtual 292, 3) := by decide +kernel
theorem dX11_old_87 : decode cX11_old 87 = .ok (.ifCond .eq 24, 3) := by decide +kernel
theorem dX11_old_90 : decode cX11_old 90 = .ok (.iinc 2 1, 3) := by decide +kernel
theorem dX11_old_93 : decode cX11_old 93 = .ok (.iload_n 3, 1) := by decide +kernel
theorem dX11_old_94 : decode cX11_old 94 = .ok (.iconst (-1), 1) := by decide +kernel
theorem dX11_old_95 : decode cX11_old 95 = .ok (.if_icmp .ne 14, 3) := by decide +kernel
theorem dX11_old_98 : decode cX11_old 98 = .ok (.bipush 100, 2) := by decide +kernel
theorem dX11_old_100 : decode cX11_old 100 = .ok (.iload 4, 2) := by decide +kernel
theorem dX11_old_102 : decode cX11_old 102 = .ok (.imul, 1) := by decide +kernel
theorem dX11_old_103 : decode cX11_old 103 = .ok (.iload 5, 2) := by decide +kernel
theorem dX11_old_105 : decode cX11_old 105 = .ok (.iadd, 1) := by decide +kernel
theorem dX11_old_106 : decode cX11_old 106 = .ok (.goto 4, 3) := by decide +kernel
theorem dX11_old_109 : decode cX11_old 109 = .ok (.iload_n 3, 1) := by decide +kernel
theorem dX11_old_110 : decode cX11_old 110 = .ok (.istore_n 3, 1) := by decide +kernel
theorem dX11_old_111 : decode cX11_old 111 = .ok (.iinc 5 1, 3) := by decide +kernel
theorem dX11_old_114 : decode cX11_old 114 = .ok (.goto (-42), 3) := by decide +kernel
theorem dX11_old_117 : decode cX11_old 117 = .ok (.iinc 4 1, 3) := by decide +kernel
theorem dX11_old_120 : decode cX11_old 120 = .ok (.goto (-66), 3) := by decide +kernel
theorem dX11_old_123 : decode cX11_old 123 = .ok (.iload_n 1, 1) := by decide +kernel
theorem dX11_old_124 : decode cX11_old 124 = .ok (.ifCond .ne 7, 3) := by decide +kernel
theorem dX11_old_127 : decode cX11_old 127 = .ok (.iload_n 2, 1) := by decide +kernel
theorem dX11_old_128 : decode cX11_old 128 = .ok (.goto 4, 3) := by decide +kernel
theorem dX11_old_131 : decode cX11_old 131 = .ok (.iload_n 3, 1) := by decide +kernel
theorem dX11_old_132 : decode cX11_old 132 = .ok (.ireturn, 1) := by decide +kernel
set_option maxRecDepth 20000 in
theorem ggX11_look_X11_needWhat : GoodIn wsX11_look wsX11_needWhat := goodIn_ca (goodIn_r _ [8, 9, 10] (by decide +kernel) (by decide +kernel)) (goodIn_sub (fun _ h => List.mem_cons_of_mem _ (List.mem_append_right _ h)) (by decide +kernel))
set_option maxRecDepth 20000 in
theorem gX11_look_X11_needWhat : GoodIn wsX11_look (va_wsS RX11 240 yX11_needWhat wsX11_needWhat) := goodIn_app (goodIn_of _ (by decide +kernel)) ggX11_look_X11_needWhat
set_option maxRecDepth 20000 in
theorem ggX11_look_J7_fill_53178 : GoodIn wsX11_look wsJ7_fill_53178 := goodIn_r _ [14] (by decide +kernel) (by decide +kernel)
set_option maxRecDepth 20000 in
theorem gX11_look_J7_fill_53178 : GoodIn wsX11_look (va_wsS RX11 296 yJ7_fill_53178 wsJ7_fill_53178) := goodIn_app (goodIn_of _ (by decide +kernel)) ggX11_look_J7_fill_53178
set_option maxRecDepth 20000 in
theorem ggX11_look_X11_couldBe : GoodIn wsX11_look wsX11_couldBe := goodIn_r _ [18, 2, 3, 19, 20, 21, 22, 23, 24, 7, 25, 26, 27, 28, 29, 30, 31, 32, 33, 34, 35, 36, 37, 38, 39, 40, 41, 42, 43, 44, 45, 46, 47, 48, 49, 50, 51, 52, 53, 54, 55, 56, 57, 58, 59, 60, 61, 62, 63, 64, 65, 66, 67, 68, 69, 70, 71, 72, 73, 74, 75, 76, 77, 78, 79, 80, 81, 82, 83, 84, 85, 86, 87, 88, 89, 90, 91, 92, 93, 94, 95, 96, 97, 98, 99, 100, 101, 102, 103, 104, 105, 106, 107, 108, 109, 110, 111, 112, 113, 114, 115, 116, 117, 118, 119, 120, 121, 122, 123, 124, 125, 126, 127, 128, 129, 130, 131, 132, 133, 134, 135, 136, 137, 138, 139, 140, 141, 142, 143, 144, 145, 146, 147, 148, 149, 150, 151, 152, 153, 154, 155, 156, 157, 158, 159, 160, 161, 162, 163, 164, 165, 166, 167, 168, 169, 170, 171, 172, 173, 174, 190, 191, 192, 193, 194, 195, 196, 197, 198, 199, 200, 201, 202, 203, 204, 205, 206, 207, 208, 209, 210, 211, 212, 213, 214, 215, 216, 217, 218, 219, 220, 221, 222, 223, 224, 225, 226, 227, 228, 229, 230, 231, 232, 233, 234] (by decide +kernel) (by decide +kernel)
set_option maxRecDepth 20000 in
theorem gX11_look_X11_couldBe : GoodIn wsX11_look (wsV RX11 292 RX11 yX11_couldBe wsX11_couldBe) := goodIn_app (goodIn_of _ (by decide +kernel)) ggX11_look_X11_couldBe
set_option maxRecDepth 20000 in
theorem ggX11_look_X11_addPlaces : GoodIn wsX11_look wsX11_addPlaces := goodIn_r _ [178, 20, 2, 3, 4, 1, 26, 179, 22, 23, 24, 7, 25, 19, 27, 28, 29, 30, 31, 32, 33, 34, 35, 36, 37, 38, 39, 40, 41, 42, 43, 44, 45, 46, 47, 48, 49, 50, 51, 180, 181, 182, 183, 56, 57, 79, 80, 81, 82, 83, 84, 85, 86, 87, 88, 89, 90, 91, 92, 93, 94, 95, 96, 97, 98, 99, 100, 67, 101, 102, 66, 68, 103, 104, 105, 106, 107, 108, 109, 110, 111, 112, 113, 114, 115, 116, 117, 118, 119, 120, 121, 122, 123, 124, 125, 126, 127, 128, 129, 130, 131, 132, 133, 134, 135, 136, 137, 138, 139, 140, 141, 142, 143, 144, 77, 78, 145, 146, 147, 148, 149, 150, 151, 152, 153, 154, 155, 156, 157, 158, 159, 160, 161, 162, 163, 164, 165, 166, 167, 168, 169, 170, 171, 172, 173, 174, 190, 191, 192, 193, 194, 195, 196, 197, 198, 199, 200, 201, 202, 203, 204, 205, 206, 207, 208, 209, 210, 211, 212, 213, 214, 215, 216, 217, 218, 219, 220, 225, 226, 227, 228, 229, 230, 231, 232, 233, 234] (by decide +kernel) (by decide +kernel)
set_option maxRecDepth 20000 in
theorem gX11_look_X11_addPlaces : GoodIn wsX11_look (wsV RX11 302 RX11 yX11_addPlaces wsX11_addPlaces) := goodIn_app (goodIn_of _ (by decide +kernel)) ggX11_look_X11_addPlaces
set_option maxRecDepth 20000 in
theorem ggX11_look_J6_bitCount_0f7a4 : GoodIn wsX11_look wsJ6_bitCount_0f7a4 := goodIn_r _ [186, 187, 188, 189] (by decide +kernel) (by decide +kernel)
set_option maxRecDepth 20000 in
theorem gX11_look_J6_bitCount_0f7a4 : GoodIn wsX11_look (va_wsS RX11 140 yJ6_bitCount_0f7a4 wsJ6_bitCount_0f7a4) := goodIn_app (goodIn_of _ (by decide +kernel)) ggX11_look_J6_bitCount_0f7a4
theorem dX11_look_0 : decode cX11_look 0 = .ok (.iload_n 1, 1) := by decide +kernel
theorem dX11_look_1 : decode cX11_look 1 = .ok (.iconst 1, 1) := by decide +kernel
theorem dX11_look_2 : decode cX11_look 2 = .ok (.invokestatic 240, 3) := by decide +kernel
theorem dX11_look_5 : decode cX11_look 5 = .ok (.aload_n 0, 1) := by decide +kernel
theorem dX11_look_6 : decode cX11_look 6 = .ok (.getfield 83, 3) := by decide +kernel
theorem dX11_look_9 : decode cX11_look 9 = .ok (.iconst 0, 1) := by decide +kernel
theorem dX11_look_10 : decode cX11_look 10 = .ok (.invokestatic 296, 3) := by decide +kernel
theorem dX11_look_13 : decode cX11_look 13 = .ok (.iconst 0, 1) := by decide +kernel
theorem dX11_look_14 : decode cX11_look 14 = .ok (.istore_n 2, 1) := by decide +kernel
theorem dX11_look_15 : decode cX11_look 15 = .ok (.iload_n 2, 1) := by decide +kernel
theorem dX11_look_16 : decode cX11_look 16 = .ok (.aload_n 0, 1) := by decide +kernel
theorem dX11_look_17 : decode cX11_look 17 = .ok (.getfield 39, 3) := by decide +kernel
theorem dX11_look_20 : decode cX11_look 20 = .ok (.getfield 61, 3) := by decide +kernel
theorem dX11_look_23 : decode cX11_look 23 = .ok (.getfield 124, 3) := by decide +kernel
theorem dX11_look_26 : decode cX11_look 26 = .ok (.if_icmp .ge 38, 3) := by decide +kernel
theorem dX11_look_29 : decode cX11_look 29 = .ok (.iconst 0, 1) := by decide +kernel
theorem dX11_look_30 : decode cX11_look 30 = .ok (.istore_n 3, 1) := by decide +kernel
theorem dX11_look_31 : decode cX11_look 31 = .ok (.iload_n 3, 1) := by decide +kernel
theorem dX11_look_32 : decode cX11_look 32 = .ok (.bipush 99, 2) := by decide +kernel
theorem dX11_look_34 : decode cX11_look 34 = .ok (.if_icmp .gt 24, 3) := by decide +kernel
theorem dX11_look_37 : decode cX11_look 37 = .ok (.aload_n 0, 1) := by decide +kernel
theorem dX11_look_38 : decode cX11_look 38 = .ok (.iload_n 2, 1) := by decide +kernel
theorem dX11_look_39 : decode cX11_look 39 = .ok (.iload_n 3, 1) := by decide +kernel
theorem dX11_look_40 : decode cX11_look 40 = .ok (.invokevirtual 292, 3) := by decide +kernel
theorem dX11_look_43 : decode cX11_look 43 = .ok (.ifCond .eq 9, 3) := by decide +kernel
theorem dX11_look_46 : decode cX11_look 46 = .ok (.aload_n 0, 1) := by decide +kernel
theorem dX11_look_47 : decode cX11_look 47 = .ok (.iload_n 2, 1) := by decide +kernel
theorem dX11_look_48 : decode cX11_look 48 = .ok (.iload_n 3, 1) := by decide +kernel
theorem dX11_look_49 : decode cX11_look 49 = .ok (.invokevirtual 302, 3) := by decide +kernel
theorem dX11_look_52 : decode cX11_look 52 = .ok (.iinc 3 1, 3) := by decide +kernel
theorem dX11_look_55 : decode cX11_look 55 = .ok (.goto (-24), 3) := by decide +kernel
theorem dX11_look_58 : decode cX11_look 58 = .ok (.iinc 2 1, 3) := by decide +kernel
theorem dX11_look_61 : decode cX11_look 61 = .ok (.goto (-46), 3) := by decide +kernel
theorem dX11_look_64 : decode cX11_look 64 = .ok (.iconst (-1), 1) := by decide +kernel
theorem dX11_look_65 : decode cX11_look 65 = .ok (.istore_n 2, 1) := by decide +kernel
theorem dX11_look_66 : decode cX11_look 66 = .ok (.iconst 0, 1) := by decide +kernel
theorem dX11_look_67 : decode cX11_look 67 = .ok (.istore_n 3, 1) := by decide +kernel
theorem dX11_look_68 : decode cX11_look 68 = .ok (.iconst 0, 1) := by decide +kernel
theorem dX11_look_69 : decode cX11_look 69 = .ok (.istore 4, 2) := by decide +kernel
theorem dX11_look_71 : decode cX11_look 71 = .ok (.iload 4, 2) := by decide +kernel
theorem dX11_look_73 : decode cX11_look 73 = .ok (.aload_n 0, 1) := by decide +kernel
theorem dX11_look_74 : decode cX11_look 74 = .ok (.getfield 39, 3) := by decide +kernel
theorem dX11_look_77 : decode cX11_look 77 = .ok (.getfield 61, 3) := by decide +kernel
theorem dX11_look_80 : decode cX11_look 80 = .ok (.getfield 124, 3) := by decide +kernel
theorem dX11_look_83 : decode cX11_look 83 = .ok (.if_icmp .ge 33, 3) := by decide +kernel
theorem dX11_look_86 : decode cX11_look 86 = .ok (.aload_n 0, 1) := by decide +kernel
theorem dX11_look_87 : decode cX11_look 87 = .ok (.getfield 83, 3) := by decide +kernel
theorem dX11_look_90 : decode cX11_look 90 = .ok (.iload 4, 2) := by decide +kernel
theorem dX11_look_92 : decode cX11_look 92 = .ok (.iaload, 1) := by decide +kernel
theorem dX11_look_93 : decode cX11_look 93 = .ok (.invokestatic 140, 3) := by decide +kernel
theorem dX11_look_96 : decode cX11_look 96 = .ok (.istore 5, 2) := by decide +kernel
theorem dX11_look_98 : decode cX11_look 98 = .ok (.iload 5, 2) := by decide +kernel
theorem dX11_look_100 : decode cX11_look 100 = .ok (.iload_n 3, 1) := by decide +kernel
theorem dX11_look_101 : decode cX11_look 101 = .ok (.if_icmp .le 9, 3) := by decide +kernel
theorem dX11_look_104 : decode cX11_look 104 = .ok (.iload 4, 2) := by decide +kernel
theorem dX11_look_106 : decode cX11_look 106 = .ok (.istore_n 2, 1) := by decide +kernel
theorem dX11_look_107 : decode cX11_look 107 = .ok (.iload 5, 2) := by decide +kernel
theorem dX11_look_109 : decode cX11_look 109 = .ok (.istore_n 3, 1) := by decide +kernel
theorem dX11_look_110 : decode cX11_look 110 = .ok (.iinc 4 1, 3) := by decide +kernel
theorem dX11_look_113 : decode cX11_look 113 = .ok (.goto (-42), 3) := by decide +kernel
theorem dX11_look_116 : decode cX11_look 116 = .ok (.iload_n 1, 1) := by decide +kernel
theorem dX11_look_117 : decode cX11_look 117 = .ok (.ifCond .ne 7, 3) := by decide +kernel
theorem dX11_look_120 : decode cX11_look 120 = .ok (.iload_n 2, 1) := by decide +kernel
theorem dX11_look_121 : decode cX11_look 121 = .ok (.goto 4, 3) := by decide +kernel
theorem dX11_look_124 : decode cX11_look 124 = .ok (.iload_n 3, 1) := by decide +kernel
theorem dX11_look_125 : decode cX11_look 125 = .ok (.ireturn, 1) := by decide +kernel
theorem dX11_forget_0 : decode cX11_forget 0 = .ok (.aload_n 0, 1) := by decide +kernel
theorem dX11_forget_1 : decode cX11_forget 1 = .ok (.getfield 39, 3) := by decide +kernel
theorem dX11_forget_4 : decode cX11_forget 4 = .ok (.getfield 166, 3) := by decide +kernel
theorem dX11_forget_7 : decode cX11_forget 7 = .ok (.iconst 0, 1) := by decide +kernel
theorem dX11_forget_8 : decode cX11_forget 8 = .ok (.putfield 170, 3) := by decide +kernel
theorem dX11_forget_11 : decode cX11_forget 11 = .ok (.return_, 1) := by decide +kernel
set_option maxRecDepth 20000 in
theorem ggX11_wet_X11_needGargoyle : GoodIn wsX11_wet wsX11_needGargoyle := goodIn_ca (goodIn_r _ [7, 8, 9, 10, 11, 12, 144, 145, 146, 147, 148, 149, 150, 151, 152, 153, 154, 155, 156, 157, 158, 159, 160, 161, 162, 163, 164, 165, 166, 167, 168, 169] (by decide +kernel) (by decide +kernel)) (goodIn_sub (fun _ h => List.mem_cons_of_mem _ (List.mem_append_right _ h)) (by decide +kernel))
set_option maxRecDepth 20000 in
theorem gX11_wet_X11_needGargoyle : GoodIn wsX11_wet (wsV RX11 178 RX11 yX11_needGargoyle wsX11_needGargoyle) := goodIn_app (goodIn_of _ (by decide +kernel)) ggX11_wet_X11_needGargoyle
set_option maxRecDepth 20000 in
theorem ggX11_wet_X11_weightOf : GoodIn wsX11_wet wsX11_weightOf := goodIn_r _ [15] (by decide +kernel) (by decide +kernel)
set_option maxRecDepth 20000 in
theorem gX11_wet_X11_weightOf : GoodIn wsX11_wet (va_wsS RX11 307 yX11_weightOf wsX11_weightOf) := goodIn_app (goodIn_of _ (by decide +kernel)) ggX11_wet_X11_weightOf
set_option maxRecDepth 20000 in
theorem ggX11_wet_X11_isLoafBehind : GoodIn wsX11_wet wsX11_isLoafBehind := goodIn_r _ [19, 20, 10, 11, 21, 22, 23, 24, 25, 26, 27, 28, 29, 30, 31, 32, 33, 34, 35, 36, 37, 38, 39, 40, 41, 42, 43, 44, 45, 46, 47, 48, 49, 50, 51, 52, 53, 54, 55, 56, 57, 58, 59, 60, 61, 62, 63, 64, 65, 66, 67, 68, 69, 70, 71, 72, 73, 74, 75, 76, 77, 78, 79, 80, 81, 82, 83, 84, 85, 86, 87, 88, 89, 90, 91, 92, 93, 94, 95, 96, 97, 98, 99, 100, 101, 102, 103, 104, 105, 106, 107, 108, 109, 110, 111, 112, 113, 114, 115, 116, 117, 118, 119, 120, 121, 122, 123, 124, 125, 126, 127, 128, 129, 130, 131, 132, 133, 134, 135, 136, 137, 138, 139, 140, 141, 142, 143, 144, 145, 146, 147, 148, 149, 150, 151, 152, 153, 154, 155, 156, 157, 158, 159, 160, 170, 171, 172, 173, 174, 161, 162, 163, 164, 165, 166, 167, 168, 169, 175, 176, 177, 178, 179, 180, 181, 182, 183, 184] (by decide +kernel) (by decide +kernel)
set_option maxRecDepth 20000 in
theorem gX11_wet_X11_isLoafBehind : GoodIn wsX11_wet (wsV RX11 311 RX11 yX11_isLoafBehind wsX11_isLoafBehind) := goodIn_app (goodIn_of _ (by decide +kernel)) ggX11_wet_X11_isLoafBehind
theorem dX11_wet_0 : decode cX11_wet 0 = .ok (.aload_n 0, 1) := by decide +kernel
theorem dX11_wet_1 : decode cX11_wet 1 = .ok (.iload_n 1, 1) := by decide +kernel
theorem dX11_wet_2 : decode cX11_wet 2 = .ok (.invokevirtual 178, 3) := by decide +kernel
theorem dX11_wet_5 : decode cX11_wet 5 = .ok (.iload_n 2, 1) := by decide +kernel
theorem dX11_wet_6 : decode cX11_wet 6 = .ok (.iconst 1, 1) := by decide +kernel
theorem dX11_wet_7 : decode cX11_wet 7 = .ok (.if_icmp .lt 18, 3) := by decide +kernel
theorem dX11_wet_10 : decode cX11_wet 10 = .ok (.iload_n 2, 1) := by decide +kernel
theorem dX11_wet_11 : decode cX11_wet 11 = .ok (.iconst 5, 1) := by decide +kernel
theorem dX11_wet_12 : decode cX11_wet 12 = .ok (.if_icmp .gt 13, 3) := by decide +kernel
theorem dX11_wet_15 : decode cX11_wet 15 = .ok (.iload_n 3, 1) := by decide +kernel
theorem dX11_wet_16 : decode cX11_wet 16 = .ok (.ifCond .lt 9, 3) := by decide +kernel
theorem dX11_wet_19 : decode cX11_wet 19 = .ok (.iload_n 3, 1) := by decide +kernel
theorem dX11_wet_20 : decode cX11_wet 20 = .ok (.bipush 10, 2) := by decide +kernel
theorem dX11_wet_22 : decode cX11_wet 22 = .ok (.if_icmp .le 14, 3) := by decide +kernel
theorem dX11_wet_25 : decode cX11_wet 25 = .ok (.new 90, 3) := by decide +kernel
theorem dX11_wet_28 : decode cX11_wet 28 = .ok (.dup, 1) := by decide +kernel
theorem dX11_wet_29 : decode cX11_wet 29 = .ok (.ldc_w 305, 3) := by decide +kernel
theorem dX11_wet_32 : decode cX11_wet 32 = .ok (.invokespecial 94, 3) := by decide +kernel
theorem dX11_wet_35 : decode cX11_wet 35 = .ok (.athrow, 1) := by decide +kernel
theorem dX11_wet_36 : decode cX11_wet 36 = .ok (.iconst 0, 1) := by decide +kernel
theorem dX11_wet_37 : decode cX11_wet 37 = .ok (.istore 4, 2) := by decide +kernel
theorem dX11_wet_39 : decode cX11_wet 39 = .ok (.iconst 0, 1) := by decide +kernel
theorem dX11_wet_40 : decode cX11_wet 40 = .ok (.istore 5, 2) := by decide +kernel
theorem dX11_wet_42 : decode cX11_wet 42 = .ok (.iload 5, 2) := by decide +kernel
theorem dX11_wet_44 : decode cX11_wet 44 = .ok (.iconst 1, 1) := by decide +kernel
theorem dX11_wet_45 : decode cX11_wet 45 = .ok (.iload_n 2, 1) := by decide +kernel
theorem dX11_wet_46 : decode cX11_wet 46 = .ok (.ishl, 1) := by decide +kernel
theorem dX11_wet_47 : decode cX11_wet 47 = .ok (.if_icmp .ge 41, 3) := by decide +kernel
theorem dX11_wet_50 : decode cX11_wet 50 = .ok (.iload 5, 2) := by decide +kernel
theorem dX11_wet_52 : decode cX11_wet 52 = .ok (.iload_n 2, 1) := by decide +kernel
theorem dX11_wet_53 : decode cX11_wet 53 = .ok (.iload_n 3, 1) := by decide +kernel
theorem dX11_wet_54 : decode cX11_wet 54 = .ok (.invokestatic 307, 3) := by decide +kernel
theorem dX11_wet_57 : decode cX11_wet 57 = .ok (.istore 6, 2) := by decide +kernel
theorem dX11_wet_59 : decode cX11_wet 59 = .ok (.iload 6, 2) := by decide +kernel
theorem dX11_wet_61 : decode cX11_wet 61 = .ok (.ifCond .le 21, 3) := by decide +kernel
theorem dX11_wet_64 : decode cX11_wet 64 = .ok (.aload_n 0, 1) := by decide +kernel
theorem dX11_wet_65 : decode cX11_wet 65 = .ok (.iload_n 1, 1) := by decide +kernel
theorem dX11_wet_66 : decode cX11_wet 66 = .ok (.iload_n 2, 1) := by decide +kernel
theorem dX11_wet_67 : decode cX11_wet 67 = .ok (.iload 5, 2) := by decide +kernel
theorem dX11_wet_69 : decode cX11_wet 69 = .ok (.invokevirtual 311, 3) := by decide +kernel
theorem dX11_wet_72 : decode cX11_wet 72 = .ok (.ifCond .eq 10, 3) := by decide +kernel
theorem dX11_wet_75 : decode cX11_wet 75 = .ok (.iload 4, 2) := by decide +kernel
theorem dX11_wet_77 : decode cX11_wet 77 = .ok (.iload 6, 2) := by decide +kernel
theorem dX11_wet_79 : decode cX11_wet 79 = .ok (.iadd, 1) := by decide +kernel
theorem dX11_wet_80 : decode cX11_wet 80 = .ok (.istore 4, 2) := by decide +kernel
theorem dX11_wet_82 : decode cX11_wet 82 = .ok (.iinc 5 1, 3) := by decide +kernel
theorem dX11_wet_85 : decode cX11_wet 85 = .ok (.goto (-43), 3) := by decide +kernel
theorem dX11_wet_88 : decode cX11_wet 88 = .ok (.iload 4, 2) := by decide +kernel
theorem dX11_wet_90 : decode cX11_wet 90 = .ok (.ireturn, 1) := by decide +kernel
set_option maxRecDepth 20000 in
theorem ggX11_game_X11_needGargoyle : GoodIn wsX11_game wsX11_needGargoyle := goodIn_ca (goodIn_r _ [7, 8, 9, 10, 11, 12, 181, 182, 183, 184, 185, 186, 187, 188, 189, 190, 191, 192, 193, 194, 195, 196, 197, 198, 199, 200, 201, 202, 203, 204, 205, 206] (by decide +kernel) (by decide +kernel)) (goodIn_sub (fun _ h => List.mem_cons_of_mem _ (List.mem_append_right _ h)) (by decide +kernel))
set_option maxRecDepth 20000 in
theorem gX11_game_X11_needGargoyle : GoodIn wsX11_game (wsV RX11 178 RX11 yX11_needGargoyle wsX11_needGargoyle) := goodIn_app (goodIn_of _ (by decide +kernel)) ggX11_game_X11_needGargoyle
set_option maxRecDepth 20000 in
theorem ggX11_game_X11_needWhat : GoodIn wsX11_game wsX11_needWhat := goodIn_ca (goodIn_r _ [15, 8, 9] (by decide +kernel) (by decide +kernel)) (goodIn_sub (fun _ h => List.mem_cons_of_mem _ (List.mem_append_right _ h)) (by decide +kernel))
set_option maxRecDepth 20000 in
theorem gX11_game_X11_needWhat : GoodIn wsX11_game (va_wsS RX11 240 yX11_needWhat wsX11_needWhat) := goodIn_app (goodIn_of _ (by decide +kernel)) ggX11_game_X11_needWhat
set_option maxRecDepth 20000 in
theorem ggX11_game_X11_play : GoodIn wsX11_game wsX11_play := goodIn_r _ [19, 20, 10, 11, 21, 22, 23, 24, 25, 26, 27, 28, 29, 30, 31, 32, 33, 34, 35, 36, 37, 38, 39, 40, 41, 42, 43, 44, 45, 46, 47, 48, 49, 50, 51, 52, 53, 54, 55, 56, 57, 58, 59, 60, 61, 62, 63, 64, 65, 66, 67, 68, 69, 70, 71, 72, 73, 74, 75, 76, 77, 78, 79, 80, 81, 82, 83, 84, 85, 86, 87, 88, 89, 90, 91, 92, 93, 94, 95, 96, 97, 98, 99, 100, 101, 102, 103, 104, 105, 106, 107, 108, 109, 110, 111, 112, 113, 114, 115, 116, 117, 118, 119, 120, 121, 122, 123, 124, 125, 126, 127, 128, 129, 130, 131, 132, 133, 134, 135, 136, 137, 138, 139, 140, 141, 142, 143, 144, 145, 146, 147, 148, 149, 150, 151, 152, 153, 154, 155, 156, 157, 158, 159, 160, 161, 162, 163, 164, 165, 166, 167, 168, 169, 170, 171, 172, 173, 174, 175, 176, 181, 182, 183, 184, 185, 186, 187, 188, 189, 190, 191, 192, 193, 194, 195, 196, 197, 207, 208, 209, 210, 211, 198, 199, 200, 201, 202, 203, 204, 205, 206, 212, 213, 214, 215, 216, 217, 218, 219, 220, 221] (by decide +kernel) (by decide +kernel)
set_option maxRecDepth 20000 in
theorem gX11_game_X11_play : GoodIn wsX11_game (wsV RX11 317 RX11 yX11_play wsX11_play) := goodIn_app (goodIn_of _ (by decide +kernel)) ggX11_game_X11_play
set_option maxRecDepth 20000 in
theorem ggX11_game_X11_rests : GoodIn wsX11_game wsX11_rests := goodIn_r _ [180, 22, 181, 182, 183, 184, 185, 186, 187, 188, 189, 190, 191, 192, 193] (by decide +kernel) (by decide +kernel)
set_option maxRecDepth 20000 in
theorem gX11_game_X11_rests : GoodIn wsX11_game (wsV RX11 320 RX11 yX11_rests wsX11_rests) := goodIn_app (goodIn_of _ (by decide +kernel)) ggX11_game_X11_rests
theorem dX11_game_0 : decode cX11_game 0 = .ok (.aload_n 0, 1) := by decide +kernel
theorem dX11_game_1 : decode cX11_game 1 = .ok (.iload_n 1, 1) := by decide +kernel
theorem dX11_game_2 : decode cX11_game 2 = .ok (.invokevirtual 178, 3) := by decide +kernel
theorem dX11_game_5 : decode cX11_game 5 = .ok (.aload_n 0, 1) := by decide +kernel
theorem dX11_game_6 : decode cX11_game 6 = .ok (.iload_n 2, 1) := by decide +kernel
theorem dX11_game_7 : decode cX11_game 7 = .ok (.invokevirtual 178, 3) := by decide +kernel
theorem dX11_game_10 : decode cX11_game 10 = .ok (.iload_n 3, 1) := by decide +kernel
theorem dX11_game_11 : decode cX11_game 11 = .ok (.iconst 1, 1) := by decide +kernel
theorem dX11_game_12 : decode cX11_game 12 = .ok (.invokestatic 240, 3) := by decide +kernel
theorem dX11_game_15 : decode cX11_game 15 = .ok (.iload_n 1, 1) := by decide +kernel
theorem dX11_game_16 : decode cX11_game 16 = .ok (.iload_n 2, 1) := by decide +kernel
theorem dX11_game_17 : decode cX11_game 17 = .ok (.if_icmp .ne 14, 3) := by decide +kernel
theorem dX11_game_20 : decode cX11_game 20 = .ok (.new 90, 3) := by decide +kernel
theorem dX11_game_23 : decode cX11_game 23 = .ok (.dup, 1) := by decide +kernel
theorem dX11_game_24 : decode cX11_game 24 = .ok (.ldc_w 315, 3) := by decide +kernel
theorem dX11_game_27 : decode cX11_game 27 = .ok (.invokespecial 94, 3) := by decide +kernel
theorem dX11_game_30 : decode cX11_game 30 = .ok (.athrow, 1) := by decide +kernel
theorem dX11_game_31 : decode cX11_game 31 = .ok (.iconst 0, 1) := by decide +kernel
theorem dX11_game_32 : decode cX11_game 32 = .ok (.istore 4, 2) := by decide +kernel
theorem dX11_game_34 : decode cX11_game 34 = .ok (.iconst (-1), 1) := by decide +kernel
theorem dX11_game_35 : decode cX11_game 35 = .ok (.istore 5, 2) := by decide +kernel
theorem dX11_game_37 : decode cX11_game 37 = .ok (.iconst 0, 1) := by decide +kernel
theorem dX11_game_38 : decode cX11_game 38 = .ok (.istore 6, 2) := by decide +kernel
theorem dX11_game_40 : decode cX11_game 40 = .ok (.iload 6, 2) := by decide +kernel
theorem dX11_game_42 : decode cX11_game 42 = .ok (.iconst 4, 1) := by decide +kernel
theorem dX11_game_43 : decode cX11_game 43 = .ok (.if_icmp .ge 17, 3) := by decide +kernel
theorem dX11_game_46 : decode cX11_game 46 = .ok (.aload_n 0, 1) := by decide +kernel
theorem dX11_game_47 : decode cX11_game 47 = .ok (.iload_n 1, 1) := by decide +kernel
theorem dX11_game_48 : decode cX11_game 48 = .ok (.iload_n 2, 1) := by decide +kernel
theorem dX11_game_49 : decode cX11_game 49 = .ok (.iload 6, 2) := by decide +kernel
theorem dX11_game_51 : decode cX11_game 51 = .ok (.invokevirtual 317, 3) := by decide +kernel
theorem dX11_game_54 : decode cX11_game 54 = .ok (.iinc 6 1, 3) := by decide +kernel
theorem dX11_game_57 : decode cX11_game 57 = .ok (.goto (-17), 3) := by decide +kernel
theorem dX11_game_60 : decode cX11_game 60 = .ok (.iconst 0, 1) := by decide +kernel
theorem dX11_game_61 : decode cX11_game 61 = .ok (.istore 6, 2) := by decide +kernel
theorem dX11_game_63 : decode cX11_game 63 = .ok (.iload 6, 2) := by decide +kernel
theorem dX11_game_65 : decode cX11_game 65 = .ok (.iconst 4, 1) := by decide +kernel
theorem dX11_game_66 : decode cX11_game 66 = .ok (.if_icmp .ge 46, 3) := by decide +kernel
theorem dX11_game_69 : decode cX11_game 69 = .ok (.aload_n 0, 1) := by decide +kernel
theorem dX11_game_70 : decode cX11_game 70 = .ok (.iload 6, 2) := by decide +kernel
theorem dX11_game_72 : decode cX11_game 72 = .ok (.invokevirtual 320, 3) := by decide +kernel
theorem dX11_game_75 : decode cX11_game 75 = .ok (.ifCond .eq 31, 3) := by decide +kernel
theorem dX11_game_78 : decode cX11_game 78 = .ok (.iinc 4 1, 3) := by decide +kernel
theorem dX11_game_81 : decode cX11_game 81 = .ok (.iload 5, 2) := by decide +kernel
theorem dX11_game_83 : decode cX11_game 83 = .ok (.iconst (-1), 1) := by decide +kernel
theorem dX11_game_84 : decode cX11_game 84 = .ok (.if_icmp .ne 18, 3) := by decide +kernel
theorem dX11_game_87 : decode cX11_game 87 = .ok (.bipush 10, 2) := by decide +kernel
theorem dX11_game_89 : decode cX11_game 89 = .ok (.iload 6, 2) := by decide +kernel
theorem dX11_game_91 : decode cX11_game 91 = .ok (.iconst 1, 1) := by decide +kernel
theorem dX11_game_92 : decode cX11_game 92 = .ok (.ishr, 1) := by decide +kernel
theorem dX11_game_93 : decode cX11_game 93 = .ok (.imul, 1) := by decide +kernel
theorem dX11_game_94 : decode cX11_game 94 = .ok (.iload 6, 2) := by decide +kernel
theorem dX11_game_96 : decode cX11_game 96 = .ok (.iconst 1, 1) := by decide +kernel
theorem dX11_game_97 : decode cX11_game 97 = .ok (.iand, 1) := by decide +kernel
theorem dX11_game_98 : decode cX11_game 98 = .ok (.iadd, 1) := by decide +kernel
theorem dX11_game_99 : decode cX11_game 99 = .ok (.goto 5, 3) := by decide +kernel
theorem dX11_game_102 : decode cX11_game 102 = .ok (.iload 5, 2) := by decide +kernel
theorem dX11_game_104 : decode cX11_game 104 = .ok (.istore 5, 2) := by decide +kernel
theorem dX11_game_106 : decode cX11_game 106 = .ok (.iinc 6 1, 3) := by decide +kernel
theorem dX11_game_109 : decode cX11_game 109 = .ok (.goto (-46), 3) := by decide +kernel
theorem dX11_game_112 : decode cX11_game 112 = .ok (.iload_n 3, 1) := by decide +kernel
theorem dX11_game_113 : decode cX11_game 113 = .ok (.ifCond .ne 8, 3) := by decide +kernel
theorem dX11_game_116 : decode cX11_game 116 = .ok (.iload 4, 2) := by decide +kernel
theorem dX11_game_118 : decode cX11_game 118 = .ok (.goto 5, 3) := by decide +kernel
theorem dX11_game_121 : decode cX11_game 121 = .ok (.iload 5, 2) := by decide +kernel
theorem dX11_game_123 : decode cX11_game 123 = .ok (.ireturn, 1) := by decide +kernel
set_option maxRecDepth 20000 in
theorem ggX11_ages_X11_needWhat : GoodIn wsX11_ages wsX11_needWhat := goodIn_ca (goodIn_r _ [11, 12, 13] (by decide +kernel) (by decide +kernel)) (goodIn_sub (fun _ h => List.mem_cons_of_mem _ (List.mem_append_left _ (List.mem_append_right _ h))) (by decide +kernel))
set_option maxRecDepth 20000 in
theorem gX11_ages_X11_needWhat : GoodIn wsX11_ages (va_wsS RX11 240 yX11_needWhat wsX11_needWhat) := goodIn_app (goodIn_of _ (by decide +kernel)) ggX11_ages_X11_needWhat
set_option maxRecDepth 20000 in
theorem ggX11_ages_X11_needYears : GoodIn wsX11_ages wsX11_needYears := goodIn_ca (goodIn_r _ [16, 17, 18] (by decide +kernel) (by decide +kernel)) (goodIn_sub (fun _ h => List.mem_cons_of_mem _ (List.mem_append_right _ h)) (by decide +kernel))
set_option maxRecDepth 20000 in
theorem gX11_ages_X11_needYears : GoodIn wsX11_ages (va_wsS RX11 258 yX11_needYears wsX11_needYears) := goodIn_app (goodIn_of _ (by decide +kernel)) ggX11_ages_X11_needYears
set_option maxRecDepth 20000 in
theorem ggX11_ages_X9_begin : GoodIn wsX11_ages wsX9_begin := goodIn_r _ [23, 24, 25, 26, 27, 28, 29, 30, 31, 32, 33, 34, 35, 36, 37, 38, 39, 40, 41, 42, 43, 194, 195, 196, 197, 198, 199, 200, 201, 202, 203, 204, 205, 206, 207] (by decide +kernel) (by decide +kernel)
set_option maxRecDepth 20000 in
theorem gX11_ages_X9_begin : GoodIn wsX11_ages (wsV RX11 224 RX9 yX9_begin wsX9_begin) := goodIn_app (goodIn_of _ (by decide +kernel)) ggX11_ages_X9_begin
set_option maxRecDepth 20000 in
theorem ggX11_ages_X9_passYearByDice : GoodIn wsX11_ages wsX9_passYearByDice := goodIn_r _ [47, 48, 24, 49, 50, 51, 52, 53, 54, 55, 56, 57, 58, 59, 60, 61, 62, 63, 64, 65, 66, 67, 68, 69, 29, 70, 40, 71, 72, 73, 22, 74, 75, 76, 77, 78, 79, 80, 81, 82, 83, 84, 85, 86, 87, 88, 89, 90, 91, 92, 93, 32, 43, 94, 95, 96, 97, 98, 99, 100, 101, 102, 103, 104, 105, 106, 107, 108, 109, 110, 111, 112, 113, 114, 115, 116, 117, 34, 39, 118, 119, 120, 121, 122, 123, 124, 125, 126, 127, 128, 129, 130, 131, 132, 133, 134, 135, 136, 137, 138, 139, 140, 141, 142, 143, 25, 144, 145, 146, 147, 148, 149, 150, 151, 152, 153, 154, 155, 156, 157, 158, 159, 160, 31, 161, 194, 195, 196, 197, 198, 199, 200, 201, 202, 203, 204, 205, 206, 207, 208, 209, 210, 211, 212, 213, 214, 215, 189, 216, 217] (by decide +kernel) (by decide +kernel)
set_option maxRecDepth 20000 in
theorem gX11_ages_X9_passYearByDice : GoodIn wsX11_ages (wsV RX11 327 RX9 yX9_passYearByDice wsX9_passYearByDice) := goodIn_app (goodIn_of _ (by decide +kernel)) ggX11_ages_X9_passYearByDice
set_option maxRecDepth 20000 in
theorem ggX11_ages_X8_loafBits : GoodIn wsX11_ages wsX8_loafBits := goodIn_r _ [165, 31, 40, 199, 200, 201, 202, 203, 204, 205, 206, 207] (by decide +kernel) (by decide +kernel)
set_option maxRecDepth 20000 in
theorem gX11_ages_X8_loafBits : GoodIn wsX11_ages (wsV RX11 136 RX8 yX8_loafBits wsX8_loafBits) := goodIn_app (goodIn_of _ (by decide +kernel)) ggX11_ages_X8_loafBits
set_option maxRecDepth 20000 in
theorem ggX11_ages_J6_bitCount_0f7a4 : GoodIn wsX11_ages wsJ6_bitCount_0f7a4 := goodIn_r _ [168, 169, 170, 171] (by decide +kernel) (by decide +kernel)
set_option maxRecDepth 20000 in
theorem gX11_ages_J6_bitCount_0f7a4 : GoodIn wsX11_ages (va_wsS RX11 140 yJ6_bitCount_0f7a4 wsJ6_bitCount_0f7a4) := goodIn_app (goodIn_of _ (by decide +kernel)) ggX11_ages_J6_bitCount_0f7a4
set_option maxRecDepth 20000 in
theorem ggX11_ages_X8_stoneOfAll : GoodIn wsX11_ages wsX8_stoneOfAll := goodIn_r _ [175, 31, 40, 199, 200, 201, 202, 203, 204, 205, 206, 207] (by decide +kernel) (by decide +kernel)
set_option maxRecDepth 20000 in
theorem gX11_ages_X8_stoneOfAll : GoodIn wsX11_ages (wsV RX11 148 RX8 yX8_stoneOfAll wsX8_stoneOfAll) := goodIn_app (goodIn_of _ (by decide +kernel)) ggX11_ages_X8_stoneOfAll
theorem dX11_ages_0 : decode cX11_ages 0 = .ok (.iload_n 3, 1) := by decide +kernel
theorem dX11_ages_1 : decode cX11_ages 1 = .ok (.iconst 2, 1) := by decide +kernel
theorem dX11_ages_2 : decode cX11_ages 2 = .ok (.invokestatic 240, 3) := by decide +kernel
theorem dX11_ages_5 : decode cX11_ages 5 = .ok (.iload_n 2, 1) := by decide +kernel
theorem dX11_ages_6 : decode cX11_ages 6 = .ok (.iconst 0, 1) := by decide +kernel
theorem dX11_ages_7 : decode cX11_ages 7 = .ok (.invokestatic 258, 3) := by decide +kernel
theorem dX11_ages_10 : decode cX11_ages 10 = .ok (.aload_n 0, 1) := by decide +kernel
theorem dX11_ages_11 : decode cX11_ages 11 = .ok (.getfield 75, 3) := by decide +kernel
theorem dX11_ages_14 : decode cX11_ages 14 = .ok (.iload_n 1, 1) := by decide +kernel
theorem dX11_ages_15 : decode cX11_ages 15 = .ok (.putfield 324, 3) := by decide +kernel
theorem dX11_ages_18 : decode cX11_ages 18 = .ok (.aload_n 0, 1) := by decide +kernel
theorem dX11_ages_19 : decode cX11_ages 19 = .ok (.getfield 55, 3) := by decide +kernel
theorem dX11_ages_22 : decode cX11_ages 22 = .ok (.aload_n 0, 1) := by decide +kernel
theorem dX11_ages_23 : decode cX11_ages 23 = .ok (.getfield 39, 3) := by decide +kernel
theorem dX11_ages_26 : decode cX11_ages 26 = .ok (.getfield 61, 3) := by decide +kernel
theorem dX11_ages_29 : decode cX11_ages 29 = .ok (.invokevirtual 224, 3) := by decide +kernel
theorem dX11_ages_32 : decode cX11_ages 32 = .ok (.iconst 0, 1) := by decide +kernel
theorem dX11_ages_33 : decode cX11_ages 33 = .ok (.istore 4, 2) := by decide +kernel
theorem dX11_ages_35 : decode cX11_ages 35 = .ok (.iload 4, 2) := by decide +kernel
theorem dX11_ages_37 : decode cX11_ages 37 = .ok (.iload_n 2, 1) := by decide +kernel
theorem dX11_ages_38 : decode cX11_ages 38 = .ok (.if_icmp .ge 20, 3) := by decide +kernel
theorem dX11_ages_41 : decode cX11_ages 41 = .ok (.aload_n 0, 1) := by decide +kernel
theorem dX11_ages_42 : decode cX11_ages 42 = .ok (.getfield 55, 3) := by decide +kernel
theorem dX11_ages_45 : decode cX11_ages 45 = .ok (.aload_n 0, 1) := by decide +kernel
theorem dX11_ages_46 : decode cX11_ages 46 = .ok (.getfield 75, 3) := by decide +kernel
theorem dX11_ages_49 : decode cX11_ages 49 = .ok (.invokevirtual 327, 3) := by decide +kernel
theorem dX11_ages_52 : decode cX11_ages 52 = .ok (.iinc 4 1, 3) := by decide +kernel
theorem dX11_ages_55 : decode cX11_ages 55 = .ok (.goto (-20), 3) := by decide +kernel
theorem dX11_ages_58 : decode cX11_ages 58 = .ok (.iload_n 3, 1) := by decide +kernel
theorem dX11_ages_59 : decode cX11_ages 59 = .ok (.lookupswitch 47 #[(0, 25), (1, 39)], 25) := by decide +kernel
theorem dX11_ages_84 : decode cX11_ages 84 = .ok (.aload_n 0, 1) := by decide +kernel
theorem dX11_ages_85 : decode cX11_ages 85 = .ok (.getfield 55, 3) := by decide +kernel
theorem dX11_ages_88 : decode cX11_ages 88 = .ok (.getfield 230, 3) := by decide +kernel
theorem dX11_ages_91 : decode cX11_ages 91 = .ok (.invokevirtual 136, 3) := by decide +kernel
theorem dX11_ages_94 : decode cX11_ages 94 = .ok (.invokestatic 140, 3) := by decide +kernel
theorem dX11_ages_97 : decode cX11_ages 97 = .ok (.ireturn, 1) := by decide +kernel
theorem dX11_ages_98 : decode cX11_ages 98 = .ok (.aload_n 0, 1) := by decide +kernel
theorem dX11_ages_99 : decode cX11_ages 99 = .ok (.getfield 55, 3) := by decide +kernel
theorem dX11_ages_102 : decode cX11_ages 102 = .ok (.getfield 331, 3) := by decide +kernel
theorem dX11_ages_105 : decode cX11_ages 105 = .ok (.ireturn, 1) := by decide +kernel
theorem dX11_ages_106 : decode cX11_ages 106 = .ok (.aload_n 0, 1) := by decide +kernel
theorem dX11_ages_107 : decode cX11_ages 107 = .ok (.getfield 55, 3) := by decide +kernel
theorem dX11_ages_110 : decode cX11_ages 110 = .ok (.getfield 230, 3) := by decide +kernel
theorem dX11_ages_113 : decode cX11_ages 113 = .ok (.invokevirtual 148, 3) := by decide +kernel
theorem dX11_ages_116 : decode cX11_ages 116 = .ok (.ireturn, 1) := by decide +kernel
set_option maxRecDepth 20000 in
theorem ggX11_image_X2_copyFrom : GoodIn wsX11_image wsX2_copyFrom := goodIn_r _ [8, 9, 10, 11, 12, 13, 14, 15, 16, 17, 18, 19, 20, 21, 22, 23, 24, 25, 26, 27, 28, 29, 30, 31, 32, 33, 34, 35, 36, 37, 38, 39, 40, 41, 42, 43, 44, 45, 46, 47, 48, 49, 63, 64, 65, 66, 67, 68, 69, 70, 71, 72, 73, 74, 75, 76, 77, 78, 79, 80, 81] (by decide +kernel) (by decide +kernel)
set_option maxRecDepth 20000 in
theorem gX11_image_X2_copyFrom : GoodIn wsX11_image (wsV RX11 334 RX2 yX2_copyFrom wsX2_copyFrom) := goodIn_app (goodIn_of _ (by decide +kernel)) ggX11_image_X2_copyFrom
theorem dX11_image_0 : decode cX11_image 0 = .ok (.aload_n 0, 1) := by decide +kernel
theorem dX11_image_1 : decode cX11_image 1 = .ok (.getfield 43, 3) := by decide +kernel
theorem dX11_image_4 : decode cX11_image 4 = .ok (.aload_n 0, 1) := by decide +kernel
theorem dX11_image_5 : decode cX11_image 5 = .ok (.getfield 39, 3) := by decide +kernel
theorem dX11_image_8 : decode cX11_image 8 = .ok (.invokevirtual 334, 3) := by decide +kernel
theorem dX11_image_11 : decode cX11_image 11 = .ok (.aload_n 0, 1) := by decide +kernel
theorem dX11_image_12 : decode cX11_image 12 = .ok (.iconst 1, 1) := by decide +kernel
theorem dX11_image_13 : decode cX11_image 13 = .ok (.putfield 46, 3) := by decide +kernel
theorem dX11_image_16 : decode cX11_image 16 = .ok (.return_, 1) := by decide +kernel
set_option maxRecDepth 20000 in
theorem ggX11_restore_X2_copyFrom : GoodIn wsX11_restore wsX2_copyFrom := goodIn_r _ [8, 9, 10, 11, 12, 13, 14, 15, 16, 17, 18, 19, 20, 21, 22, 23, 24, 25, 26, 27, 28, 29, 30, 31, 32, 33, 34, 35, 36, 37, 38, 39, 40, 41, 42, 43, 44, 45, 46, 47, 48, 49, 63, 64, 65, 66, 67, 68, 69, 70, 71, 72, 73, 74, 75, 76, 77, 78, 79, 80, 81] (by decide +kernel) (by decide +kernel)
set_option maxRecDepth 20000 in
theorem gX11_restore_X2_copyFrom : GoodIn wsX11_restore (wsV RX11 334 RX2 yX2_copyFrom wsX2_copyFrom) := goodIn_app (goodIn_of _ (by decide +kernel)) ggX11_restore_X2_copyFrom
theorem dX11_restore_0 : decode cX11_restore 0 = .ok (.aload_n 0, 1) := by decide +kernel
theorem dX11_restore_1 : decode cX11_restore 1 = .ok (.getfield 46, 3) := by decide +kernel
theorem dX11_restore_4 : decode cX11_restore 4 = .ok (.ifCond .eq 14, 3) := by decide +kernel
theorem dX11_restore_7 : decode cX11_restore 7 = .ok (.aload_n 0, 1) := by decide +kernel
theorem dX11_restore_8 : decode cX11_restore 8 = .ok (.getfield 39, 3) := by decide +kernel
theorem dX11_restore_11 : decode cX11_restore 11 = .ok (.aload_n 0, 1) := by decide +kernel
theorem dX11_restore_12 : decode cX11_restore 12 = .ok (.getfield 43, 3) := by decide +kernel
theorem dX11_restore_15 : decode cX11_restore 15 = .ok (.invokevirtual 334, 3) := by decide +kernel
theorem dX11_restore_18 : decode cX11_restore 18 = .ok (.aload_n 0, 1) := by decide +kernel
theorem dX11_restore_19 : decode cX11_restore 19 = .ok (.getfield 46, 3) := by decide +kernel
theorem dX11_restore_22 : decode cX11_restore 22 = .ok (.ireturn, 1) := by decide +kernel
theorem dX11_needGargoyle_0 : decode cX11_needGargoyle 0 = .ok (.iload_n 1, 1) := by decide +kernel
theorem dX11_needGargoyle_1 : decode cX11_needGargoyle 1 = .ok (.ifCond .lt 17, 3) := by decide +kernel
theorem dX11_needGargoyle_4 : decode cX11_needGargoyle 4 = .ok (.iload_n 1, 1) := by decide +kernel
theorem dX11_needGargoyle_5 : decode cX11_needGargoyle 5 = .ok (.aload_n 0, 1) := by decide +kernel
theorem dX11_needGargoyle_6 : decode cX11_needGargoyle 6 = .ok (.getfield 39, 3) := by decide +kernel
theorem dX11_needGargoyle_9 : decode cX11_needGargoyle 9 = .ok (.getfield 61, 3) := by decide +kernel
theorem dX11_needGargoyle_12 : decode cX11_needGargoyle 12 = .ok (.getfield 119, 3) := by decide +kernel
theorem dX11_needGargoyle_15 : decode cX11_needGargoyle 15 = .ok (.if_icmp .lt 14, 3) := by decide +kernel
theorem dX11_needGargoyle_18 : decode cX11_needGargoyle 18 = .ok (.new 173, 3) := by decide +kernel
theorem dX11_needGargoyle_21 : decode cX11_needGargoyle 21 = .ok (.dup, 1) := by decide +kernel
theorem dX11_needGargoyle_22 : decode cX11_needGargoyle 22 = .ok (.ldc_w 337, 3) := by decide +kernel
theorem dX11_needGargoyle_25 : decode cX11_needGargoyle 25 = .ok (.invokespecial 177, 3) := by decide +kernel
theorem dX11_needGargoyle_28 : decode cX11_needGargoyle 28 = .ok (.athrow, 1) := by decide +kernel
theorem dX11_needGargoyle_29 : decode cX11_needGargoyle 29 = .ok (.return_, 1) := by decide +kernel
theorem dX11_needPerson_0 : decode cX11_needPerson 0 = .ok (.iload_n 1, 1) := by decide +kernel
theorem dX11_needPerson_1 : decode cX11_needPerson 1 = .ok (.ifCond .lt 17, 3) := by decide +kernel
theorem dX11_needPerson_4 : decode cX11_needPerson 4 = .ok (.iload_n 1, 1) := by decide +kernel
theorem dX11_needPerson_5 : decode cX11_needPerson 5 = .ok (.aload_n 0, 1) := by decide +kernel
theorem dX11_needPerson_6 : decode cX11_needPerson 6 = .ok (.getfield 39, 3) := by decide +kernel
theorem dX11_needPerson_9 : decode cX11_needPerson 9 = .ok (.getfield 61, 3) := by decide +kernel
theorem dX11_needPerson_12 : decode cX11_needPerson 12 = .ok (.getfield 124, 3) := by decide +kernel
theorem dX11_needPerson_15 : decode cX11_needPerson 15 = .ok (.if_icmp .lt 14, 3) := by decide +kernel
theorem dX11_needPerson_18 : decode cX11_needPerson 18 = .ok (.new 173, 3) := by decide +kernel
theorem dX11_needPerson_21 : decode cX11_needPerson 21 = .ok (.dup, 1) := by decide +kernel
theorem dX11_needPerson_22 : decode cX11_needPerson 22 = .ok (.ldc_w 339, 3) := by decide +kernel
theorem dX11_needPerson_25 : decode cX11_needPerson 25 = .ok (.invokespecial 177, 3) := by decide +kernel
theorem dX11_needPerson_28 : decode cX11_needPerson 28 = .ok (.athrow, 1) := by decide +kernel
theorem dX11_needPerson_29 : decode cX11_needPerson 29 = .ok (.return_, 1) := by decide +kernel
theorem dX11_needWhat_0 : decode cX11_needWhat 0 = .ok (.iload_n 0, 1) := by decide +kernel
theorem dX11_needWhat_1 : decode cX11_needWhat 1 = .ok (.ifCond .lt 8, 3) := by decide +kernel
theorem dX11_needWhat_4 : decode cX11_needWhat 4 = .ok (.iload_n 0, 1) := by decide +kernel
theorem dX11_needWhat_5 : decode cX11_needWhat 5 = .ok (.iload_n 1, 1) := by decide +kernel
theorem dX11_needWhat_6 : decode cX11_needWhat 6 = .ok (.if_icmp .le 14, 3) := by decide +kernel
theorem dX11_needWhat_9 : decode cX11_needWhat 9 = .ok (.new 173, 3) := by decide +kernel
theorem dX11_needWhat_12 : decode cX11_needWhat 12 = .ok (.dup, 1) := by decide +kernel
theorem dX11_needWhat_13 : decode cX11_needWhat 13 = .ok (.ldc_w 341, 3) := by decide +kernel
theorem dX11_needWhat_16 : decode cX11_needWhat 16 = .ok (.invokespecial 177, 3) := by decide +kernel
theorem dX11_needWhat_19 : decode cX11_needWhat 19 = .ok (.athrow, 1) := by decide +kernel
theorem dX11_needWhat_20 : decode cX11_needWhat 20 = .ok (.return_, 1) := by decide +kernel
theorem dX11_needYears_0 : decode cX11_needYears 0 = .ok (.iload_n 0, 1) := by decide +kernel
theorem dX11_needYears_1 : decode cX11_needYears 1 = .ok (.iload_n 1, 1) := by decide +kernel
theorem dX11_needYears_2 : decode cX11_needYears 2 = .ok (.if_icmp .lt 9, 3) := by decide +kernel
theorem dX11_needYears_5 : decode cX11_needYears 5 = .ok (.iload_n 0, 1) := by decide +kernel
theorem dX11_needYears_6 : decode cX11_needYears 6 = .ok (.bipush 60, 2) := by decide +kernel
theorem dX11_needYears_8 : decode cX11_needYears 8 = .ok (.if_icmp .le 14, 3) := by decide +kernel
theorem dX11_needYears_11 : decode cX11_needYears 11 = .ok (.new 90, 3) := by decide +kernel
theorem dX11_needYears_14 : decode cX11_needYears 14 = .ok (.dup, 1) := by decide +kernel
theorem dX11_needYears_15 : decode cX11_needYears 15 = .ok (.ldc_w 343, 3) := by decide +kernel
theorem dX11_needYears_18 : decode cX11_needYears 18 = .ok (.invokespecial 94, 3) := by decide +kernel
theorem dX11_needYears_21 : decode cX11_needYears 21 = .ok (.athrow, 1) := by decide +kernel
theorem dX11_needYears_22 : decode cX11_needYears 22 = .ok (.return_, 1) := by decide +kernel
theorem dX11_putBytes_0 : decode cX11_putBytes 0 = .ok (.bipush 24, 2) := by decide +kernel
theorem dX11_putBytes_2 : decode cX11_putBytes 2 = .ok (.istore_n 2, 1) := by decide +kernel
theorem dX11_putBytes_3 : decode cX11_putBytes 3 = .ok (.iload_n 2, 1) := by decide +kernel
theorem dX11_putBytes_4 : decode cX11_putBytes 4 = .ok (.ifCond .lt 44, 3) := by decide +kernel
theorem dX11_putBytes_7 : decode cX11_putBytes 7 = .ok (.aload_n 0, 1) := by decide +kernel
theorem dX11_putBytes_8 : decode cX11_putBytes 8 = .ok (.getfield 13, 3) := by decide +kernel
theorem dX11_putBytes_11 : decode cX11_putBytes 11 = .ok (.aload_n 0, 1) := by decide +kernel
theorem dX11_putBytes_12 : decode cX11_putBytes 12 = .ok (.getfield 9, 3) := by decide +kernel
theorem dX11_putBytes_15 : decode cX11_putBytes 15 = .ok (.arraylength, 1) := by decide +kernel
theorem dX11_putBytes_16 : decode cX11_putBytes 16 = .ok (.if_icmp .ge 26, 3) := by decide +kernel
theorem dX11_putBytes_19 : decode cX11_putBytes 19 = .ok (.aload_n 0, 1) := by decide +kernel
theorem dX11_putBytes_20 : decode cX11_putBytes 20 = .ok (.getfield 9, 3) := by decide +kernel
theorem dX11_putBytes_23 : decode cX11_putBytes 23 = .ok (.aload_n 0, 1) := by decide +kernel
theorem dX11_putBytes_24 : decode cX11_putBytes 24 = .ok (.getfield 13, 3) := by decide +kernel
theorem dX11_putBytes_27 : decode cX11_putBytes 27 = .ok (.iload_n 1, 1) := by decide +kernel
theorem dX11_putBytes_28 : decode cX11_putBytes 28 = .ok (.iload_n 2, 1) := by decide +kernel
theorem dX11_putBytes_29 : decode cX11_putBytes 29 = .ok (.ishr, 1) := by decide +kernel
theorem dX11_putBytes_30 : decode cX11_putBytes 30 = .ok (.i2b, 1) := by decide +kernel
theorem dX11_putBytes_31 : decode cX11_putBytes 31 = .ok (.bastore, 1) := by decide +kernel
theorem dX11_putBytes_32 : decode cX11_putBytes 32 = .ok (.aload_n 0, 1) := by decide +kernel
theorem dX11_putBytes_33 : decode cX11_putBytes 33 = .ok (.dup, 1) := by decide +kernel
theorem dX11_putBytes_34 : decode cX11_putBytes 34 = .ok (.getfield 13, 3) := by decide +kernel
theorem dX11_putBytes_37 : decode cX11_putBytes 37 = .ok (.iconst 1, 1) := by decide +kernel
theorem dX11_putBytes_38 : decode cX11_putBytes 38 = .ok (.iadd, 1) := by decide +kernel
theorem dX11_putBytes_39 : decode cX11_putBytes 39 = .ok (.putfield 13, 3) := by decide +kernel
theorem dX11_putBytes_42 : decode cX11_putBytes 42 = .ok (.iinc 2 (-8), 3) := by decide +kernel
theorem dX11_putBytes_45 : decode cX11_putBytes 45 = .ok (.goto (-42), 3) := by decide +kernel
theorem dX11_putBytes_48 : decode cX11_putBytes 48 = .ok (.return_, 1) := by decide +kernel
theorem dX11_refuseAct_0 : decode cX11_refuseAct 0 = .ok (.aload_n 0, 1) := by decide +kernel
theorem dX11_refuseAct_1 : decode cX11_refuseAct 1 = .ok (.getfield 39, 3) := by decide +kernel
theorem dX11_refuseAct_4 : decode cX11_refuseAct 4 = .ok (.getfield 104, 3) := by decide +kernel
theorem dX11_refuseAct_7 : decode cX11_refuseAct 7 = .ok (.iconst 1, 1) := by decide +kernel
theorem dX11_refuseAct_8 : decode cX11_refuseAct 8 = .ok (.dup2, 1) := by decide +kernel
theorem dX11_refuseAct_9 : decode cX11_refuseAct 9 = .ok (.iaload, 1) := by decide +kernel
theorem dX11_refuseAct_10 : decode cX11_refuseAct 10 = .ok (.iconst 1, 1) := by decide +kernel
theorem dX11_refuseAct_11 : decode cX11_refuseAct 11 = .ok (.iadd, 1) := by decide +kernel
theorem dX11_refuseAct_12 : decode cX11_refuseAct 12 = .ok (.iastore, 1) := by decide +kernel
theorem dX11_refuseAct_13 : decode cX11_refuseAct 13 = .ok (.iload_n 1, 1) := by decide +kernel
theorem dX11_refuseAct_14 : decode cX11_refuseAct 14 = .ok (.ireturn, 1) := by decide +kernel
set_option maxRecDepth 20000 in
theorem ggX11_stateBehind_X11_needYears : GoodIn wsX11_stateBehind wsX11_needYears := goodIn_ca (goodIn_r _ [8, 9, 10] (by decide +kernel) (by decide +kernel)) (goodIn_sub (fun _ h => List.mem_cons_of_mem _ (List.mem_append_right _ h)) (by decide +kernel))
set_option maxRecDepth 20000 in
theorem gX11_stateBehind_X11_needYears : GoodIn wsX11_stateBehind (va_wsS RX11 258 yX11_needYears wsX11_needYears) := goodIn_app (goodIn_of _ (by decide +kernel)) ggX11_stateBehind_X11_needYears
set_option maxRecDepth 20000 in
theorem ggX11_stateBehind_X9_begin : GoodIn wsX11_stateBehind wsX9_begin := goodIn_r _ [15, 16, 17, 18, 19, 20, 21, 22, 23, 24, 25, 26, 27, 28, 29, 30, 31, 32, 33, 34, 35, 160, 161, 162, 163, 164, 165, 166, 167, 168, 169, 170, 171, 172, 173] (by decide +kernel) (by decide +kernel)
set_option maxRecDepth 20000 in
theorem gX11_stateBehind_X9_begin : GoodIn wsX11_stateBehind (wsV RX11 224 RX9 yX9_begin wsX9_begin) := goodIn_app (goodIn_of _ (by decide +kernel)) ggX11_stateBehind_X9_begin
set_option maxRecDepth 20000 in
theorem ggX11_stateBehind_X9_passYears : GoodIn wsX11_stateBehind wsX9_passYears := goodIn_r _ [39, 40, 16, 41, 42, 43, 44, 45, 46, 47, 48, 49, 50, 51, 14, 52, 53, 54, 55, 56, 57, 58, 59, 60, 61, 62, 63, 64, 65, 66, 67, 68, 69, 70, 71, 21, 72, 24, 35, 73, 74, 75, 76, 77, 78, 79, 80, 81, 82, 83, 84, 85, 86, 87, 88, 89, 90, 91, 32, 92, 93, 94, 95, 96, 26, 31, 97, 98, 99, 100, 101, 102, 103, 104, 105, 106, 107, 108, 109, 110, 111, 112, 113, 114, 115, 116, 117, 118, 119, 120, 121, 122, 123, 124, 17, 125, 126, 127, 128, 129, 130, 131, 132, 133, 134, 135, 136, 137, 138, 139, 140, 141, 23, 142, 160, 161, 162, 163, 164, 165, 166, 167, 168, 169, 170, 171, 172, 173, 174, 175, 176, 177, 178, 179, 180, 181, 182, 183] (by decide +kernel) (by decide +kernel)
set_option maxRecDepth 20000 in
theorem gX11_stateBehind_X9_passYears : GoodIn wsX11_stateBehind (wsV RX11 227 RX9 yX9_passYears wsX9_passYears) := goodIn_app (goodIn_of _ (by decide +kernel)) ggX11_stateBehind_X9_passYears
theorem dX11_stateBehind_0 : decode cX11_stateBehind 0 = .ok (.iload_n 1, 1) := by decide +kernel
theorem dX11_stateBehind_1 : decode cX11_stateBehind 1 = .ok (.iconst 0, 1) := by decide +kernel
theorem dX11_stateBehind_2 : decode cX11_stateBehind 2 = .ok (.invokestatic 258, 3) := by decide +kernel
theorem dX11_stateBehind_5 : decode cX11_stateBehind 5 = .ok (.aload_n 0, 1) := by decide +kernel
theorem dX11_stateBehind_6 : decode cX11_stateBehind 6 = .ok (.getfield 55, 3) := by decide +kernel
theorem dX11_stateBehind_9 : decode cX11_stateBehind 9 = .ok (.aload_n 0, 1) := by decide +kernel
theorem dX11_stateBehind_10 : decode cX11_stateBehind 10 = .ok (.getfield 39, 3) := by decide +kernel
theorem dX11_stateBehind_13 : decode cX11_stateBehind 13 = .ok (.getfield 61, 3) := by decide +kernel
theorem dX11_stateBehind_16 : decode cX11_stateBehind 16 = .ok (.invokevirtual 224, 3) := by decide +kernel
theorem dX11_stateBehind_19 : decode cX11_stateBehind 19 = .ok (.aload_n 0, 1) := by decide +kernel
theorem dX11_stateBehind_20 : decode cX11_stateBehind 20 = .ok (.getfield 55, 3) := by decide +kernel
theorem dX11_stateBehind_23 : decode cX11_stateBehind 23 = .ok (.iload_n 1, 1) := by decide +kernel
theorem dX11_stateBehind_24 : decode cX11_stateBehind 24 = .ok (.invokevirtual 227, 3) := by decide +kernel
theorem dX11_stateBehind_27 : decode cX11_stateBehind 27 = .ok (.aload_n 0, 1) := by decide +kernel
theorem dX11_stateBehind_28 : decode cX11_stateBehind 28 = .ok (.getfield 55, 3) := by decide +kernel
theorem dX11_stateBehind_31 : decode cX11_stateBehind 31 = .ok (.getfield 230, 3) := by decide +kernel
theorem dX11_stateBehind_34 : decode cX11_stateBehind 34 = .ok (.areturn, 1) := by decide +kernel
set_option maxRecDepth 20000 in
theorem ggX11_turnedBy_X8_faceOf : GoodIn wsX11_turnedBy wsX8_faceOf := goodIn_r _ [8] (by decide +kernel) (by decide +kernel)
set_option maxRecDepth 20000 in
theorem gX11_turnedBy_X8_faceOf : GoodIn wsX11_turnedBy (va_wsS RX11 201 yX8_faceOf wsX8_faceOf) := goodIn_app (goodIn_of _ (by decide +kernel)) ggX11_turnedBy_X8_faceOf
set_option maxRecDepth 20000 in
theorem ggX11_turnedBy_X8_unlikeness : GoodIn wsX11_turnedBy wsX8_unlikeness := goodIn_r _ [12, 13, 14, 15, 16, 17, 18, 36, 37, 38, 39, 40, 41, 42, 43, 44] (by decide +kernel) (by decide +kernel)
set_option maxRecDepth 20000 in
theorem gX11_turnedBy_X8_unlikeness : GoodIn wsX11_turnedBy (wsV RX11 252 RX8 yX8_unlikeness wsX8_unlikeness) := goodIn_app (goodIn_of _ (by decide +kernel)) ggX11_turnedBy_X8_unlikeness
theorem dX11_turnedBy_0 : decode cX11_turnedBy 0 = .ok (.aload_n 0, 1) := by decide +kernel
theorem dX11_turnedBy_1 : decode cX11_turnedBy 1 = .ok (.getfield 39, 3) := by decide +kernel
theorem dX11_turnedBy_4 : decode cX11_turnedBy 4 = .ok (.getfield 61, 3) := by decide +kernel
theorem dX11_turnedBy_7 : decode cX11_turnedBy 7 = .ok (.astore_n 2, 1) := by decide +kernel
theorem dX11_turnedBy_8 : decode cX11_turnedBy 8 = .ok (.iconst 0, 1) := by decide +kernel
theorem dX11_turnedBy_9 : decode cX11_turnedBy 9 = .ok (.istore_n 3, 1) := by decide +kernel
theorem dX11_turnedBy_10 : decode cX11_turnedBy 10 = .ok (.aload_n 2, 1) := by decide +kernel
theorem dX11_turnedBy_11 : decode cX11_turnedBy 11 = .ok (.getfield 119, 3) := by decide +kernel
theorem dX11_turnedBy_14 : decode cX11_turnedBy 14 = .ok (.ifCond .le 42, 3) := by decide +kernel
theorem dX11_turnedBy_17 : decode cX11_turnedBy 17 = .ok (.iconst 0, 1) := by decide +kernel
theorem dX11_turnedBy_18 : decode cX11_turnedBy 18 = .ok (.istore 4, 2) := by decide +kernel
theorem dX11_turnedBy_20 : decode cX11_turnedBy 20 = .ok (.iload 4, 2) := by decide +kernel
theorem dX11_turnedBy_22 : decode cX11_turnedBy 22 = .ok (.aload_n 2, 1) := by decide +kernel
theorem dX11_turnedBy_23 : decode cX11_turnedBy 23 = .ok (.getfield 124, 3) := by decide +kernel
theorem dX11_turnedBy_26 : decode cX11_turnedBy 26 = .ok (.if_icmp .ge 30, 3) := by decide +kernel
theorem dX11_turnedBy_29 : decode cX11_turnedBy 29 = .ok (.iload_n 3, 1) := by decide +kernel
theorem dX11_turnedBy_30 : decode cX11_turnedBy 30 = .ok (.aload_n 2, 1) := by decide +kernel
theorem dX11_turnedBy_31 : decode cX11_turnedBy 31 = .ok (.iload 4, 2) := by decide +kernel
theorem dX11_turnedBy_33 : decode cX11_turnedBy 33 = .ok (.invokestatic 201, 3) := by decide +kernel
theorem dX11_turnedBy_36 : decode cX11_turnedBy 36 = .ok (.iload 4, 2) := by decide +kernel
theorem dX11_turnedBy_38 : decode cX11_turnedBy 38 = .ok (.iload_n 1, 1) := by decide +kernel
theorem dX11_turnedBy_39 : decode cX11_turnedBy 39 = .ok (.iadd, 1) := by decide +kernel
theorem dX11_turnedBy_40 : decode cX11_turnedBy 40 = .ok (.aload_n 2, 1) := by decide +kernel
theorem dX11_turnedBy_41 : decode cX11_turnedBy 41 = .ok (.getfield 119, 3) := by decide +kernel
theorem dX11_turnedBy_44 : decode cX11_turnedBy 44 = .ok (.irem, 1) := by decide +kernel
theorem dX11_turnedBy_45 : decode cX11_turnedBy 45 = .ok (.invokevirtual 252, 3) := by decide +kernel
theorem dX11_turnedBy_48 : decode cX11_turnedBy 48 = .ok (.iadd, 1) := by decide +kernel
theorem dX11_turnedBy_49 : decode cX11_turnedBy 49 = .ok (.istore_n 3, 1) := by decide +kernel
theorem dX11_turnedBy_50 : decode cX11_turnedBy 50 = .ok (.iinc 4 1, 3) := by decide +kernel
theorem dX11_turnedBy_53 : decode cX11_turnedBy 53 = .ok (.goto (-33), 3) := by decide +kernel
theorem dX11_turnedBy_56 : decode cX11_turnedBy 56 = .ok (.iload_n 3, 1) := by decide +kernel
theorem dX11_turnedBy_57 : decode cX11_turnedBy 57 = .ok (.ireturn, 1) := by decide +kernel
set_option maxRecDepth 20000 in
theorem ggX11_beginWithAge_X9_begin : GoodIn wsX11_beginWithAge wsX9_begin := goodIn_r _ [10, 11, 12, 13, 14, 15, 16, 17, 18, 19, 20, 21, 22, 23, 24, 25, 26, 27, 28, 29, 30, 48, 49, 50, 51, 52, 53, 54, 55, 56, 57, 58, 59, 60, 61] (by decide +kernel) (by decide +kernel)
set_option maxRecDepth 20000 in
theorem gX11_beginWithAge_X9_begin : GoodIn wsX11_beginWithAge (wsV RX11 224 RX9 yX9_begin wsX9_begin) := goodIn_app (goodIn_of _ (by decide +kernel)) ggX11_beginWithAge_X9_begin
theorem dX11_beginWithAge_0 : decode cX11_beginWithAge 0 = .ok (.aload_n 0, 1) := by decide +kernel
theorem dX11_beginWithAge_1 : decode cX11_beginWithAge 1 = .ok (.getfield 55, 3) := by decide +kernel
theorem dX11_beginWithAge_4 : decode cX11_beginWithAge 4 = .ok (.aload_n 0, 1) := by decide +kernel
theorem dX11_beginWithAge_5 : decode cX11_beginWithAge 5 = .ok (.getfield 39, 3) := by decide +kernel
theorem dX11_beginWithAge_8 : decode cX11_beginWithAge 8 = .ok (.getfield 61, 3) := by decide +kernel
theorem dX11_beginWithAge_11 : decode cX11_beginWithAge 11 = .ok (.invokevirtual 224, 3) := by decide +kernel
theorem dX11_beginWithAge_14 : decode cX11_beginWithAge 14 = .ok (.aload_n 0, 1) := by decide +kernel
theorem dX11_beginWithAge_15 : decode cX11_beginWithAge 15 = .ok (.getfield 55, 3) := by decide +kernel
theorem dX11_beginWithAge_18 : decode cX11_beginWithAge 18 = .ok (.getfield 230, 3) := by decide +kernel
theorem dX11_beginWithAge_21 : decode cX11_beginWithAge 21 = .ok (.getfield 204, 3) := by decide +kernel
theorem dX11_beginWithAge_24 : decode cX11_beginWithAge 24 = .ok (.iload_n 1, 1) := by decide +kernel
theorem dX11_beginWithAge_25 : decode cX11_beginWithAge 25 = .ok (.iload_n 2, 1) := by decide +kernel
theorem dX11_beginWithAge_26 : decode cX11_beginWithAge 26 = .ok (.iastore, 1) := by decide +kernel
theorem dX11_beginWithAge_27 : decode cX11_beginWithAge 27 = .ok (.return_, 1) := by decide +kernel
set_option maxRecDepth 20000 in
theorem ggX11_couldBe_X11_beginWithAge : GoodIn wsX11_couldBe wsX11_beginWithAge := goodIn_r _ [10, 4, 1, 2, 11, 3, 12, 13, 14, 15, 16, 17, 18, 19, 20, 21, 22, 23, 24, 25, 26, 27, 28, 29, 30, 31, 32, 33, 34, 35, 36, 160, 161, 162, 163, 164, 165, 166, 167, 168, 169, 170, 171, 172, 173, 174, 175, 176, 186, 187, 188, 189, 190, 177, 178, 179, 180, 181, 182, 183, 184, 185] (by decide +kernel) (by decide +kernel)
set_option maxRecDepth 20000 in
theorem gX11_couldBe_X11_beginWithAge : GoodIn wsX11_couldBe (wsV RX11 345 RX11 yX11_beginWithAge wsX11_beginWithAge) := goodIn_app (goodIn_of _ (by decide +kernel)) ggX11_couldBe_X11_beginWithAge
set_option maxRecDepth 20000 in
theorem ggX11_couldBe_X9_keepsTo : GoodIn wsX11_couldBe wsX9_keepsTo := goodIn_r _ [40, 17, 41, 42, 43, 44, 45, 46, 47, 48, 49, 50, 51, 52, 53, 54, 55, 56, 57, 58, 59, 60, 61, 62, 22, 63, 64, 65, 66, 67, 68, 69, 70, 71, 72, 73, 15, 74, 75, 76, 77, 78, 79, 80, 81, 82, 83, 84, 85, 86, 87, 88, 89, 90, 91, 25, 36, 92, 93, 94, 95, 96, 97, 98, 99, 100, 101, 102, 103, 104, 105, 106, 107, 108, 109, 110, 33, 111, 112, 113, 114, 115, 27, 32, 116, 117, 118, 119, 120, 121, 122, 123, 124, 125, 126, 127, 128, 129, 130, 131, 132, 133, 134, 135, 136, 137, 138, 139, 140, 141, 18, 142, 143, 144, 145, 146, 147, 148, 149, 150, 151, 152, 153, 154, 155, 156, 157, 158, 24, 159, 186, 187, 188, 189, 190, 177, 178, 179, 180, 181, 182, 183, 184, 185, 191, 192, 193, 194, 195, 196, 197, 198, 199, 200, 201, 202, 203, 204] (by decide +kernel) (by decide +kernel)
set_option maxRecDepth 20000 in
theorem gX11_couldBe_X9_keepsTo : GoodIn wsX11_couldBe (wsV RX11 288 RX9 yX9_keepsTo wsX9_keepsTo) := goodIn_app (goodIn_of _ (by decide +kernel)) ggX11_couldBe_X9_keepsTo
theorem dX11_couldBe_0 : decode cX11_couldBe 0 = .ok (.aload_n 0, 1) := by decide +kernel
theorem dX11_couldBe_1 : decode cX11_couldBe 1 = .ok (.getfield 39, 3) := by decide +kernel
theorem dX11_couldBe_4 : decode cX11_couldBe 4 = .ok (.getfield 61, 3) := by decide +kernel
theorem dX11_couldBe_7 : decode cX11_couldBe 7 = .ok (.getfield 204, 3) := by decide +kernel
theorem dX11_couldBe_10 : decode cX11_couldBe 10 = .ok (.iload_n 1, 1) := by decide +kernel
theorem dX11_couldBe_11 : decode cX11_couldBe 11 = .ok (.iaload, 1) := by decide +kernel
theorem dX11_couldBe_12 : decode cX11_couldBe 12 = .ok (.iload_n 2, 1) := by decide +kernel
theorem dX11_couldBe_13 : decode cX11_couldBe 13 = .ok (.if_icmp .ne 5, 3) := by decide +kernel
theorem dX11_couldBe_16 : decode cX11_couldBe 16 = .ok (.iconst 0, 1) := by decide +kernel
theorem dX11_couldBe_17 : decode cX11_couldBe 17 = .ok (.ireturn, 1) := by decide +kernel
theorem dX11_couldBe_18 : decode cX11_couldBe 18 = .ok (.aload_n 0, 1) := by decide +kernel
theorem dX11_couldBe_19 : decode cX11_couldBe 19 = .ok (.iload_n 1, 1) := by decide +kernel
theorem dX11_couldBe_20 : decode cX11_couldBe 20 = .ok (.iload_n 2, 1) := by decide +kernel
theorem dX11_couldBe_21 : decode cX11_couldBe 21 = .ok (.invokevirtual 345, 3) := by decide +kernel
theorem dX11_couldBe_24 : decode cX11_couldBe 24 = .ok (.aload_n 0, 1) := by decide +kernel
theorem dX11_couldBe_25 : decode cX11_couldBe 25 = .ok (.getfield 55, 3) := by decide +kernel
theorem dX11_couldBe_28 : decode cX11_couldBe 28 = .ok (.aload_n 0, 1) := by decide +kernel
theorem dX11_couldBe_29 : decode cX11_couldBe 29 = .ok (.getfield 39, 3) := by decide +kernel
theorem dX11_couldBe_32 : decode cX11_couldBe 32 = .ok (.getfield 166, 3) := by decide +kernel
theorem dX11_couldBe_35 : decode cX11_couldBe 35 = .ok (.invokevirtual 288, 3) := by decide +kernel
theorem dX11_couldBe_38 : decode cX11_couldBe 38 = .ok (.ireturn, 1) := by decide +kernel
set_option maxRecDepth 20000 in
theorem ggX11_addPlaces_X11_beginWithAge : GoodIn wsX11_addPlaces wsX11_beginWithAge := goodIn_r _ [12, 1, 2, 3, 6, 13, 14, 15, 16, 17, 18, 19, 20, 21, 22, 23, 24, 25, 26, 27, 28, 29, 30, 31, 32, 33, 34, 35, 36, 37, 38, 146, 147, 148, 149, 150, 151, 152, 153, 154, 155, 156, 157, 158, 159, 160, 161, 162, 172, 173, 174, 175, 176, 163, 164, 165, 166, 167, 168, 169, 170, 171] (by decide +kernel) (by decide +kernel)
set_option maxRecDepth 20000 in
theorem gX11_addPlaces_X11_beginWithAge : GoodIn wsX11_addPlaces (wsV RX11 345 RX11 yX11_beginWithAge wsX11_beginWithAge) := goodIn_app (goodIn_of _ (by decide +kernel)) ggX11_addPlaces_X11_beginWithAge
set_option maxRecDepth 20000 in
theorem ggX11_addPlaces_X9_passYears : GoodIn wsX11_addPlaces wsX9_passYears := goodIn_r _ [42, 43, 19, 44, 45, 46, 47, 48, 49, 50, 51, 52, 53, 54, 17, 55, 56, 57, 58, 59, 60, 61, 62, 63, 64, 65, 66, 67, 68, 69, 70, 71, 72, 73, 74, 24, 75, 27, 38, 76, 77, 78, 79, 80, 81, 82, 83, 84, 85, 86, 87, 88, 89, 90, 91, 92, 93, 94, 35, 95, 96, 97, 98, 99, 29, 34, 100, 101, 102, 103, 104, 105, 106, 107, 108, 109, 110, 111, 112, 113, 114, 115, 116, 117, 118, 119, 120, 121, 122, 123, 124, 125, 126, 127, 20, 128, 129, 130, 131, 132, 133, 134, 135, 136, 137, 138, 139, 140, 141, 142, 143, 144, 26, 145, 172, 173, 174, 175, 176, 163, 164, 165, 166, 167, 168, 169, 170, 171, 177, 178, 179, 180, 181, 182, 183, 184, 185, 186] (by decide +kernel) (by decide +kernel)
set_option maxRecDepth 20000 in
theorem gX11_addPlaces_X9_passYears : GoodIn wsX11_addPlaces (wsV RX11 227 RX9 yX9_passYears wsX9_passYears) := goodIn_app (goodIn_of _ (by decide +kernel)) ggX11_addPlaces_X9_passYears
theorem dX11_addPlaces_0 : decode cX11_addPlaces 0 = .ok (.aload_n 0, 1) := by decide +kernel
theorem dX11_addPlaces_1 : decode cX11_addPlaces 1 = .ok (.iload_n 1, 1) := by decide +kernel
theorem dX11_addPlaces_2 : decode cX11_addPlaces 2 = .ok (.iload_n 2, 1) := by decide +kernel
theorem dX11_addPlaces_3 : decode cX11_addPlaces 3 = .ok (.invokevirtual 345, 3) := by decide +kernel
theorem dX11_addPlaces_6 : decode cX11_addPlaces 6 = .ok (.aload_n 0, 1) := by decide +kernel
theorem dX11_addPlaces_7 : decode cX11_addPlaces 7 = .ok (.getfield 55, 3) := by decide +kernel
theorem dX11_addPlaces_10 : decode cX11_addPlaces 10 = .ok (.bipush 6, 2) := by decide +kernel
theorem dX11_addPlaces_12 : decode cX11_addPlaces 12 = .ok (.invokevirtual 227, 3) := by decide +kernel
theorem dX11_addPlaces_15 : decode cX11_addPlaces 15 = .ok (.iconst 0, 1) := by decide +kernel
theorem dX11_addPlaces_16 : decode cX11_addPlaces 16 = .ok (.istore_n 3, 1) := by decide +kernel
theorem dX11_addPlaces_17 : decode cX11_addPlaces 17 = .ok (.iload_n 3, 1) := by decide +kernel
theorem dX11_addPlaces_18 : decode cX11_addPlaces 18 = .ok (.aload_n 0, 1) := by decide +kernel
theorem dX11_addPlaces_19 : decode cX11_addPlaces 19 = .ok (.getfield 39, 3) := by decide +kernel
theorem dX11_addPlaces_22 : decode cX11_addPlaces 22 = .ok (.getfield 61, 3) := by decide +kernel
theorem dX11_addPlaces_25 : decode cX11_addPlaces 25 = .ok (.getfield 124, 3) := by decide +kernel
theorem dX11_addPlaces_28 : decode cX11_addPlaces 28 = .ok (.if_icmp .ge 34, 3) := by decide +kernel
theorem dX11_addPlaces_31 : decode cX11_addPlaces 31 = .ok (.aload_n 0, 1) := by decide +kernel
theorem dX11_addPlaces_32 : decode cX11_addPlaces 32 = .ok (.getfield 83, 3) := by decide +kernel
