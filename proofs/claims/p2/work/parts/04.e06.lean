theorem dX12_wouldSit_40 : decode cX12_wouldSit 40 = .ok (.getfield 102, 3) := by decide +kernel
theorem dX12_wouldSit_43 : decode cX12_wouldSit 43 = .ok (.iload_n 1, 1) := by decide +kernel
theorem dX12_wouldSit_44 : decode cX12_wouldSit 44 = .ok (.iaload, 1) := by decide +kernel
theorem dX12_wouldSit_45 : decode cX12_wouldSit 45 = .ok (.iastore, 1) := by decide +kernel
theorem dX12_wouldSit_46 : decode cX12_wouldSit 46 = .ok (.aload_n 0, 1) := by decide +kernel
theorem dX12_wouldSit_47 : decode cX12_wouldSit 47 = .ok (.getfield 112, 3) := by decide +kernel
theorem dX12_wouldSit_50 : decode cX12_wouldSit 50 = .ok (.iconst 2, 1) := by decide +kernel
theorem dX12_wouldSit_51 : decode cX12_wouldSit 51 = .ok (.aload_n 0, 1) := by decide +kernel
theorem dX12_wouldSit_52 : decode cX12_wouldSit 52 = .ok (.getfield 94, 3) := by decide +kernel
theorem dX12_wouldSit_55 : decode cX12_wouldSit 55 = .ok (.iload_n 2, 1) := by decide +kernel
theorem dX12_wouldSit_56 : decode cX12_wouldSit 56 = .ok (.iaload, 1) := by decide +kernel
theorem dX12_wouldSit_57 : decode cX12_wouldSit 57 = .ok (.iastore, 1) := by decide +kernel
theorem dX12_wouldSit_58 : decode cX12_wouldSit 58 = .ok (.aload_n 0, 1) := by decide +kernel
theorem dX12_wouldSit_59 : decode cX12_wouldSit 59 = .ok (.getfield 112, 3) := by decide +kernel
theorem dX12_wouldSit_62 : decode cX12_wouldSit 62 = .ok (.iconst 3, 1) := by decide +kernel
theorem dX12_wouldSit_63 : decode cX12_wouldSit 63 = .ok (.aload_n 0, 1) := by decide +kernel
theorem dX12_wouldSit_64 : decode cX12_wouldSit 64 = .ok (.getfield 104, 3) := by decide +kernel
theorem dX12_wouldSit_67 : decode cX12_wouldSit 67 = .ok (.iload_n 1, 1) := by decide +kernel
theorem dX12_wouldSit_68 : decode cX12_wouldSit 68 = .ok (.iaload, 1) := by decide +kernel
theorem dX12_wouldSit_69 : decode cX12_wouldSit 69 = .ok (.iload_n 2, 1) := by decide +kernel
theorem dX12_wouldSit_70 : decode cX12_wouldSit 70 = .ok (.if_icmp .ne 7, 3) := by decide +kernel
theorem dX12_wouldSit_73 : decode cX12_wouldSit 73 = .ok (.iconst 1, 1) := by decide +kernel
theorem dX12_wouldSit_74 : decode cX12_wouldSit 74 = .ok (.goto 4, 3) := by decide +kernel
theorem dX12_wouldSit_77 : decode cX12_wouldSit 77 = .ok (.iconst 0, 1) := by decide +kernel
theorem dX12_wouldSit_78 : decode cX12_wouldSit 78 = .ok (.iastore, 1) := by decide +kernel
theorem dX12_wouldSit_79 : decode cX12_wouldSit 79 = .ok (.aload_n 0, 1) := by decide +kernel
theorem dX12_wouldSit_80 : decode cX12_wouldSit 80 = .ok (.getfield 112, 3) := by decide +kernel
theorem dX12_wouldSit_83 : decode cX12_wouldSit 83 = .ok (.iconst 4, 1) := by decide +kernel
theorem dX12_wouldSit_84 : decode cX12_wouldSit 84 = .ok (.aload_n 0, 1) := by decide +kernel
theorem dX12_wouldSit_85 : decode cX12_wouldSit 85 = .ok (.getfield 323, 3) := by decide +kernel
theorem dX12_wouldSit_88 : decode cX12_wouldSit 88 = .ok (.iastore, 1) := by decide +kernel
theorem dX12_wouldSit_89 : decode cX12_wouldSit 89 = .ok (.aload_n 0, 1) := by decide +kernel
theorem dX12_wouldSit_90 : decode cX12_wouldSit 90 = .ok (.aload_n 0, 1) := by decide +kernel
theorem dX12_wouldSit_91 : decode cX12_wouldSit 91 = .ok (.getfield 75, 3) := by decide +kernel
theorem dX12_wouldSit_94 : decode cX12_wouldSit 94 = .ok (.aload_n 0, 1) := by decide +kernel
theorem dX12_wouldSit_95 : decode cX12_wouldSit 95 = .ok (.getfield 42, 3) := by decide +kernel
theorem dX12_wouldSit_98 : decode cX12_wouldSit 98 = .ok (.iconst 5, 1) := by decide +kernel
theorem dX12_wouldSit_99 : decode cX12_wouldSit 99 = .ok (.iaload, 1) := by decide +kernel
theorem dX12_wouldSit_100 : decode cX12_wouldSit 100 = .ok (.invokevirtual 345, 3) := by decide +kernel
theorem dX12_wouldSit_103 : decode cX12_wouldSit 103 = .ok (.ifCond .le 7, 3) := by decide +kernel
theorem dX12_wouldSit_106 : decode cX12_wouldSit 106 = .ok (.iconst 1, 1) := by decide +kernel
theorem dX12_wouldSit_107 : decode cX12_wouldSit 107 = .ok (.goto 4, 3) := by decide +kernel
theorem dX12_wouldSit_110 : decode cX12_wouldSit 110 = .ok (.iconst 0, 1) := by decide +kernel
theorem dX12_wouldSit_111 : decode cX12_wouldSit 111 = .ok (.ireturn, 1) := by decide +kernel
set_option maxRecDepth 20000 in
theorem ggX12_wear_X12_sitterOf : GoodIn wsX12_wear wsX12_sitterOf := goodIn_r _ [12, 13, 14, 37, 38, 39, 40, 41, 42, 43, 44, 45, 46, 47, 48, 49, 50, 51, 52, 53, 54, 55, 56, 57, 58, 59, 60, 61, 62, 63, 64, 65, 66, 67, 68, 69, 70, 71, 72, 73, 74, 75, 76, 77, 78, 79, 80, 81, 82, 83, 84, 85, 86, 87, 88, 89, 90, 91, 92, 93, 94, 95, 96, 97, 98, 99, 100, 101] (by decide +kernel) (by decide +kernel)
set_option maxRecDepth 20000 in
theorem gX12_wear_X12_sitterOf : GoodIn wsX12_wear (wsV RX12 355 RX12 yX12_sitterOf wsX12_sitterOf) := goodIn_app (goodIn_of _ (by decide +kernel)) ggX12_wear_X12_sitterOf
set_option maxRecDepth 20000 in
theorem ggX12_wear_X12_wearsOf : GoodIn wsX12_wear wsX12_wearsOf := goodIn_r _ [18, 13, 19, 1, 20, 21, 22, 23, 4, 24, 2, 3, 5, 25, 26, 27, 11, 28, 29, 30, 31, 32, 33, 34, 35, 36, 37, 38, 39, 40, 41, 42, 43, 44, 45, 46, 47, 48, 49, 50, 51, 52, 53, 54, 55, 56, 57, 58, 59, 60, 61, 62, 63, 64, 65, 66, 67, 68, 69, 70, 71, 72, 73, 74, 75, 76, 77, 78, 79, 80, 81, 82, 83, 84, 85, 86, 87, 88, 89, 90, 91, 92, 93, 94, 95, 96, 97, 98, 99, 100, 101] (by decide +kernel) (by decide +kernel)
set_option maxRecDepth 20000 in
theorem gX12_wear_X12_wearsOf : GoodIn wsX12_wear (wsV RX12 358 RX12 yX12_wearsOf wsX12_wearsOf) := goodIn_app (goodIn_of _ (by decide +kernel)) ggX12_wear_X12_wearsOf
theorem dX12_wear_0 : decode cX12_wear 0 = .ok (.aload_n 0, 1) := by decide +kernel
theorem dX12_wear_1 : decode cX12_wear 1 = .ok (.getfield 94, 3) := by decide +kernel
theorem dX12_wear_4 : decode cX12_wear 4 = .ok (.iload_n 1, 1) := by decide +kernel
theorem dX12_wear_5 : decode cX12_wear 5 = .ok (.iaload, 1) := by decide +kernel
theorem dX12_wear_6 : decode cX12_wear 6 = .ok (.ifCond .eq 12, 3) := by decide +kernel
theorem dX12_wear_9 : decode cX12_wear 9 = .ok (.aload_n 0, 1) := by decide +kernel
theorem dX12_wear_10 : decode cX12_wear 10 = .ok (.iload_n 1, 1) := by decide +kernel
theorem dX12_wear_11 : decode cX12_wear 11 = .ok (.invokevirtual 355, 3) := by decide +kernel
theorem dX12_wear_14 : decode cX12_wear 14 = .ok (.iconst (-1), 1) := by decide +kernel
theorem dX12_wear_15 : decode cX12_wear 15 = .ok (.if_icmp .eq 4, 3) := by decide +kernel
theorem dX12_wear_18 : decode cX12_wear 18 = .ok (.return_, 1) := by decide +kernel
theorem dX12_wear_19 : decode cX12_wear 19 = .ok (.aload_n 0, 1) := by decide +kernel
theorem dX12_wear_20 : decode cX12_wear 20 = .ok (.getfield 94, 3) := by decide +kernel
theorem dX12_wear_23 : decode cX12_wear 23 = .ok (.iload_n 1, 1) := by decide +kernel
theorem dX12_wear_24 : decode cX12_wear 24 = .ok (.iconst 0, 1) := by decide +kernel
theorem dX12_wear_25 : decode cX12_wear 25 = .ok (.aload_n 0, 1) := by decide +kernel
theorem dX12_wear_26 : decode cX12_wear 26 = .ok (.getfield 94, 3) := by decide +kernel
theorem dX12_wear_29 : decode cX12_wear 29 = .ok (.iload_n 1, 1) := by decide +kernel
theorem dX12_wear_30 : decode cX12_wear 30 = .ok (.iaload, 1) := by decide +kernel
theorem dX12_wear_31 : decode cX12_wear 31 = .ok (.aload_n 0, 1) := by decide +kernel
theorem dX12_wear_32 : decode cX12_wear 32 = .ok (.iload_n 1, 1) := by decide +kernel
theorem dX12_wear_33 : decode cX12_wear 33 = .ok (.iload_n 2, 1) := by decide +kernel
theorem dX12_wear_34 : decode cX12_wear 34 = .ok (.invokevirtual 358, 3) := by decide +kernel
theorem dX12_wear_37 : decode cX12_wear 37 = .ok (.isub, 1) := by decide +kernel
theorem dX12_wear_38 : decode cX12_wear 38 = .ok (.invokestatic 349, 3) := by decide +kernel
theorem dX12_wear_41 : decode cX12_wear 41 = .ok (.iastore, 1) := by decide +kernel
theorem dX12_wear_42 : decode cX12_wear 42 = .ok (.aload_n 0, 1) := by decide +kernel
theorem dX12_wear_43 : decode cX12_wear 43 = .ok (.getfield 94, 3) := by decide +kernel
theorem dX12_wear_46 : decode cX12_wear 46 = .ok (.iload_n 1, 1) := by decide +kernel
theorem dX12_wear_47 : decode cX12_wear 47 = .ok (.iaload, 1) := by decide +kernel
theorem dX12_wear_48 : decode cX12_wear 48 = .ok (.ifCond .le 4, 3) := by decide +kernel
theorem dX12_wear_51 : decode cX12_wear 51 = .ok (.return_, 1) := by decide +kernel
theorem dX12_wear_52 : decode cX12_wear 52 = .ok (.aload_n 0, 1) := by decide +kernel
theorem dX12_wear_53 : decode cX12_wear 53 = .ok (.getfield 88, 3) := by decide +kernel
theorem dX12_wear_56 : decode cX12_wear 56 = .ok (.iload_n 1, 1) := by decide +kernel
theorem dX12_wear_57 : decode cX12_wear 57 = .ok (.iconst 0, 1) := by decide +kernel
theorem dX12_wear_58 : decode cX12_wear 58 = .ok (.iastore, 1) := by decide +kernel
theorem dX12_wear_59 : decode cX12_wear 59 = .ok (.aload_n 0, 1) := by decide +kernel
theorem dX12_wear_60 : decode cX12_wear 60 = .ok (.getfield 91, 3) := by decide +kernel
theorem dX12_wear_63 : decode cX12_wear 63 = .ok (.iload_n 1, 1) := by decide +kernel
theorem dX12_wear_64 : decode cX12_wear 64 = .ok (.iconst 0, 1) := by decide +kernel
theorem dX12_wear_65 : decode cX12_wear 65 = .ok (.iastore, 1) := by decide +kernel
theorem dX12_wear_66 : decode cX12_wear 66 = .ok (.return_, 1) := by decide +kernel
theorem dX12_nearer_0 : decode cX12_nearer 0 = .ok (.iload_n 0, 1) := by decide +kernel
theorem dX12_nearer_1 : decode cX12_nearer 1 = .ok (.iload_n 1, 1) := by decide +kernel
theorem dX12_nearer_2 : decode cX12_nearer 2 = .ok (.if_icmp .ge 9, 3) := by decide +kernel
theorem dX12_nearer_5 : decode cX12_nearer 5 = .ok (.iload_n 0, 1) := by decide +kernel
theorem dX12_nearer_6 : decode cX12_nearer 6 = .ok (.iconst 1, 1) := by decide +kernel
theorem dX12_nearer_7 : decode cX12_nearer 7 = .ok (.iadd, 1) := by decide +kernel
theorem dX12_nearer_8 : decode cX12_nearer 8 = .ok (.goto 15, 3) := by decide +kernel
theorem dX12_nearer_11 : decode cX12_nearer 11 = .ok (.iload_n 0, 1) := by decide +kernel
theorem dX12_nearer_12 : decode cX12_nearer 12 = .ok (.iload_n 1, 1) := by decide +kernel
theorem dX12_nearer_13 : decode cX12_nearer 13 = .ok (.if_icmp .le 9, 3) := by decide +kernel
theorem dX12_nearer_16 : decode cX12_nearer 16 = .ok (.iload_n 0, 1) := by decide +kernel
theorem dX12_nearer_17 : decode cX12_nearer 17 = .ok (.iconst 1, 1) := by decide +kernel
theorem dX12_nearer_18 : decode cX12_nearer 18 = .ok (.isub, 1) := by decide +kernel
theorem dX12_nearer_19 : decode cX12_nearer 19 = .ok (.goto 4, 3) := by decide +kernel
theorem dX12_nearer_22 : decode cX12_nearer 22 = .ok (.iload_n 0, 1) := by decide +kernel
theorem dX12_nearer_23 : decode cX12_nearer 23 = .ok (.ireturn, 1) := by decide +kernel
set_option maxRecDepth 20000 in
theorem ggX12_growOlder_X12_nearer : GoodIn wsX12_growOlder wsX12_nearer := goodIn_r _ [16] (by decide +kernel) (by decide +kernel)
set_option maxRecDepth 20000 in
theorem gX12_growOlder_X12_nearer : GoodIn wsX12_growOlder (va_wsS RX12 361 yX12_nearer wsX12_nearer) := goodIn_app (goodIn_of _ (by decide +kernel)) ggX12_growOlder_X12_nearer
theorem dX12_growOlder_0 : decode cX12_growOlder 0 = .ok (.aload_n 0, 1) := by decide +kernel
theorem dX12_growOlder_1 : decode cX12_growOlder 1 = .ok (.getfield 102, 3) := by decide +kernel
theorem dX12_growOlder_4 : decode cX12_growOlder 4 = .ok (.iload_n 1, 1) := by decide +kernel
theorem dX12_growOlder_5 : decode cX12_growOlder 5 = .ok (.bipush 99, 2) := by decide +kernel
theorem dX12_growOlder_7 : decode cX12_growOlder 7 = .ok (.aload_n 0, 1) := by decide +kernel
theorem dX12_growOlder_8 : decode cX12_growOlder 8 = .ok (.getfield 102, 3) := by decide +kernel
theorem dX12_growOlder_11 : decode cX12_growOlder 11 = .ok (.iload_n 1, 1) := by decide +kernel
theorem dX12_growOlder_12 : decode cX12_growOlder 12 = .ok (.iaload, 1) := by decide +kernel
theorem dX12_growOlder_13 : decode cX12_growOlder 13 = .ok (.iconst 1, 1) := by decide +kernel
theorem dX12_growOlder_14 : decode cX12_growOlder 14 = .ok (.iadd, 1) := by decide +kernel
theorem dX12_growOlder_15 : decode cX12_growOlder 15 = .ok (.invokestatic 200, 3) := by decide +kernel
theorem dX12_growOlder_18 : decode cX12_growOlder 18 = .ok (.iastore, 1) := by decide +kernel
theorem dX12_growOlder_19 : decode cX12_growOlder 19 = .ok (.aload_n 0, 1) := by decide +kernel
theorem dX12_growOlder_20 : decode cX12_growOlder 20 = .ok (.getfield 104, 3) := by decide +kernel
theorem dX12_growOlder_23 : decode cX12_growOlder 23 = .ok (.iload_n 1, 1) := by decide +kernel
theorem dX12_growOlder_24 : decode cX12_growOlder 24 = .ok (.iaload, 1) := by decide +kernel
theorem dX12_growOlder_25 : decode cX12_growOlder 25 = .ok (.istore_n 2, 1) := by decide +kernel
theorem dX12_growOlder_26 : decode cX12_growOlder 26 = .ok (.aload_n 0, 1) := by decide +kernel
theorem dX12_growOlder_27 : decode cX12_growOlder 27 = .ok (.getfield 102, 3) := by decide +kernel
theorem dX12_growOlder_30 : decode cX12_growOlder 30 = .ok (.iload_n 1, 1) := by decide +kernel
theorem dX12_growOlder_31 : decode cX12_growOlder 31 = .ok (.iaload, 1) := by decide +kernel
theorem dX12_growOlder_32 : decode cX12_growOlder 32 = .ok (.aload_n 0, 1) := by decide +kernel
theorem dX12_growOlder_33 : decode cX12_growOlder 33 = .ok (.getfield 42, 3) := by decide +kernel
theorem dX12_growOlder_36 : decode cX12_growOlder 36 = .ok (.iconst 3, 1) := by decide +kernel
theorem dX12_growOlder_37 : decode cX12_growOlder 37 = .ok (.iaload, 1) := by decide +kernel
theorem dX12_growOlder_38 : decode cX12_growOlder 38 = .ok (.if_icmp .lt 18, 3) := by decide +kernel
theorem dX12_growOlder_41 : decode cX12_growOlder 41 = .ok (.aload_n 0, 1) := by decide +kernel
theorem dX12_growOlder_42 : decode cX12_growOlder 42 = .ok (.getfield 55, 3) := by decide +kernel
theorem dX12_growOlder_45 : decode cX12_growOlder 45 = .ok (.iload_n 1, 1) := by decide +kernel
theorem dX12_growOlder_46 : decode cX12_growOlder 46 = .ok (.iaload, 1) := by decide +kernel
theorem dX12_growOlder_47 : decode cX12_growOlder 47 = .ok (.iconst 1, 1) := by decide +kernel
theorem dX12_growOlder_48 : decode cX12_growOlder 48 = .ok (.if_icmp .eq 8, 3) := by decide +kernel
theorem dX12_growOlder_51 : decode cX12_growOlder 51 = .ok (.iload_n 2, 1) := by decide +kernel
theorem dX12_growOlder_52 : decode cX12_growOlder 52 = .ok (.iconst (-1), 1) := by decide +kernel
theorem dX12_growOlder_53 : decode cX12_growOlder 53 = .ok (.if_icmp .ne 4, 3) := by decide +kernel
theorem dX12_growOlder_56 : decode cX12_growOlder 56 = .ok (.return_, 1) := by decide +kernel
theorem dX12_growOlder_57 : decode cX12_growOlder 57 = .ok (.aload_n 0, 1) := by decide +kernel
theorem dX12_growOlder_58 : decode cX12_growOlder 58 = .ok (.getfield 96, 3) := by decide +kernel
theorem dX12_growOlder_61 : decode cX12_growOlder 61 = .ok (.iload_n 1, 1) := by decide +kernel
theorem dX12_growOlder_62 : decode cX12_growOlder 62 = .ok (.aload_n 0, 1) := by decide +kernel
theorem dX12_growOlder_63 : decode cX12_growOlder 63 = .ok (.getfield 96, 3) := by decide +kernel
theorem dX12_growOlder_66 : decode cX12_growOlder 66 = .ok (.iload_n 1, 1) := by decide +kernel
theorem dX12_growOlder_67 : decode cX12_growOlder 67 = .ok (.iaload, 1) := by decide +kernel
theorem dX12_growOlder_68 : decode cX12_growOlder 68 = .ok (.aload_n 0, 1) := by decide +kernel
theorem dX12_growOlder_69 : decode cX12_growOlder 69 = .ok (.getfield 88, 3) := by decide +kernel
theorem dX12_growOlder_72 : decode cX12_growOlder 72 = .ok (.iload_n 2, 1) := by decide +kernel
theorem dX12_growOlder_73 : decode cX12_growOlder 73 = .ok (.iaload, 1) := by decide +kernel
theorem dX12_growOlder_74 : decode cX12_growOlder 74 = .ok (.invokestatic 361, 3) := by decide +kernel
theorem dX12_growOlder_77 : decode cX12_growOlder 77 = .ok (.iastore, 1) := by decide +kernel
theorem dX12_growOlder_78 : decode cX12_growOlder 78 = .ok (.aload_n 0, 1) := by decide +kernel
theorem dX12_growOlder_79 : decode cX12_growOlder 79 = .ok (.getfield 99, 3) := by decide +kernel
theorem dX12_growOlder_82 : decode cX12_growOlder 82 = .ok (.iload_n 1, 1) := by decide +kernel
theorem dX12_growOlder_83 : decode cX12_growOlder 83 = .ok (.aload_n 0, 1) := by decide +kernel
theorem dX12_growOlder_84 : decode cX12_growOlder 84 = .ok (.getfield 99, 3) := by decide +kernel
theorem dX12_growOlder_87 : decode cX12_growOlder 87 = .ok (.iload_n 1, 1) := by decide +kernel
theorem dX12_growOlder_88 : decode cX12_growOlder 88 = .ok (.iaload, 1) := by decide +kernel
theorem dX12_growOlder_89 : decode cX12_growOlder 89 = .ok (.aload_n 0, 1) := by decide +kernel
theorem dX12_growOlder_90 : decode cX12_growOlder 90 = .ok (.getfield 91, 3) := by decide +kernel
theorem dX12_growOlder_93 : decode cX12_growOlder 93 = .ok (.iload_n 2, 1) := by decide +kernel
theorem dX12_growOlder_94 : decode cX12_growOlder 94 = .ok (.iaload, 1) := by decide +kernel
theorem dX12_growOlder_95 : decode cX12_growOlder 95 = .ok (.invokestatic 361, 3) := by decide +kernel
theorem dX12_growOlder_98 : decode cX12_growOlder 98 = .ok (.iastore, 1) := by decide +kernel
theorem dX12_growOlder_99 : decode cX12_growOlder 99 = .ok (.return_, 1) := by decide +kernel
set_option maxRecDepth 20000 in
theorem ggX12_mostLike_X12_sitterOf : GoodIn wsX12_mostLike wsX12_sitterOf := goodIn_r _ [6, 1, 7, 20, 21, 22, 23, 24, 25, 26, 27, 28, 29, 30, 31, 32, 33, 34, 35, 36, 37, 38, 39, 40, 41, 42, 43, 44, 45, 46, 47, 48, 49, 50, 51, 52, 53, 54, 55, 56, 57, 58, 59, 60, 61, 62, 63, 64, 65, 66, 67, 68, 69, 70, 71, 72, 73, 74, 75, 76, 77, 78, 79, 80, 81, 82, 83, 84] (by decide +kernel) (by decide +kernel)
set_option maxRecDepth 20000 in
theorem gX12_mostLike_X12_sitterOf : GoodIn wsX12_mostLike (wsV RX12 355 RX12 yX12_sitterOf wsX12_sitterOf) := goodIn_app (goodIn_of _ (by decide +kernel)) ggX12_mostLike_X12_sitterOf
set_option maxRecDepth 20000 in
theorem ggX12_mostLike_X12_unlikeOf : GoodIn wsX12_mostLike wsX12_unlikeOf := goodIn_r _ [11, 12, 13, 14, 15, 16, 17, 18, 19, 20, 21, 22, 23, 24, 25, 26, 27, 28, 29, 30, 31, 32, 33, 34, 35, 36, 37, 38, 39, 40, 41, 42, 43, 44, 45, 46, 47, 48, 49, 50, 51, 52, 53, 54, 55, 56, 57, 58, 59, 60, 61, 62, 63, 64, 65, 66, 67, 68, 69, 70, 71, 72, 73, 74, 75, 76, 77, 78, 79, 80, 81, 82, 83, 84] (by decide +kernel) (by decide +kernel)
set_option maxRecDepth 20000 in
theorem gX12_mostLike_X12_unlikeOf : GoodIn wsX12_mostLike (wsV RX12 352 RX12 yX12_unlikeOf wsX12_unlikeOf) := goodIn_app (goodIn_of _ (by decide +kernel)) ggX12_mostLike_X12_unlikeOf
theorem dX12_mostLike_0 : decode cX12_mostLike 0 = .ok (.iconst (-1), 1) := by decide +kernel
theorem dX12_mostLike_1 : decode cX12_mostLike 1 = .ok (.istore_n 3, 1) := by decide +kernel
theorem dX12_mostLike_2 : decode cX12_mostLike 2 = .ok (.iconst 0, 1) := by decide +kernel
theorem dX12_mostLike_3 : decode cX12_mostLike 3 = .ok (.istore 4, 2) := by decide +kernel
theorem dX12_mostLike_5 : decode cX12_mostLike 5 = .ok (.iload 4, 2) := by decide +kernel
theorem dX12_mostLike_7 : decode cX12_mostLike 7 = .ok (.aload_n 0, 1) := by decide +kernel
theorem dX12_mostLike_8 : decode cX12_mostLike 8 = .ok (.getfield 42, 3) := by decide +kernel
theorem dX12_mostLike_11 : decode cX12_mostLike 11 = .ok (.iconst 0, 1) := by decide +kernel
theorem dX12_mostLike_12 : decode cX12_mostLike 12 = .ok (.iaload, 1) := by decide +kernel
theorem dX12_mostLike_13 : decode cX12_mostLike 13 = .ok (.if_icmp .ge 50, 3) := by decide +kernel
theorem dX12_mostLike_16 : decode cX12_mostLike 16 = .ok (.iload_n 2, 1) := by decide +kernel
theorem dX12_mostLike_17 : decode cX12_mostLike 17 = .ok (.ifCond .eq 16, 3) := by decide +kernel
theorem dX12_mostLike_20 : decode cX12_mostLike 20 = .ok (.aload_n 0, 1) := by decide +kernel
theorem dX12_mostLike_21 : decode cX12_mostLike 21 = .ok (.iload 4, 2) := by decide +kernel
theorem dX12_mostLike_23 : decode cX12_mostLike 23 = .ok (.invokevirtual 355, 3) := by decide +kernel
theorem dX12_mostLike_26 : decode cX12_mostLike 26 = .ok (.iconst (-1), 1) := by decide +kernel
theorem dX12_mostLike_27 : decode cX12_mostLike 27 = .ok (.if_icmp .eq 6, 3) := by decide +kernel
theorem dX12_mostLike_30 : decode cX12_mostLike 30 = .ok (.goto 27, 3) := by decide +kernel
theorem dX12_mostLike_33 : decode cX12_mostLike 33 = .ok (.iload_n 3, 1) := by decide +kernel
theorem dX12_mostLike_34 : decode cX12_mostLike 34 = .ok (.iconst (-1), 1) := by decide +kernel
theorem dX12_mostLike_35 : decode cX12_mostLike 35 = .ok (.if_icmp .eq 19, 3) := by decide +kernel
theorem dX12_mostLike_38 : decode cX12_mostLike 38 = .ok (.aload_n 0, 1) := by decide +kernel
theorem dX12_mostLike_39 : decode cX12_mostLike 39 = .ok (.iload_n 1, 1) := by decide +kernel
theorem dX12_mostLike_40 : decode cX12_mostLike 40 = .ok (.iload 4, 2) := by decide +kernel
theorem dX12_mostLike_42 : decode cX12_mostLike 42 = .ok (.invokevirtual 352, 3) := by decide +kernel
theorem dX12_mostLike_45 : decode cX12_mostLike 45 = .ok (.aload_n 0, 1) := by decide +kernel
theorem dX12_mostLike_46 : decode cX12_mostLike 46 = .ok (.iload_n 1, 1) := by decide +kernel
theorem dX12_mostLike_47 : decode cX12_mostLike 47 = .ok (.iload_n 3, 1) := by decide +kernel
theorem dX12_mostLike_48 : decode cX12_mostLike 48 = .ok (.invokevirtual 352, 3) := by decide +kernel
theorem dX12_mostLike_51 : decode cX12_mostLike 51 = .ok (.if_icmp .ge 6, 3) := by decide +kernel
theorem dX12_mostLike_54 : decode cX12_mostLike 54 = .ok (.iload 4, 2) := by decide +kernel
theorem dX12_mostLike_56 : decode cX12_mostLike 56 = .ok (.istore_n 3, 1) := by decide +kernel
theorem dX12_mostLike_57 : decode cX12_mostLike 57 = .ok (.iinc 4 1, 3) := by decide +kernel
theorem dX12_mostLike_60 : decode cX12_mostLike 60 = .ok (.goto (-55), 3) := by decide +kernel
theorem dX12_mostLike_63 : decode cX12_mostLike 63 = .ok (.iload_n 3, 1) := by decide +kernel
theorem dX12_mostLike_64 : decode cX12_mostLike 64 = .ok (.ireturn, 1) := by decide +kernel
set_option maxRecDepth 20000 in
theorem ggX12_seek_X12_wouldSit : GoodIn wsX12_seek wsX12_wouldSit := goodIn_r _ [7, 8, 9, 10, 11, 12, 13, 14, 15, 16, 17, 6, 18, 19, 20, 21, 22, 23, 24, 25, 26, 27, 28, 29, 30, 31, 32, 33, 34, 43, 44, 45, 46, 47, 48, 49, 50, 51, 52, 53, 54, 55, 56, 57, 58, 59, 60, 61, 62, 63, 64, 65, 66, 67, 68, 69, 70, 71, 72, 73, 74, 75, 76, 77, 78, 79, 80, 81, 82, 83, 84, 85, 86, 87, 88, 89, 90, 91, 92, 93, 94, 95, 96, 97, 98, 99, 100, 101, 102, 103, 104, 105, 106, 107] (by decide +kernel) (by decide +kernel)
set_option maxRecDepth 20000 in
theorem gX12_seek_X12_wouldSit : GoodIn wsX12_seek (wsV RX12 364 RX12 yX12_wouldSit wsX12_wouldSit) := goodIn_app (goodIn_of _ (by decide +kernel)) ggX12_seek_X12_wouldSit
set_option maxRecDepth 20000 in
theorem ggX12_seek_X12_mostLike : GoodIn wsX12_seek wsX12_mostLike := goodIn_r _ [38, 8, 39, 40, 41, 6, 42, 1, 15, 16, 17, 18, 19, 20, 21, 22, 23, 24, 25, 26, 43, 44, 45, 46, 47, 48, 49, 50, 51, 52, 53, 54, 55, 56, 57, 58, 59, 60, 61, 62, 63, 64, 65, 66, 67, 68, 69, 70, 71, 72, 73, 74, 75, 76, 77, 78, 79, 80, 81, 82, 83, 84, 85, 86, 87, 88, 89, 90, 91, 92, 93, 94, 95, 96, 97, 98, 99, 100, 101, 102, 103, 104, 105, 106, 107] (by decide +kernel) (by decide +kernel)
set_option maxRecDepth 20000 in
theorem gX12_seek_X12_mostLike : GoodIn wsX12_seek (wsV RX12 367 RX12 yX12_mostLike wsX12_mostLike) := goodIn_app (goodIn_of _ (by decide +kernel)) ggX12_seek_X12_mostLike
theorem dX12_seek_0 : decode cX12_seek 0 = .ok (.aload_n 0, 1) := by decide +kernel
theorem dX12_seek_1 : decode cX12_seek 1 = .ok (.getfield 106, 3) := by decide +kernel
theorem dX12_seek_4 : decode cX12_seek 4 = .ok (.iload_n 1, 1) := by decide +kernel
theorem dX12_seek_5 : decode cX12_seek 5 = .ok (.iaload, 1) := by decide +kernel
theorem dX12_seek_6 : decode cX12_seek 6 = .ok (.iconst (-1), 1) := by decide +kernel
theorem dX12_seek_7 : decode cX12_seek 7 = .ok (.if_icmp .eq 25, 3) := by decide +kernel
theorem dX12_seek_10 : decode cX12_seek 10 = .ok (.aload_n 0, 1) := by decide +kernel
theorem dX12_seek_11 : decode cX12_seek 11 = .ok (.iload_n 1, 1) := by decide +kernel
theorem dX12_seek_12 : decode cX12_seek 12 = .ok (.aload_n 0, 1) := by decide +kernel
theorem dX12_seek_13 : decode cX12_seek 13 = .ok (.getfield 106, 3) := by decide +kernel
theorem dX12_seek_16 : decode cX12_seek 16 = .ok (.iload_n 1, 1) := by decide +kernel
theorem dX12_seek_17 : decode cX12_seek 17 = .ok (.iaload, 1) := by decide +kernel
theorem dX12_seek_18 : decode cX12_seek 18 = .ok (.invokevirtual 364, 3) := by decide +kernel
theorem dX12_seek_21 : decode cX12_seek 21 = .ok (.ifCond .ne 10, 3) := by decide +kernel
theorem dX12_seek_24 : decode cX12_seek 24 = .ok (.aload_n 0, 1) := by decide +kernel
theorem dX12_seek_25 : decode cX12_seek 25 = .ok (.getfield 106, 3) := by decide +kernel
theorem dX12_seek_28 : decode cX12_seek 28 = .ok (.iload_n 1, 1) := by decide +kernel
theorem dX12_seek_29 : decode cX12_seek 29 = .ok (.iconst (-1), 1) := by decide +kernel
theorem dX12_seek_30 : decode cX12_seek 30 = .ok (.iastore, 1) := by decide +kernel
theorem dX12_seek_31 : decode cX12_seek 31 = .ok (.return_, 1) := by decide +kernel
theorem dX12_seek_32 : decode cX12_seek 32 = .ok (.aload_n 0, 1) := by decide +kernel
theorem dX12_seek_33 : decode cX12_seek 33 = .ok (.iload_n 1, 1) := by decide +kernel
theorem dX12_seek_34 : decode cX12_seek 34 = .ok (.iconst 1, 1) := by decide +kernel
theorem dX12_seek_35 : decode cX12_seek 35 = .ok (.invokevirtual 367, 3) := by decide +kernel
theorem dX12_seek_38 : decode cX12_seek 38 = .ok (.istore_n 2, 1) := by decide +kernel
theorem dX12_seek_39 : decode cX12_seek 39 = .ok (.iload_n 2, 1) := by decide +kernel
theorem dX12_seek_40 : decode cX12_seek 40 = .ok (.iconst (-1), 1) := by decide +kernel
theorem dX12_seek_41 : decode cX12_seek 41 = .ok (.if_icmp .eq 12, 3) := by decide +kernel
theorem dX12_seek_44 : decode cX12_seek 44 = .ok (.aload_n 0, 1) := by decide +kernel
theorem dX12_seek_45 : decode cX12_seek 45 = .ok (.iload_n 1, 1) := by decide +kernel
theorem dX12_seek_46 : decode cX12_seek 46 = .ok (.iload_n 2, 1) := by decide +kernel
theorem dX12_seek_47 : decode cX12_seek 47 = .ok (.invokevirtual 364, 3) := by decide +kernel
theorem dX12_seek_50 : decode cX12_seek 50 = .ok (.ifCond .ne 4, 3) := by decide +kernel
theorem dX12_seek_53 : decode cX12_seek 53 = .ok (.return_, 1) := by decide +kernel
theorem dX12_seek_54 : decode cX12_seek 54 = .ok (.aload_n 0, 1) := by decide +kernel
theorem dX12_seek_55 : decode cX12_seek 55 = .ok (.getfield 106, 3) := by decide +kernel
theorem dX12_seek_58 : decode cX12_seek 58 = .ok (.iload_n 1, 1) := by decide +kernel
theorem dX12_seek_59 : decode cX12_seek 59 = .ok (.iload_n 2, 1) := by decide +kernel
theorem dX12_seek_60 : decode cX12_seek 60 = .ok (.iastore, 1) := by decide +kernel
theorem dX12_seek_61 : decode cX12_seek 61 = .ok (.aload_n 0, 1) := by decide +kernel
theorem dX12_seek_62 : decode cX12_seek 62 = .ok (.dup, 1) := by decide +kernel
theorem dX12_seek_63 : decode cX12_seek 63 = .ok (.getfield 371, 3) := by decide +kernel
theorem dX12_seek_66 : decode cX12_seek 66 = .ok (.iconst 1, 1) := by decide +kernel
theorem dX12_seek_67 : decode cX12_seek 67 = .ok (.iadd, 1) := by decide +kernel
theorem dX12_seek_68 : decode cX12_seek 68 = .ok (.putfield 371, 3) := by decide +kernel
theorem dX12_seek_71 : decode cX12_seek 71 = .ok (.return_, 1) := by decide +kernel
set_option maxRecDepth 20000 in
theorem ggX12_aYearOf_X12_wear : GoodIn wsX12_aYearOf wsX12_wear := goodIn_r _ [7, 8, 9, 10, 11, 12, 13, 14, 15, 16, 17, 6, 18, 1, 19, 20, 21, 22, 23, 24, 2, 25, 26, 27, 28, 29, 30, 31, 32, 33, 34, 35, 36, 37, 38, 39, 40, 74, 75, 76, 77, 78, 79, 80, 81, 82, 83, 84, 85, 86, 87, 88, 89, 90, 91, 92, 93, 94, 95, 96, 97, 98, 99, 100, 101, 102, 103, 104, 105, 106, 107, 108, 109, 110, 111, 112, 113, 114, 115, 116, 117, 118, 119, 120, 121, 122, 123, 124, 125, 126, 127, 128, 129, 130, 131, 132, 133, 134, 135, 136, 137, 138] (by decide +kernel) (by decide +kernel)
set_option maxRecDepth 20000 in
theorem gX12_aYearOf_X12_wear : GoodIn wsX12_aYearOf (wsV RX12 374 RX12 yX12_wear wsX12_wear) := goodIn_app (goodIn_of _ (by decide +kernel)) ggX12_aYearOf_X12_wear
set_option maxRecDepth 20000 in
theorem ggX12_aYearOf_X12_growOlder : GoodIn wsX12_aYearOf wsX12_growOlder := goodIn_r _ [44, 45, 26, 27, 11, 28, 46, 1, 47, 48, 13, 49, 14, 50, 51, 6, 52, 74, 75, 76, 77, 78, 79, 80, 81, 82, 83, 84, 85, 86, 87, 88, 89, 90, 91, 92, 93, 94, 95, 96, 97, 98, 99, 100, 101, 102, 103, 104, 105, 106, 107, 108, 109, 110, 111, 112, 113, 114, 115, 116, 117, 118, 119, 120, 121, 122, 123, 124, 125, 126, 127, 128, 129, 130, 131, 132, 133, 134, 135, 136, 137, 138] (by decide +kernel) (by decide +kernel)
set_option maxRecDepth 20000 in
theorem gX12_aYearOf_X12_growOlder : GoodIn wsX12_aYearOf (wsV RX12 378 RX12 yX12_growOlder wsX12_growOlder) := goodIn_app (goodIn_of _ (by decide +kernel)) ggX12_aYearOf_X12_growOlder
set_option maxRecDepth 20000 in
theorem ggX12_aYearOf_X12_seek : GoodIn wsX12_aYearOf wsX12_seek := goodIn_r _ [56, 19, 57, 58, 59, 60, 6, 61, 1, 24, 45, 8, 46, 2, 62, 63, 64, 65, 66, 48, 13, 67, 68, 11, 69, 49, 14, 33, 34, 35, 36, 37, 38, 39, 40, 70, 71, 72, 73, 15, 16, 17, 18, 74, 75, 76, 77, 78, 79, 80, 81, 82, 83, 84, 85, 86, 87, 88, 89, 90, 91, 92, 93, 94, 95, 96, 97, 98, 99, 100, 101, 102, 103, 104, 105, 106, 107, 108, 109, 110, 111, 112, 113, 114, 115, 116, 117, 118, 119, 120, 121, 122, 123, 124, 125, 126, 127, 128, 129, 130, 131, 132, 133, 134, 135, 136, 137, 138] (by decide +kernel) (by decide +kernel)
set_option maxRecDepth 20000 in
theorem gX12_aYearOf_X12_seek : GoodIn wsX12_aYearOf (wsV RX12 381 RX12 yX12_seek wsX12_seek) := goodIn_app (goodIn_of _ (by decide +kernel)) ggX12_aYearOf_X12_seek
theorem dX12_aYearOf_0 : decode cX12_aYearOf 0 = .ok (.iconst 0, 1) := by decide +kernel
theorem dX12_aYearOf_1 : decode cX12_aYearOf 1 = .ok (.istore_n 2, 1) := by decide +kernel
theorem dX12_aYearOf_2 : decode cX12_aYearOf 2 = .ok (.iload_n 2, 1) := by decide +kernel
theorem dX12_aYearOf_3 : decode cX12_aYearOf 3 = .ok (.aload_n 0, 1) := by decide +kernel
theorem dX12_aYearOf_4 : decode cX12_aYearOf 4 = .ok (.getfield 42, 3) := by decide +kernel
theorem dX12_aYearOf_7 : decode cX12_aYearOf 7 = .ok (.iconst 0, 1) := by decide +kernel
theorem dX12_aYearOf_8 : decode cX12_aYearOf 8 = .ok (.iaload, 1) := by decide +kernel
theorem dX12_aYearOf_9 : decode cX12_aYearOf 9 = .ok (.if_icmp .ge 15, 3) := by decide +kernel
theorem dX12_aYearOf_12 : decode cX12_aYearOf 12 = .ok (.aload_n 0, 1) := by decide +kernel
theorem dX12_aYearOf_13 : decode cX12_aYearOf 13 = .ok (.iload_n 2, 1) := by decide +kernel
theorem dX12_aYearOf_14 : decode cX12_aYearOf 14 = .ok (.iload_n 1, 1) := by decide +kernel
theorem dX12_aYearOf_15 : decode cX12_aYearOf 15 = .ok (.invokevirtual 374, 3) := by decide +kernel
theorem dX12_aYearOf_18 : decode cX12_aYearOf 18 = .ok (.iinc 2 1, 3) := by decide +kernel
theorem dX12_aYearOf_21 : decode cX12_aYearOf 21 = .ok (.goto (-19), 3) := by decide +kernel
theorem dX12_aYearOf_24 : decode cX12_aYearOf 24 = .ok (.iconst 0, 1) := by decide +kernel
theorem dX12_aYearOf_25 : decode cX12_aYearOf 25 = .ok (.istore_n 2, 1) := by decide +kernel
theorem dX12_aYearOf_26 : decode cX12_aYearOf 26 = .ok (.iload_n 2, 1) := by decide +kernel
theorem dX12_aYearOf_27 : decode cX12_aYearOf 27 = .ok (.aload_n 0, 1) := by decide +kernel
theorem dX12_aYearOf_28 : decode cX12_aYearOf 28 = .ok (.getfield 42, 3) := by decide +kernel
theorem dX12_aYearOf_31 : decode cX12_aYearOf 31 = .ok (.iconst 1, 1) := by decide +kernel
theorem dX12_aYearOf_32 : decode cX12_aYearOf 32 = .ok (.iaload, 1) := by decide +kernel
theorem dX12_aYearOf_33 : decode cX12_aYearOf 33 = .ok (.if_icmp .ge 14, 3) := by decide +kernel
theorem dX12_aYearOf_36 : decode cX12_aYearOf 36 = .ok (.aload_n 0, 1) := by decide +kernel
theorem dX12_aYearOf_37 : decode cX12_aYearOf 37 = .ok (.iload_n 2, 1) := by decide +kernel
theorem dX12_aYearOf_38 : decode cX12_aYearOf 38 = .ok (.invokevirtual 378, 3) := by decide +kernel
theorem dX12_aYearOf_41 : decode cX12_aYearOf 41 = .ok (.iinc 2 1, 3) := by decide +kernel
theorem dX12_aYearOf_44 : decode cX12_aYearOf 44 = .ok (.goto (-18), 3) := by decide +kernel
theorem dX12_aYearOf_47 : decode cX12_aYearOf 47 = .ok (.iconst 0, 1) := by decide +kernel
theorem dX12_aYearOf_48 : decode cX12_aYearOf 48 = .ok (.istore_n 2, 1) := by decide +kernel
theorem dX12_aYearOf_49 : decode cX12_aYearOf 49 = .ok (.iload_n 2, 1) := by decide +kernel
theorem dX12_aYearOf_50 : decode cX12_aYearOf 50 = .ok (.aload_n 0, 1) := by decide +kernel
theorem dX12_aYearOf_51 : decode cX12_aYearOf 51 = .ok (.getfield 42, 3) := by decide +kernel
theorem dX12_aYearOf_54 : decode cX12_aYearOf 54 = .ok (.iconst 1, 1) := by decide +kernel
theorem dX12_aYearOf_55 : decode cX12_aYearOf 55 = .ok (.iaload, 1) := by decide +kernel
theorem dX12_aYearOf_56 : decode cX12_aYearOf 56 = .ok (.if_icmp .ge 14, 3) := by decide +kernel
theorem dX12_aYearOf_59 : decode cX12_aYearOf 59 = .ok (.aload_n 0, 1) := by decide +kernel
theorem dX12_aYearOf_60 : decode cX12_aYearOf 60 = .ok (.iload_n 2, 1) := by decide +kernel
theorem dX12_aYearOf_61 : decode cX12_aYearOf 61 = .ok (.invokevirtual 381, 3) := by decide +kernel
theorem dX12_aYearOf_64 : decode cX12_aYearOf 64 = .ok (.iinc 2 1, 3) := by decide +kernel
theorem dX12_aYearOf_67 : decode cX12_aYearOf 67 = .ok (.goto (-18), 3) := by decide +kernel
theorem dX12_aYearOf_70 : decode cX12_aYearOf 70 = .ok (.aload_n 0, 1) := by decide +kernel
theorem dX12_aYearOf_71 : decode cX12_aYearOf 71 = .ok (.dup, 1) := by decide +kernel
theorem dX12_aYearOf_72 : decode cX12_aYearOf 72 = .ok (.getfield 323, 3) := by decide +kernel
theorem dX12_aYearOf_75 : decode cX12_aYearOf 75 = .ok (.iconst 1, 1) := by decide +kernel
theorem dX12_aYearOf_76 : decode cX12_aYearOf 76 = .ok (.iadd, 1) := by decide +kernel
theorem dX12_aYearOf_77 : decode cX12_aYearOf 77 = .ok (.putfield 323, 3) := by decide +kernel
theorem dX12_aYearOf_80 : decode cX12_aYearOf 80 = .ok (.return_, 1) := by decide +kernel
set_option maxRecDepth 20000 in
theorem ggX12_goOn_X12_rainOf : GoodIn wsX12_goOn wsX12_rainOf := goodIn_r _ [6, 7, 8, 83, 84, 85, 86, 87, 88, 89, 90, 91, 92, 93, 94, 95, 96, 97, 98, 99, 100, 101, 102, 103, 104, 105, 106, 107, 108, 109, 110, 111, 112, 113, 114, 115, 116, 117, 118, 119, 120, 121, 122, 123, 124, 125, 126, 127, 128, 129, 130, 131, 132, 133, 134, 135, 136, 137, 138, 139, 140, 141, 142, 143, 144, 145, 146, 147] (by decide +kernel) (by decide +kernel)
set_option maxRecDepth 20000 in
theorem gX12_goOn_X12_rainOf : GoodIn wsX12_goOn (wsV RX12 384 RX12 yX12_rainOf wsX12_rainOf) := goodIn_app (goodIn_of _ (by decide +kernel)) ggX12_goOn_X12_rainOf
set_option maxRecDepth 20000 in
theorem ggX12_goOn_X12_aYearOf : GoodIn wsX12_goOn wsX12_aYearOf := goodIn_r _ [12, 7, 1, 13, 14, 15, 5, 16, 17, 18, 19, 20, 21, 22, 23, 24, 25, 26, 27, 28, 29, 30, 31, 32, 33, 34, 35, 36, 37, 38, 39, 40, 41, 42, 43, 44, 45, 46, 47, 48, 49, 50, 51, 52, 53, 54, 55, 56, 57, 58, 59, 60, 61, 62, 63, 64, 65, 66, 67, 68, 69, 70, 71, 72, 73, 74, 75, 76, 77, 78, 79, 80, 81, 82, 83, 84, 85, 86, 87, 88, 89, 90, 91, 92, 93, 94, 95, 96, 97, 98, 99, 100, 101, 102, 103, 104, 105, 106, 107, 108, 109, 110, 111, 112, 113, 114, 115, 116, 117, 118, 119, 120, 121, 122, 123, 124, 125, 126, 127, 128, 129, 130, 131, 132, 133, 134, 135, 136, 137, 138, 139, 140, 141, 142, 143, 144, 145, 146, 147] (by decide +kernel) (by decide +kernel)
set_option maxRecDepth 20000 in
theorem gX12_goOn_X12_aYearOf : GoodIn wsX12_goOn (wsV RX12 387 RX12 yX12_aYearOf wsX12_aYearOf) := goodIn_app (goodIn_of _ (by decide +kernel)) ggX12_goOn_X12_aYearOf
theorem dX12_goOn_0 : decode cX12_goOn 0 = .ok (.iconst 0, 1) := by decide +kernel
theorem dX12_goOn_1 : decode cX12_goOn 1 = .ok (.istore_n 2, 1) := by decide +kernel
theorem dX12_goOn_2 : decode cX12_goOn 2 = .ok (.iload_n 2, 1) := by decide +kernel
theorem dX12_goOn_3 : decode cX12_goOn 3 = .ok (.iload_n 1, 1) := by decide +kernel
theorem dX12_goOn_4 : decode cX12_goOn 4 = .ok (.if_icmp .ge 21, 3) := by decide +kernel
theorem dX12_goOn_7 : decode cX12_goOn 7 = .ok (.aload_n 0, 1) := by decide +kernel
theorem dX12_goOn_8 : decode cX12_goOn 8 = .ok (.aload_n 0, 1) := by decide +kernel
theorem dX12_goOn_9 : decode cX12_goOn 9 = .ok (.aload_n 0, 1) := by decide +kernel
theorem dX12_goOn_10 : decode cX12_goOn 10 = .ok (.getfield 323, 3) := by decide +kernel
theorem dX12_goOn_13 : decode cX12_goOn 13 = .ok (.invokevirtual 384, 3) := by decide +kernel
theorem dX12_goOn_16 : decode cX12_goOn 16 = .ok (.invokevirtual 387, 3) := by decide +kernel
theorem dX12_goOn_19 : decode cX12_goOn 19 = .ok (.iinc 2 1, 3) := by decide +kernel
theorem dX12_goOn_22 : decode cX12_goOn 22 = .ok (.goto (-20), 3) := by decide +kernel
theorem dX12_goOn_25 : decode cX12_goOn 25 = .ok (.return_, 1) := by decide +kernel
theorem dX12_loaves_0 : decode cX12_loaves 0 = .ok (.iconst 0, 1) := by decide +kernel
theorem dX12_loaves_1 : decode cX12_loaves 1 = .ok (.istore_n 1, 1) := by decide +kernel
theorem dX12_loaves_2 : decode cX12_loaves 2 = .ok (.iconst 0, 1) := by decide +kernel
theorem dX12_loaves_3 : decode cX12_loaves 3 = .ok (.istore_n 2, 1) := by decide +kernel
theorem dX12_loaves_4 : decode cX12_loaves 4 = .ok (.iload_n 2, 1) := by decide +kernel
theorem dX12_loaves_5 : decode cX12_loaves 5 = .ok (.aload_n 0, 1) := by decide +kernel
theorem dX12_loaves_6 : decode cX12_loaves 6 = .ok (.getfield 42, 3) := by decide +kernel
theorem dX12_loaves_9 : decode cX12_loaves 9 = .ok (.iconst 0, 1) := by decide +kernel
theorem dX12_loaves_10 : decode cX12_loaves 10 = .ok (.iaload, 1) := by decide +kernel
theorem dX12_loaves_11 : decode cX12_loaves 11 = .ok (.if_icmp .ge 28, 3) := by decide +kernel
theorem dX12_loaves_14 : decode cX12_loaves 14 = .ok (.iload_n 1, 1) := by decide +kernel
theorem dX12_loaves_15 : decode cX12_loaves 15 = .ok (.aload_n 0, 1) := by decide +kernel
theorem dX12_loaves_16 : decode cX12_loaves 16 = .ok (.getfield 94, 3) := by decide +kernel
theorem dX12_loaves_19 : decode cX12_loaves 19 = .ok (.iload_n 2, 1) := by decide +kernel
theorem dX12_loaves_20 : decode cX12_loaves 20 = .ok (.iaload, 1) := by decide +kernel
theorem dX12_loaves_21 : decode cX12_loaves 21 = .ok (.ifCond .ne 9, 3) := by decide +kernel
theorem dX12_loaves_24 : decode cX12_loaves 24 = .ok (.iconst 1, 1) := by decide +kernel
theorem dX12_loaves_25 : decode cX12_loaves 25 = .ok (.iload_n 2, 1) := by decide +kernel
theorem dX12_loaves_26 : decode cX12_loaves 26 = .ok (.ishl, 1) := by decide +kernel
theorem dX12_loaves_27 : decode cX12_loaves 27 = .ok (.goto 4, 3) := by decide +kernel
theorem dX12_loaves_30 : decode cX12_loaves 30 = .ok (.iconst 0, 1) := by decide +kernel
theorem dX12_loaves_31 : decode cX12_loaves 31 = .ok (.ior, 1) := by decide +kernel
theorem dX12_loaves_32 : decode cX12_loaves 32 = .ok (.istore_n 1, 1) := by decide +kernel
theorem dX12_loaves_33 : decode cX12_loaves 33 = .ok (.iinc 2 1, 3) := by decide +kernel
theorem dX12_loaves_36 : decode cX12_loaves 36 = .ok (.goto (-32), 3) := by decide +kernel
theorem dX12_loaves_39 : decode cX12_loaves 39 = .ok (.iload_n 1, 1) := by decide +kernel
theorem dX12_loaves_40 : decode cX12_loaves 40 = .ok (.ireturn, 1) := by decide +kernel
theorem dX12_sitting_0 : decode cX12_sitting 0 = .ok (.iconst 0, 1) := by decide +kernel
theorem dX12_sitting_1 : decode cX12_sitting 1 = .ok (.istore_n 1, 1) := by decide +kernel
theorem dX12_sitting_2 : decode cX12_sitting 2 = .ok (.iconst 0, 1) := by decide +kernel
theorem dX12_sitting_3 : decode cX12_sitting 3 = .ok (.istore_n 2, 1) := by decide +kernel
theorem dX12_sitting_4 : decode cX12_sitting 4 = .ok (.iload_n 2, 1) := by decide +kernel
theorem dX12_sitting_5 : decode cX12_sitting 5 = .ok (.aload_n 0, 1) := by decide +kernel
theorem dX12_sitting_6 : decode cX12_sitting 6 = .ok (.getfield 42, 3) := by decide +kernel
theorem dX12_sitting_9 : decode cX12_sitting 9 = .ok (.iconst 1, 1) := by decide +kernel
theorem dX12_sitting_10 : decode cX12_sitting 10 = .ok (.iaload, 1) := by decide +kernel
theorem dX12_sitting_11 : decode cX12_sitting 11 = .ok (.if_icmp .ge 29, 3) := by decide +kernel
theorem dX12_sitting_14 : decode cX12_sitting 14 = .ok (.iload_n 1, 1) := by decide +kernel
theorem dX12_sitting_15 : decode cX12_sitting 15 = .ok (.aload_n 0, 1) := by decide +kernel
theorem dX12_sitting_16 : decode cX12_sitting 16 = .ok (.getfield 106, 3) := by decide +kernel
theorem dX12_sitting_19 : decode cX12_sitting 19 = .ok (.iload_n 2, 1) := by decide +kernel
theorem dX12_sitting_20 : decode cX12_sitting 20 = .ok (.iaload, 1) := by decide +kernel
theorem dX12_sitting_21 : decode cX12_sitting 21 = .ok (.iconst (-1), 1) := by decide +kernel
theorem dX12_sitting_22 : decode cX12_sitting 22 = .ok (.if_icmp .eq 9, 3) := by decide +kernel
theorem dX12_sitting_25 : decode cX12_sitting 25 = .ok (.iconst 1, 1) := by decide +kernel
theorem dX12_sitting_26 : decode cX12_sitting 26 = .ok (.iload_n 2, 1) := by decide +kernel
theorem dX12_sitting_27 : decode cX12_sitting 27 = .ok (.ishl, 1) := by decide +kernel
theorem dX12_sitting_28 : decode cX12_sitting 28 = .ok (.goto 4, 3) := by decide +kernel
theorem dX12_sitting_31 : decode cX12_sitting 31 = .ok (.iconst 0, 1) := by decide +kernel
theorem dX12_sitting_32 : decode cX12_sitting 32 = .ok (.ior, 1) := by decide +kernel
theorem dX12_sitting_33 : decode cX12_sitting 33 = .ok (.istore_n 1, 1) := by decide +kernel
theorem dX12_sitting_34 : decode cX12_sitting 34 = .ok (.iinc 2 1, 3) := by decide +kernel
theorem dX12_sitting_37 : decode cX12_sitting 37 = .ok (.goto (-33), 3) := by decide +kernel
theorem dX12_sitting_40 : decode cX12_sitting 40 = .ok (.iload_n 1, 1) := by decide +kernel
theorem dX12_sitting_41 : decode cX12_sitting 41 = .ok (.ireturn, 1) := by decide +kernel
theorem dX12_allStone_0 : decode cX12_allStone 0 = .ok (.iconst 0, 1) := by decide +kernel
theorem dX12_allStone_1 : decode cX12_allStone 1 = .ok (.istore_n 1, 1) := by decide +kernel
theorem dX12_allStone_2 : decode cX12_allStone 2 = .ok (.iconst 0, 1) := by decide +kernel
theorem dX12_allStone_3 : decode cX12_allStone 3 = .ok (.istore_n 2, 1) := by decide +kernel
theorem dX12_allStone_4 : decode cX12_allStone 4 = .ok (.iload_n 2, 1) := by decide +kernel
theorem dX12_allStone_5 : decode cX12_allStone 5 = .ok (.aload_n 0, 1) := by decide +kernel
theorem dX12_allStone_6 : decode cX12_allStone 6 = .ok (.getfield 42, 3) := by decide +kernel
theorem dX12_allStone_9 : decode cX12_allStone 9 = .ok (.iconst 0, 1) := by decide +kernel
theorem dX12_allStone_10 : decode cX12_allStone 10 = .ok (.iaload, 1) := by decide +kernel
theorem dX12_allStone_11 : decode cX12_allStone 11 = .ok (.if_icmp .ge 18, 3) := by decide +kernel
theorem dX12_allStone_14 : decode cX12_allStone 14 = .ok (.iload_n 1, 1) := by decide +kernel
theorem dX12_allStone_15 : decode cX12_allStone 15 = .ok (.aload_n 0, 1) := by decide +kernel
theorem dX12_allStone_16 : decode cX12_allStone 16 = .ok (.getfield 94, 3) := by decide +kernel
theorem dX12_allStone_19 : decode cX12_allStone 19 = .ok (.iload_n 2, 1) := by decide +kernel
theorem dX12_allStone_20 : decode cX12_allStone 20 = .ok (.iaload, 1) := by decide +kernel
theorem dX12_allStone_21 : decode cX12_allStone 21 = .ok (.iadd, 1) := by decide +kernel
theorem dX12_allStone_22 : decode cX12_allStone 22 = .ok (.istore_n 1, 1) := by decide +kernel
theorem dX12_allStone_23 : decode cX12_allStone 23 = .ok (.iinc 2 1, 3) := by decide +kernel
theorem dX12_allStone_26 : decode cX12_allStone 26 = .ok (.goto (-22), 3) := by decide +kernel
theorem dX12_allStone_29 : decode cX12_allStone 29 = .ok (.iload_n 1, 1) := by decide +kernel
theorem dX12_allStone_30 : decode cX12_allStone 30 = .ok (.ireturn, 1) := by decide +kernel
theorem dX12_familyOf_0 : decode cX12_familyOf 0 = .ok (.iconst 0, 1) := by decide +kernel
theorem dX12_familyOf_1 : decode cX12_familyOf 1 = .ok (.istore_n 2, 1) := by decide +kernel
theorem dX12_familyOf_2 : decode cX12_familyOf 2 = .ok (.iconst 0, 1) := by decide +kernel
theorem dX12_familyOf_3 : decode cX12_familyOf 3 = .ok (.istore_n 3, 1) := by decide +kernel
theorem dX12_familyOf_4 : decode cX12_familyOf 4 = .ok (.iload_n 3, 1) := by decide +kernel
theorem dX12_familyOf_5 : decode cX12_familyOf 5 = .ok (.aload_n 0, 1) := by decide +kernel
theorem dX12_familyOf_6 : decode cX12_familyOf 6 = .ok (.getfield 42, 3) := by decide +kernel
theorem dX12_familyOf_9 : decode cX12_familyOf 9 = .ok (.iconst 1, 1) := by decide +kernel
theorem dX12_familyOf_10 : decode cX12_familyOf 10 = .ok (.iaload, 1) := by decide +kernel
theorem dX12_familyOf_11 : decode cX12_familyOf 11 = .ok (.if_icmp .ge 29, 3) := by decide +kernel
theorem dX12_familyOf_14 : decode cX12_familyOf 14 = .ok (.iload_n 2, 1) := by decide +kernel
theorem dX12_familyOf_15 : decode cX12_familyOf 15 = .ok (.aload_n 0, 1) := by decide +kernel
theorem dX12_familyOf_16 : decode cX12_familyOf 16 = .ok (.getfield 104, 3) := by decide +kernel
theorem dX12_familyOf_19 : decode cX12_familyOf 19 = .ok (.iload_n 3, 1) := by decide +kernel
theorem dX12_familyOf_20 : decode cX12_familyOf 20 = .ok (.iaload, 1) := by decide +kernel
theorem dX12_familyOf_21 : decode cX12_familyOf 21 = .ok (.iload_n 1, 1) := by decide +kernel
theorem dX12_familyOf_22 : decode cX12_familyOf 22 = .ok (.if_icmp .ne 9, 3) := by decide +kernel
theorem dX12_familyOf_25 : decode cX12_familyOf 25 = .ok (.iconst 1, 1) := by decide +kernel
theorem dX12_familyOf_26 : decode cX12_familyOf 26 = .ok (.iload_n 3, 1) := by decide +kernel
theorem dX12_familyOf_27 : decode cX12_familyOf 27 = .ok (.ishl, 1) := by decide +kernel
theorem dX12_familyOf_28 : decode cX12_familyOf 28 = .ok (.goto 4, 3) := by decide +kernel
theorem dX12_familyOf_31 : decode cX12_familyOf 31 = .ok (.iconst 0, 1) := by decide +kernel
theorem dX12_familyOf_32 : decode cX12_familyOf 32 = .ok (.ior, 1) := by decide +kernel
theorem dX12_familyOf_33 : decode cX12_familyOf 33 = .ok (.istore_n 2, 1) := by decide +kernel
theorem dX12_familyOf_34 : decode cX12_familyOf 34 = .ok (.iinc 3 1, 3) := by decide +kernel
theorem dX12_familyOf_37 : decode cX12_familyOf 37 = .ok (.goto (-33), 3) := by decide +kernel
theorem dX12_familyOf_40 : decode cX12_familyOf 40 = .ok (.iload_n 2, 1) := by decide +kernel
theorem dX12_familyOf_41 : decode cX12_familyOf 41 = .ok (.ireturn, 1) := by decide +kernel
theorem dX12_unlikePeople_0 : decode cX12_unlikePeople 0 = .ok (.aload_n 0, 1) := by decide +kernel
theorem dX12_unlikePeople_1 : decode cX12_unlikePeople 1 = .ok (.getfield 96, 3) := by decide +kernel
theorem dX12_unlikePeople_4 : decode cX12_unlikePeople 4 = .ok (.iload_n 1, 1) := by decide +kernel
theorem dX12_unlikePeople_5 : decode cX12_unlikePeople 5 = .ok (.iaload, 1) := by decide +kernel
theorem dX12_unlikePeople_6 : decode cX12_unlikePeople 6 = .ok (.aload_n 0, 1) := by decide +kernel
theorem dX12_unlikePeople_7 : decode cX12_unlikePeople 7 = .ok (.getfield 96, 3) := by decide +kernel
theorem dX12_unlikePeople_10 : decode cX12_unlikePeople 10 = .ok (.iload_n 2, 1) := by decide +kernel
theorem dX12_unlikePeople_11 : decode cX12_unlikePeople 11 = .ok (.iaload, 1) := by decide +kernel
theorem dX12_unlikePeople_12 : decode cX12_unlikePeople 12 = .ok (.isub, 1) := by decide +kernel
theorem dX12_unlikePeople_13 : decode cX12_unlikePeople 13 = .ok (.invokestatic 339, 3) := by decide +kernel
theorem dX12_unlikePeople_16 : decode cX12_unlikePeople 16 = .ok (.aload_n 0, 1) := by decide +kernel
theorem dX12_unlikePeople_17 : decode cX12_unlikePeople 17 = .ok (.getfield 99, 3) := by decide +kernel
theorem dX12_unlikePeople_20 : decode cX12_unlikePeople 20 = .ok (.iload_n 1, 1) := by decide +kernel
theorem dX12_unlikePeople_21 : decode cX12_unlikePeople 21 = .ok (.iaload, 1) := by decide +kernel
theorem dX12_unlikePeople_22 : decode cX12_unlikePeople 22 = .ok (.aload_n 0, 1) := by decide +kernel
theorem dX12_unlikePeople_23 : decode cX12_unlikePeople 23 = .ok (.getfield 99, 3) := by decide +kernel
theorem dX12_unlikePeople_26 : decode cX12_unlikePeople 26 = .ok (.iload_n 2, 1) := by decide +kernel
theorem dX12_unlikePeople_27 : decode cX12_unlikePeople 27 = .ok (.iaload, 1) := by decide +kernel
theorem dX12_unlikePeople_28 : decode cX12_unlikePeople 28 = .ok (.isub, 1) := by decide +kernel
theorem dX12_unlikePeople_29 : decode cX12_unlikePeople 29 = .ok (.invokestatic 339, 3) := by decide +kernel
theorem dX12_unlikePeople_32 : decode cX12_unlikePeople 32 = .ok (.iadd, 1) := by decide +kernel
theorem dX12_unlikePeople_33 : decode cX12_unlikePeople 33 = .ok (.ireturn, 1) := by decide +kernel
set_option maxRecDepth 20000 in
theorem ggX12_twins_X12_unlikePeople : GoodIn wsX12_twins wsX12_unlikePeople := goodIn_r _ [6, 7, 8, 9, 10, 11, 12, 13, 14, 15, 16, 17, 18, 19, 20, 21, 22, 23, 24, 25, 26, 27, 28, 29, 30, 31, 32, 33, 34, 35, 36, 37, 38, 39, 40, 41, 42, 43, 44, 45, 46, 47, 48, 49, 50, 51, 52, 53, 54, 55, 56, 57, 58, 59, 60, 61, 62, 63, 64, 65, 66, 67, 68, 69, 70, 71, 72, 73, 74, 75, 76, 77] (by decide +kernel) (by decide +kernel)
set_option maxRecDepth 20000 in
theorem gX12_twins_X12_unlikePeople : GoodIn wsX12_twins (wsV RX12 390 RX12 yX12_unlikePeople wsX12_unlikePeople) := goodIn_app (goodIn_of _ (by decide +kernel)) ggX12_twins_X12_unlikePeople
theorem dX12_twins_0 : decode cX12_twins 0 = .ok (.iconst 0, 1) := by decide +kernel
theorem dX12_twins_1 : decode cX12_twins 1 = .ok (.istore_n 1, 1) := by decide +kernel
theorem dX12_twins_2 : decode cX12_twins 2 = .ok (.iconst 0, 1) := by decide +kernel
theorem dX12_twins_3 : decode cX12_twins 3 = .ok (.istore_n 2, 1) := by decide +kernel
theorem dX12_twins_4 : decode cX12_twins 4 = .ok (.iload_n 2, 1) := by decide +kernel
theorem dX12_twins_5 : decode cX12_twins 5 = .ok (.aload_n 0, 1) := by decide +kernel
theorem dX12_twins_6 : decode cX12_twins 6 = .ok (.getfield 42, 3) := by decide +kernel
theorem dX12_twins_9 : decode cX12_twins 9 = .ok (.iconst 1, 1) := by decide +kernel
theorem dX12_twins_10 : decode cX12_twins 10 = .ok (.iaload, 1) := by decide +kernel
theorem dX12_twins_11 : decode cX12_twins 11 = .ok (.if_icmp .ge 39, 3) := by decide +kernel
theorem dX12_twins_14 : decode cX12_twins 14 = .ok (.iconst 0, 1) := by decide +kernel
theorem dX12_twins_15 : decode cX12_twins 15 = .ok (.istore_n 3, 1) := by decide +kernel
theorem dX12_twins_16 : decode cX12_twins 16 = .ok (.iload_n 3, 1) := by decide +kernel
theorem dX12_twins_17 : decode cX12_twins 17 = .ok (.iload_n 2, 1) := by decide +kernel
theorem dX12_twins_18 : decode cX12_twins 18 = .ok (.if_icmp .ge 26, 3) := by decide +kernel
theorem dX12_twins_21 : decode cX12_twins 21 = .ok (.iload_n 1, 1) := by decide +kernel
theorem dX12_twins_22 : decode cX12_twins 22 = .ok (.aload_n 0, 1) := by decide +kernel
theorem dX12_twins_23 : decode cX12_twins 23 = .ok (.iload_n 2, 1) := by decide +kernel
theorem dX12_twins_24 : decode cX12_twins 24 = .ok (.iload_n 3, 1) := by decide +kernel
theorem dX12_twins_25 : decode cX12_twins 25 = .ok (.invokevirtual 390, 3) := by decide +kernel
theorem dX12_twins_28 : decode cX12_twins 28 = .ok (.ifCond .ne 7, 3) := by decide +kernel
theorem dX12_twins_31 : decode cX12_twins 31 = .ok (.iconst 1, 1) := by decide +kernel
theorem dX12_twins_32 : decode cX12_twins 32 = .ok (.goto 4, 3) := by decide +kernel
theorem dX12_twins_35 : decode cX12_twins 35 = .ok (.iconst 0, 1) := by decide +kernel
theorem dX12_twins_36 : decode cX12_twins 36 = .ok (.iadd, 1) := by decide +kernel
theorem dX12_twins_37 : decode cX12_twins 37 = .ok (.istore_n 1, 1) := by decide +kernel
theorem dX12_twins_38 : decode cX12_twins 38 = .ok (.iinc 3 1, 3) := by decide +kernel
theorem dX12_twins_41 : decode cX12_twins 41 = .ok (.goto (-25), 3) := by decide +kernel
theorem dX12_twins_44 : decode cX12_twins 44 = .ok (.iinc 2 1, 3) := by decide +kernel
theorem dX12_twins_47 : decode cX12_twins 47 = .ok (.goto (-43), 3) := by decide +kernel
theorem dX12_twins_50 : decode cX12_twins 50 = .ok (.iload_n 1, 1) := by decide +kernel
theorem dX12_twins_51 : decode cX12_twins 51 = .ok (.ireturn, 1) := by decide +kernel
set_option maxRecDepth 20000 in
theorem ggX12_longestRow_X12_loaves : GoodIn wsX12_longestRow wsX12_loaves := goodIn_r _ [10, 1, 11, 15, 16, 17, 18, 19, 20, 21, 22, 23, 24, 25, 26, 27, 28, 29, 30, 31, 32, 33, 34, 35, 36, 37, 38, 39, 40, 41, 42, 43, 44, 45, 46, 47, 48, 49, 50, 51, 52, 53, 54, 55, 56, 57, 58, 59, 60, 61, 62, 63, 64, 65, 66, 67, 68, 69, 70, 71, 72, 73, 74, 75, 76, 77, 78, 79] (by decide +kernel) (by decide +kernel)
set_option maxRecDepth 20000 in
theorem gX12_longestRow_X12_loaves : GoodIn wsX12_longestRow (wsV RX12 393 RX12 yX12_loaves wsX12_loaves) := goodIn_app (goodIn_of _ (by decide +kernel)) ggX12_longestRow_X12_loaves
set_option maxRecDepth 20000 in
theorem ggX12_longestRow_X12_isOf : GoodIn wsX12_longestRow wsX12_isOf := goodIn_r _ [14] (by decide +kernel) (by decide +kernel)
set_option maxRecDepth 20000 in
theorem gX12_longestRow_X12_isOf : GoodIn wsX12_longestRow (va_wsS RX12 396 yX12_isOf wsX12_isOf) := goodIn_app (goodIn_of _ (by decide +kernel)) ggX12_longestRow_X12_isOf
theorem dX12_longestRow_0 : decode cX12_longestRow 0 = .ok (.aload_n 0, 1) := by decide +kernel
theorem dX12_longestRow_1 : decode cX12_longestRow 1 = .ok (.invokevirtual 393, 3) := by decide +kernel
theorem dX12_longestRow_4 : decode cX12_longestRow 4 = .ok (.istore_n 1, 1) := by decide +kernel
theorem dX12_longestRow_5 : decode cX12_longestRow 5 = .ok (.iconst 0, 1) := by decide +kernel
theorem dX12_longestRow_6 : decode cX12_longestRow 6 = .ok (.istore_n 2, 1) := by decide +kernel
theorem dX12_longestRow_7 : decode cX12_longestRow 7 = .ok (.iconst 0, 1) := by decide +kernel
theorem dX12_longestRow_8 : decode cX12_longestRow 8 = .ok (.istore_n 3, 1) := by decide +kernel
theorem dX12_longestRow_9 : decode cX12_longestRow 9 = .ok (.iload_n 3, 1) := by decide +kernel
theorem dX12_longestRow_10 : decode cX12_longestRow 10 = .ok (.aload_n 0, 1) := by decide +kernel
theorem dX12_longestRow_11 : decode cX12_longestRow 11 = .ok (.getfield 42, 3) := by decide +kernel
theorem dX12_longestRow_14 : decode cX12_longestRow 14 = .ok (.iconst 0, 1) := by decide +kernel
theorem dX12_longestRow_15 : decode cX12_longestRow 15 = .ok (.iaload, 1) := by decide +kernel
theorem dX12_longestRow_16 : decode cX12_longestRow 16 = .ok (.if_icmp .ge 54, 3) := by decide +kernel
theorem dX12_longestRow_19 : decode cX12_longestRow 19 = .ok (.iconst 0, 1) := by decide +kernel
theorem dX12_longestRow_20 : decode cX12_longestRow 20 = .ok (.istore 4, 2) := by decide +kernel
theorem dX12_longestRow_22 : decode cX12_longestRow 22 = .ok (.iload 4, 2) := by decide +kernel
theorem dX12_longestRow_24 : decode cX12_longestRow 24 = .ok (.aload_n 0, 1) := by decide +kernel
theorem dX12_longestRow_25 : decode cX12_longestRow 25 = .ok (.getfield 42, 3) := by decide +kernel
theorem dX12_longestRow_28 : decode cX12_longestRow 28 = .ok (.iconst 0, 1) := by decide +kernel
theorem dX12_longestRow_29 : decode cX12_longestRow 29 = .ok (.iaload, 1) := by decide +kernel
theorem dX12_longestRow_30 : decode cX12_longestRow 30 = .ok (.if_icmp .ge 27, 3) := by decide +kernel
theorem dX12_longestRow_33 : decode cX12_longestRow 33 = .ok (.iload_n 1, 1) := by decide +kernel
theorem dX12_longestRow_34 : decode cX12_longestRow 34 = .ok (.iload_n 3, 1) := by decide +kernel
theorem dX12_longestRow_35 : decode cX12_longestRow 35 = .ok (.iload 4, 2) := by decide +kernel
theorem dX12_longestRow_37 : decode cX12_longestRow 37 = .ok (.iadd, 1) := by decide +kernel
theorem dX12_longestRow_38 : decode cX12_longestRow 38 = .ok (.aload_n 0, 1) := by decide +kernel
theorem dX12_longestRow_39 : decode cX12_longestRow 39 = .ok (.getfield 42, 3) := by decide +kernel
theorem dX12_longestRow_42 : decode cX12_longestRow 42 = .ok (.iconst 0, 1) := by decide +kernel
theorem dX12_longestRow_43 : decode cX12_longestRow 43 = .ok (.iaload, 1) := by decide +kernel
theorem dX12_longestRow_44 : decode cX12_longestRow 44 = .ok (.irem, 1) := by decide +kernel
theorem dX12_longestRow_45 : decode cX12_longestRow 45 = .ok (.invokestatic 396, 3) := by decide +kernel
theorem dX12_longestRow_48 : decode cX12_longestRow 48 = .ok (.ifCond .eq 9, 3) := by decide +kernel
theorem dX12_longestRow_51 : decode cX12_longestRow 51 = .ok (.iinc 4 1, 3) := by decide +kernel
theorem dX12_longestRow_54 : decode cX12_longestRow 54 = .ok (.goto (-32), 3) := by decide +kernel
theorem dX12_longestRow_57 : decode cX12_longestRow 57 = .ok (.iload_n 2, 1) := by decide +kernel
theorem dX12_longestRow_58 : decode cX12_longestRow 58 = .ok (.iload 4, 2) := by decide +kernel
theorem dX12_longestRow_60 : decode cX12_longestRow 60 = .ok (.invokestatic 349, 3) := by decide +kernel
theorem dX12_longestRow_63 : decode cX12_longestRow 63 = .ok (.istore_n 2, 1) := by decide +kernel
theorem dX12_longestRow_64 : decode cX12_longestRow 64 = .ok (.iinc 3 1, 3) := by decide +kernel
theorem dX12_longestRow_67 : decode cX12_longestRow 67 = .ok (.goto (-58), 3) := by decide +kernel
theorem dX12_longestRow_70 : decode cX12_longestRow 70 = .ok (.iload_n 2, 1) := by decide +kernel
theorem dX12_longestRow_71 : decode cX12_longestRow 71 = .ok (.ireturn, 1) := by decide +kernel
set_option maxRecDepth 20000 in
theorem ggX12_count_X12_rainOf : GoodIn wsX12_count wsX12_rainOf := goodIn_r _ [12, 2, 13, 56, 57, 58, 59, 60, 61, 62, 63, 64, 65, 66, 67, 68, 69, 70, 71, 72, 73, 74, 75, 76, 77, 78, 79, 80, 81, 82, 83, 84, 85, 86, 87, 88, 89, 90, 91, 92, 93, 94, 95, 96, 97, 98, 99, 100, 101, 102, 103, 104, 105, 106, 107, 108, 109, 110, 111, 112, 113, 114, 115, 116, 117, 118, 119, 120] (by decide +kernel) (by decide +kernel)
set_option maxRecDepth 20000 in
theorem gX12_count_X12_rainOf : GoodIn wsX12_count (wsV RX12 384 RX12 yX12_rainOf wsX12_rainOf) := goodIn_app (goodIn_of _ (by decide +kernel)) ggX12_count_X12_rainOf
set_option maxRecDepth 20000 in
theorem ggX12_count_X12_loaves : GoodIn wsX12_count wsX12_loaves := goodIn_r _ [17, 2, 18, 56, 57, 58, 59, 60, 61, 62, 63, 64, 65, 66, 67, 68, 69, 70, 71, 72, 73, 74, 75, 76, 77, 78, 79, 80, 81, 82, 83, 84, 85, 86, 87, 88, 89, 90, 91, 92, 93, 94, 95, 96, 97, 98, 99, 100, 101, 102, 103, 104, 105, 106, 107, 108, 109, 110, 111, 112, 113, 114, 115, 116, 117, 118, 119, 120] (by decide +kernel) (by decide +kernel)
set_option maxRecDepth 20000 in
theorem gX12_count_X12_loaves : GoodIn wsX12_count (wsV RX12 393 RX12 yX12_loaves wsX12_loaves) := goodIn_app (goodIn_of _ (by decide +kernel)) ggX12_count_X12_loaves
set_option maxRecDepth 20000 in
theorem ggX12_count_X12_sitting : GoodIn wsX12_count wsX12_sitting := goodIn_r _ [22, 2, 23, 56, 57, 58, 59, 60, 61, 62, 63, 64, 65, 66, 67, 68, 69, 70, 71, 72, 73, 74, 75, 76, 77, 78, 79, 80, 81, 82, 83, 84, 85, 86, 87, 88, 89, 90, 91, 92, 93, 94, 95, 96, 97, 98, 99, 100, 101, 102, 103, 104, 105, 106, 107, 108, 109, 110, 111, 112, 113, 114, 115, 116, 117, 118, 119, 120] (by decide +kernel) (by decide +kernel)
set_option maxRecDepth 20000 in
theorem gX12_count_X12_sitting : GoodIn wsX12_count (wsV RX12 399 RX12 yX12_sitting wsX12_sitting) := goodIn_app (goodIn_of _ (by decide +kernel)) ggX12_count_X12_sitting
set_option maxRecDepth 20000 in
theorem ggX12_count_X12_allStone : GoodIn wsX12_count wsX12_allStone := goodIn_r _ [27, 2, 18, 56, 57, 58, 59, 60, 61, 62, 63, 64, 65, 66, 67, 68, 69, 70, 71, 72, 73, 74, 75, 76, 77, 78, 79, 80, 81, 82, 83, 84, 85, 86, 87, 88, 89, 90, 91, 92, 93, 94, 95, 96, 97, 98, 99, 100, 101, 102, 103, 104, 105, 106, 107, 108, 109, 110, 111, 112, 113, 114, 115, 116, 117, 118, 119, 120] (by decide +kernel) (by decide +kernel)
set_option maxRecDepth 20000 in
theorem gX12_count_X12_allStone : GoodIn wsX12_count (wsV RX12 402 RX12 yX12_allStone wsX12_allStone) := goodIn_app (goodIn_of _ (by decide +kernel)) ggX12_count_X12_allStone
set_option maxRecDepth 20000 in
theorem ggX12_count_X12_twins : GoodIn wsX12_count wsX12_twins := goodIn_r _ [31, 2, 32, 33, 34, 11, 35, 36, 37, 38, 39, 40, 41, 56, 57, 58, 59, 60, 61, 62, 63, 64, 65, 66, 67, 68, 69, 70, 71, 72, 73, 74, 75, 76, 77, 78, 79, 80, 81, 82, 83, 84, 85, 86, 87, 88, 89, 90, 91, 92, 93, 94, 95, 96, 97, 98, 99, 100, 101, 102, 103, 104, 105, 106, 107, 108, 109, 110, 111, 112, 113, 114, 115, 116, 117, 118, 119, 120] (by decide +kernel) (by decide +kernel)
set_option maxRecDepth 20000 in
theorem gX12_count_X12_twins : GoodIn wsX12_count (wsV RX12 405 RX12 yX12_twins wsX12_twins) := goodIn_app (goodIn_of _ (by decide +kernel)) ggX12_count_X12_twins
set_option maxRecDepth 20000 in
theorem ggX12_count_X12_longestRow : GoodIn wsX12_count wsX12_longestRow := goodIn_r _ [45, 2, 46, 47, 39, 48, 14, 15, 16, 11, 17, 18, 49, 50, 51, 56, 57, 58, 59, 60, 61, 62, 63, 64, 65, 66, 67, 68, 69, 70, 71, 72, 73, 74, 75, 76, 77, 78, 79, 80, 81, 82, 83, 84, 85, 86, 87, 88, 89, 90, 91, 92, 93, 94, 95, 96, 97, 98, 99, 100, 101, 102, 103, 104, 105, 106, 107, 108, 109, 110, 111, 112, 113, 114, 115, 116, 117, 118, 119, 120] (by decide +kernel) (by decide +kernel)
set_option maxRecDepth 20000 in
theorem gX12_count_X12_longestRow : GoodIn wsX12_count (wsV RX12 408 RX12 yX12_longestRow wsX12_longestRow) := goodIn_app (goodIn_of _ (by decide +kernel)) ggX12_count_X12_longestRow
set_option maxRecDepth 20000 in
theorem ggX12_count_X12_fail : GoodIn wsX12_count wsX12_fail := goodIn_r _ [55, 1, 56, 57, 58, 59, 60, 61, 62, 63, 64, 65, 66, 67, 68, 69, 70, 71, 72, 73, 74, 75, 76, 77, 78, 79, 80, 81, 82, 83, 84, 85, 86, 87, 88, 89, 90, 91, 92, 93, 94, 95, 96, 97, 98, 99, 100, 101, 102, 103, 104, 105, 106, 107, 108, 109, 110, 111, 112, 113, 114, 115, 116, 117, 118, 119, 120] (by decide +kernel) (by decide +kernel)
set_option maxRecDepth 20000 in
theorem gX12_count_X12_fail : GoodIn wsX12_count (wsV RX12 310 RX12 yX12_fail wsX12_fail) := goodIn_app (goodIn_of _ (by decide +kernel)) ggX12_count_X12_fail
theorem dX12_count_0 : decode cX12_count 0 = .ok (.aload_n 0, 1) := by decide +kernel
theorem dX12_count_1 : decode cX12_count 1 = .ok (.iconst 0, 1) := by decide +kernel
theorem dX12_count_2 : decode cX12_count 2 = .ok (.putfield 163, 3) := by decide +kernel
theorem dX12_count_5 : decode cX12_count 5 = .ok (.iload_n 1, 1) := by decide +kernel
theorem dX12_count_6 : decode cX12_count 6 = .ok (.tableswitch 156 0 15 #[78, 78, 85, 90, 99, 106, 111, 116, 121, 126, 131, 136, 141, 146, 146, 146], 78) := by decide +kernel
theorem dX12_count_84 : decode cX12_count 84 = .ok (.aload_n 0, 1) := by decide +kernel
theorem dX12_count_85 : decode cX12_count 85 = .ok (.getfield 42, 3) := by decide +kernel
theorem dX12_count_88 : decode cX12_count 88 = .ok (.iload_n 1, 1) := by decide +kernel
theorem dX12_count_89 : decode cX12_count 89 = .ok (.iaload, 1) := by decide +kernel
theorem dX12_count_90 : decode cX12_count 90 = .ok (.ireturn, 1) := by decide +kernel
theorem dX12_count_91 : decode cX12_count 91 = .ok (.aload_n 0, 1) := by decide +kernel
theorem dX12_count_92 : decode cX12_count 92 = .ok (.getfield 323, 3) := by decide +kernel
theorem dX12_count_95 : decode cX12_count 95 = .ok (.ireturn, 1) := by decide +kernel
theorem dX12_count_96 : decode cX12_count 96 = .ok (.aload_n 0, 1) := by decide +kernel
theorem dX12_count_97 : decode cX12_count 97 = .ok (.aload_n 0, 1) := by decide +kernel
theorem dX12_count_98 : decode cX12_count 98 = .ok (.getfield 323, 3) := by decide +kernel
theorem dX12_count_101 : decode cX12_count 101 = .ok (.invokevirtual 384, 3) := by decide +kernel
theorem dX12_count_104 : decode cX12_count 104 = .ok (.ireturn, 1) := by decide +kernel
theorem dX12_count_105 : decode cX12_count 105 = .ok (.aload_n 0, 1) := by decide +kernel
theorem dX12_count_106 : decode cX12_count 106 = .ok (.getfield 42, 3) := by decide +kernel
theorem dX12_count_109 : decode cX12_count 109 = .ok (.iconst 3, 1) := by decide +kernel
theorem dX12_count_110 : decode cX12_count 110 = .ok (.iaload, 1) := by decide +kernel
theorem dX12_count_111 : decode cX12_count 111 = .ok (.ireturn, 1) := by decide +kernel
theorem dX12_count_112 : decode cX12_count 112 = .ok (.aload_n 0, 1) := by decide +kernel
theorem dX12_count_113 : decode cX12_count 113 = .ok (.invokevirtual 393, 3) := by decide +kernel
theorem dX12_count_116 : decode cX12_count 116 = .ok (.ireturn, 1) := by decide +kernel
theorem dX12_count_117 : decode cX12_count 117 = .ok (.aload_n 0, 1) := by decide +kernel
theorem dX12_count_118 : decode cX12_count 118 = .ok (.invokevirtual 399, 3) := by decide +kernel
theorem dX12_count_121 : decode cX12_count 121 = .ok (.ireturn, 1) := by decide +kernel
theorem dX12_count_122 : decode cX12_count 122 = .ok (.aload_n 0, 1) := by decide +kernel
theorem dX12_count_123 : decode cX12_count 123 = .ok (.invokevirtual 402, 3) := by decide +kernel
theorem dX12_count_126 : decode cX12_count 126 = .ok (.ireturn, 1) := by decide +kernel
theorem dX12_count_127 : decode cX12_count 127 = .ok (.aload_n 0, 1) := by decide +kernel
theorem dX12_count_128 : decode cX12_count 128 = .ok (.invokevirtual 405, 3) := by decide +kernel
theorem dX12_count_131 : decode cX12_count 131 = .ok (.ireturn, 1) := by decide +kernel
theorem dX12_count_132 : decode cX12_count 132 = .ok (.aload_n 0, 1) := by decide +kernel
theorem dX12_count_133 : decode cX12_count 133 = .ok (.invokevirtual 408, 3) := by decide +kernel
theorem dX12_count_136 : decode cX12_count 136 = .ok (.ireturn, 1) := by decide +kernel
theorem dX12_count_137 : decode cX12_count 137 = .ok (.aload_n 0, 1) := by decide +kernel
theorem dX12_count_138 : decode cX12_count 138 = .ok (.getfield 326, 3) := by decide +kernel
theorem dX12_count_141 : decode cX12_count 141 = .ok (.ireturn, 1) := by decide +kernel
theorem dX12_count_142 : decode cX12_count 142 = .ok (.aload_n 0, 1) := by decide +kernel
theorem dX12_count_143 : decode cX12_count 143 = .ok (.getfield 329, 3) := by decide +kernel
theorem dX12_count_146 : decode cX12_count 146 = .ok (.ireturn, 1) := by decide +kernel
theorem dX12_count_147 : decode cX12_count 147 = .ok (.aload_n 0, 1) := by decide +kernel
theorem dX12_count_148 : decode cX12_count 148 = .ok (.getfield 170, 3) := by decide +kernel
theorem dX12_count_151 : decode cX12_count 151 = .ok (.ireturn, 1) := by decide +kernel
theorem dX12_count_152 : decode cX12_count 152 = .ok (.aload_n 0, 1) := by decide +kernel
theorem dX12_count_153 : decode cX12_count 153 = .ok (.getfield 78, 3) := by decide +kernel
theorem dX12_count_156 : decode cX12_count 156 = .ok (.iload_n 1, 1) := by decide +kernel
theorem dX12_count_157 : decode cX12_count 157 = .ok (.bipush 13, 2) := by decide +kernel
theorem dX12_count_159 : decode cX12_count 159 = .ok (.isub, 1) := by decide +kernel
theorem dX12_count_160 : decode cX12_count 160 = .ok (.iaload, 1) := by decide +kernel
theorem dX12_count_161 : decode cX12_count 161 = .ok (.ireturn, 1) := by decide +kernel
theorem dX12_count_162 : decode cX12_count 162 = .ok (.aload_n 0, 1) := by decide +kernel
theorem dX12_count_163 : decode cX12_count 163 = .ok (.iconst 1, 1) := by decide +kernel
theorem dX12_count_164 : decode cX12_count 164 = .ok (.invokevirtual 310, 3) := by decide +kernel
theorem dX12_count_167 : decode cX12_count 167 = .ok (.ireturn, 1) := by decide +kernel
set_option maxRecDepth 20000 in
theorem ggX12_gargoyle_X12_isStone : GoodIn wsX12_gargoyle wsX12_isStone := goodIn_r _ [9, 10, 11, 12, 8, 13, 28, 29, 30, 31, 32, 33, 34, 35, 36, 37, 38, 39, 40, 41, 42, 43, 44, 45, 46, 47, 48, 49, 50, 51, 52, 53, 54, 55, 56, 57, 58, 59, 60, 61, 62, 63, 64, 65, 66, 67, 68, 69, 70, 71, 72, 73, 74, 75, 76, 77, 78, 79, 80, 81, 82, 83, 84, 85, 86, 87, 88, 89, 90, 91, 92] (by decide +kernel) (by decide +kernel)
set_option maxRecDepth 20000 in
theorem gX12_gargoyle_X12_isStone : GoodIn wsX12_gargoyle (wsV RX12 411 RX12 yX12_isStone wsX12_isStone) := goodIn_app (goodIn_of _ (by decide +kernel)) ggX12_gargoyle_X12_isStone
set_option maxRecDepth 20000 in
theorem ggX12_gargoyle_X12_fail : GoodIn wsX12_gargoyle wsX12_fail := goodIn_r _ [17, 1, 28, 29, 30, 31, 32, 33, 34, 35, 36, 37, 38, 39, 40, 41, 42, 43, 44, 45, 46, 47, 48, 49, 50, 51, 52, 53, 54, 55, 56, 57, 58, 59, 60, 61, 62, 63, 64, 65, 66, 67, 68, 69, 70, 71, 72, 73, 74, 75, 76, 77, 78, 79, 80, 81, 82, 83, 84, 85, 86, 87, 88, 89, 90, 91, 92] (by decide +kernel) (by decide +kernel)
set_option maxRecDepth 20000 in
theorem gX12_gargoyle_X12_fail : GoodIn wsX12_gargoyle (wsV RX12 310 RX12 yX12_fail wsX12_fail) := goodIn_app (goodIn_of _ (by decide +kernel)) ggX12_gargoyle_X12_fail
set_option maxRecDepth 20000 in
theorem ggX12_gargoyle_X12_sitterOf : GoodIn wsX12_gargoyle wsX12_sitterOf := goodIn_r _ [21, 10, 22, 28, 29, 30, 31, 32, 33, 34, 35, 36, 37, 38, 39, 40, 41, 42, 43, 44, 45, 46, 47, 48, 49, 50, 51, 52, 53, 54, 55, 56, 57, 58, 59, 60, 61, 62, 63, 64, 65, 66, 67, 68, 69, 70, 71, 72, 73, 74, 75, 76, 77, 78, 79, 80, 81, 82, 83, 84, 85, 86, 87, 88, 89, 90, 91, 92] (by decide +kernel) (by decide +kernel)
set_option maxRecDepth 20000 in
theorem gX12_gargoyle_X12_sitterOf : GoodIn wsX12_gargoyle (wsV RX12 355 RX12 yX12_sitterOf wsX12_sitterOf) := goodIn_app (goodIn_of _ (by decide +kernel)) ggX12_gargoyle_X12_sitterOf
set_option maxRecDepth 20000 in
theorem ggX12_gargoyle_X12_familyOf : GoodIn wsX12_gargoyle wsX12_familyOf := goodIn_r _ [26, 10, 27, 28, 29, 30, 31, 32, 33, 34, 35, 36, 37, 38, 39, 40, 41, 42, 43, 44, 45, 46, 47, 48, 49, 50, 51, 52, 53, 54, 55, 56, 57, 58, 59, 60, 61, 62, 63, 64, 65, 66, 67, 68, 69, 70, 71, 72, 73, 74, 75, 76, 77, 78, 79, 80, 81, 82, 83, 84, 85, 86, 87, 88, 89, 90, 91, 92] (by decide +kernel) (by decide +kernel)
set_option maxRecDepth 20000 in
theorem gX12_gargoyle_X12_familyOf : GoodIn wsX12_gargoyle (wsV RX12 414 RX12 yX12_familyOf wsX12_familyOf) := goodIn_app (goodIn_of _ (by decide +kernel)) ggX12_gargoyle_X12_familyOf
theorem dX12_gargoyle_0 : decode cX12_gargoyle 0 = .ok (.aload_n 0, 1) := by decide +kernel
theorem dX12_gargoyle_1 : decode cX12_gargoyle 1 = .ok (.iconst 0, 1) := by decide +kernel
theorem dX12_gargoyle_2 : decode cX12_gargoyle 2 = .ok (.putfield 163, 3) := by decide +kernel
theorem dX12_gargoyle_5 : decode cX12_gargoyle 5 = .ok (.aload_n 0, 1) := by decide +kernel
theorem dX12_gargoyle_6 : decode cX12_gargoyle 6 = .ok (.iload_n 1, 1) := by decide +kernel
theorem dX12_gargoyle_7 : decode cX12_gargoyle 7 = .ok (.invokevirtual 411, 3) := by decide +kernel
theorem dX12_gargoyle_10 : decode cX12_gargoyle 10 = .ok (.ifCond .ne 9, 3) := by decide +kernel
theorem dX12_gargoyle_13 : decode cX12_gargoyle 13 = .ok (.aload_n 0, 1) := by decide +kernel
theorem dX12_gargoyle_14 : decode cX12_gargoyle 14 = .ok (.iconst 1, 1) := by decide +kernel
theorem dX12_gargoyle_15 : decode cX12_gargoyle 15 = .ok (.invokevirtual 310, 3) := by decide +kernel
theorem dX12_gargoyle_18 : decode cX12_gargoyle 18 = .ok (.ireturn, 1) := by decide +kernel
theorem dX12_gargoyle_19 : decode cX12_gargoyle 19 = .ok (.iload_n 2, 1) := by decide +kernel
theorem dX12_gargoyle_20 : decode cX12_gargoyle 20 = .ok (.tableswitch 69 0 4 #[36, 43, 50, 57, 63], 36) := by decide +kernel
theorem dX12_gargoyle_56 : decode cX12_gargoyle 56 = .ok (.aload_n 0, 1) := by decide +kernel
theorem dX12_gargoyle_57 : decode cX12_gargoyle 57 = .ok (.getfield 88, 3) := by decide +kernel
theorem dX12_gargoyle_60 : decode cX12_gargoyle 60 = .ok (.iload_n 1, 1) := by decide +kernel
theorem dX12_gargoyle_61 : decode cX12_gargoyle 61 = .ok (.iaload, 1) := by decide +kernel
theorem dX12_gargoyle_62 : decode cX12_gargoyle 62 = .ok (.ireturn, 1) := by decide +kernel
theorem dX12_gargoyle_63 : decode cX12_gargoyle 63 = .ok (.aload_n 0, 1) := by decide +kernel
theorem dX12_gargoyle_64 : decode cX12_gargoyle 64 = .ok (.getfield 91, 3) := by decide +kernel
theorem dX12_gargoyle_67 : decode cX12_gargoyle 67 = .ok (.iload_n 1, 1) := by decide +kernel
theorem dX12_gargoyle_68 : decode cX12_gargoyle 68 = .ok (.iaload, 1) := by decide +kernel
theorem dX12_gargoyle_69 : decode cX12_gargoyle 69 = .ok (.ireturn, 1) := by decide +kernel
theorem dX12_gargoyle_70 : decode cX12_gargoyle 70 = .ok (.aload_n 0, 1) := by decide +kernel
theorem dX12_gargoyle_71 : decode cX12_gargoyle 71 = .ok (.getfield 94, 3) := by decide +kernel
theorem dX12_gargoyle_74 : decode cX12_gargoyle 74 = .ok (.iload_n 1, 1) := by decide +kernel
theorem dX12_gargoyle_75 : decode cX12_gargoyle 75 = .ok (.iaload, 1) := by decide +kernel
theorem dX12_gargoyle_76 : decode cX12_gargoyle 76 = .ok (.ireturn, 1) := by decide +kernel
theorem dX12_gargoyle_77 : decode cX12_gargoyle 77 = .ok (.aload_n 0, 1) := by decide +kernel
theorem dX12_gargoyle_78 : decode cX12_gargoyle 78 = .ok (.iload_n 1, 1) := by decide +kernel
theorem dX12_gargoyle_79 : decode cX12_gargoyle 79 = .ok (.invokevirtual 355, 3) := by decide +kernel
theorem dX12_gargoyle_82 : decode cX12_gargoyle 82 = .ok (.ireturn, 1) := by decide +kernel
theorem dX12_gargoyle_83 : decode cX12_gargoyle 83 = .ok (.aload_n 0, 1) := by decide +kernel
theorem dX12_gargoyle_84 : decode cX12_gargoyle 84 = .ok (.iload_n 1, 1) := by decide +kernel
theorem dX12_gargoyle_85 : decode cX12_gargoyle 85 = .ok (.invokevirtual 414, 3) := by decide +kernel
theorem dX12_gargoyle_88 : decode cX12_gargoyle 88 = .ok (.ireturn, 1) := by decide +kernel
theorem dX12_gargoyle_89 : decode cX12_gargoyle 89 = .ok (.aload_n 0, 1) := by decide +kernel
theorem dX12_gargoyle_90 : decode cX12_gargoyle 90 = .ok (.iconst 1, 1) := by decide +kernel
theorem dX12_gargoyle_91 : decode cX12_gargoyle 91 = .ok (.invokevirtual 310, 3) := by decide +kernel
theorem dX12_gargoyle_94 : decode cX12_gargoyle 94 = .ok (.ireturn, 1) := by decide +kernel
set_option maxRecDepth 20000 in
theorem ggX12_person_X12_isPerson : GoodIn wsX12_person wsX12_isPerson := goodIn_r _ [12, 13, 14, 15, 11, 16, 21, 22, 23, 24, 25, 26, 27, 28, 29, 30, 31, 32, 33, 34, 35, 36, 37, 38, 39, 40, 41, 42, 43, 44, 45, 46, 47, 48, 49, 50, 51, 52, 53, 54, 55, 56, 57, 58, 59, 60, 61, 62, 63, 64, 65, 66, 67, 68, 69, 70, 71, 72, 73, 74, 75, 76, 77, 78, 79, 80, 81, 82, 83, 84, 85] (by decide +kernel) (by decide +kernel)
set_option maxRecDepth 20000 in
theorem gX12_person_X12_isPerson : GoodIn wsX12_person (wsV RX12 417 RX12 yX12_isPerson wsX12_isPerson) := goodIn_app (goodIn_of _ (by decide +kernel)) ggX12_person_X12_isPerson
set_option maxRecDepth 20000 in
theorem ggX12_person_X12_fail : GoodIn wsX12_person wsX12_fail := goodIn_r _ [20, 1, 21, 22, 23, 24, 25, 26, 27, 28, 29, 30, 31, 32, 33, 34, 35, 36, 37, 38, 39, 40, 41, 42, 43, 44, 45, 46, 47, 48, 49, 50, 51, 52, 53, 54, 55, 56, 57, 58, 59, 60, 61, 62, 63, 64, 65, 66, 67, 68, 69, 70, 71, 72, 73, 74, 75, 76, 77, 78, 79, 80, 81, 82, 83, 84, 85] (by decide +kernel) (by decide +kernel)
set_option maxRecDepth 20000 in
theorem gX12_person_X12_fail : GoodIn wsX12_person (wsV RX12 310 RX12 yX12_fail wsX12_fail) := goodIn_app (goodIn_of _ (by decide +kernel)) ggX12_person_X12_fail
theorem dX12_person_0 : decode cX12_person 0 = .ok (.aload_n 0, 1) := by decide +kernel
theorem dX12_person_1 : decode cX12_person 1 = .ok (.iconst 0, 1) := by decide +kernel
theorem dX12_person_2 : decode cX12_person 2 = .ok (.putfield 163, 3) := by decide +kernel
theorem dX12_person_5 : decode cX12_person 5 = .ok (.aload_n 0, 1) := by decide +kernel
theorem dX12_person_6 : decode cX12_person 6 = .ok (.iload_n 1, 1) := by decide +kernel
theorem dX12_person_7 : decode cX12_person 7 = .ok (.invokevirtual 417, 3) := by decide +kernel
theorem dX12_person_10 : decode cX12_person 10 = .ok (.ifCond .ne 9, 3) := by decide +kernel
theorem dX12_person_13 : decode cX12_person 13 = .ok (.aload_n 0, 1) := by decide +kernel
theorem dX12_person_14 : decode cX12_person 14 = .ok (.iconst 1, 1) := by decide +kernel
theorem dX12_person_15 : decode cX12_person 15 = .ok (.invokevirtual 310, 3) := by decide +kernel
theorem dX12_person_18 : decode cX12_person 18 = .ok (.ireturn, 1) := by decide +kernel
theorem dX12_person_19 : decode cX12_person 19 = .ok (.iload_n 2, 1) := by decide +kernel
theorem dX12_person_20 : decode cX12_person 20 = .ok (.tableswitch 82 0 5 #[40, 47, 54, 61, 68, 75], 40) := by decide +kernel
theorem dX12_person_60 : decode cX12_person 60 = .ok (.aload_n 0, 1) := by decide +kernel
theorem dX12_person_61 : decode cX12_person 61 = .ok (.getfield 96, 3) := by decide +kernel
theorem dX12_person_64 : decode cX12_person 64 = .ok (.iload_n 1, 1) := by decide +kernel
theorem dX12_person_65 : decode cX12_person 65 = .ok (.iaload, 1) := by decide +kernel
theorem dX12_person_66 : decode cX12_person 66 = .ok (.ireturn, 1) := by decide +kernel
theorem dX12_person_67 : decode cX12_person 67 = .ok (.aload_n 0, 1) := by decide +kernel
theorem dX12_person_68 : decode cX12_person 68 = .ok (.getfield 99, 3) := by decide +kernel
theorem dX12_person_71 : decode cX12_person 71 = .ok (.iload_n 1, 1) := by decide +kernel
theorem dX12_person_72 : decode cX12_person 72 = .ok (.iaload, 1) := by decide +kernel
theorem dX12_person_73 : decode cX12_person 73 = .ok (.ireturn, 1) := by decide +kernel
theorem dX12_person_74 : decode cX12_person 74 = .ok (.aload_n 0, 1) := by decide +kernel
theorem dX12_person_75 : decode cX12_person 75 = .ok (.getfield 102, 3) := by decide +kernel
theorem dX12_person_78 : decode cX12_person 78 = .ok (.iload_n 1, 1) := by decide +kernel
theorem dX12_person_79 : decode cX12_person 79 = .ok (.iaload, 1) := by decide +kernel
theorem dX12_person_80 : decode cX12_person 80 = .ok (.ireturn, 1) := by decide +kernel
theorem dX12_person_81 : decode cX12_person 81 = .ok (.aload_n 0, 1) := by decide +kernel
theorem dX12_person_82 : decode cX12_person 82 = .ok (.getfield 104, 3) := by decide +kernel
theorem dX12_person_85 : decode cX12_person 85 = .ok (.iload_n 1, 1) := by decide +kernel
theorem dX12_person_86 : decode cX12_person 86 = .ok (.iaload, 1) := by decide +kernel
theorem dX12_person_87 : decode cX12_person 87 = .ok (.ireturn, 1) := by decide +kernel
theorem dX12_person_88 : decode cX12_person 88 = .ok (.aload_n 0, 1) := by decide +kernel
theorem dX12_person_89 : decode cX12_person 89 = .ok (.getfield 106, 3) := by decide +kernel
theorem dX12_person_92 : decode cX12_person 92 = .ok (.iload_n 1, 1) := by decide +kernel
theorem dX12_person_93 : decode cX12_person 93 = .ok (.iaload, 1) := by decide +kernel
theorem dX12_person_94 : decode cX12_person 94 = .ok (.ireturn, 1) := by decide +kernel
theorem dX12_person_95 : decode cX12_person 95 = .ok (.aload_n 0, 1) := by decide +kernel
theorem dX12_person_96 : decode cX12_person 96 = .ok (.getfield 55, 3) := by decide +kernel
theorem dX12_person_99 : decode cX12_person 99 = .ok (.iload_n 1, 1) := by decide +kernel
theorem dX12_person_100 : decode cX12_person 100 = .ok (.iaload, 1) := by decide +kernel
theorem dX12_person_101 : decode cX12_person 101 = .ok (.ireturn, 1) := by decide +kernel
theorem dX12_person_102 : decode cX12_person 102 = .ok (.aload_n 0, 1) := by decide +kernel
theorem dX12_person_103 : decode cX12_person 103 = .ok (.iconst 1, 1) := by decide +kernel
theorem dX12_person_104 : decode cX12_person 104 = .ok (.invokevirtual 310, 3) := by decide +kernel
theorem dX12_person_107 : decode cX12_person 107 = .ok (.ireturn, 1) := by decide +kernel
theorem dX12_refuse_0 : decode cX12_refuse 0 = .ok (.aload_n 0, 1) := by decide +kernel
theorem dX12_refuse_1 : decode cX12_refuse 1 = .ok (.getfield 78, 3) := by decide +kernel
theorem dX12_refuse_4 : decode cX12_refuse 4 = .ok (.iload_n 1, 1) := by decide +kernel
theorem dX12_refuse_5 : decode cX12_refuse 5 = .ok (.dup2, 1) := by decide +kernel
theorem dX12_refuse_6 : decode cX12_refuse 6 = .ok (.iaload, 1) := by decide +kernel
theorem dX12_refuse_7 : decode cX12_refuse 7 = .ok (.iconst 1, 1) := by decide +kernel
theorem dX12_refuse_8 : decode cX12_refuse 8 = .ok (.iadd, 1) := by decide +kernel
theorem dX12_refuse_9 : decode cX12_refuse 9 = .ok (.iastore, 1) := by decide +kernel
theorem dX12_refuse_10 : decode cX12_refuse 10 = .ok (.iconst (-1), 1) := by decide +kernel
theorem dX12_refuse_11 : decode cX12_refuse 11 = .ok (.ireturn, 1) := by decide +kernel
set_option maxRecDepth 20000 in
theorem ggX12_keep_X12_pack : GoodIn wsX12_keep wsX12_pack := goodIn_r _ [7, 8, 9, 10, 11, 12, 13, 14, 15, 16, 17, 18, 19, 20, 21, 22, 23, 24, 25, 26, 27, 28, 29, 30, 31, 32, 33, 34, 35, 36, 37, 38, 39, 40, 41, 42, 43, 44, 45, 46, 47, 48, 49, 50, 51, 52, 53, 54, 55, 56, 57, 58, 59, 60, 61, 62, 63, 64, 65, 66, 67, 68, 69, 70, 71, 72, 73, 74, 75, 76, 77, 78, 79, 80, 81] (by decide +kernel) (by decide +kernel)
set_option maxRecDepth 20000 in
theorem gX12_keep_X12_pack : GoodIn wsX12_keep (wsV RX12 420 RX12 yX12_pack wsX12_pack) := goodIn_app (goodIn_of _ (by decide +kernel)) ggX12_keep_X12_pack
theorem dX12_keep_0 : decode cX12_keep 0 = .ok (.aload_n 0, 1) := by decide +kernel
theorem dX12_keep_1 : decode cX12_keep 1 = .ok (.getfield 326, 3) := by decide +kernel
theorem dX12_keep_4 : decode cX12_keep 4 = .ok (.bipush 40, 2) := by decide +kernel
theorem dX12_keep_6 : decode cX12_keep 6 = .ok (.if_icmp .ne 46, 3) := by decide +kernel
theorem dX12_keep_9 : decode cX12_keep 9 = .ok (.bipush 65, 2) := by decide +kernel
theorem dX12_keep_11 : decode cX12_keep 11 = .ok (.istore_n 1, 1) := by decide +kernel
theorem dX12_keep_12 : decode cX12_keep 12 = .ok (.iload_n 1, 1) := by decide +kernel
theorem dX12_keep_13 : decode cX12_keep 13 = .ok (.aload_n 0, 1) := by decide +kernel
theorem dX12_keep_14 : decode cX12_keep 14 = .ok (.getfield 109, 3) := by decide +kernel
theorem dX12_keep_17 : decode cX12_keep 17 = .ok (.arraylength, 1) := by decide +kernel
theorem dX12_keep_18 : decode cX12_keep 18 = .ok (.if_icmp .ge 24, 3) := by decide +kernel
theorem dX12_keep_21 : decode cX12_keep 21 = .ok (.aload_n 0, 1) := by decide +kernel
theorem dX12_keep_22 : decode cX12_keep 22 = .ok (.getfield 109, 3) := by decide +kernel
theorem dX12_keep_25 : decode cX12_keep 25 = .ok (.iload_n 1, 1) := by decide +kernel
theorem dX12_keep_26 : decode cX12_keep 26 = .ok (.bipush 65, 2) := by decide +kernel
theorem dX12_keep_28 : decode cX12_keep 28 = .ok (.isub, 1) := by decide +kernel
theorem dX12_keep_29 : decode cX12_keep 29 = .ok (.aload_n 0, 1) := by decide +kernel
theorem dX12_keep_30 : decode cX12_keep 30 = .ok (.getfield 109, 3) := by decide +kernel
theorem dX12_keep_33 : decode cX12_keep 33 = .ok (.iload_n 1, 1) := by decide +kernel
theorem dX12_keep_34 : decode cX12_keep 34 = .ok (.iaload, 1) := by decide +kernel
