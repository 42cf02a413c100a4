theorem bg01_0 : ((decode cX12_pack 131 = .ok (.iastore, 1) ∧ decode cX12_pack 132 = .ok (.iinc 3 5, 3)) ∧ (decode cX12_pack 135 = .ok (.iinc 4 1, 3) ∧ decode cX12_pack 138 = .ok (.goto (-71), 3))) ∧ ((decode cX12_pack 141 = .ok (.return_, 1) ∧ decode cX12_unpack 0 = .ok (.aload_n 0, 1)) ∧ (decode cX12_unpack 1 = .ok (.aload_n 1, 1) ∧ decode cX12_unpack 2 = .ok (.iload_n 2, 1))) := by decide +kernel
theorem dX12_pack_131 : decode cX12_pack 131 = .ok (.iastore, 1) := bg01_0.1.1.1
theorem dX12_pack_132 : decode cX12_pack 132 = .ok (.iinc 3 5, 3) := bg01_0.1.1.2
theorem dX12_pack_135 : decode cX12_pack 135 = .ok (.iinc 4 1, 3) := bg01_0.1.2.1
theorem dX12_pack_138 : decode cX12_pack 138 = .ok (.goto (-71), 3) := bg01_0.1.2.2
theorem dX12_pack_141 : decode cX12_pack 141 = .ok (.return_, 1) := bg01_0.2.1.1
theorem dX12_unpack_0 : decode cX12_unpack 0 = .ok (.aload_n 0, 1) := bg01_0.2.1.2
theorem dX12_unpack_1 : decode cX12_unpack 1 = .ok (.aload_n 1, 1) := bg01_0.2.2.1
theorem dX12_unpack_2 : decode cX12_unpack 2 = .ok (.iload_n 2, 1) := bg01_0.2.2.2
theorem bg01_1 : (((decode cX12_unpack 3 = .ok (.iaload, 1) ∧ decode cX12_unpack 4 = .ok (.putfield 323, 3)) ∧ (decode cX12_unpack 7 = .ok (.iload_n 2, 1) ∧ decode cX12_unpack 8 = .ok (.iconst 1, 1))) ∧ ((decode cX12_unpack 9 = .ok (.iadd, 1) ∧ decode cX12_unpack 10 = .ok (.istore_n 3, 1)) ∧ (decode cX12_unpack 11 = .ok (.iconst 0, 1) ∧ decode cX12_unpack 12 = .ok (.istore 4, 2)))) ∧ (((decode cX12_unpack 14 = .ok (.iload 4, 2) ∧ decode cX12_unpack 16 = .ok (.bipush 8, 2)) ∧ (decode cX12_unpack 18 = .ok (.if_icmp .ge 46, 3) ∧ decode cX12_unpack 21 = .ok (.aload_n 0, 1))) ∧ ((decode cX12_unpack 22 = .ok (.getfield 88, 3) ∧ decode cX12_unpack 25 = .ok (.iload 4, 2)) ∧ (decode cX12_unpack 27 = .ok (.aload_n 1, 1) ∧ decode cX12_unpack 28 = .ok (.iload_n 3, 1)))) := by decide +kernel
theorem dX12_unpack_3 : decode cX12_unpack 3 = .ok (.iaload, 1) := bg01_1.1.1.1.1
theorem dX12_unpack_4 : decode cX12_unpack 4 = .ok (.putfield 323, 3) := bg01_1.1.1.1.2
theorem dX12_unpack_7 : decode cX12_unpack 7 = .ok (.iload_n 2, 1) := bg01_1.1.1.2.1
theorem dX12_unpack_8 : decode cX12_unpack 8 = .ok (.iconst 1, 1) := bg01_1.1.1.2.2
theorem dX12_unpack_9 : decode cX12_unpack 9 = .ok (.iadd, 1) := bg01_1.1.2.1.1
theorem dX12_unpack_10 : decode cX12_unpack 10 = .ok (.istore_n 3, 1) := bg01_1.1.2.1.2
theorem dX12_unpack_11 : decode cX12_unpack 11 = .ok (.iconst 0, 1) := bg01_1.1.2.2.1
theorem dX12_unpack_12 : decode cX12_unpack 12 = .ok (.istore 4, 2) := bg01_1.1.2.2.2
theorem dX12_unpack_14 : decode cX12_unpack 14 = .ok (.iload 4, 2) := bg01_1.2.1.1.1
theorem dX12_unpack_16 : decode cX12_unpack 16 = .ok (.bipush 8, 2) := bg01_1.2.1.1.2
theorem dX12_unpack_18 : decode cX12_unpack 18 = .ok (.if_icmp .ge 46, 3) := bg01_1.2.1.2.1
theorem dX12_unpack_21 : decode cX12_unpack 21 = .ok (.aload_n 0, 1) := bg01_1.2.1.2.2
theorem dX12_unpack_22 : decode cX12_unpack 22 = .ok (.getfield 88, 3) := bg01_1.2.2.1.1
theorem dX12_unpack_25 : decode cX12_unpack 25 = .ok (.iload 4, 2) := bg01_1.2.2.1.2
theorem dX12_unpack_27 : decode cX12_unpack 27 = .ok (.aload_n 1, 1) := bg01_1.2.2.2.1
theorem dX12_unpack_28 : decode cX12_unpack 28 = .ok (.iload_n 3, 1) := bg01_1.2.2.2.2
theorem bg01_2 : (((decode cX12_unpack 29 = .ok (.iaload, 1) ∧ decode cX12_unpack 30 = .ok (.iastore, 1)) ∧ (decode cX12_unpack 31 = .ok (.aload_n 0, 1) ∧ decode cX12_unpack 32 = .ok (.getfield 91, 3))) ∧ ((decode cX12_unpack 35 = .ok (.iload 4, 2) ∧ decode cX12_unpack 37 = .ok (.aload_n 1, 1)) ∧ (decode cX12_unpack 38 = .ok (.iload_n 3, 1) ∧ decode cX12_unpack 39 = .ok (.iconst 1, 1)))) ∧ (((decode cX12_unpack 40 = .ok (.iadd, 1) ∧ decode cX12_unpack 41 = .ok (.iaload, 1)) ∧ (decode cX12_unpack 42 = .ok (.iastore, 1) ∧ decode cX12_unpack 43 = .ok (.aload_n 0, 1))) ∧ ((decode cX12_unpack 44 = .ok (.getfield 94, 3) ∧ decode cX12_unpack 47 = .ok (.iload 4, 2)) ∧ (decode cX12_unpack 49 = .ok (.aload_n 1, 1) ∧ decode cX12_unpack 50 = .ok (.iload_n 3, 1)))) := by decide +kernel
theorem dX12_unpack_29 : decode cX12_unpack 29 = .ok (.iaload, 1) := bg01_2.1.1.1.1
theorem dX12_unpack_30 : decode cX12_unpack 30 = .ok (.iastore, 1) := bg01_2.1.1.1.2
theorem dX12_unpack_31 : decode cX12_unpack 31 = .ok (.aload_n 0, 1) := bg01_2.1.1.2.1
theorem dX12_unpack_32 : decode cX12_unpack 32 = .ok (.getfield 91, 3) := bg01_2.1.1.2.2
theorem dX12_unpack_35 : decode cX12_unpack 35 = .ok (.iload 4, 2) := bg01_2.1.2.1.1
theorem dX12_unpack_37 : decode cX12_unpack 37 = .ok (.aload_n 1, 1) := bg01_2.1.2.1.2
theorem dX12_unpack_38 : decode cX12_unpack 38 = .ok (.iload_n 3, 1) := bg01_2.1.2.2.1
theorem dX12_unpack_39 : decode cX12_unpack 39 = .ok (.iconst 1, 1) := bg01_2.1.2.2.2
theorem dX12_unpack_40 : decode cX12_unpack 40 = .ok (.iadd, 1) := bg01_2.2.1.1.1
theorem dX12_unpack_41 : decode cX12_unpack 41 = .ok (.iaload, 1) := bg01_2.2.1.1.2
theorem dX12_unpack_42 : decode cX12_unpack 42 = .ok (.iastore, 1) := bg01_2.2.1.2.1
theorem dX12_unpack_43 : decode cX12_unpack 43 = .ok (.aload_n 0, 1) := bg01_2.2.1.2.2
theorem dX12_unpack_44 : decode cX12_unpack 44 = .ok (.getfield 94, 3) := bg01_2.2.2.1.1
theorem dX12_unpack_47 : decode cX12_unpack 47 = .ok (.iload 4, 2) := bg01_2.2.2.1.2
theorem dX12_unpack_49 : decode cX12_unpack 49 = .ok (.aload_n 1, 1) := bg01_2.2.2.2.1
theorem dX12_unpack_50 : decode cX12_unpack 50 = .ok (.iload_n 3, 1) := bg01_2.2.2.2.2
theorem bg01_3 : (((decode cX12_unpack 51 = .ok (.iconst 2, 1) ∧ decode cX12_unpack 52 = .ok (.iadd, 1)) ∧ (decode cX12_unpack 53 = .ok (.iaload, 1) ∧ decode cX12_unpack 54 = .ok (.iastore, 1))) ∧ ((decode cX12_unpack 55 = .ok (.iinc 3 3, 3) ∧ decode cX12_unpack 58 = .ok (.iinc 4 1, 3)) ∧ (decode cX12_unpack 61 = .ok (.goto (-47), 3) ∧ decode cX12_unpack 64 = .ok (.iconst 0, 1)))) ∧ (((decode cX12_unpack 65 = .ok (.istore 4, 2) ∧ decode cX12_unpack 67 = .ok (.iload 4, 2)) ∧ (decode cX12_unpack 69 = .ok (.bipush 8, 2) ∧ decode cX12_unpack 71 = .ok (.if_icmp .ge 70, 3))) ∧ ((decode cX12_unpack 74 = .ok (.aload_n 0, 1) ∧ decode cX12_unpack 75 = .ok (.getfield 96, 3)) ∧ (decode cX12_unpack 78 = .ok (.iload 4, 2) ∧ decode cX12_unpack 80 = .ok (.aload_n 1, 1)))) := by decide +kernel
theorem dX12_unpack_51 : decode cX12_unpack 51 = .ok (.iconst 2, 1) := bg01_3.1.1.1.1
theorem dX12_unpack_52 : decode cX12_unpack 52 = .ok (.iadd, 1) := bg01_3.1.1.1.2
theorem dX12_unpack_53 : decode cX12_unpack 53 = .ok (.iaload, 1) := bg01_3.1.1.2.1
theorem dX12_unpack_54 : decode cX12_unpack 54 = .ok (.iastore, 1) := bg01_3.1.1.2.2
theorem dX12_unpack_55 : decode cX12_unpack 55 = .ok (.iinc 3 3, 3) := bg01_3.1.2.1.1
theorem dX12_unpack_58 : decode cX12_unpack 58 = .ok (.iinc 4 1, 3) := bg01_3.1.2.1.2
theorem dX12_unpack_61 : decode cX12_unpack 61 = .ok (.goto (-47), 3) := bg01_3.1.2.2.1
theorem dX12_unpack_64 : decode cX12_unpack 64 = .ok (.iconst 0, 1) := bg01_3.1.2.2.2
theorem dX12_unpack_65 : decode cX12_unpack 65 = .ok (.istore 4, 2) := bg01_3.2.1.1.1
theorem dX12_unpack_67 : decode cX12_unpack 67 = .ok (.iload 4, 2) := bg01_3.2.1.1.2
theorem dX12_unpack_69 : decode cX12_unpack 69 = .ok (.bipush 8, 2) := bg01_3.2.1.2.1
theorem dX12_unpack_71 : decode cX12_unpack 71 = .ok (.if_icmp .ge 70, 3) := bg01_3.2.1.2.2
theorem dX12_unpack_74 : decode cX12_unpack 74 = .ok (.aload_n 0, 1) := bg01_3.2.2.1.1
theorem dX12_unpack_75 : decode cX12_unpack 75 = .ok (.getfield 96, 3) := bg01_3.2.2.1.2
theorem dX12_unpack_78 : decode cX12_unpack 78 = .ok (.iload 4, 2) := bg01_3.2.2.2.1
theorem dX12_unpack_80 : decode cX12_unpack 80 = .ok (.aload_n 1, 1) := bg01_3.2.2.2.2
theorem bg01_4 : (((decode cX12_unpack 81 = .ok (.iload_n 3, 1) ∧ decode cX12_unpack 82 = .ok (.iaload, 1)) ∧ (decode cX12_unpack 83 = .ok (.iastore, 1) ∧ decode cX12_unpack 84 = .ok (.aload_n 0, 1))) ∧ ((decode cX12_unpack 85 = .ok (.getfield 99, 3) ∧ decode cX12_unpack 88 = .ok (.iload 4, 2)) ∧ (decode cX12_unpack 90 = .ok (.aload_n 1, 1) ∧ decode cX12_unpack 91 = .ok (.iload_n 3, 1)))) ∧ (((decode cX12_unpack 92 = .ok (.iconst 1, 1) ∧ decode cX12_unpack 93 = .ok (.iadd, 1)) ∧ (decode cX12_unpack 94 = .ok (.iaload, 1) ∧ decode cX12_unpack 95 = .ok (.iastore, 1))) ∧ ((decode cX12_unpack 96 = .ok (.aload_n 0, 1) ∧ decode cX12_unpack 97 = .ok (.getfield 102, 3)) ∧ (decode cX12_unpack 100 = .ok (.iload 4, 2) ∧ decode cX12_unpack 102 = .ok (.aload_n 1, 1)))) := by decide +kernel
theorem dX12_unpack_81 : decode cX12_unpack 81 = .ok (.iload_n 3, 1) := bg01_4.1.1.1.1
theorem dX12_unpack_82 : decode cX12_unpack 82 = .ok (.iaload, 1) := bg01_4.1.1.1.2
theorem dX12_unpack_83 : decode cX12_unpack 83 = .ok (.iastore, 1) := bg01_4.1.1.2.1
theorem dX12_unpack_84 : decode cX12_unpack 84 = .ok (.aload_n 0, 1) := bg01_4.1.1.2.2
theorem dX12_unpack_85 : decode cX12_unpack 85 = .ok (.getfield 99, 3) := bg01_4.1.2.1.1
theorem dX12_unpack_88 : decode cX12_unpack 88 = .ok (.iload 4, 2) := bg01_4.1.2.1.2
theorem dX12_unpack_90 : decode cX12_unpack 90 = .ok (.aload_n 1, 1) := bg01_4.1.2.2.1
theorem dX12_unpack_91 : decode cX12_unpack 91 = .ok (.iload_n 3, 1) := bg01_4.1.2.2.2
theorem dX12_unpack_92 : decode cX12_unpack 92 = .ok (.iconst 1, 1) := bg01_4.2.1.1.1
theorem dX12_unpack_93 : decode cX12_unpack 93 = .ok (.iadd, 1) := bg01_4.2.1.1.2
theorem dX12_unpack_94 : decode cX12_unpack 94 = .ok (.iaload, 1) := bg01_4.2.1.2.1
theorem dX12_unpack_95 : decode cX12_unpack 95 = .ok (.iastore, 1) := bg01_4.2.1.2.2
theorem dX12_unpack_96 : decode cX12_unpack 96 = .ok (.aload_n 0, 1) := bg01_4.2.2.1.1
theorem dX12_unpack_97 : decode cX12_unpack 97 = .ok (.getfield 102, 3) := bg01_4.2.2.1.2
theorem dX12_unpack_100 : decode cX12_unpack 100 = .ok (.iload 4, 2) := bg01_4.2.2.2.1
theorem dX12_unpack_102 : decode cX12_unpack 102 = .ok (.aload_n 1, 1) := bg01_4.2.2.2.2
theorem bg01_5 : (((decode cX12_unpack 103 = .ok (.iload_n 3, 1) ∧ decode cX12_unpack 104 = .ok (.iconst 2, 1)) ∧ (decode cX12_unpack 105 = .ok (.iadd, 1) ∧ decode cX12_unpack 106 = .ok (.iaload, 1))) ∧ ((decode cX12_unpack 107 = .ok (.iastore, 1) ∧ decode cX12_unpack 108 = .ok (.aload_n 0, 1)) ∧ (decode cX12_unpack 109 = .ok (.getfield 104, 3) ∧ decode cX12_unpack 112 = .ok (.iload 4, 2)))) ∧ (((decode cX12_unpack 114 = .ok (.aload_n 1, 1) ∧ decode cX12_unpack 115 = .ok (.iload_n 3, 1)) ∧ (decode cX12_unpack 116 = .ok (.iconst 3, 1) ∧ decode cX12_unpack 117 = .ok (.iadd, 1))) ∧ ((decode cX12_unpack 118 = .ok (.iaload, 1) ∧ decode cX12_unpack 119 = .ok (.iastore, 1)) ∧ (decode cX12_unpack 120 = .ok (.aload_n 0, 1) ∧ decode cX12_unpack 121 = .ok (.getfield 106, 3)))) := by decide +kernel
theorem dX12_unpack_103 : decode cX12_unpack 103 = .ok (.iload_n 3, 1) := bg01_5.1.1.1.1
theorem dX12_unpack_104 : decode cX12_unpack 104 = .ok (.iconst 2, 1) := bg01_5.1.1.1.2
theorem dX12_unpack_105 : decode cX12_unpack 105 = .ok (.iadd, 1) := bg01_5.1.1.2.1
theorem dX12_unpack_106 : decode cX12_unpack 106 = .ok (.iaload, 1) := bg01_5.1.1.2.2
theorem dX12_unpack_107 : decode cX12_unpack 107 = .ok (.iastore, 1) := bg01_5.1.2.1.1
theorem dX12_unpack_108 : decode cX12_unpack 108 = .ok (.aload_n 0, 1) := bg01_5.1.2.1.2
theorem dX12_unpack_109 : decode cX12_unpack 109 = .ok (.getfield 104, 3) := bg01_5.1.2.2.1
theorem dX12_unpack_112 : decode cX12_unpack 112 = .ok (.iload 4, 2) := bg01_5.1.2.2.2
theorem dX12_unpack_114 : decode cX12_unpack 114 = .ok (.aload_n 1, 1) := bg01_5.2.1.1.1
theorem dX12_unpack_115 : decode cX12_unpack 115 = .ok (.iload_n 3, 1) := bg01_5.2.1.1.2
theorem dX12_unpack_116 : decode cX12_unpack 116 = .ok (.iconst 3, 1) := bg01_5.2.1.2.1
theorem dX12_unpack_117 : decode cX12_unpack 117 = .ok (.iadd, 1) := bg01_5.2.1.2.2
theorem dX12_unpack_118 : decode cX12_unpack 118 = .ok (.iaload, 1) := bg01_5.2.2.1.1
theorem dX12_unpack_119 : decode cX12_unpack 119 = .ok (.iastore, 1) := bg01_5.2.2.1.2
theorem dX12_unpack_120 : decode cX12_unpack 120 = .ok (.aload_n 0, 1) := bg01_5.2.2.2.1
theorem dX12_unpack_121 : decode cX12_unpack 121 = .ok (.getfield 106, 3) := bg01_5.2.2.2.2
theorem bg01_6 : (((decode cX12_unpack 124 = .ok (.iload 4, 2) ∧ decode cX12_unpack 126 = .ok (.aload_n 1, 1)) ∧ (decode cX12_unpack 127 = .ok (.iload_n 3, 1))) ∧ ((decode cX12_unpack 128 = .ok (.iconst 4, 1) ∧ decode cX12_unpack 129 = .ok (.iadd, 1)) ∧ (decode cX12_unpack 130 = .ok (.iaload, 1)))) ∧ (((decode cX12_unpack 131 = .ok (.iastore, 1) ∧ decode cX12_unpack 132 = .ok (.iinc 3 5, 3)) ∧ (decode cX12_unpack 135 = .ok (.iinc 4 1, 3))) ∧ (decode cX12_unpack 138 = .ok (.goto (-71), 3) ∧ decode cX12_unpack 141 = .ok (.return_, 1))) := by decide +kernel
theorem dX12_unpack_124 : decode cX12_unpack 124 = .ok (.iload 4, 2) := bg01_6.1.1.1.1
theorem dX12_unpack_126 : decode cX12_unpack 126 = .ok (.aload_n 1, 1) := bg01_6.1.1.1.2
theorem dX12_unpack_127 : decode cX12_unpack 127 = .ok (.iload_n 3, 1) := bg01_6.1.1.2
theorem dX12_unpack_128 : decode cX12_unpack 128 = .ok (.iconst 4, 1) := bg01_6.1.2.1.1
theorem dX12_unpack_129 : decode cX12_unpack 129 = .ok (.iadd, 1) := bg01_6.1.2.1.2
theorem dX12_unpack_130 : decode cX12_unpack 130 = .ok (.iaload, 1) := bg01_6.1.2.2
theorem dX12_unpack_131 : decode cX12_unpack 131 = .ok (.iastore, 1) := bg01_6.2.1.1.1
theorem dX12_unpack_132 : decode cX12_unpack 132 = .ok (.iinc 3 5, 3) := bg01_6.2.1.1.2
theorem dX12_unpack_135 : decode cX12_unpack 135 = .ok (.iinc 4 1, 3) := bg01_6.2.1.2
theorem dX12_unpack_138 : decode cX12_unpack 138 = .ok (.goto (-71), 3) := bg01_6.2.2.1
theorem dX12_unpack_141 : decode cX12_unpack 141 = .ok (.return_, 1) := bg01_6.2.2.2
theorem bg01_7 : (((decode cX12_reckon 0 = .ok (.iload_n 0, 1) ∧ decode cX12_reckon 1 = .ok (.tableswitch 103 (-26) (-20) #[89, 78, 67, 55, 51, 47, 43], 43)) ∧ (decode cX12_reckon 44 = .ok (.iload_n 1, 1) ∧ decode cX12_reckon 45 = .ok (.iload_n 2, 1))) ∧ ((decode cX12_reckon 46 = .ok (.iadd, 1) ∧ decode cX12_reckon 47 = .ok (.ireturn, 1)) ∧ (decode cX12_reckon 48 = .ok (.iload_n 1, 1) ∧ decode cX12_reckon 49 = .ok (.iload_n 2, 1)))) ∧ (((decode cX12_reckon 50 = .ok (.isub, 1) ∧ decode cX12_reckon 51 = .ok (.ireturn, 1)) ∧ (decode cX12_reckon 52 = .ok (.iload_n 1, 1) ∧ decode cX12_reckon 53 = .ok (.iload_n 2, 1))) ∧ ((decode cX12_reckon 54 = .ok (.imul, 1) ∧ decode cX12_reckon 55 = .ok (.ireturn, 1)) ∧ (decode cX12_reckon 56 = .ok (.iload_n 2, 1) ∧ decode cX12_reckon 57 = .ok (.ifCond .ne 7, 3)))) := by decide +kernel
theorem dX12_reckon_0 : decode cX12_reckon 0 = .ok (.iload_n 0, 1) := bg01_7.1.1.1.1
theorem dX12_reckon_1 : decode cX12_reckon 1 = .ok (.tableswitch 103 (-26) (-20) #[89, 78, 67, 55, 51, 47, 43], 43) := bg01_7.1.1.1.2
theorem dX12_reckon_44 : decode cX12_reckon 44 = .ok (.iload_n 1, 1) := bg01_7.1.1.2.1
theorem dX12_reckon_45 : decode cX12_reckon 45 = .ok (.iload_n 2, 1) := bg01_7.1.1.2.2
theorem dX12_reckon_46 : decode cX12_reckon 46 = .ok (.iadd, 1) := bg01_7.1.2.1.1
theorem dX12_reckon_47 : decode cX12_reckon 47 = .ok (.ireturn, 1) := bg01_7.1.2.1.2
theorem dX12_reckon_48 : decode cX12_reckon 48 = .ok (.iload_n 1, 1) := bg01_7.1.2.2.1
theorem dX12_reckon_49 : decode cX12_reckon 49 = .ok (.iload_n 2, 1) := bg01_7.1.2.2.2
theorem dX12_reckon_50 : decode cX12_reckon 50 = .ok (.isub, 1) := bg01_7.2.1.1.1
theorem dX12_reckon_51 : decode cX12_reckon 51 = .ok (.ireturn, 1) := bg01_7.2.1.1.2
theorem dX12_reckon_52 : decode cX12_reckon 52 = .ok (.iload_n 1, 1) := bg01_7.2.1.2.1
theorem dX12_reckon_53 : decode cX12_reckon 53 = .ok (.iload_n 2, 1) := bg01_7.2.1.2.2
theorem dX12_reckon_54 : decode cX12_reckon 54 = .ok (.imul, 1) := bg01_7.2.2.1.1
theorem dX12_reckon_55 : decode cX12_reckon 55 = .ok (.ireturn, 1) := bg01_7.2.2.1.2
theorem dX12_reckon_56 : decode cX12_reckon 56 = .ok (.iload_n 2, 1) := bg01_7.2.2.2.1
theorem dX12_reckon_57 : decode cX12_reckon 57 = .ok (.ifCond .ne 7, 3) := bg01_7.2.2.2.2
theorem bg01_8 : (((decode cX12_reckon 60 = .ok (.iconst 0, 1) ∧ decode cX12_reckon 61 = .ok (.goto 6, 3)) ∧ (decode cX12_reckon 64 = .ok (.iload_n 1, 1) ∧ decode cX12_reckon 65 = .ok (.iload_n 2, 1))) ∧ ((decode cX12_reckon 66 = .ok (.idiv, 1) ∧ decode cX12_reckon 67 = .ok (.ireturn, 1)) ∧ (decode cX12_reckon 68 = .ok (.iload_n 1, 1) ∧ decode cX12_reckon 69 = .ok (.iload_n 2, 1)))) ∧ (((decode cX12_reckon 70 = .ok (.if_icmp .ge 7, 3) ∧ decode cX12_reckon 73 = .ok (.iconst 1, 1)) ∧ (decode cX12_reckon 74 = .ok (.goto 4, 3) ∧ decode cX12_reckon 77 = .ok (.iconst 0, 1))) ∧ ((decode cX12_reckon 78 = .ok (.ireturn, 1) ∧ decode cX12_reckon 79 = .ok (.iload_n 1, 1)) ∧ (decode cX12_reckon 80 = .ok (.iload_n 2, 1) ∧ decode cX12_reckon 81 = .ok (.if_icmp .ne 7, 3)))) := by decide +kernel
theorem dX12_reckon_60 : decode cX12_reckon 60 = .ok (.iconst 0, 1) := bg01_8.1.1.1.1
theorem dX12_reckon_61 : decode cX12_reckon 61 = .ok (.goto 6, 3) := bg01_8.1.1.1.2
theorem dX12_reckon_64 : decode cX12_reckon 64 = .ok (.iload_n 1, 1) := bg01_8.1.1.2.1
theorem dX12_reckon_65 : decode cX12_reckon 65 = .ok (.iload_n 2, 1) := bg01_8.1.1.2.2
theorem dX12_reckon_66 : decode cX12_reckon 66 = .ok (.idiv, 1) := bg01_8.1.2.1.1
theorem dX12_reckon_67 : decode cX12_reckon 67 = .ok (.ireturn, 1) := bg01_8.1.2.1.2
theorem dX12_reckon_68 : decode cX12_reckon 68 = .ok (.iload_n 1, 1) := bg01_8.1.2.2.1
theorem dX12_reckon_69 : decode cX12_reckon 69 = .ok (.iload_n 2, 1) := bg01_8.1.2.2.2
theorem dX12_reckon_70 : decode cX12_reckon 70 = .ok (.if_icmp .ge 7, 3) := bg01_8.2.1.1.1
theorem dX12_reckon_73 : decode cX12_reckon 73 = .ok (.iconst 1, 1) := bg01_8.2.1.1.2
theorem dX12_reckon_74 : decode cX12_reckon 74 = .ok (.goto 4, 3) := bg01_8.2.1.2.1
theorem dX12_reckon_77 : decode cX12_reckon 77 = .ok (.iconst 0, 1) := bg01_8.2.1.2.2
theorem dX12_reckon_78 : decode cX12_reckon 78 = .ok (.ireturn, 1) := bg01_8.2.2.1.1
theorem dX12_reckon_79 : decode cX12_reckon 79 = .ok (.iload_n 1, 1) := bg01_8.2.2.1.2
theorem dX12_reckon_80 : decode cX12_reckon 80 = .ok (.iload_n 2, 1) := bg01_8.2.2.2.1
theorem dX12_reckon_81 : decode cX12_reckon 81 = .ok (.if_icmp .ne 7, 3) := bg01_8.2.2.2.2
theorem bg01_9 : (((decode cX12_reckon 84 = .ok (.iconst 1, 1) ∧ decode cX12_reckon 85 = .ok (.goto 4, 3)) ∧ (decode cX12_reckon 88 = .ok (.iconst 0, 1) ∧ decode cX12_reckon 89 = .ok (.ireturn, 1))) ∧ ((decode cX12_reckon 90 = .ok (.iload_n 1, 1) ∧ decode cX12_reckon 91 = .ok (.ifCond .eq 11, 3)) ∧ (decode cX12_reckon 94 = .ok (.iload_n 2, 1) ∧ decode cX12_reckon 95 = .ok (.ifCond .eq 7, 3)))) ∧ (((decode cX12_reckon 98 = .ok (.iconst 1, 1) ∧ decode cX12_reckon 99 = .ok (.goto 4, 3)) ∧ (decode cX12_reckon 102 = .ok (.iconst 0, 1) ∧ decode cX12_reckon 103 = .ok (.ireturn, 1))) ∧ ((decode cX12_reckon 104 = .ok (.iload_n 1, 1) ∧ decode cX12_reckon 105 = .ok (.ifCond .ne 7, 3)) ∧ (decode cX12_reckon 108 = .ok (.iload_n 2, 1) ∧ decode cX12_reckon 109 = .ok (.ifCond .eq 7, 3)))) := by decide +kernel
theorem dX12_reckon_84 : decode cX12_reckon 84 = .ok (.iconst 1, 1) := bg01_9.1.1.1.1
theorem dX12_reckon_85 : decode cX12_reckon 85 = .ok (.goto 4, 3) := bg01_9.1.1.1.2
theorem dX12_reckon_88 : decode cX12_reckon 88 = .ok (.iconst 0, 1) := bg01_9.1.1.2.1
theorem dX12_reckon_89 : decode cX12_reckon 89 = .ok (.ireturn, 1) := bg01_9.1.1.2.2
theorem dX12_reckon_90 : decode cX12_reckon 90 = .ok (.iload_n 1, 1) := bg01_9.1.2.1.1
theorem dX12_reckon_91 : decode cX12_reckon 91 = .ok (.ifCond .eq 11, 3) := bg01_9.1.2.1.2
theorem dX12_reckon_94 : decode cX12_reckon 94 = .ok (.iload_n 2, 1) := bg01_9.1.2.2.1
theorem dX12_reckon_95 : decode cX12_reckon 95 = .ok (.ifCond .eq 7, 3) := bg01_9.1.2.2.2
theorem dX12_reckon_98 : decode cX12_reckon 98 = .ok (.iconst 1, 1) := bg01_9.2.1.1.1
theorem dX12_reckon_99 : decode cX12_reckon 99 = .ok (.goto 4, 3) := bg01_9.2.1.1.2
theorem dX12_reckon_102 : decode cX12_reckon 102 = .ok (.iconst 0, 1) := bg01_9.2.1.2.1
theorem dX12_reckon_103 : decode cX12_reckon 103 = .ok (.ireturn, 1) := bg01_9.2.1.2.2
theorem dX12_reckon_104 : decode cX12_reckon 104 = .ok (.iload_n 1, 1) := bg01_9.2.2.1.1
theorem dX12_reckon_105 : decode cX12_reckon 105 = .ok (.ifCond .ne 7, 3) := bg01_9.2.2.1.2
theorem dX12_reckon_108 : decode cX12_reckon 108 = .ok (.iload_n 2, 1) := bg01_9.2.2.2.1
theorem dX12_reckon_109 : decode cX12_reckon 109 = .ok (.ifCond .eq 7, 3) := bg01_9.2.2.2.2
theorem bg01_10 : ((decode cX12_reckon 112 = .ok (.iconst 1, 1) ∧ decode cX12_reckon 113 = .ok (.goto 4, 3)) ∧ (decode cX12_reckon 116 = .ok (.iconst 0, 1) ∧ decode cX12_reckon 117 = .ok (.ireturn, 1))) ∧ ((decode cX12_valueNow 0 = .ok (.iconst 0, 1) ∧ decode cX12_valueNow 1 = .ok (.istore_n 3, 1)) ∧ (decode cX12_valueNow 2 = .ok (.iconst 0, 1) ∧ decode cX12_valueNow 3 = .ok (.istore 4, 2))) := by decide +kernel
theorem dX12_reckon_112 : decode cX12_reckon 112 = .ok (.iconst 1, 1) := bg01_10.1.1.1
theorem dX12_reckon_113 : decode cX12_reckon 113 = .ok (.goto 4, 3) := bg01_10.1.1.2
theorem dX12_reckon_116 : decode cX12_reckon 116 = .ok (.iconst 0, 1) := bg01_10.1.2.1
theorem dX12_reckon_117 : decode cX12_reckon 117 = .ok (.ireturn, 1) := bg01_10.1.2.2
theorem dX12_valueNow_0 : decode cX12_valueNow 0 = .ok (.iconst 0, 1) := bg01_10.2.1.1
theorem dX12_valueNow_1 : decode cX12_valueNow 1 = .ok (.istore_n 3, 1) := bg01_10.2.1.2
theorem dX12_valueNow_2 : decode cX12_valueNow 2 = .ok (.iconst 0, 1) := bg01_10.2.2.1
theorem dX12_valueNow_3 : decode cX12_valueNow 3 = .ok (.istore 4, 2) := bg01_10.2.2.2
theorem bg01_11 : (((decode cX12_valueNow 5 = .ok (.iload 4, 2) ∧ decode cX12_valueNow 7 = .ok (.iload_n 2, 1)) ∧ (decode cX12_valueNow 8 = .ok (.if_icmp .ge 117, 3) ∧ decode cX12_valueNow 11 = .ok (.aload_n 1, 1))) ∧ ((decode cX12_valueNow 12 = .ok (.iload 4, 2) ∧ decode cX12_valueNow 14 = .ok (.iaload, 1)) ∧ (decode cX12_valueNow 15 = .ok (.istore 5, 2) ∧ decode cX12_valueNow 17 = .ok (.iload 5, 2)))) ∧ (((decode cX12_valueNow 19 = .ok (.bipush (-20), 2) ∧ decode cX12_valueNow 21 = .ok (.if_icmp .le 34, 3)) ∧ (decode cX12_valueNow 24 = .ok (.aload_n 0, 1) ∧ decode cX12_valueNow 25 = .ok (.getfield 115, 3))) ∧ ((decode cX12_valueNow 28 = .ok (.iload_n 3, 1) ∧ decode cX12_valueNow 29 = .ok (.iload 5, 2)) ∧ (decode cX12_valueNow 31 = .ok (.ifCond .lt 8, 3) ∧ decode cX12_valueNow 34 = .ok (.iload 5, 2)))) := by decide +kernel
theorem dX12_valueNow_5 : decode cX12_valueNow 5 = .ok (.iload 4, 2) := bg01_11.1.1.1.1
theorem dX12_valueNow_7 : decode cX12_valueNow 7 = .ok (.iload_n 2, 1) := bg01_11.1.1.1.2
theorem dX12_valueNow_8 : decode cX12_valueNow 8 = .ok (.if_icmp .ge 117, 3) := bg01_11.1.1.2.1
theorem dX12_valueNow_11 : decode cX12_valueNow 11 = .ok (.aload_n 1, 1) := bg01_11.1.1.2.2
theorem dX12_valueNow_12 : decode cX12_valueNow 12 = .ok (.iload 4, 2) := bg01_11.1.2.1.1
theorem dX12_valueNow_14 : decode cX12_valueNow 14 = .ok (.iaload, 1) := bg01_11.1.2.1.2
theorem dX12_valueNow_15 : decode cX12_valueNow 15 = .ok (.istore 5, 2) := bg01_11.1.2.2.1
theorem dX12_valueNow_17 : decode cX12_valueNow 17 = .ok (.iload 5, 2) := bg01_11.1.2.2.2
theorem dX12_valueNow_19 : decode cX12_valueNow 19 = .ok (.bipush (-20), 2) := bg01_11.2.1.1.1
theorem dX12_valueNow_21 : decode cX12_valueNow 21 = .ok (.if_icmp .le 34, 3) := bg01_11.2.1.1.2
theorem dX12_valueNow_24 : decode cX12_valueNow 24 = .ok (.aload_n 0, 1) := bg01_11.2.1.2.1
theorem dX12_valueNow_25 : decode cX12_valueNow 25 = .ok (.getfield 115, 3) := bg01_11.2.1.2.2
theorem dX12_valueNow_28 : decode cX12_valueNow 28 = .ok (.iload_n 3, 1) := bg01_11.2.2.1.1
theorem dX12_valueNow_29 : decode cX12_valueNow 29 = .ok (.iload 5, 2) := bg01_11.2.2.1.2
theorem dX12_valueNow_31 : decode cX12_valueNow 31 = .ok (.ifCond .lt 8, 3) := bg01_11.2.2.2.1
theorem dX12_valueNow_34 : decode cX12_valueNow 34 = .ok (.iload 5, 2) := bg01_11.2.2.2.2
theorem bg01_12 : (((decode cX12_valueNow 36 = .ok (.goto 12, 3) ∧ decode cX12_valueNow 39 = .ok (.aload_n 0, 1)) ∧ (decode cX12_valueNow 40 = .ok (.getfield 112, 3) ∧ decode cX12_valueNow 43 = .ok (.iconst (-1), 1))) ∧ ((decode cX12_valueNow 44 = .ok (.iload 5, 2) ∧ decode cX12_valueNow 46 = .ok (.isub, 1)) ∧ (decode cX12_valueNow 47 = .ok (.iaload, 1) ∧ decode cX12_valueNow 48 = .ok (.iastore, 1)))) ∧ (((decode cX12_valueNow 49 = .ok (.iinc 3 1, 3) ∧ decode cX12_valueNow 52 = .ok (.goto 67, 3)) ∧ (decode cX12_valueNow 55 = .ok (.iload 5, 2) ∧ decode cX12_valueNow 57 = .ok (.bipush (-28), 2))) ∧ ((decode cX12_valueNow 59 = .ok (.if_icmp .ne 30, 3) ∧ decode cX12_valueNow 62 = .ok (.aload_n 0, 1)) ∧ (decode cX12_valueNow 63 = .ok (.getfield 115, 3) ∧ decode cX12_valueNow 66 = .ok (.iload_n 3, 1)))) := by decide +kernel
theorem dX12_valueNow_36 : decode cX12_valueNow 36 = .ok (.goto 12, 3) := bg01_12.1.1.1.1
theorem dX12_valueNow_39 : decode cX12_valueNow 39 = .ok (.aload_n 0, 1) := bg01_12.1.1.1.2
theorem dX12_valueNow_40 : decode cX12_valueNow 40 = .ok (.getfield 112, 3) := bg01_12.1.1.2.1
theorem dX12_valueNow_43 : decode cX12_valueNow 43 = .ok (.iconst (-1), 1) := bg01_12.1.1.2.2
theorem dX12_valueNow_44 : decode cX12_valueNow 44 = .ok (.iload 5, 2) := bg01_12.1.2.1.1
theorem dX12_valueNow_46 : decode cX12_valueNow 46 = .ok (.isub, 1) := bg01_12.1.2.1.2
theorem dX12_valueNow_47 : decode cX12_valueNow 47 = .ok (.iaload, 1) := bg01_12.1.2.2.1
theorem dX12_valueNow_48 : decode cX12_valueNow 48 = .ok (.iastore, 1) := bg01_12.1.2.2.2
theorem dX12_valueNow_49 : decode cX12_valueNow 49 = .ok (.iinc 3 1, 3) := bg01_12.2.1.1.1
theorem dX12_valueNow_52 : decode cX12_valueNow 52 = .ok (.goto 67, 3) := bg01_12.2.1.1.2
theorem dX12_valueNow_55 : decode cX12_valueNow 55 = .ok (.iload 5, 2) := bg01_12.2.1.2.1
theorem dX12_valueNow_57 : decode cX12_valueNow 57 = .ok (.bipush (-28), 2) := bg01_12.2.1.2.2
theorem dX12_valueNow_59 : decode cX12_valueNow 59 = .ok (.if_icmp .ne 30, 3) := bg01_12.2.2.1.1
theorem dX12_valueNow_62 : decode cX12_valueNow 62 = .ok (.aload_n 0, 1) := bg01_12.2.2.1.2
theorem dX12_valueNow_63 : decode cX12_valueNow 63 = .ok (.getfield 115, 3) := bg01_12.2.2.2.1
theorem dX12_valueNow_66 : decode cX12_valueNow 66 = .ok (.iload_n 3, 1) := bg01_12.2.2.2.2
theorem bg01_13 : (((decode cX12_valueNow 67 = .ok (.iconst 1, 1) ∧ decode cX12_valueNow 68 = .ok (.isub, 1)) ∧ (decode cX12_valueNow 69 = .ok (.aload_n 0, 1) ∧ decode cX12_valueNow 70 = .ok (.getfield 115, 3))) ∧ ((decode cX12_valueNow 73 = .ok (.iload_n 3, 1) ∧ decode cX12_valueNow 74 = .ok (.iconst 1, 1)) ∧ (decode cX12_valueNow 75 = .ok (.isub, 1) ∧ decode cX12_valueNow 76 = .ok (.iaload, 1)))) ∧ (((decode cX12_valueNow 77 = .ok (.ifCond .eq 7, 3) ∧ decode cX12_valueNow 80 = .ok (.iconst 0, 1)) ∧ (decode cX12_valueNow 81 = .ok (.goto 4, 3) ∧ decode cX12_valueNow 84 = .ok (.iconst 1, 1))) ∧ ((decode cX12_valueNow 85 = .ok (.iastore, 1) ∧ decode cX12_valueNow 86 = .ok (.goto 33, 3)) ∧ (decode cX12_valueNow 89 = .ok (.iinc 3 (-1), 3) ∧ decode cX12_valueNow 92 = .ok (.aload_n 0, 1)))) := by decide +kernel
theorem dX12_valueNow_67 : decode cX12_valueNow 67 = .ok (.iconst 1, 1) := bg01_13.1.1.1.1
theorem dX12_valueNow_68 : decode cX12_valueNow 68 = .ok (.isub, 1) := bg01_13.1.1.1.2
theorem dX12_valueNow_69 : decode cX12_valueNow 69 = .ok (.aload_n 0, 1) := bg01_13.1.1.2.1
theorem dX12_valueNow_70 : decode cX12_valueNow 70 = .ok (.getfield 115, 3) := bg01_13.1.1.2.2
theorem dX12_valueNow_73 : decode cX12_valueNow 73 = .ok (.iload_n 3, 1) := bg01_13.1.2.1.1
theorem dX12_valueNow_74 : decode cX12_valueNow 74 = .ok (.iconst 1, 1) := bg01_13.1.2.1.2
theorem dX12_valueNow_75 : decode cX12_valueNow 75 = .ok (.isub, 1) := bg01_13.1.2.2.1
theorem dX12_valueNow_76 : decode cX12_valueNow 76 = .ok (.iaload, 1) := bg01_13.1.2.2.2
theorem dX12_valueNow_77 : decode cX12_valueNow 77 = .ok (.ifCond .eq 7, 3) := bg01_13.2.1.1.1
theorem dX12_valueNow_80 : decode cX12_valueNow 80 = .ok (.iconst 0, 1) := bg01_13.2.1.1.2
theorem dX12_valueNow_81 : decode cX12_valueNow 81 = .ok (.goto 4, 3) := bg01_13.2.1.2.1
theorem dX12_valueNow_84 : decode cX12_valueNow 84 = .ok (.iconst 1, 1) := bg01_13.2.1.2.2
theorem dX12_valueNow_85 : decode cX12_valueNow 85 = .ok (.iastore, 1) := bg01_13.2.2.1.1
theorem dX12_valueNow_86 : decode cX12_valueNow 86 = .ok (.goto 33, 3) := bg01_13.2.2.1.2
theorem dX12_valueNow_89 : decode cX12_valueNow 89 = .ok (.iinc 3 (-1), 3) := bg01_13.2.2.2.1
theorem dX12_valueNow_92 : decode cX12_valueNow 92 = .ok (.aload_n 0, 1) := bg01_13.2.2.2.2
theorem bg01_14 : (((decode cX12_valueNow 93 = .ok (.getfield 115, 3) ∧ decode cX12_valueNow 96 = .ok (.iload_n 3, 1)) ∧ (decode cX12_valueNow 97 = .ok (.iconst 1, 1) ∧ decode cX12_valueNow 98 = .ok (.isub, 1))) ∧ ((decode cX12_valueNow 99 = .ok (.iload 5, 2) ∧ decode cX12_valueNow 101 = .ok (.aload_n 0, 1)) ∧ (decode cX12_valueNow 102 = .ok (.getfield 115, 3) ∧ decode cX12_valueNow 105 = .ok (.iload_n 3, 1)))) ∧ (((decode cX12_valueNow 106 = .ok (.iconst 1, 1) ∧ decode cX12_valueNow 107 = .ok (.isub, 1)) ∧ (decode cX12_valueNow 108 = .ok (.iaload, 1) ∧ decode cX12_valueNow 109 = .ok (.aload_n 0, 1))) ∧ ((decode cX12_valueNow 110 = .ok (.getfield 115, 3) ∧ decode cX12_valueNow 113 = .ok (.iload_n 3, 1)) ∧ (decode cX12_valueNow 114 = .ok (.iaload, 1) ∧ decode cX12_valueNow 115 = .ok (.invokestatic 335, 3)))) := by decide +kernel
theorem dX12_valueNow_93 : decode cX12_valueNow 93 = .ok (.getfield 115, 3) := bg01_14.1.1.1.1
theorem dX12_valueNow_96 : decode cX12_valueNow 96 = .ok (.iload_n 3, 1) := bg01_14.1.1.1.2
theorem dX12_valueNow_97 : decode cX12_valueNow 97 = .ok (.iconst 1, 1) := bg01_14.1.1.2.1
theorem dX12_valueNow_98 : decode cX12_valueNow 98 = .ok (.isub, 1) := bg01_14.1.1.2.2
theorem dX12_valueNow_99 : decode cX12_valueNow 99 = .ok (.iload 5, 2) := bg01_14.1.2.1.1
theorem dX12_valueNow_101 : decode cX12_valueNow 101 = .ok (.aload_n 0, 1) := bg01_14.1.2.1.2
theorem dX12_valueNow_102 : decode cX12_valueNow 102 = .ok (.getfield 115, 3) := bg01_14.1.2.2.1
theorem dX12_valueNow_105 : decode cX12_valueNow 105 = .ok (.iload_n 3, 1) := bg01_14.1.2.2.2
theorem dX12_valueNow_106 : decode cX12_valueNow 106 = .ok (.iconst 1, 1) := bg01_14.2.1.1.1
theorem dX12_valueNow_107 : decode cX12_valueNow 107 = .ok (.isub, 1) := bg01_14.2.1.1.2
theorem dX12_valueNow_108 : decode cX12_valueNow 108 = .ok (.iaload, 1) := bg01_14.2.1.2.1
theorem dX12_valueNow_109 : decode cX12_valueNow 109 = .ok (.aload_n 0, 1) := bg01_14.2.1.2.2
theorem dX12_valueNow_110 : decode cX12_valueNow 110 = .ok (.getfield 115, 3) := bg01_14.2.2.1.1
theorem dX12_valueNow_113 : decode cX12_valueNow 113 = .ok (.iload_n 3, 1) := bg01_14.2.2.1.2
theorem dX12_valueNow_114 : decode cX12_valueNow 114 = .ok (.iaload, 1) := bg01_14.2.2.2.1
theorem dX12_valueNow_115 : decode cX12_valueNow 115 = .ok (.invokestatic 335, 3) := bg01_14.2.2.2.2
theorem bg01_15 : ((decode cX12_valueNow 118 = .ok (.iastore, 1) ∧ decode cX12_valueNow 119 = .ok (.iinc 4 1, 3)) ∧ (decode cX12_valueNow 122 = .ok (.goto (-117), 3) ∧ decode cX12_valueNow 125 = .ok (.aload_n 0, 1))) ∧ ((decode cX12_valueNow 126 = .ok (.getfield 115, 3) ∧ decode cX12_valueNow 129 = .ok (.iconst 0, 1)) ∧ (decode cX12_valueNow 130 = .ok (.iaload, 1) ∧ decode cX12_valueNow 131 = .ok (.ireturn, 1))) := by decide +kernel
theorem dX12_valueNow_118 : decode cX12_valueNow 118 = .ok (.iastore, 1) := bg01_15.1.1.1
theorem dX12_valueNow_119 : decode cX12_valueNow 119 = .ok (.iinc 4 1, 3) := bg01_15.1.1.2
theorem dX12_valueNow_122 : decode cX12_valueNow 122 = .ok (.goto (-117), 3) := bg01_15.1.2.1
theorem dX12_valueNow_125 : decode cX12_valueNow 125 = .ok (.aload_n 0, 1) := bg01_15.1.2.2
theorem dX12_valueNow_126 : decode cX12_valueNow 126 = .ok (.getfield 115, 3) := bg01_15.2.1.1
theorem dX12_valueNow_129 : decode cX12_valueNow 129 = .ok (.iconst 0, 1) := bg01_15.2.1.2
theorem dX12_valueNow_130 : decode cX12_valueNow 130 = .ok (.iaload, 1) := bg01_15.2.2.1
theorem dX12_valueNow_131 : decode cX12_valueNow 131 = .ok (.ireturn, 1) := bg01_15.2.2.2
theorem bg01_16 : (((decode cX12_sitterOf 0 = .ok (.iconst 0, 1) ∧ decode cX12_sitterOf 1 = .ok (.istore_n 2, 1)) ∧ (decode cX12_sitterOf 2 = .ok (.iload_n 2, 1) ∧ decode cX12_sitterOf 3 = .ok (.aload_n 0, 1))) ∧ ((decode cX12_sitterOf 4 = .ok (.getfield 42, 3) ∧ decode cX12_sitterOf 7 = .ok (.iconst 1, 1)) ∧ (decode cX12_sitterOf 8 = .ok (.iaload, 1) ∧ decode cX12_sitterOf 9 = .ok (.if_icmp .ge 21, 3)))) ∧ (((decode cX12_sitterOf 12 = .ok (.aload_n 0, 1) ∧ decode cX12_sitterOf 13 = .ok (.getfield 106, 3)) ∧ (decode cX12_sitterOf 16 = .ok (.iload_n 2, 1) ∧ decode cX12_sitterOf 17 = .ok (.iaload, 1))) ∧ ((decode cX12_sitterOf 18 = .ok (.iload_n 1, 1) ∧ decode cX12_sitterOf 19 = .ok (.if_icmp .ne 5, 3)) ∧ (decode cX12_sitterOf 22 = .ok (.iload_n 2, 1) ∧ decode cX12_sitterOf 23 = .ok (.ireturn, 1)))) := by decide +kernel
theorem dX12_sitterOf_0 : decode cX12_sitterOf 0 = .ok (.iconst 0, 1) := bg01_16.1.1.1.1
theorem dX12_sitterOf_1 : decode cX12_sitterOf 1 = .ok (.istore_n 2, 1) := bg01_16.1.1.1.2
theorem dX12_sitterOf_2 : decode cX12_sitterOf 2 = .ok (.iload_n 2, 1) := bg01_16.1.1.2.1
theorem dX12_sitterOf_3 : decode cX12_sitterOf 3 = .ok (.aload_n 0, 1) := bg01_16.1.1.2.2
theorem dX12_sitterOf_4 : decode cX12_sitterOf 4 = .ok (.getfield 42, 3) := bg01_16.1.2.1.1
theorem dX12_sitterOf_7 : decode cX12_sitterOf 7 = .ok (.iconst 1, 1) := bg01_16.1.2.1.2
theorem dX12_sitterOf_8 : decode cX12_sitterOf 8 = .ok (.iaload, 1) := bg01_16.1.2.2.1
theorem dX12_sitterOf_9 : decode cX12_sitterOf 9 = .ok (.if_icmp .ge 21, 3) := bg01_16.1.2.2.2
theorem dX12_sitterOf_12 : decode cX12_sitterOf 12 = .ok (.aload_n 0, 1) := bg01_16.2.1.1.1
theorem dX12_sitterOf_13 : decode cX12_sitterOf 13 = .ok (.getfield 106, 3) := bg01_16.2.1.1.2
theorem dX12_sitterOf_16 : decode cX12_sitterOf 16 = .ok (.iload_n 2, 1) := bg01_16.2.1.2.1
theorem dX12_sitterOf_17 : decode cX12_sitterOf 17 = .ok (.iaload, 1) := bg01_16.2.1.2.2
theorem dX12_sitterOf_18 : decode cX12_sitterOf 18 = .ok (.iload_n 1, 1) := bg01_16.2.2.1.1
theorem dX12_sitterOf_19 : decode cX12_sitterOf 19 = .ok (.if_icmp .ne 5, 3) := bg01_16.2.2.1.2
theorem dX12_sitterOf_22 : decode cX12_sitterOf 22 = .ok (.iload_n 2, 1) := bg01_16.2.2.2.1
theorem dX12_sitterOf_23 : decode cX12_sitterOf 23 = .ok (.ireturn, 1) := bg01_16.2.2.2.2
theorem bg01_17 : ((decode cX12_sitterOf 24 = .ok (.iinc 2 1, 3) ∧ decode cX12_sitterOf 27 = .ok (.goto (-25), 3)) ∧ (decode cX12_sitterOf 30 = .ok (.iconst (-1), 1) ∧ decode cX12_sitterOf 31 = .ok (.ireturn, 1))) ∧ ((decode cX12_unlikeOf 0 = .ok (.aload_n 0, 1) ∧ decode cX12_unlikeOf 1 = .ok (.getfield 96, 3)) ∧ (decode cX12_unlikeOf 4 = .ok (.iload_n 1, 1) ∧ decode cX12_unlikeOf 5 = .ok (.iaload, 1))) := by decide +kernel
theorem dX12_sitterOf_24 : decode cX12_sitterOf 24 = .ok (.iinc 2 1, 3) := bg01_17.1.1.1
theorem dX12_sitterOf_27 : decode cX12_sitterOf 27 = .ok (.goto (-25), 3) := bg01_17.1.1.2
theorem dX12_sitterOf_30 : decode cX12_sitterOf 30 = .ok (.iconst (-1), 1) := bg01_17.1.2.1
theorem dX12_sitterOf_31 : decode cX12_sitterOf 31 = .ok (.ireturn, 1) := bg01_17.1.2.2
theorem dX12_unlikeOf_0 : decode cX12_unlikeOf 0 = .ok (.aload_n 0, 1) := bg01_17.2.1.1
theorem dX12_unlikeOf_1 : decode cX12_unlikeOf 1 = .ok (.getfield 96, 3) := bg01_17.2.1.2
theorem dX12_unlikeOf_4 : decode cX12_unlikeOf 4 = .ok (.iload_n 1, 1) := bg01_17.2.2.1
theorem dX12_unlikeOf_5 : decode cX12_unlikeOf 5 = .ok (.iaload, 1) := bg01_17.2.2.2
theorem bg01_18 : (((decode cX12_unlikeOf 6 = .ok (.aload_n 0, 1) ∧ decode cX12_unlikeOf 7 = .ok (.getfield 88, 3)) ∧ (decode cX12_unlikeOf 10 = .ok (.iload_n 2, 1) ∧ decode cX12_unlikeOf 11 = .ok (.iaload, 1))) ∧ ((decode cX12_unlikeOf 12 = .ok (.isub, 1) ∧ decode cX12_unlikeOf 13 = .ok (.invokestatic 339, 3)) ∧ (decode cX12_unlikeOf 16 = .ok (.aload_n 0, 1) ∧ decode cX12_unlikeOf 17 = .ok (.getfield 99, 3)))) ∧ (((decode cX12_unlikeOf 20 = .ok (.iload_n 1, 1) ∧ decode cX12_unlikeOf 21 = .ok (.iaload, 1)) ∧ (decode cX12_unlikeOf 22 = .ok (.aload_n 0, 1) ∧ decode cX12_unlikeOf 23 = .ok (.getfield 91, 3))) ∧ ((decode cX12_unlikeOf 26 = .ok (.iload_n 2, 1) ∧ decode cX12_unlikeOf 27 = .ok (.iaload, 1)) ∧ (decode cX12_unlikeOf 28 = .ok (.isub, 1) ∧ decode cX12_unlikeOf 29 = .ok (.invokestatic 339, 3)))) := by decide +kernel
theorem dX12_unlikeOf_6 : decode cX12_unlikeOf 6 = .ok (.aload_n 0, 1) := bg01_18.1.1.1.1
theorem dX12_unlikeOf_7 : decode cX12_unlikeOf 7 = .ok (.getfield 88, 3) := bg01_18.1.1.1.2
theorem dX12_unlikeOf_10 : decode cX12_unlikeOf 10 = .ok (.iload_n 2, 1) := bg01_18.1.1.2.1
theorem dX12_unlikeOf_11 : decode cX12_unlikeOf 11 = .ok (.iaload, 1) := bg01_18.1.1.2.2
theorem dX12_unlikeOf_12 : decode cX12_unlikeOf 12 = .ok (.isub, 1) := bg01_18.1.2.1.1
theorem dX12_unlikeOf_13 : decode cX12_unlikeOf 13 = .ok (.invokestatic 339, 3) := bg01_18.1.2.1.2
theorem dX12_unlikeOf_16 : decode cX12_unlikeOf 16 = .ok (.aload_n 0, 1) := bg01_18.1.2.2.1
theorem dX12_unlikeOf_17 : decode cX12_unlikeOf 17 = .ok (.getfield 99, 3) := bg01_18.1.2.2.2
theorem dX12_unlikeOf_20 : decode cX12_unlikeOf 20 = .ok (.iload_n 1, 1) := bg01_18.2.1.1.1
theorem dX12_unlikeOf_21 : decode cX12_unlikeOf 21 = .ok (.iaload, 1) := bg01_18.2.1.1.2
theorem dX12_unlikeOf_22 : decode cX12_unlikeOf 22 = .ok (.aload_n 0, 1) := bg01_18.2.1.2.1
theorem dX12_unlikeOf_23 : decode cX12_unlikeOf 23 = .ok (.getfield 91, 3) := bg01_18.2.1.2.2
theorem dX12_unlikeOf_26 : decode cX12_unlikeOf 26 = .ok (.iload_n 2, 1) := bg01_18.2.2.1.1
theorem dX12_unlikeOf_27 : decode cX12_unlikeOf 27 = .ok (.iaload, 1) := bg01_18.2.2.1.2
theorem dX12_unlikeOf_28 : decode cX12_unlikeOf 28 = .ok (.isub, 1) := bg01_18.2.2.2.1
theorem dX12_unlikeOf_29 : decode cX12_unlikeOf 29 = .ok (.invokestatic 339, 3) := bg01_18.2.2.2.2
theorem bg01_19 : ((decode cX12_unlikeOf 32 = .ok (.iadd, 1) ∧ decode cX12_unlikeOf 33 = .ok (.ireturn, 1)) ∧ (decode cX12_rainOf 0 = .ok (.aload_n 0, 1) ∧ decode cX12_rainOf 1 = .ok (.getfield 42, 3))) ∧ ((decode cX12_rainOf 4 = .ok (.iconst 2, 1) ∧ decode cX12_rainOf 5 = .ok (.iaload, 1)) ∧ (decode cX12_rainOf 6 = .ok (.ifCond .ne 7, 3) ∧ decode cX12_rainOf 9 = .ok (.iconst 3, 1))) := by decide +kernel
theorem dX12_unlikeOf_32 : decode cX12_unlikeOf 32 = .ok (.iadd, 1) := bg01_19.1.1.1
theorem dX12_unlikeOf_33 : decode cX12_unlikeOf 33 = .ok (.ireturn, 1) := bg01_19.1.1.2
theorem dX12_rainOf_0 : decode cX12_rainOf 0 = .ok (.aload_n 0, 1) := bg01_19.1.2.1
theorem dX12_rainOf_1 : decode cX12_rainOf 1 = .ok (.getfield 42, 3) := bg01_19.1.2.2
theorem dX12_rainOf_4 : decode cX12_rainOf 4 = .ok (.iconst 2, 1) := bg01_19.2.1.1
theorem dX12_rainOf_5 : decode cX12_rainOf 5 = .ok (.iaload, 1) := bg01_19.2.1.2
theorem dX12_rainOf_6 : decode cX12_rainOf 6 = .ok (.ifCond .ne 7, 3) := bg01_19.2.2.1
theorem dX12_rainOf_9 : decode cX12_rainOf 9 = .ok (.iconst 3, 1) := bg01_19.2.2.2
theorem bg01_20 : (((decode cX12_rainOf 10 = .ok (.goto 16, 3) ∧ decode cX12_rainOf 13 = .ok (.aload_n 0, 1)) ∧ (decode cX12_rainOf 14 = .ok (.getfield 69, 3))) ∧ ((decode cX12_rainOf 17 = .ok (.iload_n 1, 1) ∧ decode cX12_rainOf 18 = .ok (.aload_n 0, 1)) ∧ (decode cX12_rainOf 19 = .ok (.getfield 42, 3)))) ∧ (((decode cX12_rainOf 22 = .ok (.iconst 2, 1) ∧ decode cX12_rainOf 23 = .ok (.iaload, 1)) ∧ (decode cX12_rainOf 24 = .ok (.irem, 1))) ∧ (decode cX12_rainOf 25 = .ok (.iaload, 1) ∧ decode cX12_rainOf 26 = .ok (.ireturn, 1))) := by decide +kernel
theorem dX12_rainOf_10 : decode cX12_rainOf 10 = .ok (.goto 16, 3) := bg01_20.1.1.1.1
theorem dX12_rainOf_13 : decode cX12_rainOf 13 = .ok (.aload_n 0, 1) := bg01_20.1.1.1.2
theorem dX12_rainOf_14 : decode cX12_rainOf 14 = .ok (.getfield 69, 3) := bg01_20.1.1.2
theorem dX12_rainOf_17 : decode cX12_rainOf 17 = .ok (.iload_n 1, 1) := bg01_20.1.2.1.1
theorem dX12_rainOf_18 : decode cX12_rainOf 18 = .ok (.aload_n 0, 1) := bg01_20.1.2.1.2
theorem dX12_rainOf_19 : decode cX12_rainOf 19 = .ok (.getfield 42, 3) := bg01_20.1.2.2
theorem dX12_rainOf_22 : decode cX12_rainOf 22 = .ok (.iconst 2, 1) := bg01_20.2.1.1.1
theorem dX12_rainOf_23 : decode cX12_rainOf 23 = .ok (.iaload, 1) := bg01_20.2.1.1.2
theorem dX12_rainOf_24 : decode cX12_rainOf 24 = .ok (.irem, 1) := bg01_20.2.1.2
theorem dX12_rainOf_25 : decode cX12_rainOf 25 = .ok (.iaload, 1) := bg01_20.2.2.1
theorem dX12_rainOf_26 : decode cX12_rainOf 26 = .ok (.ireturn, 1) := bg01_20.2.2.2
theorem bg01_21 : (((decode cX12_besideOf 0 = .ok (.aload_n 0, 1) ∧ decode cX12_besideOf 1 = .ok (.getfield 42, 3)) ∧ (decode cX12_besideOf 4 = .ok (.iconst 0, 1) ∧ decode cX12_besideOf 5 = .ok (.iaload, 1))) ∧ ((decode cX12_besideOf 6 = .ok (.istore_n 2, 1) ∧ decode cX12_besideOf 7 = .ok (.aload_n 0, 1)) ∧ (decode cX12_besideOf 8 = .ok (.getfield 94, 3) ∧ decode cX12_besideOf 11 = .ok (.iload_n 1, 1)))) ∧ (((decode cX12_besideOf 12 = .ok (.iconst 1, 1) ∧ decode cX12_besideOf 13 = .ok (.iadd, 1)) ∧ (decode cX12_besideOf 14 = .ok (.iload_n 2, 1) ∧ decode cX12_besideOf 15 = .ok (.irem, 1))) ∧ ((decode cX12_besideOf 16 = .ok (.iaload, 1) ∧ decode cX12_besideOf 17 = .ok (.aload_n 0, 1)) ∧ (decode cX12_besideOf 18 = .ok (.getfield 94, 3) ∧ decode cX12_besideOf 21 = .ok (.iload_n 1, 1)))) := by decide +kernel
theorem dX12_besideOf_0 : decode cX12_besideOf 0 = .ok (.aload_n 0, 1) := bg01_21.1.1.1.1
theorem dX12_besideOf_1 : decode cX12_besideOf 1 = .ok (.getfield 42, 3) := bg01_21.1.1.1.2
theorem dX12_besideOf_4 : decode cX12_besideOf 4 = .ok (.iconst 0, 1) := bg01_21.1.1.2.1
theorem dX12_besideOf_5 : decode cX12_besideOf 5 = .ok (.iaload, 1) := bg01_21.1.1.2.2
theorem dX12_besideOf_6 : decode cX12_besideOf 6 = .ok (.istore_n 2, 1) := bg01_21.1.2.1.1
theorem dX12_besideOf_7 : decode cX12_besideOf 7 = .ok (.aload_n 0, 1) := bg01_21.1.2.1.2
theorem dX12_besideOf_8 : decode cX12_besideOf 8 = .ok (.getfield 94, 3) := bg01_21.1.2.2.1
theorem dX12_besideOf_11 : decode cX12_besideOf 11 = .ok (.iload_n 1, 1) := bg01_21.1.2.2.2
theorem dX12_besideOf_12 : decode cX12_besideOf 12 = .ok (.iconst 1, 1) := bg01_21.2.1.1.1
theorem dX12_besideOf_13 : decode cX12_besideOf 13 = .ok (.iadd, 1) := bg01_21.2.1.1.2
theorem dX12_besideOf_14 : decode cX12_besideOf 14 = .ok (.iload_n 2, 1) := bg01_21.2.1.2.1
theorem dX12_besideOf_15 : decode cX12_besideOf 15 = .ok (.irem, 1) := bg01_21.2.1.2.2
theorem dX12_besideOf_16 : decode cX12_besideOf 16 = .ok (.iaload, 1) := bg01_21.2.2.1.1
theorem dX12_besideOf_17 : decode cX12_besideOf 17 = .ok (.aload_n 0, 1) := bg01_21.2.2.1.2
theorem dX12_besideOf_18 : decode cX12_besideOf 18 = .ok (.getfield 94, 3) := bg01_21.2.2.2.1
theorem dX12_besideOf_21 : decode cX12_besideOf 21 = .ok (.iload_n 1, 1) := bg01_21.2.2.2.2
theorem bg01_22 : (((decode cX12_besideOf 22 = .ok (.iload_n 2, 1) ∧ decode cX12_besideOf 23 = .ok (.iadd, 1)) ∧ (decode cX12_besideOf 24 = .ok (.iconst 1, 1))) ∧ (decode cX12_besideOf 25 = .ok (.isub, 1) ∧ decode cX12_besideOf 26 = .ok (.iload_n 2, 1))) ∧ ((decode cX12_besideOf 27 = .ok (.irem, 1) ∧ decode cX12_besideOf 28 = .ok (.iaload, 1)) ∧ (decode cX12_besideOf 29 = .ok (.iadd, 1) ∧ decode cX12_besideOf 30 = .ok (.ireturn, 1))) := by decide +kernel
theorem dX12_besideOf_22 : decode cX12_besideOf 22 = .ok (.iload_n 2, 1) := bg01_22.1.1.1.1
theorem dX12_besideOf_23 : decode cX12_besideOf 23 = .ok (.iadd, 1) := bg01_22.1.1.1.2
theorem dX12_besideOf_24 : decode cX12_besideOf 24 = .ok (.iconst 1, 1) := bg01_22.1.1.2
theorem dX12_besideOf_25 : decode cX12_besideOf 25 = .ok (.isub, 1) := bg01_22.1.2.1
theorem dX12_besideOf_26 : decode cX12_besideOf 26 = .ok (.iload_n 2, 1) := bg01_22.1.2.2
theorem dX12_besideOf_27 : decode cX12_besideOf 27 = .ok (.irem, 1) := bg01_22.2.1.1
theorem dX12_besideOf_28 : decode cX12_besideOf 28 = .ok (.iaload, 1) := bg01_22.2.1.2
theorem dX12_besideOf_29 : decode cX12_besideOf 29 = .ok (.iadd, 1) := bg01_22.2.2.1
theorem dX12_besideOf_30 : decode cX12_besideOf 30 = .ok (.ireturn, 1) := bg01_22.2.2.2
theorem bg01_23 : (((decode cX12_wearsOf 0 = .ok (.iload_n 2, 1) ∧ decode cX12_wearsOf 1 = .ok (.istore_n 3, 1)) ∧ (decode cX12_wearsOf 2 = .ok (.aload_n 0, 1) ∧ decode cX12_wearsOf 3 = .ok (.getfield 42, 3))) ∧ ((decode cX12_wearsOf 6 = .ok (.iconst 4, 1) ∧ decode cX12_wearsOf 7 = .ok (.iaload, 1)) ∧ (decode cX12_wearsOf 8 = .ok (.ifCond .le 58, 3) ∧ decode cX12_wearsOf 11 = .ok (.aload_n 0, 1)))) ∧ (((decode cX12_wearsOf 12 = .ok (.getfield 112, 3) ∧ decode cX12_wearsOf 15 = .ok (.iconst 0, 1)) ∧ (decode cX12_wearsOf 16 = .ok (.iload_n 2, 1) ∧ decode cX12_wearsOf 17 = .ok (.iastore, 1))) ∧ ((decode cX12_wearsOf 18 = .ok (.aload_n 0, 1) ∧ decode cX12_wearsOf 19 = .ok (.getfield 112, 3)) ∧ (decode cX12_wearsOf 22 = .ok (.iconst 1, 1) ∧ decode cX12_wearsOf 23 = .ok (.aload_n 0, 1)))) := by decide +kernel
theorem dX12_wearsOf_0 : decode cX12_wearsOf 0 = .ok (.iload_n 2, 1) := bg01_23.1.1.1.1
theorem dX12_wearsOf_1 : decode cX12_wearsOf 1 = .ok (.istore_n 3, 1) := bg01_23.1.1.1.2
theorem dX12_wearsOf_2 : decode cX12_wearsOf 2 = .ok (.aload_n 0, 1) := bg01_23.1.1.2.1
theorem dX12_wearsOf_3 : decode cX12_wearsOf 3 = .ok (.getfield 42, 3) := bg01_23.1.1.2.2
theorem dX12_wearsOf_6 : decode cX12_wearsOf 6 = .ok (.iconst 4, 1) := bg01_23.1.2.1.1
theorem dX12_wearsOf_7 : decode cX12_wearsOf 7 = .ok (.iaload, 1) := bg01_23.1.2.1.2
theorem dX12_wearsOf_8 : decode cX12_wearsOf 8 = .ok (.ifCond .le 58, 3) := bg01_23.1.2.2.1
theorem dX12_wearsOf_11 : decode cX12_wearsOf 11 = .ok (.aload_n 0, 1) := bg01_23.1.2.2.2
theorem dX12_wearsOf_12 : decode cX12_wearsOf 12 = .ok (.getfield 112, 3) := bg01_23.2.1.1.1
theorem dX12_wearsOf_15 : decode cX12_wearsOf 15 = .ok (.iconst 0, 1) := bg01_23.2.1.1.2
theorem dX12_wearsOf_16 : decode cX12_wearsOf 16 = .ok (.iload_n 2, 1) := bg01_23.2.1.2.1
theorem dX12_wearsOf_17 : decode cX12_wearsOf 17 = .ok (.iastore, 1) := bg01_23.2.1.2.2
theorem dX12_wearsOf_18 : decode cX12_wearsOf 18 = .ok (.aload_n 0, 1) := bg01_23.2.2.1.1
theorem dX12_wearsOf_19 : decode cX12_wearsOf 19 = .ok (.getfield 112, 3) := bg01_23.2.2.1.2
theorem dX12_wearsOf_22 : decode cX12_wearsOf 22 = .ok (.iconst 1, 1) := bg01_23.2.2.2.1
theorem dX12_wearsOf_23 : decode cX12_wearsOf 23 = .ok (.aload_n 0, 1) := bg01_23.2.2.2.2
theorem bg01_24 : (((decode cX12_wearsOf 24 = .ok (.getfield 94, 3) ∧ decode cX12_wearsOf 27 = .ok (.iload_n 1, 1)) ∧ (decode cX12_wearsOf 28 = .ok (.iaload, 1) ∧ decode cX12_wearsOf 29 = .ok (.iastore, 1))) ∧ ((decode cX12_wearsOf 30 = .ok (.aload_n 0, 1) ∧ decode cX12_wearsOf 31 = .ok (.getfield 112, 3)) ∧ (decode cX12_wearsOf 34 = .ok (.iconst 2, 1) ∧ decode cX12_wearsOf 35 = .ok (.aload_n 0, 1)))) ∧ (((decode cX12_wearsOf 36 = .ok (.iload_n 1, 1) ∧ decode cX12_wearsOf 37 = .ok (.invokevirtual 342, 3)) ∧ (decode cX12_wearsOf 40 = .ok (.iastore, 1) ∧ decode cX12_wearsOf 41 = .ok (.aload_n 0, 1))) ∧ ((decode cX12_wearsOf 42 = .ok (.getfield 112, 3) ∧ decode cX12_wearsOf 45 = .ok (.iconst 3, 1)) ∧ (decode cX12_wearsOf 46 = .ok (.aload_n 0, 1) ∧ decode cX12_wearsOf 47 = .ok (.getfield 323, 3)))) := by decide +kernel
theorem dX12_wearsOf_24 : decode cX12_wearsOf 24 = .ok (.getfield 94, 3) := bg01_24.1.1.1.1
theorem dX12_wearsOf_27 : decode cX12_wearsOf 27 = .ok (.iload_n 1, 1) := bg01_24.1.1.1.2
theorem dX12_wearsOf_28 : decode cX12_wearsOf 28 = .ok (.iaload, 1) := bg01_24.1.1.2.1
theorem dX12_wearsOf_29 : decode cX12_wearsOf 29 = .ok (.iastore, 1) := bg01_24.1.1.2.2
theorem dX12_wearsOf_30 : decode cX12_wearsOf 30 = .ok (.aload_n 0, 1) := bg01_24.1.2.1.1
theorem dX12_wearsOf_31 : decode cX12_wearsOf 31 = .ok (.getfield 112, 3) := bg01_24.1.2.1.2
theorem dX12_wearsOf_34 : decode cX12_wearsOf 34 = .ok (.iconst 2, 1) := bg01_24.1.2.2.1
theorem dX12_wearsOf_35 : decode cX12_wearsOf 35 = .ok (.aload_n 0, 1) := bg01_24.1.2.2.2
theorem dX12_wearsOf_36 : decode cX12_wearsOf 36 = .ok (.iload_n 1, 1) := bg01_24.2.1.1.1
theorem dX12_wearsOf_37 : decode cX12_wearsOf 37 = .ok (.invokevirtual 342, 3) := bg01_24.2.1.1.2
theorem dX12_wearsOf_40 : decode cX12_wearsOf 40 = .ok (.iastore, 1) := bg01_24.2.1.2.1
theorem dX12_wearsOf_41 : decode cX12_wearsOf 41 = .ok (.aload_n 0, 1) := bg01_24.2.1.2.2
theorem dX12_wearsOf_42 : decode cX12_wearsOf 42 = .ok (.getfield 112, 3) := bg01_24.2.2.1.1
theorem dX12_wearsOf_45 : decode cX12_wearsOf 45 = .ok (.iconst 3, 1) := bg01_24.2.2.1.2
theorem dX12_wearsOf_46 : decode cX12_wearsOf 46 = .ok (.aload_n 0, 1) := bg01_24.2.2.2.1
theorem dX12_wearsOf_47 : decode cX12_wearsOf 47 = .ok (.getfield 323, 3) := bg01_24.2.2.2.2
theorem bg01_25 : (((decode cX12_wearsOf 50 = .ok (.iastore, 1) ∧ decode cX12_wearsOf 51 = .ok (.aload_n 0, 1)) ∧ (decode cX12_wearsOf 52 = .ok (.aload_n 0, 1) ∧ decode cX12_wearsOf 53 = .ok (.getfield 72, 3))) ∧ ((decode cX12_wearsOf 56 = .ok (.aload_n 0, 1) ∧ decode cX12_wearsOf 57 = .ok (.getfield 42, 3)) ∧ (decode cX12_wearsOf 60 = .ok (.iconst 4, 1) ∧ decode cX12_wearsOf 61 = .ok (.iaload, 1)))) ∧ (((decode cX12_wearsOf 62 = .ok (.invokevirtual 345, 3) ∧ decode cX12_wearsOf 65 = .ok (.istore_n 3, 1)) ∧ (decode cX12_wearsOf 66 = .ok (.iconst 0, 1) ∧ decode cX12_wearsOf 67 = .ok (.bipush 20, 2))) ∧ ((decode cX12_wearsOf 69 = .ok (.iload_n 3, 1) ∧ decode cX12_wearsOf 70 = .ok (.invokestatic 200, 3)) ∧ (decode cX12_wearsOf 73 = .ok (.invokestatic 349, 3) ∧ decode cX12_wearsOf 76 = .ok (.ireturn, 1)))) := by decide +kernel
theorem dX12_wearsOf_50 : decode cX12_wearsOf 50 = .ok (.iastore, 1) := bg01_25.1.1.1.1
theorem dX12_wearsOf_51 : decode cX12_wearsOf 51 = .ok (.aload_n 0, 1) := bg01_25.1.1.1.2
theorem dX12_wearsOf_52 : decode cX12_wearsOf 52 = .ok (.aload_n 0, 1) := bg01_25.1.1.2.1
theorem dX12_wearsOf_53 : decode cX12_wearsOf 53 = .ok (.getfield 72, 3) := bg01_25.1.1.2.2
theorem dX12_wearsOf_56 : decode cX12_wearsOf 56 = .ok (.aload_n 0, 1) := bg01_25.1.2.1.1
theorem dX12_wearsOf_57 : decode cX12_wearsOf 57 = .ok (.getfield 42, 3) := bg01_25.1.2.1.2
theorem dX12_wearsOf_60 : decode cX12_wearsOf 60 = .ok (.iconst 4, 1) := bg01_25.1.2.2.1
theorem dX12_wearsOf_61 : decode cX12_wearsOf 61 = .ok (.iaload, 1) := bg01_25.1.2.2.2
theorem dX12_wearsOf_62 : decode cX12_wearsOf 62 = .ok (.invokevirtual 345, 3) := bg01_25.2.1.1.1
theorem dX12_wearsOf_65 : decode cX12_wearsOf 65 = .ok (.istore_n 3, 1) := bg01_25.2.1.1.2
theorem dX12_wearsOf_66 : decode cX12_wearsOf 66 = .ok (.iconst 0, 1) := bg01_25.2.1.2.1
theorem dX12_wearsOf_67 : decode cX12_wearsOf 67 = .ok (.bipush 20, 2) := bg01_25.2.1.2.2
theorem dX12_wearsOf_69 : decode cX12_wearsOf 69 = .ok (.iload_n 3, 1) := bg01_25.2.2.1.1
theorem dX12_wearsOf_70 : decode cX12_wearsOf 70 = .ok (.invokestatic 200, 3) := bg01_25.2.2.1.2
theorem dX12_wearsOf_73 : decode cX12_wearsOf 73 = .ok (.invokestatic 349, 3) := bg01_25.2.2.2.1
theorem dX12_wearsOf_76 : decode cX12_wearsOf 76 = .ok (.ireturn, 1) := bg01_25.2.2.2.2
theorem bg01_26 : (((decode cX12_wouldSit 0 = .ok (.aload_n 0, 1) ∧ decode cX12_wouldSit 1 = .ok (.iload_n 1, 1)) ∧ (decode cX12_wouldSit 2 = .ok (.iload_n 2, 1) ∧ decode cX12_wouldSit 3 = .ok (.invokevirtual 352, 3))) ∧ ((decode cX12_wouldSit 6 = .ok (.istore_n 3, 1) ∧ decode cX12_wouldSit 7 = .ok (.aload_n 0, 1)) ∧ (decode cX12_wouldSit 8 = .ok (.getfield 42, 3) ∧ decode cX12_wouldSit 11 = .ok (.iconst 5, 1)))) ∧ (((decode cX12_wouldSit 12 = .ok (.iaload, 1) ∧ decode cX12_wouldSit 13 = .ok (.ifCond .ne 14, 3)) ∧ (decode cX12_wouldSit 16 = .ok (.iload_n 3, 1) ∧ decode cX12_wouldSit 17 = .ok (.iconst 2, 1))) ∧ ((decode cX12_wouldSit 18 = .ok (.if_icmp .gt 7, 3) ∧ decode cX12_wouldSit 21 = .ok (.iconst 1, 1)) ∧ (decode cX12_wouldSit 22 = .ok (.goto 4, 3) ∧ decode cX12_wouldSit 25 = .ok (.iconst 0, 1)))) := by decide +kernel
theorem dX12_wouldSit_0 : decode cX12_wouldSit 0 = .ok (.aload_n 0, 1) := bg01_26.1.1.1.1
theorem dX12_wouldSit_1 : decode cX12_wouldSit 1 = .ok (.iload_n 1, 1) := bg01_26.1.1.1.2
theorem dX12_wouldSit_2 : decode cX12_wouldSit 2 = .ok (.iload_n 2, 1) := bg01_26.1.1.2.1
theorem dX12_wouldSit_3 : decode cX12_wouldSit 3 = .ok (.invokevirtual 352, 3) := bg01_26.1.1.2.2
theorem dX12_wouldSit_6 : decode cX12_wouldSit 6 = .ok (.istore_n 3, 1) := bg01_26.1.2.1.1
theorem dX12_wouldSit_7 : decode cX12_wouldSit 7 = .ok (.aload_n 0, 1) := bg01_26.1.2.1.2
theorem dX12_wouldSit_8 : decode cX12_wouldSit 8 = .ok (.getfield 42, 3) := bg01_26.1.2.2.1
theorem dX12_wouldSit_11 : decode cX12_wouldSit 11 = .ok (.iconst 5, 1) := bg01_26.1.2.2.2
theorem dX12_wouldSit_12 : decode cX12_wouldSit 12 = .ok (.iaload, 1) := bg01_26.2.1.1.1
theorem dX12_wouldSit_13 : decode cX12_wouldSit 13 = .ok (.ifCond .ne 14, 3) := bg01_26.2.1.1.2
theorem dX12_wouldSit_16 : decode cX12_wouldSit 16 = .ok (.iload_n 3, 1) := bg01_26.2.1.2.1
theorem dX12_wouldSit_17 : decode cX12_wouldSit 17 = .ok (.iconst 2, 1) := bg01_26.2.1.2.2
theorem dX12_wouldSit_18 : decode cX12_wouldSit 18 = .ok (.if_icmp .gt 7, 3) := bg01_26.2.2.1.1
theorem dX12_wouldSit_21 : decode cX12_wouldSit 21 = .ok (.iconst 1, 1) := bg01_26.2.2.1.2
theorem dX12_wouldSit_22 : decode cX12_wouldSit 22 = .ok (.goto 4, 3) := bg01_26.2.2.2.1
theorem dX12_wouldSit_25 : decode cX12_wouldSit 25 = .ok (.iconst 0, 1) := bg01_26.2.2.2.2
theorem bg01_27 : (((decode cX12_wouldSit 26 = .ok (.ireturn, 1) ∧ decode cX12_wouldSit 27 = .ok (.aload_n 0, 1)) ∧ (decode cX12_wouldSit 28 = .ok (.getfield 112, 3) ∧ decode cX12_wouldSit 31 = .ok (.iconst 0, 1))) ∧ ((decode cX12_wouldSit 32 = .ok (.iload_n 3, 1) ∧ decode cX12_wouldSit 33 = .ok (.iastore, 1)) ∧ (decode cX12_wouldSit 34 = .ok (.aload_n 0, 1) ∧ decode cX12_wouldSit 35 = .ok (.getfield 112, 3)))) ∧ (((decode cX12_wouldSit 38 = .ok (.iconst 1, 1) ∧ decode cX12_wouldSit 39 = .ok (.aload_n 0, 1)) ∧ (decode cX12_wouldSit 40 = .ok (.getfield 102, 3) ∧ decode cX12_wouldSit 43 = .ok (.iload_n 1, 1))) ∧ ((decode cX12_wouldSit 44 = .ok (.iaload, 1) ∧ decode cX12_wouldSit 45 = .ok (.iastore, 1)) ∧ (decode cX12_wouldSit 46 = .ok (.aload_n 0, 1) ∧ decode cX12_wouldSit 47 = .ok (.getfield 112, 3)))) := by decide +kernel
theorem dX12_wouldSit_26 : decode cX12_wouldSit 26 = .ok (.ireturn, 1) := bg01_27.1.1.1.1
theorem dX12_wouldSit_27 : decode cX12_wouldSit 27 = .ok (.aload_n 0, 1) := bg01_27.1.1.1.2
theorem dX12_wouldSit_28 : decode cX12_wouldSit 28 = .ok (.getfield 112, 3) := bg01_27.1.1.2.1
theorem dX12_wouldSit_31 : decode cX12_wouldSit 31 = .ok (.iconst 0, 1) := bg01_27.1.1.2.2
theorem dX12_wouldSit_32 : decode cX12_wouldSit 32 = .ok (.iload_n 3, 1) := bg01_27.1.2.1.1
theorem dX12_wouldSit_33 : decode cX12_wouldSit 33 = .ok (.iastore, 1) := bg01_27.1.2.1.2
theorem dX12_wouldSit_34 : decode cX12_wouldSit 34 = .ok (.aload_n 0, 1) := bg01_27.1.2.2.1
theorem dX12_wouldSit_35 : decode cX12_wouldSit 35 = .ok (.getfield 112, 3) := bg01_27.1.2.2.2
theorem dX12_wouldSit_38 : decode cX12_wouldSit 38 = .ok (.iconst 1, 1) := bg01_27.2.1.1.1
theorem dX12_wouldSit_39 : decode cX12_wouldSit 39 = .ok (.aload_n 0, 1) := bg01_27.2.1.1.2
theorem dX12_wouldSit_40 : decode cX12_wouldSit 40 = .ok (.getfield 102, 3) := bg01_27.2.1.2.1
theorem dX12_wouldSit_43 : decode cX12_wouldSit 43 = .ok (.iload_n 1, 1) := bg01_27.2.1.2.2
theorem dX12_wouldSit_44 : decode cX12_wouldSit 44 = .ok (.iaload, 1) := bg01_27.2.2.1.1
theorem dX12_wouldSit_45 : decode cX12_wouldSit 45 = .ok (.iastore, 1) := bg01_27.2.2.1.2
theorem dX12_wouldSit_46 : decode cX12_wouldSit 46 = .ok (.aload_n 0, 1) := bg01_27.2.2.2.1
theorem dX12_wouldSit_47 : decode cX12_wouldSit 47 = .ok (.getfield 112, 3) := bg01_27.2.2.2.2
theorem bg01_28 : (((decode cX12_wouldSit 50 = .ok (.iconst 2, 1) ∧ decode cX12_wouldSit 51 = .ok (.aload_n 0, 1)) ∧ (decode cX12_wouldSit 52 = .ok (.getfield 94, 3) ∧ decode cX12_wouldSit 55 = .ok (.iload_n 2, 1))) ∧ ((decode cX12_wouldSit 56 = .ok (.iaload, 1) ∧ decode cX12_wouldSit 57 = .ok (.iastore, 1)) ∧ (decode cX12_wouldSit 58 = .ok (.aload_n 0, 1) ∧ decode cX12_wouldSit 59 = .ok (.getfield 112, 3)))) ∧ (((decode cX12_wouldSit 62 = .ok (.iconst 3, 1) ∧ decode cX12_wouldSit 63 = .ok (.aload_n 0, 1)) ∧ (decode cX12_wouldSit 64 = .ok (.getfield 104, 3) ∧ decode cX12_wouldSit 67 = .ok (.iload_n 1, 1))) ∧ ((decode cX12_wouldSit 68 = .ok (.iaload, 1) ∧ decode cX12_wouldSit 69 = .ok (.iload_n 2, 1)) ∧ (decode cX12_wouldSit 70 = .ok (.if_icmp .ne 7, 3) ∧ decode cX12_wouldSit 73 = .ok (.iconst 1, 1)))) := by decide +kernel
theorem dX12_wouldSit_50 : decode cX12_wouldSit 50 = .ok (.iconst 2, 1) := bg01_28.1.1.1.1
theorem dX12_wouldSit_51 : decode cX12_wouldSit 51 = .ok (.aload_n 0, 1) := bg01_28.1.1.1.2
theorem dX12_wouldSit_52 : decode cX12_wouldSit 52 = .ok (.getfield 94, 3) := bg01_28.1.1.2.1
theorem dX12_wouldSit_55 : decode cX12_wouldSit 55 = .ok (.iload_n 2, 1) := bg01_28.1.1.2.2
theorem dX12_wouldSit_56 : decode cX12_wouldSit 56 = .ok (.iaload, 1) := bg01_28.1.2.1.1
theorem dX12_wouldSit_57 : decode cX12_wouldSit 57 = .ok (.iastore, 1) := bg01_28.1.2.1.2
theorem dX12_wouldSit_58 : decode cX12_wouldSit 58 = .ok (.aload_n 0, 1) := bg01_28.1.2.2.1
theorem dX12_wouldSit_59 : decode cX12_wouldSit 59 = .ok (.getfield 112, 3) := bg01_28.1.2.2.2
theorem dX12_wouldSit_62 : decode cX12_wouldSit 62 = .ok (.iconst 3, 1) := bg01_28.2.1.1.1
theorem dX12_wouldSit_63 : decode cX12_wouldSit 63 = .ok (.aload_n 0, 1) := bg01_28.2.1.1.2
theorem dX12_wouldSit_64 : decode cX12_wouldSit 64 = .ok (.getfield 104, 3) := bg01_28.2.1.2.1
theorem dX12_wouldSit_67 : decode cX12_wouldSit 67 = .ok (.iload_n 1, 1) := bg01_28.2.1.2.2
theorem dX12_wouldSit_68 : decode cX12_wouldSit 68 = .ok (.iaload, 1) := bg01_28.2.2.1.1
theorem dX12_wouldSit_69 : decode cX12_wouldSit 69 = .ok (.iload_n 2, 1) := bg01_28.2.2.1.2
theorem dX12_wouldSit_70 : decode cX12_wouldSit 70 = .ok (.if_icmp .ne 7, 3) := bg01_28.2.2.2.1
theorem dX12_wouldSit_73 : decode cX12_wouldSit 73 = .ok (.iconst 1, 1) := bg01_28.2.2.2.2
theorem bg01_29 : (((decode cX12_wouldSit 74 = .ok (.goto 4, 3) ∧ decode cX12_wouldSit 77 = .ok (.iconst 0, 1)) ∧ (decode cX12_wouldSit 78 = .ok (.iastore, 1) ∧ decode cX12_wouldSit 79 = .ok (.aload_n 0, 1))) ∧ ((decode cX12_wouldSit 80 = .ok (.getfield 112, 3) ∧ decode cX12_wouldSit 83 = .ok (.iconst 4, 1)) ∧ (decode cX12_wouldSit 84 = .ok (.aload_n 0, 1) ∧ decode cX12_wouldSit 85 = .ok (.getfield 323, 3)))) ∧ (((decode cX12_wouldSit 88 = .ok (.iastore, 1) ∧ decode cX12_wouldSit 89 = .ok (.aload_n 0, 1)) ∧ (decode cX12_wouldSit 90 = .ok (.aload_n 0, 1) ∧ decode cX12_wouldSit 91 = .ok (.getfield 75, 3))) ∧ ((decode cX12_wouldSit 94 = .ok (.aload_n 0, 1) ∧ decode cX12_wouldSit 95 = .ok (.getfield 42, 3)) ∧ (decode cX12_wouldSit 98 = .ok (.iconst 5, 1) ∧ decode cX12_wouldSit 99 = .ok (.iaload, 1)))) := by decide +kernel
theorem dX12_wouldSit_74 : decode cX12_wouldSit 74 = .ok (.goto 4, 3) := bg01_29.1.1.1.1
theorem dX12_wouldSit_77 : decode cX12_wouldSit 77 = .ok (.iconst 0, 1) := bg01_29.1.1.1.2
theorem dX12_wouldSit_78 : decode cX12_wouldSit 78 = .ok (.iastore, 1) := bg01_29.1.1.2.1
theorem dX12_wouldSit_79 : decode cX12_wouldSit 79 = .ok (.aload_n 0, 1) := bg01_29.1.1.2.2
theorem dX12_wouldSit_80 : decode cX12_wouldSit 80 = .ok (.getfield 112, 3) := bg01_29.1.2.1.1
theorem dX12_wouldSit_83 : decode cX12_wouldSit 83 = .ok (.iconst 4, 1) := bg01_29.1.2.1.2
theorem dX12_wouldSit_84 : decode cX12_wouldSit 84 = .ok (.aload_n 0, 1) := bg01_29.1.2.2.1
theorem dX12_wouldSit_85 : decode cX12_wouldSit 85 = .ok (.getfield 323, 3) := bg01_29.1.2.2.2
theorem dX12_wouldSit_88 : decode cX12_wouldSit 88 = .ok (.iastore, 1) := bg01_29.2.1.1.1
theorem dX12_wouldSit_89 : decode cX12_wouldSit 89 = .ok (.aload_n 0, 1) := bg01_29.2.1.1.2
theorem dX12_wouldSit_90 : decode cX12_wouldSit 90 = .ok (.aload_n 0, 1) := bg01_29.2.1.2.1
theorem dX12_wouldSit_91 : decode cX12_wouldSit 91 = .ok (.getfield 75, 3) := bg01_29.2.1.2.2
theorem dX12_wouldSit_94 : decode cX12_wouldSit 94 = .ok (.aload_n 0, 1) := bg01_29.2.2.1.1
theorem dX12_wouldSit_95 : decode cX12_wouldSit 95 = .ok (.getfield 42, 3) := bg01_29.2.2.1.2
theorem dX12_wouldSit_98 : decode cX12_wouldSit 98 = .ok (.iconst 5, 1) := bg01_29.2.2.2.1
theorem dX12_wouldSit_99 : decode cX12_wouldSit 99 = .ok (.iaload, 1) := bg01_29.2.2.2.2
theorem bg01_30 : ((decode cX12_wouldSit 100 = .ok (.invokevirtual 345, 3) ∧ decode cX12_wouldSit 103 = .ok (.ifCond .le 7, 3)) ∧ (decode cX12_wouldSit 106 = .ok (.iconst 1, 1) ∧ decode cX12_wouldSit 107 = .ok (.goto 4, 3))) ∧ ((decode cX12_wouldSit 110 = .ok (.iconst 0, 1) ∧ decode cX12_wouldSit 111 = .ok (.ireturn, 1)) ∧ (decode cX12_wear 0 = .ok (.aload_n 0, 1) ∧ decode cX12_wear 1 = .ok (.getfield 94, 3))) := by decide +kernel
theorem dX12_wouldSit_100 : decode cX12_wouldSit 100 = .ok (.invokevirtual 345, 3) := bg01_30.1.1.1
theorem dX12_wouldSit_103 : decode cX12_wouldSit 103 = .ok (.ifCond .le 7, 3) := bg01_30.1.1.2
theorem dX12_wouldSit_106 : decode cX12_wouldSit 106 = .ok (.iconst 1, 1) := bg01_30.1.2.1
theorem dX12_wouldSit_107 : decode cX12_wouldSit 107 = .ok (.goto 4, 3) := bg01_30.1.2.2
theorem dX12_wouldSit_110 : decode cX12_wouldSit 110 = .ok (.iconst 0, 1) := bg01_30.2.1.1
theorem dX12_wouldSit_111 : decode cX12_wouldSit 111 = .ok (.ireturn, 1) := bg01_30.2.1.2
theorem dX12_wear_0 : decode cX12_wear 0 = .ok (.aload_n 0, 1) := bg01_30.2.2.1
theorem dX12_wear_1 : decode cX12_wear 1 = .ok (.getfield 94, 3) := bg01_30.2.2.2
theorem bg01_31 : (((decode cX12_wear 4 = .ok (.iload_n 1, 1) ∧ decode cX12_wear 5 = .ok (.iaload, 1)) ∧ (decode cX12_wear 6 = .ok (.ifCond .eq 12, 3) ∧ decode cX12_wear 9 = .ok (.aload_n 0, 1))) ∧ ((decode cX12_wear 10 = .ok (.iload_n 1, 1) ∧ decode cX12_wear 11 = .ok (.invokevirtual 355, 3)) ∧ (decode cX12_wear 14 = .ok (.iconst (-1), 1) ∧ decode cX12_wear 15 = .ok (.if_icmp .eq 4, 3)))) ∧ (((decode cX12_wear 18 = .ok (.return_, 1) ∧ decode cX12_wear 19 = .ok (.aload_n 0, 1)) ∧ (decode cX12_wear 20 = .ok (.getfield 94, 3) ∧ decode cX12_wear 23 = .ok (.iload_n 1, 1))) ∧ ((decode cX12_wear 24 = .ok (.iconst 0, 1) ∧ decode cX12_wear 25 = .ok (.aload_n 0, 1)) ∧ (decode cX12_wear 26 = .ok (.getfield 94, 3) ∧ decode cX12_wear 29 = .ok (.iload_n 1, 1)))) := by decide +kernel
theorem dX12_wear_4 : decode cX12_wear 4 = .ok (.iload_n 1, 1) := bg01_31.1.1.1.1
theorem dX12_wear_5 : decode cX12_wear 5 = .ok (.iaload, 1) := bg01_31.1.1.1.2
theorem dX12_wear_6 : decode cX12_wear 6 = .ok (.ifCond .eq 12, 3) := bg01_31.1.1.2.1
theorem dX12_wear_9 : decode cX12_wear 9 = .ok (.aload_n 0, 1) := bg01_31.1.1.2.2
theorem dX12_wear_10 : decode cX12_wear 10 = .ok (.iload_n 1, 1) := bg01_31.1.2.1.1
theorem dX12_wear_11 : decode cX12_wear 11 = .ok (.invokevirtual 355, 3) := bg01_31.1.2.1.2
theorem dX12_wear_14 : decode cX12_wear 14 = .ok (.iconst (-1), 1) := bg01_31.1.2.2.1
theorem dX12_wear_15 : decode cX12_wear 15 = .ok (.if_icmp .eq 4, 3) := bg01_31.1.2.2.2
theorem dX12_wear_18 : decode cX12_wear 18 = .ok (.return_, 1) := bg01_31.2.1.1.1
theorem dX12_wear_19 : decode cX12_wear 19 = .ok (.aload_n 0, 1) := bg01_31.2.1.1.2
theorem dX12_wear_20 : decode cX12_wear 20 = .ok (.getfield 94, 3) := bg01_31.2.1.2.1
theorem dX12_wear_23 : decode cX12_wear 23 = .ok (.iload_n 1, 1) := bg01_31.2.1.2.2
theorem dX12_wear_24 : decode cX12_wear 24 = .ok (.iconst 0, 1) := bg01_31.2.2.1.1
theorem dX12_wear_25 : decode cX12_wear 25 = .ok (.aload_n 0, 1) := bg01_31.2.2.1.2
theorem dX12_wear_26 : decode cX12_wear 26 = .ok (.getfield 94, 3) := bg01_31.2.2.2.1
theorem dX12_wear_29 : decode cX12_wear 29 = .ok (.iload_n 1, 1) := bg01_31.2.2.2.2
theorem bg01_32 : (((decode cX12_wear 30 = .ok (.iaload, 1) ∧ decode cX12_wear 31 = .ok (.aload_n 0, 1)) ∧ (decode cX12_wear 32 = .ok (.iload_n 1, 1) ∧ decode cX12_wear 33 = .ok (.iload_n 2, 1))) ∧ ((decode cX12_wear 34 = .ok (.invokevirtual 358, 3) ∧ decode cX12_wear 37 = .ok (.isub, 1)) ∧ (decode cX12_wear 38 = .ok (.invokestatic 349, 3) ∧ decode cX12_wear 41 = .ok (.iastore, 1)))) ∧ (((decode cX12_wear 42 = .ok (.aload_n 0, 1) ∧ decode cX12_wear 43 = .ok (.getfield 94, 3)) ∧ (decode cX12_wear 46 = .ok (.iload_n 1, 1) ∧ decode cX12_wear 47 = .ok (.iaload, 1))) ∧ ((decode cX12_wear 48 = .ok (.ifCond .le 4, 3) ∧ decode cX12_wear 51 = .ok (.return_, 1)) ∧ (decode cX12_wear 52 = .ok (.aload_n 0, 1) ∧ decode cX12_wear 53 = .ok (.getfield 88, 3)))) := by decide +kernel
theorem dX12_wear_30 : decode cX12_wear 30 = .ok (.iaload, 1) := bg01_32.1.1.1.1
theorem dX12_wear_31 : decode cX12_wear 31 = .ok (.aload_n 0, 1) := bg01_32.1.1.1.2
theorem dX12_wear_32 : decode cX12_wear 32 = .ok (.iload_n 1, 1) := bg01_32.1.1.2.1
theorem dX12_wear_33 : decode cX12_wear 33 = .ok (.iload_n 2, 1) := bg01_32.1.1.2.2
theorem dX12_wear_34 : decode cX12_wear 34 = .ok (.invokevirtual 358, 3) := bg01_32.1.2.1.1
theorem dX12_wear_37 : decode cX12_wear 37 = .ok (.isub, 1) := bg01_32.1.2.1.2
theorem dX12_wear_38 : decode cX12_wear 38 = .ok (.invokestatic 349, 3) := bg01_32.1.2.2.1
theorem dX12_wear_41 : decode cX12_wear 41 = .ok (.iastore, 1) := bg01_32.1.2.2.2
theorem dX12_wear_42 : decode cX12_wear 42 = .ok (.aload_n 0, 1) := bg01_32.2.1.1.1
theorem dX12_wear_43 : decode cX12_wear 43 = .ok (.getfield 94, 3) := bg01_32.2.1.1.2
theorem dX12_wear_46 : decode cX12_wear 46 = .ok (.iload_n 1, 1) := bg01_32.2.1.2.1
theorem dX12_wear_47 : decode cX12_wear 47 = .ok (.iaload, 1) := bg01_32.2.1.2.2
theorem dX12_wear_48 : decode cX12_wear 48 = .ok (.ifCond .le 4, 3) := bg01_32.2.2.1.1
theorem dX12_wear_51 : decode cX12_wear 51 = .ok (.return_, 1) := bg01_32.2.2.1.2
theorem dX12_wear_52 : decode cX12_wear 52 = .ok (.aload_n 0, 1) := bg01_32.2.2.2.1
theorem dX12_wear_53 : decode cX12_wear 53 = .ok (.getfield 88, 3) := bg01_32.2.2.2.2
theorem bg01_33 : (((decode cX12_wear 56 = .ok (.iload_n 1, 1) ∧ decode cX12_wear 57 = .ok (.iconst 0, 1)) ∧ (decode cX12_wear 58 = .ok (.iastore, 1))) ∧ (decode cX12_wear 59 = .ok (.aload_n 0, 1) ∧ decode cX12_wear 60 = .ok (.getfield 91, 3))) ∧ ((decode cX12_wear 63 = .ok (.iload_n 1, 1) ∧ decode cX12_wear 64 = .ok (.iconst 0, 1)) ∧ (decode cX12_wear 65 = .ok (.iastore, 1) ∧ decode cX12_wear 66 = .ok (.return_, 1))) := by decide +kernel
theorem dX12_wear_56 : decode cX12_wear 56 = .ok (.iload_n 1, 1) := bg01_33.1.1.1.1
theorem dX12_wear_57 : decode cX12_wear 57 = .ok (.iconst 0, 1) := bg01_33.1.1.1.2
theorem dX12_wear_58 : decode cX12_wear 58 = .ok (.iastore, 1) := bg01_33.1.1.2
theorem dX12_wear_59 : decode cX12_wear 59 = .ok (.aload_n 0, 1) := bg01_33.1.2.1
theorem dX12_wear_60 : decode cX12_wear 60 = .ok (.getfield 91, 3) := bg01_33.1.2.2
theorem dX12_wear_63 : decode cX12_wear 63 = .ok (.iload_n 1, 1) := bg01_33.2.1.1
theorem dX12_wear_64 : decode cX12_wear 64 = .ok (.iconst 0, 1) := bg01_33.2.1.2
theorem dX12_wear_65 : decode cX12_wear 65 = .ok (.iastore, 1) := bg01_33.2.2.1
theorem dX12_wear_66 : decode cX12_wear 66 = .ok (.return_, 1) := bg01_33.2.2.2
theorem bg01_34 : (((decode cX12_nearer 0 = .ok (.iload_n 0, 1) ∧ decode cX12_nearer 1 = .ok (.iload_n 1, 1)) ∧ (decode cX12_nearer 2 = .ok (.if_icmp .ge 9, 3) ∧ decode cX12_nearer 5 = .ok (.iload_n 0, 1))) ∧ ((decode cX12_nearer 6 = .ok (.iconst 1, 1) ∧ decode cX12_nearer 7 = .ok (.iadd, 1)) ∧ (decode cX12_nearer 8 = .ok (.goto 15, 3) ∧ decode cX12_nearer 11 = .ok (.iload_n 0, 1)))) ∧ (((decode cX12_nearer 12 = .ok (.iload_n 1, 1) ∧ decode cX12_nearer 13 = .ok (.if_icmp .le 9, 3)) ∧ (decode cX12_nearer 16 = .ok (.iload_n 0, 1) ∧ decode cX12_nearer 17 = .ok (.iconst 1, 1))) ∧ ((decode cX12_nearer 18 = .ok (.isub, 1) ∧ decode cX12_nearer 19 = .ok (.goto 4, 3)) ∧ (decode cX12_nearer 22 = .ok (.iload_n 0, 1) ∧ decode cX12_nearer 23 = .ok (.ireturn, 1)))) := by decide +kernel
theorem dX12_nearer_0 : decode cX12_nearer 0 = .ok (.iload_n 0, 1) := bg01_34.1.1.1.1
theorem dX12_nearer_1 : decode cX12_nearer 1 = .ok (.iload_n 1, 1) := bg01_34.1.1.1.2
theorem dX12_nearer_2 : decode cX12_nearer 2 = .ok (.if_icmp .ge 9, 3) := bg01_34.1.1.2.1
theorem dX12_nearer_5 : decode cX12_nearer 5 = .ok (.iload_n 0, 1) := bg01_34.1.1.2.2
theorem dX12_nearer_6 : decode cX12_nearer 6 = .ok (.iconst 1, 1) := bg01_34.1.2.1.1
theorem dX12_nearer_7 : decode cX12_nearer 7 = .ok (.iadd, 1) := bg01_34.1.2.1.2
theorem dX12_nearer_8 : decode cX12_nearer 8 = .ok (.goto 15, 3) := bg01_34.1.2.2.1
theorem dX12_nearer_11 : decode cX12_nearer 11 = .ok (.iload_n 0, 1) := bg01_34.1.2.2.2
theorem dX12_nearer_12 : decode cX12_nearer 12 = .ok (.iload_n 1, 1) := bg01_34.2.1.1.1
theorem dX12_nearer_13 : decode cX12_nearer 13 = .ok (.if_icmp .le 9, 3) := bg01_34.2.1.1.2
theorem dX12_nearer_16 : decode cX12_nearer 16 = .ok (.iload_n 0, 1) := bg01_34.2.1.2.1
theorem dX12_nearer_17 : decode cX12_nearer 17 = .ok (.iconst 1, 1) := bg01_34.2.1.2.2
theorem dX12_nearer_18 : decode cX12_nearer 18 = .ok (.isub, 1) := bg01_34.2.2.1.1
theorem dX12_nearer_19 : decode cX12_nearer 19 = .ok (.goto 4, 3) := bg01_34.2.2.1.2
theorem dX12_nearer_22 : decode cX12_nearer 22 = .ok (.iload_n 0, 1) := bg01_34.2.2.2.1
theorem dX12_nearer_23 : decode cX12_nearer 23 = .ok (.ireturn, 1) := bg01_34.2.2.2.2
theorem bg01_35 : (((decode cX12_growOlder 0 = .ok (.aload_n 0, 1) ∧ decode cX12_growOlder 1 = .ok (.getfield 102, 3)) ∧ (decode cX12_growOlder 4 = .ok (.iload_n 1, 1) ∧ decode cX12_growOlder 5 = .ok (.bipush 99, 2))) ∧ ((decode cX12_growOlder 7 = .ok (.aload_n 0, 1) ∧ decode cX12_growOlder 8 = .ok (.getfield 102, 3)) ∧ (decode cX12_growOlder 11 = .ok (.iload_n 1, 1) ∧ decode cX12_growOlder 12 = .ok (.iaload, 1)))) ∧ (((decode cX12_growOlder 13 = .ok (.iconst 1, 1) ∧ decode cX12_growOlder 14 = .ok (.iadd, 1)) ∧ (decode cX12_growOlder 15 = .ok (.invokestatic 200, 3) ∧ decode cX12_growOlder 18 = .ok (.iastore, 1))) ∧ ((decode cX12_growOlder 19 = .ok (.aload_n 0, 1) ∧ decode cX12_growOlder 20 = .ok (.getfield 104, 3)) ∧ (decode cX12_growOlder 23 = .ok (.iload_n 1, 1) ∧ decode cX12_growOlder 24 = .ok (.iaload, 1)))) := by decide +kernel
theorem dX12_growOlder_0 : decode cX12_growOlder 0 = .ok (.aload_n 0, 1) := bg01_35.1.1.1.1
theorem dX12_growOlder_1 : decode cX12_growOlder 1 = .ok (.getfield 102, 3) := bg01_35.1.1.1.2
theorem dX12_growOlder_4 : decode cX12_growOlder 4 = .ok (.iload_n 1, 1) := bg01_35.1.1.2.1
theorem dX12_growOlder_5 : decode cX12_growOlder 5 = .ok (.bipush 99, 2) := bg01_35.1.1.2.2
theorem dX12_growOlder_7 : decode cX12_growOlder 7 = .ok (.aload_n 0, 1) := bg01_35.1.2.1.1
theorem dX12_growOlder_8 : decode cX12_growOlder 8 = .ok (.getfield 102, 3) := bg01_35.1.2.1.2
theorem dX12_growOlder_11 : decode cX12_growOlder 11 = .ok (.iload_n 1, 1) := bg01_35.1.2.2.1
theorem dX12_growOlder_12 : decode cX12_growOlder 12 = .ok (.iaload, 1) := bg01_35.1.2.2.2
theorem dX12_growOlder_13 : decode cX12_growOlder 13 = .ok (.iconst 1, 1) := bg01_35.2.1.1.1
theorem dX12_growOlder_14 : decode cX12_growOlder 14 = .ok (.iadd, 1) := bg01_35.2.1.1.2
theorem dX12_growOlder_15 : decode cX12_growOlder 15 = .ok (.invokestatic 200, 3) := bg01_35.2.1.2.1
theorem dX12_growOlder_18 : decode cX12_growOlder 18 = .ok (.iastore, 1) := bg01_35.2.1.2.2
theorem dX12_growOlder_19 : decode cX12_growOlder 19 = .ok (.aload_n 0, 1) := bg01_35.2.2.1.1
theorem dX12_growOlder_20 : decode cX12_growOlder 20 = .ok (.getfield 104, 3) := bg01_35.2.2.1.2
theorem dX12_growOlder_23 : decode cX12_growOlder 23 = .ok (.iload_n 1, 1) := bg01_35.2.2.2.1
theorem dX12_growOlder_24 : decode cX12_growOlder 24 = .ok (.iaload, 1) := bg01_35.2.2.2.2
theorem bg01_36 : (((decode cX12_growOlder 25 = .ok (.istore_n 2, 1) ∧ decode cX12_growOlder 26 = .ok (.aload_n 0, 1)) ∧ (decode cX12_growOlder 27 = .ok (.getfield 102, 3) ∧ decode cX12_growOlder 30 = .ok (.iload_n 1, 1))) ∧ ((decode cX12_growOlder 31 = .ok (.iaload, 1) ∧ decode cX12_growOlder 32 = .ok (.aload_n 0, 1)) ∧ (decode cX12_growOlder 33 = .ok (.getfield 42, 3) ∧ decode cX12_growOlder 36 = .ok (.iconst 3, 1)))) ∧ (((decode cX12_growOlder 37 = .ok (.iaload, 1) ∧ decode cX12_growOlder 38 = .ok (.if_icmp .lt 18, 3)) ∧ (decode cX12_growOlder 41 = .ok (.aload_n 0, 1) ∧ decode cX12_growOlder 42 = .ok (.getfield 55, 3))) ∧ ((decode cX12_growOlder 45 = .ok (.iload_n 1, 1) ∧ decode cX12_growOlder 46 = .ok (.iaload, 1)) ∧ (decode cX12_growOlder 47 = .ok (.iconst 1, 1) ∧ decode cX12_growOlder 48 = .ok (.if_icmp .eq 8, 3)))) := by decide +kernel
theorem dX12_growOlder_25 : decode cX12_growOlder 25 = .ok (.istore_n 2, 1) := bg01_36.1.1.1.1
theorem dX12_growOlder_26 : decode cX12_growOlder 26 = .ok (.aload_n 0, 1) := bg01_36.1.1.1.2
theorem dX12_growOlder_27 : decode cX12_growOlder 27 = .ok (.getfield 102, 3) := bg01_36.1.1.2.1
theorem dX12_growOlder_30 : decode cX12_growOlder 30 = .ok (.iload_n 1, 1) := bg01_36.1.1.2.2
theorem dX12_growOlder_31 : decode cX12_growOlder 31 = .ok (.iaload, 1) := bg01_36.1.2.1.1
theorem dX12_growOlder_32 : decode cX12_growOlder 32 = .ok (.aload_n 0, 1) := bg01_36.1.2.1.2
theorem dX12_growOlder_33 : decode cX12_growOlder 33 = .ok (.getfield 42, 3) := bg01_36.1.2.2.1
theorem dX12_growOlder_36 : decode cX12_growOlder 36 = .ok (.iconst 3, 1) := bg01_36.1.2.2.2
theorem dX12_growOlder_37 : decode cX12_growOlder 37 = .ok (.iaload, 1) := bg01_36.2.1.1.1
theorem dX12_growOlder_38 : decode cX12_growOlder 38 = .ok (.if_icmp .lt 18, 3) := bg01_36.2.1.1.2
theorem dX12_growOlder_41 : decode cX12_growOlder 41 = .ok (.aload_n 0, 1) := bg01_36.2.1.2.1
theorem dX12_growOlder_42 : decode cX12_growOlder 42 = .ok (.getfield 55, 3) := bg01_36.2.1.2.2
theorem dX12_growOlder_45 : decode cX12_growOlder 45 = .ok (.iload_n 1, 1) := bg01_36.2.2.1.1
theorem dX12_growOlder_46 : decode cX12_growOlder 46 = .ok (.iaload, 1) := bg01_36.2.2.1.2
theorem dX12_growOlder_47 : decode cX12_growOlder 47 = .ok (.iconst 1, 1) := bg01_36.2.2.2.1
theorem dX12_growOlder_48 : decode cX12_growOlder 48 = .ok (.if_icmp .eq 8, 3) := bg01_36.2.2.2.2
theorem bg01_37 : (((decode cX12_growOlder 51 = .ok (.iload_n 2, 1) ∧ decode cX12_growOlder 52 = .ok (.iconst (-1), 1)) ∧ (decode cX12_growOlder 53 = .ok (.if_icmp .ne 4, 3) ∧ decode cX12_growOlder 56 = .ok (.return_, 1))) ∧ ((decode cX12_growOlder 57 = .ok (.aload_n 0, 1) ∧ decode cX12_growOlder 58 = .ok (.getfield 96, 3)) ∧ (decode cX12_growOlder 61 = .ok (.iload_n 1, 1) ∧ decode cX12_growOlder 62 = .ok (.aload_n 0, 1)))) ∧ (((decode cX12_growOlder 63 = .ok (.getfield 96, 3) ∧ decode cX12_growOlder 66 = .ok (.iload_n 1, 1)) ∧ (decode cX12_growOlder 67 = .ok (.iaload, 1) ∧ decode cX12_growOlder 68 = .ok (.aload_n 0, 1))) ∧ ((decode cX12_growOlder 69 = .ok (.getfield 88, 3) ∧ decode cX12_growOlder 72 = .ok (.iload_n 2, 1)) ∧ (decode cX12_growOlder 73 = .ok (.iaload, 1) ∧ decode cX12_growOlder 74 = .ok (.invokestatic 361, 3)))) := by decide +kernel
theorem dX12_growOlder_51 : decode cX12_growOlder 51 = .ok (.iload_n 2, 1) := bg01_37.1.1.1.1
theorem dX12_growOlder_52 : decode cX12_growOlder 52 = .ok (.iconst (-1), 1) := bg01_37.1.1.1.2
theorem dX12_growOlder_53 : decode cX12_growOlder 53 = .ok (.if_icmp .ne 4, 3) := bg01_37.1.1.2.1
theorem dX12_growOlder_56 : decode cX12_growOlder 56 = .ok (.return_, 1) := bg01_37.1.1.2.2
theorem dX12_growOlder_57 : decode cX12_growOlder 57 = .ok (.aload_n 0, 1) := bg01_37.1.2.1.1
theorem dX12_growOlder_58 : decode cX12_growOlder 58 = .ok (.getfield 96, 3) := bg01_37.1.2.1.2
theorem dX12_growOlder_61 : decode cX12_growOlder 61 = .ok (.iload_n 1, 1) := bg01_37.1.2.2.1
theorem dX12_growOlder_62 : decode cX12_growOlder 62 = .ok (.aload_n 0, 1) := bg01_37.1.2.2.2
theorem dX12_growOlder_63 : decode cX12_growOlder 63 = .ok (.getfield 96, 3) := bg01_37.2.1.1.1
theorem dX12_growOlder_66 : decode cX12_growOlder 66 = .ok (.iload_n 1, 1) := bg01_37.2.1.1.2
theorem dX12_growOlder_67 : decode cX12_growOlder 67 = .ok (.iaload, 1) := bg01_37.2.1.2.1
theorem dX12_growOlder_68 : decode cX12_growOlder 68 = .ok (.aload_n 0, 1) := bg01_37.2.1.2.2
theorem dX12_growOlder_69 : decode cX12_growOlder 69 = .ok (.getfield 88, 3) := bg01_37.2.2.1.1
theorem dX12_growOlder_72 : decode cX12_growOlder 72 = .ok (.iload_n 2, 1) := bg01_37.2.2.1.2
theorem dX12_growOlder_73 : decode cX12_growOlder 73 = .ok (.iaload, 1) := bg01_37.2.2.2.1
theorem dX12_growOlder_74 : decode cX12_growOlder 74 = .ok (.invokestatic 361, 3) := bg01_37.2.2.2.2
theorem bg01_38 : (((decode cX12_growOlder 77 = .ok (.iastore, 1) ∧ decode cX12_growOlder 78 = .ok (.aload_n 0, 1)) ∧ (decode cX12_growOlder 79 = .ok (.getfield 99, 3) ∧ decode cX12_growOlder 82 = .ok (.iload_n 1, 1))) ∧ ((decode cX12_growOlder 83 = .ok (.aload_n 0, 1) ∧ decode cX12_growOlder 84 = .ok (.getfield 99, 3)) ∧ (decode cX12_growOlder 87 = .ok (.iload_n 1, 1) ∧ decode cX12_growOlder 88 = .ok (.iaload, 1)))) ∧ (((decode cX12_growOlder 89 = .ok (.aload_n 0, 1) ∧ decode cX12_growOlder 90 = .ok (.getfield 91, 3)) ∧ (decode cX12_growOlder 93 = .ok (.iload_n 2, 1) ∧ decode cX12_growOlder 94 = .ok (.iaload, 1))) ∧ ((decode cX12_growOlder 95 = .ok (.invokestatic 361, 3) ∧ decode cX12_growOlder 98 = .ok (.iastore, 1)) ∧ (decode cX12_growOlder 99 = .ok (.return_, 1)))) := by decide +kernel
theorem dX12_growOlder_77 : decode cX12_growOlder 77 = .ok (.iastore, 1) := bg01_38.1.1.1.1
theorem dX12_growOlder_78 : decode cX12_growOlder 78 = .ok (.aload_n 0, 1) := bg01_38.1.1.1.2
theorem dX12_growOlder_79 : decode cX12_growOlder 79 = .ok (.getfield 99, 3) := bg01_38.1.1.2.1
theorem dX12_growOlder_82 : decode cX12_growOlder 82 = .ok (.iload_n 1, 1) := bg01_38.1.1.2.2
theorem dX12_growOlder_83 : decode cX12_growOlder 83 = .ok (.aload_n 0, 1) := bg01_38.1.2.1.1
theorem dX12_growOlder_84 : decode cX12_growOlder 84 = .ok (.getfield 99, 3) := bg01_38.1.2.1.2
theorem dX12_growOlder_87 : decode cX12_growOlder 87 = .ok (.iload_n 1, 1) := bg01_38.1.2.2.1
theorem dX12_growOlder_88 : decode cX12_growOlder 88 = .ok (.iaload, 1) := bg01_38.1.2.2.2
theorem dX12_growOlder_89 : decode cX12_growOlder 89 = .ok (.aload_n 0, 1) := bg01_38.2.1.1.1
theorem dX12_growOlder_90 : decode cX12_growOlder 90 = .ok (.getfield 91, 3) := bg01_38.2.1.1.2
theorem dX12_growOlder_93 : decode cX12_growOlder 93 = .ok (.iload_n 2, 1) := bg01_38.2.1.2.1
theorem dX12_growOlder_94 : decode cX12_growOlder 94 = .ok (.iaload, 1) := bg01_38.2.1.2.2
theorem dX12_growOlder_95 : decode cX12_growOlder 95 = .ok (.invokestatic 361, 3) := bg01_38.2.2.1.1
theorem dX12_growOlder_98 : decode cX12_growOlder 98 = .ok (.iastore, 1) := bg01_38.2.2.1.2
theorem dX12_growOlder_99 : decode cX12_growOlder 99 = .ok (.return_, 1) := bg01_38.2.2.2
theorem bg01_39 : (((decode cX12_mostLike 0 = .ok (.iconst (-1), 1) ∧ decode cX12_mostLike 1 = .ok (.istore_n 3, 1)) ∧ (decode cX12_mostLike 2 = .ok (.iconst 0, 1) ∧ decode cX12_mostLike 3 = .ok (.istore 4, 2))) ∧ ((decode cX12_mostLike 5 = .ok (.iload 4, 2) ∧ decode cX12_mostLike 7 = .ok (.aload_n 0, 1)) ∧ (decode cX12_mostLike 8 = .ok (.getfield 42, 3) ∧ decode cX12_mostLike 11 = .ok (.iconst 0, 1)))) ∧ (((decode cX12_mostLike 12 = .ok (.iaload, 1) ∧ decode cX12_mostLike 13 = .ok (.if_icmp .ge 50, 3)) ∧ (decode cX12_mostLike 16 = .ok (.iload_n 2, 1) ∧ decode cX12_mostLike 17 = .ok (.ifCond .eq 16, 3))) ∧ ((decode cX12_mostLike 20 = .ok (.aload_n 0, 1) ∧ decode cX12_mostLike 21 = .ok (.iload 4, 2)) ∧ (decode cX12_mostLike 23 = .ok (.invokevirtual 355, 3) ∧ decode cX12_mostLike 26 = .ok (.iconst (-1), 1)))) := by decide +kernel
theorem dX12_mostLike_0 : decode cX12_mostLike 0 = .ok (.iconst (-1), 1) := bg01_39.1.1.1.1
theorem dX12_mostLike_1 : decode cX12_mostLike 1 = .ok (.istore_n 3, 1) := bg01_39.1.1.1.2
theorem dX12_mostLike_2 : decode cX12_mostLike 2 = .ok (.iconst 0, 1) := bg01_39.1.1.2.1
theorem dX12_mostLike_3 : decode cX12_mostLike 3 = .ok (.istore 4, 2) := bg01_39.1.1.2.2
theorem dX12_mostLike_5 : decode cX12_mostLike 5 = .ok (.iload 4, 2) := bg01_39.1.2.1.1
theorem dX12_mostLike_7 : decode cX12_mostLike 7 = .ok (.aload_n 0, 1) := bg01_39.1.2.1.2
theorem dX12_mostLike_8 : decode cX12_mostLike 8 = .ok (.getfield 42, 3) := bg01_39.1.2.2.1
theorem dX12_mostLike_11 : decode cX12_mostLike 11 = .ok (.iconst 0, 1) := bg01_39.1.2.2.2
theorem dX12_mostLike_12 : decode cX12_mostLike 12 = .ok (.iaload, 1) := bg01_39.2.1.1.1
theorem dX12_mostLike_13 : decode cX12_mostLike 13 = .ok (.if_icmp .ge 50, 3) := bg01_39.2.1.1.2
theorem dX12_mostLike_16 : decode cX12_mostLike 16 = .ok (.iload_n 2, 1) := bg01_39.2.1.2.1
theorem dX12_mostLike_17 : decode cX12_mostLike 17 = .ok (.ifCond .eq 16, 3) := bg01_39.2.1.2.2
theorem dX12_mostLike_20 : decode cX12_mostLike 20 = .ok (.aload_n 0, 1) := bg01_39.2.2.1.1
theorem dX12_mostLike_21 : decode cX12_mostLike 21 = .ok (.iload 4, 2) := bg01_39.2.2.1.2
theorem dX12_mostLike_23 : decode cX12_mostLike 23 = .ok (.invokevirtual 355, 3) := bg01_39.2.2.2.1
theorem dX12_mostLike_26 : decode cX12_mostLike 26 = .ok (.iconst (-1), 1) := bg01_39.2.2.2.2
theorem bg01_40 : (((decode cX12_mostLike 27 = .ok (.if_icmp .eq 6, 3) ∧ decode cX12_mostLike 30 = .ok (.goto 27, 3)) ∧ (decode cX12_mostLike 33 = .ok (.iload_n 3, 1) ∧ decode cX12_mostLike 34 = .ok (.iconst (-1), 1))) ∧ ((decode cX12_mostLike 35 = .ok (.if_icmp .eq 19, 3) ∧ decode cX12_mostLike 38 = .ok (.aload_n 0, 1)) ∧ (decode cX12_mostLike 39 = .ok (.iload_n 1, 1) ∧ decode cX12_mostLike 40 = .ok (.iload 4, 2)))) ∧ (((decode cX12_mostLike 42 = .ok (.invokevirtual 352, 3) ∧ decode cX12_mostLike 45 = .ok (.aload_n 0, 1)) ∧ (decode cX12_mostLike 46 = .ok (.iload_n 1, 1) ∧ decode cX12_mostLike 47 = .ok (.iload_n 3, 1))) ∧ ((decode cX12_mostLike 48 = .ok (.invokevirtual 352, 3) ∧ decode cX12_mostLike 51 = .ok (.if_icmp .ge 6, 3)) ∧ (decode cX12_mostLike 54 = .ok (.iload 4, 2) ∧ decode cX12_mostLike 56 = .ok (.istore_n 3, 1)))) := by decide +kernel
theorem dX12_mostLike_27 : decode cX12_mostLike 27 = .ok (.if_icmp .eq 6, 3) := bg01_40.1.1.1.1
theorem dX12_mostLike_30 : decode cX12_mostLike 30 = .ok (.goto 27, 3) := bg01_40.1.1.1.2
theorem dX12_mostLike_33 : decode cX12_mostLike 33 = .ok (.iload_n 3, 1) := bg01_40.1.1.2.1
theorem dX12_mostLike_34 : decode cX12_mostLike 34 = .ok (.iconst (-1), 1) := bg01_40.1.1.2.2
theorem dX12_mostLike_35 : decode cX12_mostLike 35 = .ok (.if_icmp .eq 19, 3) := bg01_40.1.2.1.1
theorem dX12_mostLike_38 : decode cX12_mostLike 38 = .ok (.aload_n 0, 1) := bg01_40.1.2.1.2
theorem dX12_mostLike_39 : decode cX12_mostLike 39 = .ok (.iload_n 1, 1) := bg01_40.1.2.2.1
theorem dX12_mostLike_40 : decode cX12_mostLike 40 = .ok (.iload 4, 2) := bg01_40.1.2.2.2
theorem dX12_mostLike_42 : decode cX12_mostLike 42 = .ok (.invokevirtual 352, 3) := bg01_40.2.1.1.1
theorem dX12_mostLike_45 : decode cX12_mostLike 45 = .ok (.aload_n 0, 1) := bg01_40.2.1.1.2
theorem dX12_mostLike_46 : decode cX12_mostLike 46 = .ok (.iload_n 1, 1) := bg01_40.2.1.2.1
theorem dX12_mostLike_47 : decode cX12_mostLike 47 = .ok (.iload_n 3, 1) := bg01_40.2.1.2.2
theorem dX12_mostLike_48 : decode cX12_mostLike 48 = .ok (.invokevirtual 352, 3) := bg01_40.2.2.1.1
theorem dX12_mostLike_51 : decode cX12_mostLike 51 = .ok (.if_icmp .ge 6, 3) := bg01_40.2.2.1.2
theorem dX12_mostLike_54 : decode cX12_mostLike 54 = .ok (.iload 4, 2) := bg01_40.2.2.2.1
theorem dX12_mostLike_56 : decode cX12_mostLike 56 = .ok (.istore_n 3, 1) := bg01_40.2.2.2.2
theorem bg01_41 : ((decode cX12_mostLike 57 = .ok (.iinc 4 1, 3) ∧ decode cX12_mostLike 60 = .ok (.goto (-55), 3)) ∧ (decode cX12_mostLike 63 = .ok (.iload_n 3, 1) ∧ decode cX12_mostLike 64 = .ok (.ireturn, 1))) ∧ ((decode cX12_seek 0 = .ok (.aload_n 0, 1) ∧ decode cX12_seek 1 = .ok (.getfield 106, 3)) ∧ (decode cX12_seek 4 = .ok (.iload_n 1, 1) ∧ decode cX12_seek 5 = .ok (.iaload, 1))) := by decide +kernel
theorem dX12_mostLike_57 : decode cX12_mostLike 57 = .ok (.iinc 4 1, 3) := bg01_41.1.1.1
theorem dX12_mostLike_60 : decode cX12_mostLike 60 = .ok (.goto (-55), 3) := bg01_41.1.1.2
theorem dX12_mostLike_63 : decode cX12_mostLike 63 = .ok (.iload_n 3, 1) := bg01_41.1.2.1
theorem dX12_mostLike_64 : decode cX12_mostLike 64 = .ok (.ireturn, 1) := bg01_41.1.2.2
theorem dX12_seek_0 : decode cX12_seek 0 = .ok (.aload_n 0, 1) := bg01_41.2.1.1
theorem dX12_seek_1 : decode cX12_seek 1 = .ok (.getfield 106, 3) := bg01_41.2.1.2
theorem dX12_seek_4 : decode cX12_seek 4 = .ok (.iload_n 1, 1) := bg01_41.2.2.1
theorem dX12_seek_5 : decode cX12_seek 5 = .ok (.iaload, 1) := bg01_41.2.2.2
theorem bg01_42 : (((decode cX12_seek 6 = .ok (.iconst (-1), 1) ∧ decode cX12_seek 7 = .ok (.if_icmp .eq 25, 3)) ∧ (decode cX12_seek 10 = .ok (.aload_n 0, 1) ∧ decode cX12_seek 11 = .ok (.iload_n 1, 1))) ∧ ((decode cX12_seek 12 = .ok (.aload_n 0, 1) ∧ decode cX12_seek 13 = .ok (.getfield 106, 3)) ∧ (decode cX12_seek 16 = .ok (.iload_n 1, 1) ∧ decode cX12_seek 17 = .ok (.iaload, 1)))) ∧ (((decode cX12_seek 18 = .ok (.invokevirtual 364, 3) ∧ decode cX12_seek 21 = .ok (.ifCond .ne 10, 3)) ∧ (decode cX12_seek 24 = .ok (.aload_n 0, 1) ∧ decode cX12_seek 25 = .ok (.getfield 106, 3))) ∧ ((decode cX12_seek 28 = .ok (.iload_n 1, 1) ∧ decode cX12_seek 29 = .ok (.iconst (-1), 1)) ∧ (decode cX12_seek 30 = .ok (.iastore, 1) ∧ decode cX12_seek 31 = .ok (.return_, 1)))) := by decide +kernel
theorem dX12_seek_6 : decode cX12_seek 6 = .ok (.iconst (-1), 1) := bg01_42.1.1.1.1
theorem dX12_seek_7 : decode cX12_seek 7 = .ok (.if_icmp .eq 25, 3) := bg01_42.1.1.1.2
theorem dX12_seek_10 : decode cX12_seek 10 = .ok (.aload_n 0, 1) := bg01_42.1.1.2.1
theorem dX12_seek_11 : decode cX12_seek 11 = .ok (.iload_n 1, 1) := bg01_42.1.1.2.2
theorem dX12_seek_12 : decode cX12_seek 12 = .ok (.aload_n 0, 1) := bg01_42.1.2.1.1
theorem dX12_seek_13 : decode cX12_seek 13 = .ok (.getfield 106, 3) := bg01_42.1.2.1.2
theorem dX12_seek_16 : decode cX12_seek 16 = .ok (.iload_n 1, 1) := bg01_42.1.2.2.1
theorem dX12_seek_17 : decode cX12_seek 17 = .ok (.iaload, 1) := bg01_42.1.2.2.2
theorem dX12_seek_18 : decode cX12_seek 18 = .ok (.invokevirtual 364, 3) := bg01_42.2.1.1.1
theorem dX12_seek_21 : decode cX12_seek 21 = .ok (.ifCond .ne 10, 3) := bg01_42.2.1.1.2
theorem dX12_seek_24 : decode cX12_seek 24 = .ok (.aload_n 0, 1) := bg01_42.2.1.2.1
theorem dX12_seek_25 : decode cX12_seek 25 = .ok (.getfield 106, 3) := bg01_42.2.1.2.2
theorem dX12_seek_28 : decode cX12_seek 28 = .ok (.iload_n 1, 1) := bg01_42.2.2.1.1
theorem dX12_seek_29 : decode cX12_seek 29 = .ok (.iconst (-1), 1) := bg01_42.2.2.1.2
theorem dX12_seek_30 : decode cX12_seek 30 = .ok (.iastore, 1) := bg01_42.2.2.2.1
theorem dX12_seek_31 : decode cX12_seek 31 = .ok (.return_, 1) := bg01_42.2.2.2.2
theorem bg01_43 : (((decode cX12_seek 32 = .ok (.aload_n 0, 1) ∧ decode cX12_seek 33 = .ok (.iload_n 1, 1)) ∧ (decode cX12_seek 34 = .ok (.iconst 1, 1) ∧ decode cX12_seek 35 = .ok (.invokevirtual 367, 3))) ∧ ((decode cX12_seek 38 = .ok (.istore_n 2, 1) ∧ decode cX12_seek 39 = .ok (.iload_n 2, 1)) ∧ (decode cX12_seek 40 = .ok (.iconst (-1), 1) ∧ decode cX12_seek 41 = .ok (.if_icmp .eq 12, 3)))) ∧ (((decode cX12_seek 44 = .ok (.aload_n 0, 1) ∧ decode cX12_seek 45 = .ok (.iload_n 1, 1)) ∧ (decode cX12_seek 46 = .ok (.iload_n 2, 1) ∧ decode cX12_seek 47 = .ok (.invokevirtual 364, 3))) ∧ ((decode cX12_seek 50 = .ok (.ifCond .ne 4, 3) ∧ decode cX12_seek 53 = .ok (.return_, 1)) ∧ (decode cX12_seek 54 = .ok (.aload_n 0, 1) ∧ decode cX12_seek 55 = .ok (.getfield 106, 3)))) := by decide +kernel
theorem dX12_seek_32 : decode cX12_seek 32 = .ok (.aload_n 0, 1) := bg01_43.1.1.1.1
theorem dX12_seek_33 : decode cX12_seek 33 = .ok (.iload_n 1, 1) := bg01_43.1.1.1.2
theorem dX12_seek_34 : decode cX12_seek 34 = .ok (.iconst 1, 1) := bg01_43.1.1.2.1
theorem dX12_seek_35 : decode cX12_seek 35 = .ok (.invokevirtual 367, 3) := bg01_43.1.1.2.2
theorem dX12_seek_38 : decode cX12_seek 38 = .ok (.istore_n 2, 1) := bg01_43.1.2.1.1
theorem dX12_seek_39 : decode cX12_seek 39 = .ok (.iload_n 2, 1) := bg01_43.1.2.1.2
theorem dX12_seek_40 : decode cX12_seek 40 = .ok (.iconst (-1), 1) := bg01_43.1.2.2.1
theorem dX12_seek_41 : decode cX12_seek 41 = .ok (.if_icmp .eq 12, 3) := bg01_43.1.2.2.2
theorem dX12_seek_44 : decode cX12_seek 44 = .ok (.aload_n 0, 1) := bg01_43.2.1.1.1
theorem dX12_seek_45 : decode cX12_seek 45 = .ok (.iload_n 1, 1) := bg01_43.2.1.1.2
theorem dX12_seek_46 : decode cX12_seek 46 = .ok (.iload_n 2, 1) := bg01_43.2.1.2.1
theorem dX12_seek_47 : decode cX12_seek 47 = .ok (.invokevirtual 364, 3) := bg01_43.2.1.2.2
theorem dX12_seek_50 : decode cX12_seek 50 = .ok (.ifCond .ne 4, 3) := bg01_43.2.2.1.1
theorem dX12_seek_53 : decode cX12_seek 53 = .ok (.return_, 1) := bg01_43.2.2.1.2
theorem dX12_seek_54 : decode cX12_seek 54 = .ok (.aload_n 0, 1) := bg01_43.2.2.2.1
theorem dX12_seek_55 : decode cX12_seek 55 = .ok (.getfield 106, 3) := bg01_43.2.2.2.2
theorem bg01_44 : (((decode cX12_seek 58 = .ok (.iload_n 1, 1) ∧ decode cX12_seek 59 = .ok (.iload_n 2, 1)) ∧ (decode cX12_seek 60 = .ok (.iastore, 1))) ∧ (decode cX12_seek 61 = .ok (.aload_n 0, 1) ∧ decode cX12_seek 62 = .ok (.dup, 1))) ∧ (((decode cX12_seek 63 = .ok (.getfield 371, 3) ∧ decode cX12_seek 66 = .ok (.iconst 1, 1)) ∧ (decode cX12_seek 67 = .ok (.iadd, 1))) ∧ (decode cX12_seek 68 = .ok (.putfield 371, 3) ∧ decode cX12_seek 71 = .ok (.return_, 1))) := by decide +kernel
theorem dX12_seek_58 : decode cX12_seek 58 = .ok (.iload_n 1, 1) := bg01_44.1.1.1.1
theorem dX12_seek_59 : decode cX12_seek 59 = .ok (.iload_n 2, 1) := bg01_44.1.1.1.2
theorem dX12_seek_60 : decode cX12_seek 60 = .ok (.iastore, 1) := bg01_44.1.1.2
theorem dX12_seek_61 : decode cX12_seek 61 = .ok (.aload_n 0, 1) := bg01_44.1.2.1
theorem dX12_seek_62 : decode cX12_seek 62 = .ok (.dup, 1) := bg01_44.1.2.2
theorem dX12_seek_63 : decode cX12_seek 63 = .ok (.getfield 371, 3) := bg01_44.2.1.1.1
theorem dX12_seek_66 : decode cX12_seek 66 = .ok (.iconst 1, 1) := bg01_44.2.1.1.2
theorem dX12_seek_67 : decode cX12_seek 67 = .ok (.iadd, 1) := bg01_44.2.1.2
theorem dX12_seek_68 : decode cX12_seek 68 = .ok (.putfield 371, 3) := bg01_44.2.2.1
theorem dX12_seek_71 : decode cX12_seek 71 = .ok (.return_, 1) := bg01_44.2.2.2
theorem bg01_45 : (((decode cX12_aYearOf 0 = .ok (.iconst 0, 1) ∧ decode cX12_aYearOf 1 = .ok (.istore_n 2, 1)) ∧ (decode cX12_aYearOf 2 = .ok (.iload_n 2, 1) ∧ decode cX12_aYearOf 3 = .ok (.aload_n 0, 1))) ∧ ((decode cX12_aYearOf 4 = .ok (.getfield 42, 3) ∧ decode cX12_aYearOf 7 = .ok (.iconst 0, 1)) ∧ (decode cX12_aYearOf 8 = .ok (.iaload, 1) ∧ decode cX12_aYearOf 9 = .ok (.if_icmp .ge 15, 3)))) ∧ (((decode cX12_aYearOf 12 = .ok (.aload_n 0, 1) ∧ decode cX12_aYearOf 13 = .ok (.iload_n 2, 1)) ∧ (decode cX12_aYearOf 14 = .ok (.iload_n 1, 1) ∧ decode cX12_aYearOf 15 = .ok (.invokevirtual 374, 3))) ∧ ((decode cX12_aYearOf 18 = .ok (.iinc 2 1, 3) ∧ decode cX12_aYearOf 21 = .ok (.goto (-19), 3)) ∧ (decode cX12_aYearOf 24 = .ok (.iconst 0, 1) ∧ decode cX12_aYearOf 25 = .ok (.istore_n 2, 1)))) := by decide +kernel
theorem dX12_aYearOf_0 : decode cX12_aYearOf 0 = .ok (.iconst 0, 1) := bg01_45.1.1.1.1
theorem dX12_aYearOf_1 : decode cX12_aYearOf 1 = .ok (.istore_n 2, 1) := bg01_45.1.1.1.2
theorem dX12_aYearOf_2 : decode cX12_aYearOf 2 = .ok (.iload_n 2, 1) := bg01_45.1.1.2.1
theorem dX12_aYearOf_3 : decode cX12_aYearOf 3 = .ok (.aload_n 0, 1) := bg01_45.1.1.2.2
theorem dX12_aYearOf_4 : decode cX12_aYearOf 4 = .ok (.getfield 42, 3) := bg01_45.1.2.1.1
theorem dX12_aYearOf_7 : decode cX12_aYearOf 7 = .ok (.iconst 0, 1) := bg01_45.1.2.1.2
theorem dX12_aYearOf_8 : decode cX12_aYearOf 8 = .ok (.iaload, 1) := bg01_45.1.2.2.1
theorem dX12_aYearOf_9 : decode cX12_aYearOf 9 = .ok (.if_icmp .ge 15, 3) := bg01_45.1.2.2.2
theorem dX12_aYearOf_12 : decode cX12_aYearOf 12 = .ok (.aload_n 0, 1) := bg01_45.2.1.1.1
theorem dX12_aYearOf_13 : decode cX12_aYearOf 13 = .ok (.iload_n 2, 1) := bg01_45.2.1.1.2
theorem dX12_aYearOf_14 : decode cX12_aYearOf 14 = .ok (.iload_n 1, 1) := bg01_45.2.1.2.1
theorem dX12_aYearOf_15 : decode cX12_aYearOf 15 = .ok (.invokevirtual 374, 3) := bg01_45.2.1.2.2
theorem dX12_aYearOf_18 : decode cX12_aYearOf 18 = .ok (.iinc 2 1, 3) := bg01_45.2.2.1.1
theorem dX12_aYearOf_21 : decode cX12_aYearOf 21 = .ok (.goto (-19), 3) := bg01_45.2.2.1.2
theorem dX12_aYearOf_24 : decode cX12_aYearOf 24 = .ok (.iconst 0, 1) := bg01_45.2.2.2.1
theorem dX12_aYearOf_25 : decode cX12_aYearOf 25 = .ok (.istore_n 2, 1) := bg01_45.2.2.2.2
theorem bg01_46 : (((decode cX12_aYearOf 26 = .ok (.iload_n 2, 1) ∧ decode cX12_aYearOf 27 = .ok (.aload_n 0, 1)) ∧ (decode cX12_aYearOf 28 = .ok (.getfield 42, 3) ∧ decode cX12_aYearOf 31 = .ok (.iconst 1, 1))) ∧ ((decode cX12_aYearOf 32 = .ok (.iaload, 1) ∧ decode cX12_aYearOf 33 = .ok (.if_icmp .ge 14, 3)) ∧ (decode cX12_aYearOf 36 = .ok (.aload_n 0, 1) ∧ decode cX12_aYearOf 37 = .ok (.iload_n 2, 1)))) ∧ (((decode cX12_aYearOf 38 = .ok (.invokevirtual 378, 3) ∧ decode cX12_aYearOf 41 = .ok (.iinc 2 1, 3)) ∧ (decode cX12_aYearOf 44 = .ok (.goto (-18), 3) ∧ decode cX12_aYearOf 47 = .ok (.iconst 0, 1))) ∧ ((decode cX12_aYearOf 48 = .ok (.istore_n 2, 1) ∧ decode cX12_aYearOf 49 = .ok (.iload_n 2, 1)) ∧ (decode cX12_aYearOf 50 = .ok (.aload_n 0, 1) ∧ decode cX12_aYearOf 51 = .ok (.getfield 42, 3)))) := by decide +kernel
theorem dX12_aYearOf_26 : decode cX12_aYearOf 26 = .ok (.iload_n 2, 1) := bg01_46.1.1.1.1
theorem dX12_aYearOf_27 : decode cX12_aYearOf 27 = .ok (.aload_n 0, 1) := bg01_46.1.1.1.2
theorem dX12_aYearOf_28 : decode cX12_aYearOf 28 = .ok (.getfield 42, 3) := bg01_46.1.1.2.1
theorem dX12_aYearOf_31 : decode cX12_aYearOf 31 = .ok (.iconst 1, 1) := bg01_46.1.1.2.2
theorem dX12_aYearOf_32 : decode cX12_aYearOf 32 = .ok (.iaload, 1) := bg01_46.1.2.1.1
theorem dX12_aYearOf_33 : decode cX12_aYearOf 33 = .ok (.if_icmp .ge 14, 3) := bg01_46.1.2.1.2
theorem dX12_aYearOf_36 : decode cX12_aYearOf 36 = .ok (.aload_n 0, 1) := bg01_46.1.2.2.1
theorem dX12_aYearOf_37 : decode cX12_aYearOf 37 = .ok (.iload_n 2, 1) := bg01_46.1.2.2.2
theorem dX12_aYearOf_38 : decode cX12_aYearOf 38 = .ok (.invokevirtual 378, 3) := bg01_46.2.1.1.1
theorem dX12_aYearOf_41 : decode cX12_aYearOf 41 = .ok (.iinc 2 1, 3) := bg01_46.2.1.1.2
theorem dX12_aYearOf_44 : decode cX12_aYearOf 44 = .ok (.goto (-18), 3) := bg01_46.2.1.2.1
theorem dX12_aYearOf_47 : decode cX12_aYearOf 47 = .ok (.iconst 0, 1) := bg01_46.2.1.2.2
theorem dX12_aYearOf_48 : decode cX12_aYearOf 48 = .ok (.istore_n 2, 1) := bg01_46.2.2.1.1
theorem dX12_aYearOf_49 : decode cX12_aYearOf 49 = .ok (.iload_n 2, 1) := bg01_46.2.2.1.2
theorem dX12_aYearOf_50 : decode cX12_aYearOf 50 = .ok (.aload_n 0, 1) := bg01_46.2.2.2.1
theorem dX12_aYearOf_51 : decode cX12_aYearOf 51 = .ok (.getfield 42, 3) := bg01_46.2.2.2.2
theorem bg01_47 : (((decode cX12_aYearOf 54 = .ok (.iconst 1, 1) ∧ decode cX12_aYearOf 55 = .ok (.iaload, 1)) ∧ (decode cX12_aYearOf 56 = .ok (.if_icmp .ge 14, 3) ∧ decode cX12_aYearOf 59 = .ok (.aload_n 0, 1))) ∧ ((decode cX12_aYearOf 60 = .ok (.iload_n 2, 1) ∧ decode cX12_aYearOf 61 = .ok (.invokevirtual 381, 3)) ∧ (decode cX12_aYearOf 64 = .ok (.iinc 2 1, 3) ∧ decode cX12_aYearOf 67 = .ok (.goto (-18), 3)))) ∧ (((decode cX12_aYearOf 70 = .ok (.aload_n 0, 1) ∧ decode cX12_aYearOf 71 = .ok (.dup, 1)) ∧ (decode cX12_aYearOf 72 = .ok (.getfield 323, 3) ∧ decode cX12_aYearOf 75 = .ok (.iconst 1, 1))) ∧ ((decode cX12_aYearOf 76 = .ok (.iadd, 1) ∧ decode cX12_aYearOf 77 = .ok (.putfield 323, 3)) ∧ (decode cX12_aYearOf 80 = .ok (.return_, 1)))) := by decide +kernel
theorem dX12_aYearOf_54 : decode cX12_aYearOf 54 = .ok (.iconst 1, 1) := bg01_47.1.1.1.1
theorem dX12_aYearOf_55 : decode cX12_aYearOf 55 = .ok (.iaload, 1) := bg01_47.1.1.1.2
theorem dX12_aYearOf_56 : decode cX12_aYearOf 56 = .ok (.if_icmp .ge 14, 3) := bg01_47.1.1.2.1
theorem dX12_aYearOf_59 : decode cX12_aYearOf 59 = .ok (.aload_n 0, 1) := bg01_47.1.1.2.2
theorem dX12_aYearOf_60 : decode cX12_aYearOf 60 = .ok (.iload_n 2, 1) := bg01_47.1.2.1.1
theorem dX12_aYearOf_61 : decode cX12_aYearOf 61 = .ok (.invokevirtual 381, 3) := bg01_47.1.2.1.2
theorem dX12_aYearOf_64 : decode cX12_aYearOf 64 = .ok (.iinc 2 1, 3) := bg01_47.1.2.2.1
theorem dX12_aYearOf_67 : decode cX12_aYearOf 67 = .ok (.goto (-18), 3) := bg01_47.1.2.2.2
theorem dX12_aYearOf_70 : decode cX12_aYearOf 70 = .ok (.aload_n 0, 1) := bg01_47.2.1.1.1
theorem dX12_aYearOf_71 : decode cX12_aYearOf 71 = .ok (.dup, 1) := bg01_47.2.1.1.2
theorem dX12_aYearOf_72 : decode cX12_aYearOf 72 = .ok (.getfield 323, 3) := bg01_47.2.1.2.1
theorem dX12_aYearOf_75 : decode cX12_aYearOf 75 = .ok (.iconst 1, 1) := bg01_47.2.1.2.2
theorem dX12_aYearOf_76 : decode cX12_aYearOf 76 = .ok (.iadd, 1) := bg01_47.2.2.1.1
theorem dX12_aYearOf_77 : decode cX12_aYearOf 77 = .ok (.putfield 323, 3) := bg01_47.2.2.1.2
theorem dX12_aYearOf_80 : decode cX12_aYearOf 80 = .ok (.return_, 1) := bg01_47.2.2.2
theorem bg01_48 : (((decode cX12_goOn 0 = .ok (.iconst 0, 1) ∧ decode cX12_goOn 1 = .ok (.istore_n 2, 1)) ∧ (decode cX12_goOn 2 = .ok (.iload_n 2, 1) ∧ decode cX12_goOn 3 = .ok (.iload_n 1, 1))) ∧ ((decode cX12_goOn 4 = .ok (.if_icmp .ge 21, 3) ∧ decode cX12_goOn 7 = .ok (.aload_n 0, 1)) ∧ (decode cX12_goOn 8 = .ok (.aload_n 0, 1)))) ∧ (((decode cX12_goOn 9 = .ok (.aload_n 0, 1) ∧ decode cX12_goOn 10 = .ok (.getfield 323, 3)) ∧ (decode cX12_goOn 13 = .ok (.invokevirtual 384, 3) ∧ decode cX12_goOn 16 = .ok (.invokevirtual 387, 3))) ∧ ((decode cX12_goOn 19 = .ok (.iinc 2 1, 3) ∧ decode cX12_goOn 22 = .ok (.goto (-20), 3)) ∧ (decode cX12_goOn 25 = .ok (.return_, 1)))) := by decide +kernel
theorem dX12_goOn_0 : decode cX12_goOn 0 = .ok (.iconst 0, 1) := bg01_48.1.1.1.1
theorem dX12_goOn_1 : decode cX12_goOn 1 = .ok (.istore_n 2, 1) := bg01_48.1.1.1.2
theorem dX12_goOn_2 : decode cX12_goOn 2 = .ok (.iload_n 2, 1) := bg01_48.1.1.2.1
theorem dX12_goOn_3 : decode cX12_goOn 3 = .ok (.iload_n 1, 1) := bg01_48.1.1.2.2
theorem dX12_goOn_4 : decode cX12_goOn 4 = .ok (.if_icmp .ge 21, 3) := bg01_48.1.2.1.1
theorem dX12_goOn_7 : decode cX12_goOn 7 = .ok (.aload_n 0, 1) := bg01_48.1.2.1.2
theorem dX12_goOn_8 : decode cX12_goOn 8 = .ok (.aload_n 0, 1) := bg01_48.1.2.2
theorem dX12_goOn_9 : decode cX12_goOn 9 = .ok (.aload_n 0, 1) := bg01_48.2.1.1.1
theorem dX12_goOn_10 : decode cX12_goOn 10 = .ok (.getfield 323, 3) := bg01_48.2.1.1.2
theorem dX12_goOn_13 : decode cX12_goOn 13 = .ok (.invokevirtual 384, 3) := bg01_48.2.1.2.1
theorem dX12_goOn_16 : decode cX12_goOn 16 = .ok (.invokevirtual 387, 3) := bg01_48.2.1.2.2
theorem dX12_goOn_19 : decode cX12_goOn 19 = .ok (.iinc 2 1, 3) := bg01_48.2.2.1.1
theorem dX12_goOn_22 : decode cX12_goOn 22 = .ok (.goto (-20), 3) := bg01_48.2.2.1.2
theorem dX12_goOn_25 : decode cX12_goOn 25 = .ok (.return_, 1) := bg01_48.2.2.2
theorem bg01_49 : (((decode cX12_loaves 0 = .ok (.iconst 0, 1) ∧ decode cX12_loaves 1 = .ok (.istore_n 1, 1)) ∧ (decode cX12_loaves 2 = .ok (.iconst 0, 1) ∧ decode cX12_loaves 3 = .ok (.istore_n 2, 1))) ∧ ((decode cX12_loaves 4 = .ok (.iload_n 2, 1) ∧ decode cX12_loaves 5 = .ok (.aload_n 0, 1)) ∧ (decode cX12_loaves 6 = .ok (.getfield 42, 3) ∧ decode cX12_loaves 9 = .ok (.iconst 0, 1)))) ∧ (((decode cX12_loaves 10 = .ok (.iaload, 1) ∧ decode cX12_loaves 11 = .ok (.if_icmp .ge 28, 3)) ∧ (decode cX12_loaves 14 = .ok (.iload_n 1, 1) ∧ decode cX12_loaves 15 = .ok (.aload_n 0, 1))) ∧ ((decode cX12_loaves 16 = .ok (.getfield 94, 3) ∧ decode cX12_loaves 19 = .ok (.iload_n 2, 1)) ∧ (decode cX12_loaves 20 = .ok (.iaload, 1) ∧ decode cX12_loaves 21 = .ok (.ifCond .ne 9, 3)))) := by decide +kernel
theorem dX12_loaves_0 : decode cX12_loaves 0 = .ok (.iconst 0, 1) := bg01_49.1.1.1.1
theorem dX12_loaves_1 : decode cX12_loaves 1 = .ok (.istore_n 1, 1) := bg01_49.1.1.1.2
theorem dX12_loaves_2 : decode cX12_loaves 2 = .ok (.iconst 0, 1) := bg01_49.1.1.2.1
theorem dX12_loaves_3 : decode cX12_loaves 3 = .ok (.istore_n 2, 1) := bg01_49.1.1.2.2
theorem dX12_loaves_4 : decode cX12_loaves 4 = .ok (.iload_n 2, 1) := bg01_49.1.2.1.1
theorem dX12_loaves_5 : decode cX12_loaves 5 = .ok (.aload_n 0, 1) := bg01_49.1.2.1.2
theorem dX12_loaves_6 : decode cX12_loaves 6 = .ok (.getfield 42, 3) := bg01_49.1.2.2.1
theorem dX12_loaves_9 : decode cX12_loaves 9 = .ok (.iconst 0, 1) := bg01_49.1.2.2.2
theorem dX12_loaves_10 : decode cX12_loaves 10 = .ok (.iaload, 1) := bg01_49.2.1.1.1
theorem dX12_loaves_11 : decode cX12_loaves 11 = .ok (.if_icmp .ge 28, 3) := bg01_49.2.1.1.2
theorem dX12_loaves_14 : decode cX12_loaves 14 = .ok (.iload_n 1, 1) := bg01_49.2.1.2.1
theorem dX12_loaves_15 : decode cX12_loaves 15 = .ok (.aload_n 0, 1) := bg01_49.2.1.2.2
theorem dX12_loaves_16 : decode cX12_loaves 16 = .ok (.getfield 94, 3) := bg01_49.2.2.1.1
theorem dX12_loaves_19 : decode cX12_loaves 19 = .ok (.iload_n 2, 1) := bg01_49.2.2.1.2
theorem dX12_loaves_20 : decode cX12_loaves 20 = .ok (.iaload, 1) := bg01_49.2.2.2.1
theorem dX12_loaves_21 : decode cX12_loaves 21 = .ok (.ifCond .ne 9, 3) := bg01_49.2.2.2.2
theorem bg01_50 : (((decode cX12_loaves 24 = .ok (.iconst 1, 1) ∧ decode cX12_loaves 25 = .ok (.iload_n 2, 1)) ∧ (decode cX12_loaves 26 = .ok (.ishl, 1))) ∧ ((decode cX12_loaves 27 = .ok (.goto 4, 3) ∧ decode cX12_loaves 30 = .ok (.iconst 0, 1)) ∧ (decode cX12_loaves 31 = .ok (.ior, 1)))) ∧ (((decode cX12_loaves 32 = .ok (.istore_n 1, 1) ∧ decode cX12_loaves 33 = .ok (.iinc 2 1, 3)) ∧ (decode cX12_loaves 36 = .ok (.goto (-32), 3))) ∧ (decode cX12_loaves 39 = .ok (.iload_n 1, 1) ∧ decode cX12_loaves 40 = .ok (.ireturn, 1))) := by decide +kernel
theorem dX12_loaves_24 : decode cX12_loaves 24 = .ok (.iconst 1, 1) := bg01_50.1.1.1.1
theorem dX12_loaves_25 : decode cX12_loaves 25 = .ok (.iload_n 2, 1) := bg01_50.1.1.1.2
theorem dX12_loaves_26 : decode cX12_loaves 26 = .ok (.ishl, 1) := bg01_50.1.1.2
theorem dX12_loaves_27 : decode cX12_loaves 27 = .ok (.goto 4, 3) := bg01_50.1.2.1.1
theorem dX12_loaves_30 : decode cX12_loaves 30 = .ok (.iconst 0, 1) := bg01_50.1.2.1.2
theorem dX12_loaves_31 : decode cX12_loaves 31 = .ok (.ior, 1) := bg01_50.1.2.2
theorem dX12_loaves_32 : decode cX12_loaves 32 = .ok (.istore_n 1, 1) := bg01_50.2.1.1.1
theorem dX12_loaves_33 : decode cX12_loaves 33 = .ok (.iinc 2 1, 3) := bg01_50.2.1.1.2
theorem dX12_loaves_36 : decode cX12_loaves 36 = .ok (.goto (-32), 3) := bg01_50.2.1.2
theorem dX12_loaves_39 : decode cX12_loaves 39 = .ok (.iload_n 1, 1) := bg01_50.2.2.1
theorem dX12_loaves_40 : decode cX12_loaves 40 = .ok (.ireturn, 1) := bg01_50.2.2.2
theorem bg01_51 : (((decode cX12_sitting 0 = .ok (.iconst 0, 1) ∧ decode cX12_sitting 1 = .ok (.istore_n 1, 1)) ∧ (decode cX12_sitting 2 = .ok (.iconst 0, 1) ∧ decode cX12_sitting 3 = .ok (.istore_n 2, 1))) ∧ ((decode cX12_sitting 4 = .ok (.iload_n 2, 1) ∧ decode cX12_sitting 5 = .ok (.aload_n 0, 1)) ∧ (decode cX12_sitting 6 = .ok (.getfield 42, 3) ∧ decode cX12_sitting 9 = .ok (.iconst 1, 1)))) ∧ (((decode cX12_sitting 10 = .ok (.iaload, 1) ∧ decode cX12_sitting 11 = .ok (.if_icmp .ge 29, 3)) ∧ (decode cX12_sitting 14 = .ok (.iload_n 1, 1) ∧ decode cX12_sitting 15 = .ok (.aload_n 0, 1))) ∧ ((decode cX12_sitting 16 = .ok (.getfield 106, 3) ∧ decode cX12_sitting 19 = .ok (.iload_n 2, 1)) ∧ (decode cX12_sitting 20 = .ok (.iaload, 1) ∧ decode cX12_sitting 21 = .ok (.iconst (-1), 1)))) := by decide +kernel
theorem dX12_sitting_0 : decode cX12_sitting 0 = .ok (.iconst 0, 1) := bg01_51.1.1.1.1
theorem dX12_sitting_1 : decode cX12_sitting 1 = .ok (.istore_n 1, 1) := bg01_51.1.1.1.2
theorem dX12_sitting_2 : decode cX12_sitting 2 = .ok (.iconst 0, 1) := bg01_51.1.1.2.1
theorem dX12_sitting_3 : decode cX12_sitting 3 = .ok (.istore_n 2, 1) := bg01_51.1.1.2.2
theorem dX12_sitting_4 : decode cX12_sitting 4 = .ok (.iload_n 2, 1) := bg01_51.1.2.1.1
theorem dX12_sitting_5 : decode cX12_sitting 5 = .ok (.aload_n 0, 1) := bg01_51.1.2.1.2
theorem dX12_sitting_6 : decode cX12_sitting 6 = .ok (.getfield 42, 3) := bg01_51.1.2.2.1
theorem dX12_sitting_9 : decode cX12_sitting 9 = .ok (.iconst 1, 1) := bg01_51.1.2.2.2
theorem dX12_sitting_10 : decode cX12_sitting 10 = .ok (.iaload, 1) := bg01_51.2.1.1.1
theorem dX12_sitting_11 : decode cX12_sitting 11 = .ok (.if_icmp .ge 29, 3) := bg01_51.2.1.1.2
theorem dX12_sitting_14 : decode cX12_sitting 14 = .ok (.iload_n 1, 1) := bg01_51.2.1.2.1
theorem dX12_sitting_15 : decode cX12_sitting 15 = .ok (.aload_n 0, 1) := bg01_51.2.1.2.2
theorem dX12_sitting_16 : decode cX12_sitting 16 = .ok (.getfield 106, 3) := bg01_51.2.2.1.1
theorem dX12_sitting_19 : decode cX12_sitting 19 = .ok (.iload_n 2, 1) := bg01_51.2.2.1.2
theorem dX12_sitting_20 : decode cX12_sitting 20 = .ok (.iaload, 1) := bg01_51.2.2.2.1
theorem dX12_sitting_21 : decode cX12_sitting 21 = .ok (.iconst (-1), 1) := bg01_51.2.2.2.2
theorem bg01_52 : (((decode cX12_sitting 22 = .ok (.if_icmp .eq 9, 3) ∧ decode cX12_sitting 25 = .ok (.iconst 1, 1)) ∧ (decode cX12_sitting 26 = .ok (.iload_n 2, 1))) ∧ ((decode cX12_sitting 27 = .ok (.ishl, 1) ∧ decode cX12_sitting 28 = .ok (.goto 4, 3)) ∧ (decode cX12_sitting 31 = .ok (.iconst 0, 1)))) ∧ (((decode cX12_sitting 32 = .ok (.ior, 1) ∧ decode cX12_sitting 33 = .ok (.istore_n 1, 1)) ∧ (decode cX12_sitting 34 = .ok (.iinc 2 1, 3))) ∧ ((decode cX12_sitting 37 = .ok (.goto (-33), 3) ∧ decode cX12_sitting 40 = .ok (.iload_n 1, 1)) ∧ (decode cX12_sitting 41 = .ok (.ireturn, 1)))) := by decide +kernel
theorem dX12_sitting_22 : decode cX12_sitting 22 = .ok (.if_icmp .eq 9, 3) := bg01_52.1.1.1.1
theorem dX12_sitting_25 : decode cX12_sitting 25 = .ok (.iconst 1, 1) := bg01_52.1.1.1.2
theorem dX12_sitting_26 : decode cX12_sitting 26 = .ok (.iload_n 2, 1) := bg01_52.1.1.2
theorem dX12_sitting_27 : decode cX12_sitting 27 = .ok (.ishl, 1) := bg01_52.1.2.1.1
theorem dX12_sitting_28 : decode cX12_sitting 28 = .ok (.goto 4, 3) := bg01_52.1.2.1.2
theorem dX12_sitting_31 : decode cX12_sitting 31 = .ok (.iconst 0, 1) := bg01_52.1.2.2
theorem dX12_sitting_32 : decode cX12_sitting 32 = .ok (.ior, 1) := bg01_52.2.1.1.1
theorem dX12_sitting_33 : decode cX12_sitting 33 = .ok (.istore_n 1, 1) := bg01_52.2.1.1.2
theorem dX12_sitting_34 : decode cX12_sitting 34 = .ok (.iinc 2 1, 3) := bg01_52.2.1.2
theorem dX12_sitting_37 : decode cX12_sitting 37 = .ok (.goto (-33), 3) := bg01_52.2.2.1.1
theorem dX12_sitting_40 : decode cX12_sitting 40 = .ok (.iload_n 1, 1) := bg01_52.2.2.1.2
theorem dX12_sitting_41 : decode cX12_sitting 41 = .ok (.ireturn, 1) := bg01_52.2.2.2
theorem bg01_53 : (((decode cX12_allStone 0 = .ok (.iconst 0, 1) ∧ decode cX12_allStone 1 = .ok (.istore_n 1, 1)) ∧ (decode cX12_allStone 2 = .ok (.iconst 0, 1) ∧ decode cX12_allStone 3 = .ok (.istore_n 2, 1))) ∧ ((decode cX12_allStone 4 = .ok (.iload_n 2, 1) ∧ decode cX12_allStone 5 = .ok (.aload_n 0, 1)) ∧ (decode cX12_allStone 6 = .ok (.getfield 42, 3) ∧ decode cX12_allStone 9 = .ok (.iconst 0, 1)))) ∧ (((decode cX12_allStone 10 = .ok (.iaload, 1) ∧ decode cX12_allStone 11 = .ok (.if_icmp .ge 18, 3)) ∧ (decode cX12_allStone 14 = .ok (.iload_n 1, 1) ∧ decode cX12_allStone 15 = .ok (.aload_n 0, 1))) ∧ ((decode cX12_allStone 16 = .ok (.getfield 94, 3) ∧ decode cX12_allStone 19 = .ok (.iload_n 2, 1)) ∧ (decode cX12_allStone 20 = .ok (.iaload, 1) ∧ decode cX12_allStone 21 = .ok (.iadd, 1)))) := by decide +kernel
theorem dX12_allStone_0 : decode cX12_allStone 0 = .ok (.iconst 0, 1) := bg01_53.1.1.1.1
theorem dX12_allStone_1 : decode cX12_allStone 1 = .ok (.istore_n 1, 1) := bg01_53.1.1.1.2
theorem dX12_allStone_2 : decode cX12_allStone 2 = .ok (.iconst 0, 1) := bg01_53.1.1.2.1
theorem dX12_allStone_3 : decode cX12_allStone 3 = .ok (.istore_n 2, 1) := bg01_53.1.1.2.2
theorem dX12_allStone_4 : decode cX12_allStone 4 = .ok (.iload_n 2, 1) := bg01_53.1.2.1.1
theorem dX12_allStone_5 : decode cX12_allStone 5 = .ok (.aload_n 0, 1) := bg01_53.1.2.1.2
theorem dX12_allStone_6 : decode cX12_allStone 6 = .ok (.getfield 42, 3) := bg01_53.1.2.2.1
theorem dX12_allStone_9 : decode cX12_allStone 9 = .ok (.iconst 0, 1) := bg01_53.1.2.2.2
theorem dX12_allStone_10 : decode cX12_allStone 10 = .ok (.iaload, 1) := bg01_53.2.1.1.1
theorem dX12_allStone_11 : decode cX12_allStone 11 = .ok (.if_icmp .ge 18, 3) := bg01_53.2.1.1.2
theorem dX12_allStone_14 : decode cX12_allStone 14 = .ok (.iload_n 1, 1) := bg01_53.2.1.2.1
theorem dX12_allStone_15 : decode cX12_allStone 15 = .ok (.aload_n 0, 1) := bg01_53.2.1.2.2
theorem dX12_allStone_16 : decode cX12_allStone 16 = .ok (.getfield 94, 3) := bg01_53.2.2.1.1
theorem dX12_allStone_19 : decode cX12_allStone 19 = .ok (.iload_n 2, 1) := bg01_53.2.2.1.2
theorem dX12_allStone_20 : decode cX12_allStone 20 = .ok (.iaload, 1) := bg01_53.2.2.2.1
theorem dX12_allStone_21 : decode cX12_allStone 21 = .ok (.iadd, 1) := bg01_53.2.2.2.2
theorem bg01_54 : ((decode cX12_allStone 22 = .ok (.istore_n 1, 1) ∧ decode cX12_allStone 23 = .ok (.iinc 2 1, 3)) ∧ (decode cX12_allStone 26 = .ok (.goto (-22), 3) ∧ decode cX12_allStone 29 = .ok (.iload_n 1, 1))) ∧ ((decode cX12_allStone 30 = .ok (.ireturn, 1) ∧ decode cX12_familyOf 0 = .ok (.iconst 0, 1)) ∧ (decode cX12_familyOf 1 = .ok (.istore_n 2, 1) ∧ decode cX12_familyOf 2 = .ok (.iconst 0, 1))) := by decide +kernel
theorem dX12_allStone_22 : decode cX12_allStone 22 = .ok (.istore_n 1, 1) := bg01_54.1.1.1
theorem dX12_allStone_23 : decode cX12_allStone 23 = .ok (.iinc 2 1, 3) := bg01_54.1.1.2
theorem dX12_allStone_26 : decode cX12_allStone 26 = .ok (.goto (-22), 3) := bg01_54.1.2.1
theorem dX12_allStone_29 : decode cX12_allStone 29 = .ok (.iload_n 1, 1) := bg01_54.1.2.2
theorem dX12_allStone_30 : decode cX12_allStone 30 = .ok (.ireturn, 1) := bg01_54.2.1.1
theorem dX12_familyOf_0 : decode cX12_familyOf 0 = .ok (.iconst 0, 1) := bg01_54.2.1.2
theorem dX12_familyOf_1 : decode cX12_familyOf 1 = .ok (.istore_n 2, 1) := bg01_54.2.2.1
theorem dX12_familyOf_2 : decode cX12_familyOf 2 = .ok (.iconst 0, 1) := bg01_54.2.2.2
theorem bg01_55 : (((decode cX12_familyOf 3 = .ok (.istore_n 3, 1) ∧ decode cX12_familyOf 4 = .ok (.iload_n 3, 1)) ∧ (decode cX12_familyOf 5 = .ok (.aload_n 0, 1) ∧ decode cX12_familyOf 6 = .ok (.getfield 42, 3))) ∧ ((decode cX12_familyOf 9 = .ok (.iconst 1, 1) ∧ decode cX12_familyOf 10 = .ok (.iaload, 1)) ∧ (decode cX12_familyOf 11 = .ok (.if_icmp .ge 29, 3) ∧ decode cX12_familyOf 14 = .ok (.iload_n 2, 1)))) ∧ (((decode cX12_familyOf 15 = .ok (.aload_n 0, 1) ∧ decode cX12_familyOf 16 = .ok (.getfield 104, 3)) ∧ (decode cX12_familyOf 19 = .ok (.iload_n 3, 1) ∧ decode cX12_familyOf 20 = .ok (.iaload, 1))) ∧ ((decode cX12_familyOf 21 = .ok (.iload_n 1, 1) ∧ decode cX12_familyOf 22 = .ok (.if_icmp .ne 9, 3)) ∧ (decode cX12_familyOf 25 = .ok (.iconst 1, 1) ∧ decode cX12_familyOf 26 = .ok (.iload_n 3, 1)))) := by decide +kernel
theorem dX12_familyOf_3 : decode cX12_familyOf 3 = .ok (.istore_n 3, 1) := bg01_55.1.1.1.1
theorem dX12_familyOf_4 : decode cX12_familyOf 4 = .ok (.iload_n 3, 1) := bg01_55.1.1.1.2
theorem dX12_familyOf_5 : decode cX12_familyOf 5 = .ok (.aload_n 0, 1) := bg01_55.1.1.2.1
theorem dX12_familyOf_6 : decode cX12_familyOf 6 = .ok (.getfield 42, 3) := bg01_55.1.1.2.2
theorem dX12_familyOf_9 : decode cX12_familyOf 9 = .ok (.iconst 1, 1) := bg01_55.1.2.1.1
theorem dX12_familyOf_10 : decode cX12_familyOf 10 = .ok (.iaload, 1) := bg01_55.1.2.1.2
theorem dX12_familyOf_11 : decode cX12_familyOf 11 = .ok (.if_icmp .ge 29, 3) := bg01_55.1.2.2.1
theorem dX12_familyOf_14 : decode cX12_familyOf 14 = .ok (.iload_n 2, 1) := bg01_55.1.2.2.2
theorem dX12_familyOf_15 : decode cX12_familyOf 15 = .ok (.aload_n 0, 1) := bg01_55.2.1.1.1
theorem dX12_familyOf_16 : decode cX12_familyOf 16 = .ok (.getfield 104, 3) := bg01_55.2.1.1.2
theorem dX12_familyOf_19 : decode cX12_familyOf 19 = .ok (.iload_n 3, 1) := bg01_55.2.1.2.1
theorem dX12_familyOf_20 : decode cX12_familyOf 20 = .ok (.iaload, 1) := bg01_55.2.1.2.2
theorem dX12_familyOf_21 : decode cX12_familyOf 21 = .ok (.iload_n 1, 1) := bg01_55.2.2.1.1
theorem dX12_familyOf_22 : decode cX12_familyOf 22 = .ok (.if_icmp .ne 9, 3) := bg01_55.2.2.1.2
theorem dX12_familyOf_25 : decode cX12_familyOf 25 = .ok (.iconst 1, 1) := bg01_55.2.2.2.1
theorem dX12_familyOf_26 : decode cX12_familyOf 26 = .ok (.iload_n 3, 1) := bg01_55.2.2.2.2
theorem bg01_56 : (((decode cX12_familyOf 27 = .ok (.ishl, 1) ∧ decode cX12_familyOf 28 = .ok (.goto 4, 3)) ∧ (decode cX12_familyOf 31 = .ok (.iconst 0, 1))) ∧ (decode cX12_familyOf 32 = .ok (.ior, 1) ∧ decode cX12_familyOf 33 = .ok (.istore_n 2, 1))) ∧ ((decode cX12_familyOf 34 = .ok (.iinc 3 1, 3) ∧ decode cX12_familyOf 37 = .ok (.goto (-33), 3)) ∧ (decode cX12_familyOf 40 = .ok (.iload_n 2, 1) ∧ decode cX12_familyOf 41 = .ok (.ireturn, 1))) := by decide +kernel
theorem dX12_familyOf_27 : decode cX12_familyOf 27 = .ok (.ishl, 1) := bg01_56.1.1.1.1
theorem dX12_familyOf_28 : decode cX12_familyOf 28 = .ok (.goto 4, 3) := bg01_56.1.1.1.2
theorem dX12_familyOf_31 : decode cX12_familyOf 31 = .ok (.iconst 0, 1) := bg01_56.1.1.2
theorem dX12_familyOf_32 : decode cX12_familyOf 32 = .ok (.ior, 1) := bg01_56.1.2.1
theorem dX12_familyOf_33 : decode cX12_familyOf 33 = .ok (.istore_n 2, 1) := bg01_56.1.2.2
theorem dX12_familyOf_34 : decode cX12_familyOf 34 = .ok (.iinc 3 1, 3) := bg01_56.2.1.1
theorem dX12_familyOf_37 : decode cX12_familyOf 37 = .ok (.goto (-33), 3) := bg01_56.2.1.2
theorem dX12_familyOf_40 : decode cX12_familyOf 40 = .ok (.iload_n 2, 1) := bg01_56.2.2.1
theorem dX12_familyOf_41 : decode cX12_familyOf 41 = .ok (.ireturn, 1) := bg01_56.2.2.2
theorem bg01_57 : (((decode cX12_unlikePeople 0 = .ok (.aload_n 0, 1) ∧ decode cX12_unlikePeople 1 = .ok (.getfield 96, 3)) ∧ (decode cX12_unlikePeople 4 = .ok (.iload_n 1, 1) ∧ decode cX12_unlikePeople 5 = .ok (.iaload, 1))) ∧ ((decode cX12_unlikePeople 6 = .ok (.aload_n 0, 1) ∧ decode cX12_unlikePeople 7 = .ok (.getfield 96, 3)) ∧ (decode cX12_unlikePeople 10 = .ok (.iload_n 2, 1) ∧ decode cX12_unlikePeople 11 = .ok (.iaload, 1)))) ∧ (((decode cX12_unlikePeople 12 = .ok (.isub, 1) ∧ decode cX12_unlikePeople 13 = .ok (.invokestatic 339, 3)) ∧ (decode cX12_unlikePeople 16 = .ok (.aload_n 0, 1) ∧ decode cX12_unlikePeople 17 = .ok (.getfield 99, 3))) ∧ ((decode cX12_unlikePeople 20 = .ok (.iload_n 1, 1) ∧ decode cX12_unlikePeople 21 = .ok (.iaload, 1)) ∧ (decode cX12_unlikePeople 22 = .ok (.aload_n 0, 1) ∧ decode cX12_unlikePeople 23 = .ok (.getfield 99, 3)))) := by decide +kernel
theorem dX12_unlikePeople_0 : decode cX12_unlikePeople 0 = .ok (.aload_n 0, 1) := bg01_57.1.1.1.1
theorem dX12_unlikePeople_1 : decode cX12_unlikePeople 1 = .ok (.getfield 96, 3) := bg01_57.1.1.1.2
theorem dX12_unlikePeople_4 : decode cX12_unlikePeople 4 = .ok (.iload_n 1, 1) := bg01_57.1.1.2.1
theorem dX12_unlikePeople_5 : decode cX12_unlikePeople 5 = .ok (.iaload, 1) := bg01_57.1.1.2.2
theorem dX12_unlikePeople_6 : decode cX12_unlikePeople 6 = .ok (.aload_n 0, 1) := bg01_57.1.2.1.1
theorem dX12_unlikePeople_7 : decode cX12_unlikePeople 7 = .ok (.getfield 96, 3) := bg01_57.1.2.1.2
theorem dX12_unlikePeople_10 : decode cX12_unlikePeople 10 = .ok (.iload_n 2, 1) := bg01_57.1.2.2.1
theorem dX12_unlikePeople_11 : decode cX12_unlikePeople 11 = .ok (.iaload, 1) := bg01_57.1.2.2.2
theorem dX12_unlikePeople_12 : decode cX12_unlikePeople 12 = .ok (.isub, 1) := bg01_57.2.1.1.1
theorem dX12_unlikePeople_13 : decode cX12_unlikePeople 13 = .ok (.invokestatic 339, 3) := bg01_57.2.1.1.2
theorem dX12_unlikePeople_16 : decode cX12_unlikePeople 16 = .ok (.aload_n 0, 1) := bg01_57.2.1.2.1
theorem dX12_unlikePeople_17 : decode cX12_unlikePeople 17 = .ok (.getfield 99, 3) := bg01_57.2.1.2.2
theorem dX12_unlikePeople_20 : decode cX12_unlikePeople 20 = .ok (.iload_n 1, 1) := bg01_57.2.2.1.1
theorem dX12_unlikePeople_21 : decode cX12_unlikePeople 21 = .ok (.iaload, 1) := bg01_57.2.2.1.2
theorem dX12_unlikePeople_22 : decode cX12_unlikePeople 22 = .ok (.aload_n 0, 1) := bg01_57.2.2.2.1
theorem dX12_unlikePeople_23 : decode cX12_unlikePeople 23 = .ok (.getfield 99, 3) := bg01_57.2.2.2.2
theorem bg01_58 : ((decode cX12_unlikePeople 26 = .ok (.iload_n 2, 1) ∧ decode cX12_unlikePeople 27 = .ok (.iaload, 1)) ∧ (decode cX12_unlikePeople 28 = .ok (.isub, 1) ∧ decode cX12_unlikePeople 29 = .ok (.invokestatic 339, 3))) ∧ ((decode cX12_unlikePeople 32 = .ok (.iadd, 1) ∧ decode cX12_unlikePeople 33 = .ok (.ireturn, 1)) ∧ (decode cX12_twins 0 = .ok (.iconst 0, 1) ∧ decode cX12_twins 1 = .ok (.istore_n 1, 1))) := by decide +kernel
theorem dX12_unlikePeople_26 : decode cX12_unlikePeople 26 = .ok (.iload_n 2, 1) := bg01_58.1.1.1
theorem dX12_unlikePeople_27 : decode cX12_unlikePeople 27 = .ok (.iaload, 1) := bg01_58.1.1.2
theorem dX12_unlikePeople_28 : decode cX12_unlikePeople 28 = .ok (.isub, 1) := bg01_58.1.2.1
theorem dX12_unlikePeople_29 : decode cX12_unlikePeople 29 = .ok (.invokestatic 339, 3) := bg01_58.1.2.2
theorem dX12_unlikePeople_32 : decode cX12_unlikePeople 32 = .ok (.iadd, 1) := bg01_58.2.1.1
theorem dX12_unlikePeople_33 : decode cX12_unlikePeople 33 = .ok (.ireturn, 1) := bg01_58.2.1.2
theorem dX12_twins_0 : decode cX12_twins 0 = .ok (.iconst 0, 1) := bg01_58.2.2.1
theorem dX12_twins_1 : decode cX12_twins 1 = .ok (.istore_n 1, 1) := bg01_58.2.2.2
theorem bg01_59 : (((decode cX12_twins 2 = .ok (.iconst 0, 1) ∧ decode cX12_twins 3 = .ok (.istore_n 2, 1)) ∧ (decode cX12_twins 4 = .ok (.iload_n 2, 1) ∧ decode cX12_twins 5 = .ok (.aload_n 0, 1))) ∧ ((decode cX12_twins 6 = .ok (.getfield 42, 3) ∧ decode cX12_twins 9 = .ok (.iconst 1, 1)) ∧ (decode cX12_twins 10 = .ok (.iaload, 1) ∧ decode cX12_twins 11 = .ok (.if_icmp .ge 39, 3)))) ∧ (((decode cX12_twins 14 = .ok (.iconst 0, 1) ∧ decode cX12_twins 15 = .ok (.istore_n 3, 1)) ∧ (decode cX12_twins 16 = .ok (.iload_n 3, 1) ∧ decode cX12_twins 17 = .ok (.iload_n 2, 1))) ∧ ((decode cX12_twins 18 = .ok (.if_icmp .ge 26, 3) ∧ decode cX12_twins 21 = .ok (.iload_n 1, 1)) ∧ (decode cX12_twins 22 = .ok (.aload_n 0, 1) ∧ decode cX12_twins 23 = .ok (.iload_n 2, 1)))) := by decide +kernel
theorem dX12_twins_2 : decode cX12_twins 2 = .ok (.iconst 0, 1) := bg01_59.1.1.1.1
theorem dX12_twins_3 : decode cX12_twins 3 = .ok (.istore_n 2, 1) := bg01_59.1.1.1.2
theorem dX12_twins_4 : decode cX12_twins 4 = .ok (.iload_n 2, 1) := bg01_59.1.1.2.1
theorem dX12_twins_5 : decode cX12_twins 5 = .ok (.aload_n 0, 1) := bg01_59.1.1.2.2
theorem dX12_twins_6 : decode cX12_twins 6 = .ok (.getfield 42, 3) := bg01_59.1.2.1.1
theorem dX12_twins_9 : decode cX12_twins 9 = .ok (.iconst 1, 1) := bg01_59.1.2.1.2
theorem dX12_twins_10 : decode cX12_twins 10 = .ok (.iaload, 1) := bg01_59.1.2.2.1
theorem dX12_twins_11 : decode cX12_twins 11 = .ok (.if_icmp .ge 39, 3) := bg01_59.1.2.2.2
theorem dX12_twins_14 : decode cX12_twins 14 = .ok (.iconst 0, 1) := bg01_59.2.1.1.1
theorem dX12_twins_15 : decode cX12_twins 15 = .ok (.istore_n 3, 1) := bg01_59.2.1.1.2
theorem dX12_twins_16 : decode cX12_twins 16 = .ok (.iload_n 3, 1) := bg01_59.2.1.2.1
theorem dX12_twins_17 : decode cX12_twins 17 = .ok (.iload_n 2, 1) := bg01_59.2.1.2.2
theorem dX12_twins_18 : decode cX12_twins 18 = .ok (.if_icmp .ge 26, 3) := bg01_59.2.2.1.1
theorem dX12_twins_21 : decode cX12_twins 21 = .ok (.iload_n 1, 1) := bg01_59.2.2.1.2
theorem dX12_twins_22 : decode cX12_twins 22 = .ok (.aload_n 0, 1) := bg01_59.2.2.2.1
theorem dX12_twins_23 : decode cX12_twins 23 = .ok (.iload_n 2, 1) := bg01_59.2.2.2.2
theorem bg01_60 : (((decode cX12_twins 24 = .ok (.iload_n 3, 1) ∧ decode cX12_twins 25 = .ok (.invokevirtual 390, 3)) ∧ (decode cX12_twins 28 = .ok (.ifCond .ne 7, 3) ∧ decode cX12_twins 31 = .ok (.iconst 1, 1))) ∧ ((decode cX12_twins 32 = .ok (.goto 4, 3) ∧ decode cX12_twins 35 = .ok (.iconst 0, 1)) ∧ (decode cX12_twins 36 = .ok (.iadd, 1)))) ∧ (((decode cX12_twins 37 = .ok (.istore_n 1, 1) ∧ decode cX12_twins 38 = .ok (.iinc 3 1, 3)) ∧ (decode cX12_twins 41 = .ok (.goto (-25), 3) ∧ decode cX12_twins 44 = .ok (.iinc 2 1, 3))) ∧ ((decode cX12_twins 47 = .ok (.goto (-43), 3) ∧ decode cX12_twins 50 = .ok (.iload_n 1, 1)) ∧ (decode cX12_twins 51 = .ok (.ireturn, 1)))) := by decide +kernel
theorem dX12_twins_24 : decode cX12_twins 24 = .ok (.iload_n 3, 1) := bg01_60.1.1.1.1
theorem dX12_twins_25 : decode cX12_twins 25 = .ok (.invokevirtual 390, 3) := bg01_60.1.1.1.2
theorem dX12_twins_28 : decode cX12_twins 28 = .ok (.ifCond .ne 7, 3) := bg01_60.1.1.2.1
theorem dX12_twins_31 : decode cX12_twins 31 = .ok (.iconst 1, 1) := bg01_60.1.1.2.2
theorem dX12_twins_32 : decode cX12_twins 32 = .ok (.goto 4, 3) := bg01_60.1.2.1.1
theorem dX12_twins_35 : decode cX12_twins 35 = .ok (.iconst 0, 1) := bg01_60.1.2.1.2
theorem dX12_twins_36 : decode cX12_twins 36 = .ok (.iadd, 1) := bg01_60.1.2.2
theorem dX12_twins_37 : decode cX12_twins 37 = .ok (.istore_n 1, 1) := bg01_60.2.1.1.1
theorem dX12_twins_38 : decode cX12_twins 38 = .ok (.iinc 3 1, 3) := bg01_60.2.1.1.2
theorem dX12_twins_41 : decode cX12_twins 41 = .ok (.goto (-25), 3) := bg01_60.2.1.2.1
theorem dX12_twins_44 : decode cX12_twins 44 = .ok (.iinc 2 1, 3) := bg01_60.2.1.2.2
theorem dX12_twins_47 : decode cX12_twins 47 = .ok (.goto (-43), 3) := bg01_60.2.2.1.1
theorem dX12_twins_50 : decode cX12_twins 50 = .ok (.iload_n 1, 1) := bg01_60.2.2.1.2
theorem dX12_twins_51 : decode cX12_twins 51 = .ok (.ireturn, 1) := bg01_60.2.2.2
theorem bg01_61 : (((decode cX12_longestRow 0 = .ok (.aload_n 0, 1) ∧ decode cX12_longestRow 1 = .ok (.invokevirtual 393, 3)) ∧ (decode cX12_longestRow 4 = .ok (.istore_n 1, 1) ∧ decode cX12_longestRow 5 = .ok (.iconst 0, 1))) ∧ ((decode cX12_longestRow 6 = .ok (.istore_n 2, 1) ∧ decode cX12_longestRow 7 = .ok (.iconst 0, 1)) ∧ (decode cX12_longestRow 8 = .ok (.istore_n 3, 1) ∧ decode cX12_longestRow 9 = .ok (.iload_n 3, 1)))) ∧ (((decode cX12_longestRow 10 = .ok (.aload_n 0, 1) ∧ decode cX12_longestRow 11 = .ok (.getfield 42, 3)) ∧ (decode cX12_longestRow 14 = .ok (.iconst 0, 1) ∧ decode cX12_longestRow 15 = .ok (.iaload, 1))) ∧ ((decode cX12_longestRow 16 = .ok (.if_icmp .ge 54, 3) ∧ decode cX12_longestRow 19 = .ok (.iconst 0, 1)) ∧ (decode cX12_longestRow 20 = .ok (.istore 4, 2) ∧ decode cX12_longestRow 22 = .ok (.iload 4, 2)))) := by decide +kernel
theorem dX12_longestRow_0 : decode cX12_longestRow 0 = .ok (.aload_n 0, 1) := bg01_61.1.1.1.1
theorem dX12_longestRow_1 : decode cX12_longestRow 1 = .ok (.invokevirtual 393, 3) := bg01_61.1.1.1.2
theorem dX12_longestRow_4 : decode cX12_longestRow 4 = .ok (.istore_n 1, 1) := bg01_61.1.1.2.1
theorem dX12_longestRow_5 : decode cX12_longestRow 5 = .ok (.iconst 0, 1) := bg01_61.1.1.2.2
theorem dX12_longestRow_6 : decode cX12_longestRow 6 = .ok (.istore_n 2, 1) := bg01_61.1.2.1.1
theorem dX12_longestRow_7 : decode cX12_longestRow 7 = .ok (.iconst 0, 1) := bg01_61.1.2.1.2
theorem dX12_longestRow_8 : decode cX12_longestRow 8 = .ok (.istore_n 3, 1) := bg01_61.1.2.2.1
theorem dX12_longestRow_9 : decode cX12_longestRow 9 = .ok (.iload_n 3, 1) := bg01_61.1.2.2.2
theorem dX12_longestRow_10 : decode cX12_longestRow 10 = .ok (.aload_n 0, 1) := bg01_61.2.1.1.1
theorem dX12_longestRow_11 : decode cX12_longestRow 11 = .ok (.getfield 42, 3) := bg01_61.2.1.1.2
theorem dX12_longestRow_14 : decode cX12_longestRow 14 = .ok (.iconst 0, 1) := bg01_61.2.1.2.1
theorem dX12_longestRow_15 : decode cX12_longestRow 15 = .ok (.iaload, 1) := bg01_61.2.1.2.2
theorem dX12_longestRow_16 : decode cX12_longestRow 16 = .ok (.if_icmp .ge 54, 3) := bg01_61.2.2.1.1
theorem dX12_longestRow_19 : decode cX12_longestRow 19 = .ok (.iconst 0, 1) := bg01_61.2.2.1.2
theorem dX12_longestRow_20 : decode cX12_longestRow 20 = .ok (.istore 4, 2) := bg01_61.2.2.2.1
theorem dX12_longestRow_22 : decode cX12_longestRow 22 = .ok (.iload 4, 2) := bg01_61.2.2.2.2
theorem bg01_62 : (((decode cX12_longestRow 24 = .ok (.aload_n 0, 1) ∧ decode cX12_longestRow 25 = .ok (.getfield 42, 3)) ∧ (decode cX12_longestRow 28 = .ok (.iconst 0, 1) ∧ decode cX12_longestRow 29 = .ok (.iaload, 1))) ∧ ((decode cX12_longestRow 30 = .ok (.if_icmp .ge 27, 3) ∧ decode cX12_longestRow 33 = .ok (.iload_n 1, 1)) ∧ (decode cX12_longestRow 34 = .ok (.iload_n 3, 1) ∧ decode cX12_longestRow 35 = .ok (.iload 4, 2)))) ∧ (((decode cX12_longestRow 37 = .ok (.iadd, 1) ∧ decode cX12_longestRow 38 = .ok (.aload_n 0, 1)) ∧ (decode cX12_longestRow 39 = .ok (.getfield 42, 3) ∧ decode cX12_longestRow 42 = .ok (.iconst 0, 1))) ∧ ((decode cX12_longestRow 43 = .ok (.iaload, 1) ∧ decode cX12_longestRow 44 = .ok (.irem, 1)) ∧ (decode cX12_longestRow 45 = .ok (.invokestatic 396, 3) ∧ decode cX12_longestRow 48 = .ok (.ifCond .eq 9, 3)))) := by decide +kernel
theorem dX12_longestRow_24 : decode cX12_longestRow 24 = .ok (.aload_n 0, 1) := bg01_62.1.1.1.1
theorem dX12_longestRow_25 : decode cX12_longestRow 25 = .ok (.getfield 42, 3) := bg01_62.1.1.1.2
theorem dX12_longestRow_28 : decode cX12_longestRow 28 = .ok (.iconst 0, 1) := bg01_62.1.1.2.1
theorem dX12_longestRow_29 : decode cX12_longestRow 29 = .ok (.iaload, 1) := bg01_62.1.1.2.2
theorem dX12_longestRow_30 : decode cX12_longestRow 30 = .ok (.if_icmp .ge 27, 3) := bg01_62.1.2.1.1
theorem dX12_longestRow_33 : decode cX12_longestRow 33 = .ok (.iload_n 1, 1) := bg01_62.1.2.1.2
theorem dX12_longestRow_34 : decode cX12_longestRow 34 = .ok (.iload_n 3, 1) := bg01_62.1.2.2.1
theorem dX12_longestRow_35 : decode cX12_longestRow 35 = .ok (.iload 4, 2) := bg01_62.1.2.2.2
theorem dX12_longestRow_37 : decode cX12_longestRow 37 = .ok (.iadd, 1) := bg01_62.2.1.1.1
theorem dX12_longestRow_38 : decode cX12_longestRow 38 = .ok (.aload_n 0, 1) := bg01_62.2.1.1.2
theorem dX12_longestRow_39 : decode cX12_longestRow 39 = .ok (.getfield 42, 3) := bg01_62.2.1.2.1
theorem dX12_longestRow_42 : decode cX12_longestRow 42 = .ok (.iconst 0, 1) := bg01_62.2.1.2.2
theorem dX12_longestRow_43 : decode cX12_longestRow 43 = .ok (.iaload, 1) := bg01_62.2.2.1.1
theorem dX12_longestRow_44 : decode cX12_longestRow 44 = .ok (.irem, 1) := bg01_62.2.2.1.2
theorem dX12_longestRow_45 : decode cX12_longestRow 45 = .ok (.invokestatic 396, 3) := bg01_62.2.2.2.1
theorem dX12_longestRow_48 : decode cX12_longestRow 48 = .ok (.ifCond .eq 9, 3) := bg01_62.2.2.2.2
theorem bg01_63 : (((decode cX12_longestRow 51 = .ok (.iinc 4 1, 3) ∧ decode cX12_longestRow 54 = .ok (.goto (-32), 3)) ∧ (decode cX12_longestRow 57 = .ok (.iload_n 2, 1))) ∧ (decode cX12_longestRow 58 = .ok (.iload 4, 2) ∧ decode cX12_longestRow 60 = .ok (.invokestatic 349, 3))) ∧ (((decode cX12_longestRow 63 = .ok (.istore_n 2, 1) ∧ decode cX12_longestRow 64 = .ok (.iinc 3 1, 3)) ∧ (decode cX12_longestRow 67 = .ok (.goto (-58), 3))) ∧ (decode cX12_longestRow 70 = .ok (.iload_n 2, 1) ∧ decode cX12_longestRow 71 = .ok (.ireturn, 1))) := by decide +kernel
theorem dX12_longestRow_51 : decode cX12_longestRow 51 = .ok (.iinc 4 1, 3) := bg01_63.1.1.1.1
theorem dX12_longestRow_54 : decode cX12_longestRow 54 = .ok (.goto (-32), 3) := bg01_63.1.1.1.2
theorem dX12_longestRow_57 : decode cX12_longestRow 57 = .ok (.iload_n 2, 1) := bg01_63.1.1.2
theorem dX12_longestRow_58 : decode cX12_longestRow 58 = .ok (.iload 4, 2) := bg01_63.1.2.1
theorem dX12_longestRow_60 : decode cX12_longestRow 60 = .ok (.invokestatic 349, 3) := bg01_63.1.2.2
theorem dX12_longestRow_63 : decode cX12_longestRow 63 = .ok (.istore_n 2, 1) := bg01_63.2.1.1.1
theorem dX12_longestRow_64 : decode cX12_longestRow 64 = .ok (.iinc 3 1, 3) := bg01_63.2.1.1.2
theorem dX12_longestRow_67 : decode cX12_longestRow 67 = .ok (.goto (-58), 3) := bg01_63.2.1.2
theorem dX12_longestRow_70 : decode cX12_longestRow 70 = .ok (.iload_n 2, 1) := bg01_63.2.2.1
theorem dX12_longestRow_71 : decode cX12_longestRow 71 = .ok (.ireturn, 1) := bg01_63.2.2.2
theorem bg01_64 : (((decode cX12_count 0 = .ok (.aload_n 0, 1) ∧ decode cX12_count 1 = .ok (.iconst 0, 1)) ∧ (decode cX12_count 2 = .ok (.putfield 163, 3) ∧ decode cX12_count 5 = .ok (.iload_n 1, 1))) ∧ ((decode cX12_count 6 = .ok (.tableswitch 156 0 15 #[78, 78, 85, 90, 99, 106, 111, 116, 121, 126, 131, 136, 141, 146, 146, 146], 78) ∧ decode cX12_count 84 = .ok (.aload_n 0, 1)) ∧ (decode cX12_count 85 = .ok (.getfield 42, 3) ∧ decode cX12_count 88 = .ok (.iload_n 1, 1)))) ∧ (((decode cX12_count 89 = .ok (.iaload, 1) ∧ decode cX12_count 90 = .ok (.ireturn, 1)) ∧ (decode cX12_count 91 = .ok (.aload_n 0, 1) ∧ decode cX12_count 92 = .ok (.getfield 323, 3))) ∧ ((decode cX12_count 95 = .ok (.ireturn, 1) ∧ decode cX12_count 96 = .ok (.aload_n 0, 1)) ∧ (decode cX12_count 97 = .ok (.aload_n 0, 1) ∧ decode cX12_count 98 = .ok (.getfield 323, 3)))) := by decide +kernel
theorem dX12_count_0 : decode cX12_count 0 = .ok (.aload_n 0, 1) := bg01_64.1.1.1.1
theorem dX12_count_1 : decode cX12_count 1 = .ok (.iconst 0, 1) := bg01_64.1.1.1.2
theorem dX12_count_2 : decode cX12_count 2 = .ok (.putfield 163, 3) := bg01_64.1.1.2.1
theorem dX12_count_5 : decode cX12_count 5 = .ok (.iload_n 1, 1) := bg01_64.1.1.2.2
theorem dX12_count_6 : decode cX12_count 6 = .ok (.tableswitch 156 0 15 #[78, 78, 85, 90, 99, 106, 111, 116, 121, 126, 131, 136, 141, 146, 146, 146], 78) := bg01_64.1.2.1.1
theorem dX12_count_84 : decode cX12_count 84 = .ok (.aload_n 0, 1) := bg01_64.1.2.1.2
theorem dX12_count_85 : decode cX12_count 85 = .ok (.getfield 42, 3) := bg01_64.1.2.2.1
theorem dX12_count_88 : decode cX12_count 88 = .ok (.iload_n 1, 1) := bg01_64.1.2.2.2
theorem dX12_count_89 : decode cX12_count 89 = .ok (.iaload, 1) := bg01_64.2.1.1.1
theorem dX12_count_90 : decode cX12_count 90 = .ok (.ireturn, 1) := bg01_64.2.1.1.2
theorem dX12_count_91 : decode cX12_count 91 = .ok (.aload_n 0, 1) := bg01_64.2.1.2.1
theorem dX12_count_92 : decode cX12_count 92 = .ok (.getfield 323, 3) := bg01_64.2.1.2.2
theorem dX12_count_95 : decode cX12_count 95 = .ok (.ireturn, 1) := bg01_64.2.2.1.1
theorem dX12_count_96 : decode cX12_count 96 = .ok (.aload_n 0, 1) := bg01_64.2.2.1.2
theorem dX12_count_97 : decode cX12_count 97 = .ok (.aload_n 0, 1) := bg01_64.2.2.2.1
theorem dX12_count_98 : decode cX12_count 98 = .ok (.getfield 323, 3) := bg01_64.2.2.2.2
theorem bg01_65 : (((decode cX12_count 101 = .ok (.invokevirtual 384, 3) ∧ decode cX12_count 104 = .ok (.ireturn, 1)) ∧ (decode cX12_count 105 = .ok (.aload_n 0, 1) ∧ decode cX12_count 106 = .ok (.getfield 42, 3))) ∧ ((decode cX12_count 109 = .ok (.iconst 3, 1) ∧ decode cX12_count 110 = .ok (.iaload, 1)) ∧ (decode cX12_count 111 = .ok (.ireturn, 1) ∧ decode cX12_count 112 = .ok (.aload_n 0, 1)))) ∧ (((decode cX12_count 113 = .ok (.invokevirtual 393, 3) ∧ decode cX12_count 116 = .ok (.ireturn, 1)) ∧ (decode cX12_count 117 = .ok (.aload_n 0, 1) ∧ decode cX12_count 118 = .ok (.invokevirtual 399, 3))) ∧ ((decode cX12_count 121 = .ok (.ireturn, 1) ∧ decode cX12_count 122 = .ok (.aload_n 0, 1)) ∧ (decode cX12_count 123 = .ok (.invokevirtual 402, 3) ∧ decode cX12_count 126 = .ok (.ireturn, 1)))) := by decide +kernel
theorem dX12_count_101 : decode cX12_count 101 = .ok (.invokevirtual 384, 3) := bg01_65.1.1.1.1
theorem dX12_count_104 : decode cX12_count 104 = .ok (.ireturn, 1) := bg01_65.1.1.1.2
theorem dX12_count_105 : decode cX12_count 105 = .ok (.aload_n 0, 1) := bg01_65.1.1.2.1
theorem dX12_count_106 : decode cX12_count 106 = .ok (.getfield 42, 3) := bg01_65.1.1.2.2
theorem dX12_count_109 : decode cX12_count 109 = .ok (.iconst 3, 1) := bg01_65.1.2.1.1
theorem dX12_count_110 : decode cX12_count 110 = .ok (.iaload, 1) := bg01_65.1.2.1.2
theorem dX12_count_111 : decode cX12_count 111 = .ok (.ireturn, 1) := bg01_65.1.2.2.1
theorem dX12_count_112 : decode cX12_count 112 = .ok (.aload_n 0, 1) := bg01_65.1.2.2.2
theorem dX12_count_113 : decode cX12_count 113 = .ok (.invokevirtual 393, 3) := bg01_65.2.1.1.1
theorem dX12_count_116 : decode cX12_count 116 = .ok (.ireturn, 1) := bg01_65.2.1.1.2
theorem dX12_count_117 : decode cX12_count 117 = .ok (.aload_n 0, 1) := bg01_65.2.1.2.1
theorem dX12_count_118 : decode cX12_count 118 = .ok (.invokevirtual 399, 3) := bg01_65.2.1.2.2
theorem dX12_count_121 : decode cX12_count 121 = .ok (.ireturn, 1) := bg01_65.2.2.1.1
theorem dX12_count_122 : decode cX12_count 122 = .ok (.aload_n 0, 1) := bg01_65.2.2.1.2
theorem dX12_count_123 : decode cX12_count 123 = .ok (.invokevirtual 402, 3) := bg01_65.2.2.2.1
theorem dX12_count_126 : decode cX12_count 126 = .ok (.ireturn, 1) := bg01_65.2.2.2.2
theorem bg01_66 : (((decode cX12_count 127 = .ok (.aload_n 0, 1) ∧ decode cX12_count 128 = .ok (.invokevirtual 405, 3)) ∧ (decode cX12_count 131 = .ok (.ireturn, 1) ∧ decode cX12_count 132 = .ok (.aload_n 0, 1))) ∧ ((decode cX12_count 133 = .ok (.invokevirtual 408, 3) ∧ decode cX12_count 136 = .ok (.ireturn, 1)) ∧ (decode cX12_count 137 = .ok (.aload_n 0, 1) ∧ decode cX12_count 138 = .ok (.getfield 326, 3)))) ∧ (((decode cX12_count 141 = .ok (.ireturn, 1) ∧ decode cX12_count 142 = .ok (.aload_n 0, 1)) ∧ (decode cX12_count 143 = .ok (.getfield 329, 3) ∧ decode cX12_count 146 = .ok (.ireturn, 1))) ∧ ((decode cX12_count 147 = .ok (.aload_n 0, 1) ∧ decode cX12_count 148 = .ok (.getfield 170, 3)) ∧ (decode cX12_count 151 = .ok (.ireturn, 1) ∧ decode cX12_count 152 = .ok (.aload_n 0, 1)))) := by decide +kernel
theorem dX12_count_127 : decode cX12_count 127 = .ok (.aload_n 0, 1) := bg01_66.1.1.1.1
theorem dX12_count_128 : decode cX12_count 128 = .ok (.invokevirtual 405, 3) := bg01_66.1.1.1.2
theorem dX12_count_131 : decode cX12_count 131 = .ok (.ireturn, 1) := bg01_66.1.1.2.1
theorem dX12_count_132 : decode cX12_count 132 = .ok (.aload_n 0, 1) := bg01_66.1.1.2.2
theorem dX12_count_133 : decode cX12_count 133 = .ok (.invokevirtual 408, 3) := bg01_66.1.2.1.1
theorem dX12_count_136 : decode cX12_count 136 = .ok (.ireturn, 1) := bg01_66.1.2.1.2
theorem dX12_count_137 : decode cX12_count 137 = .ok (.aload_n 0, 1) := bg01_66.1.2.2.1
theorem dX12_count_138 : decode cX12_count 138 = .ok (.getfield 326, 3) := bg01_66.1.2.2.2
theorem dX12_count_141 : decode cX12_count 141 = .ok (.ireturn, 1) := bg01_66.2.1.1.1
theorem dX12_count_142 : decode cX12_count 142 = .ok (.aload_n 0, 1) := bg01_66.2.1.1.2
theorem dX12_count_143 : decode cX12_count 143 = .ok (.getfield 329, 3) := bg01_66.2.1.2.1
theorem dX12_count_146 : decode cX12_count 146 = .ok (.ireturn, 1) := bg01_66.2.1.2.2
theorem dX12_count_147 : decode cX12_count 147 = .ok (.aload_n 0, 1) := bg01_66.2.2.1.1
theorem dX12_count_148 : decode cX12_count 148 = .ok (.getfield 170, 3) := bg01_66.2.2.1.2
theorem dX12_count_151 : decode cX12_count 151 = .ok (.ireturn, 1) := bg01_66.2.2.2.1
theorem dX12_count_152 : decode cX12_count 152 = .ok (.aload_n 0, 1) := bg01_66.2.2.2.2
theorem bg01_67 : (((decode cX12_count 153 = .ok (.getfield 78, 3) ∧ decode cX12_count 156 = .ok (.iload_n 1, 1)) ∧ (decode cX12_count 157 = .ok (.bipush 13, 2))) ∧ (decode cX12_count 159 = .ok (.isub, 1) ∧ decode cX12_count 160 = .ok (.iaload, 1))) ∧ (((decode cX12_count 161 = .ok (.ireturn, 1) ∧ decode cX12_count 162 = .ok (.aload_n 0, 1)) ∧ (decode cX12_count 163 = .ok (.iconst 1, 1))) ∧ (decode cX12_count 164 = .ok (.invokevirtual 310, 3) ∧ decode cX12_count 167 = .ok (.ireturn, 1))) := by decide +kernel
theorem dX12_count_153 : decode cX12_count 153 = .ok (.getfield 78, 3) := bg01_67.1.1.1.1
theorem dX12_count_156 : decode cX12_count 156 = .ok (.iload_n 1, 1) := bg01_67.1.1.1.2
theorem dX12_count_157 : decode cX12_count 157 = .ok (.bipush 13, 2) := bg01_67.1.1.2
theorem dX12_count_159 : decode cX12_count 159 = .ok (.isub, 1) := bg01_67.1.2.1
theorem dX12_count_160 : decode cX12_count 160 = .ok (.iaload, 1) := bg01_67.1.2.2
theorem dX12_count_161 : decode cX12_count 161 = .ok (.ireturn, 1) := bg01_67.2.1.1.1
theorem dX12_count_162 : decode cX12_count 162 = .ok (.aload_n 0, 1) := bg01_67.2.1.1.2
theorem dX12_count_163 : decode cX12_count 163 = .ok (.iconst 1, 1) := bg01_67.2.1.2
theorem dX12_count_164 : decode cX12_count 164 = .ok (.invokevirtual 310, 3) := bg01_67.2.2.1
theorem dX12_count_167 : decode cX12_count 167 = .ok (.ireturn, 1) := bg01_67.2.2.2
theorem bg01_68 : (((decode cX12_gargoyle 0 = .ok (.aload_n 0, 1) ∧ decode cX12_gargoyle 1 = .ok (.iconst 0, 1)) ∧ (decode cX12_gargoyle 2 = .ok (.putfield 163, 3) ∧ decode cX12_gargoyle 5 = .ok (.aload_n 0, 1))) ∧ ((decode cX12_gargoyle 6 = .ok (.iload_n 1, 1) ∧ decode cX12_gargoyle 7 = .ok (.invokevirtual 411, 3)) ∧ (decode cX12_gargoyle 10 = .ok (.ifCond .ne 9, 3) ∧ decode cX12_gargoyle 13 = .ok (.aload_n 0, 1)))) ∧ (((decode cX12_gargoyle 14 = .ok (.iconst 1, 1) ∧ decode cX12_gargoyle 15 = .ok (.invokevirtual 310, 3)) ∧ (decode cX12_gargoyle 18 = .ok (.ireturn, 1) ∧ decode cX12_gargoyle 19 = .ok (.iload_n 2, 1))) ∧ ((decode cX12_gargoyle 20 = .ok (.tableswitch 69 0 4 #[36, 43, 50, 57, 63], 36) ∧ decode cX12_gargoyle 56 = .ok (.aload_n 0, 1)) ∧ (decode cX12_gargoyle 57 = .ok (.getfield 88, 3) ∧ decode cX12_gargoyle 60 = .ok (.iload_n 1, 1)))) := by decide +kernel
theorem dX12_gargoyle_0 : decode cX12_gargoyle 0 = .ok (.aload_n 0, 1) := bg01_68.1.1.1.1
theorem dX12_gargoyle_1 : decode cX12_gargoyle 1 = .ok (.iconst 0, 1) := bg01_68.1.1.1.2
theorem dX12_gargoyle_2 : decode cX12_gargoyle 2 = .ok (.putfield 163, 3) := bg01_68.1.1.2.1
theorem dX12_gargoyle_5 : decode cX12_gargoyle 5 = .ok (.aload_n 0, 1) := bg01_68.1.1.2.2
theorem dX12_gargoyle_6 : decode cX12_gargoyle 6 = .ok (.iload_n 1, 1) := bg01_68.1.2.1.1
theorem dX12_gargoyle_7 : decode cX12_gargoyle 7 = .ok (.invokevirtual 411, 3) := bg01_68.1.2.1.2
theorem dX12_gargoyle_10 : decode cX12_gargoyle 10 = .ok (.ifCond .ne 9, 3) := bg01_68.1.2.2.1
theorem dX12_gargoyle_13 : decode cX12_gargoyle 13 = .ok (.aload_n 0, 1) := bg01_68.1.2.2.2
theorem dX12_gargoyle_14 : decode cX12_gargoyle 14 = .ok (.iconst 1, 1) := bg01_68.2.1.1.1
theorem dX12_gargoyle_15 : decode cX12_gargoyle 15 = .ok (.invokevirtual 310, 3) := bg01_68.2.1.1.2
theorem dX12_gargoyle_18 : decode cX12_gargoyle 18 = .ok (.ireturn, 1) := bg01_68.2.1.2.1
theorem dX12_gargoyle_19 : decode cX12_gargoyle 19 = .ok (.iload_n 2, 1) := bg01_68.2.1.2.2
theorem dX12_gargoyle_20 : decode cX12_gargoyle 20 = .ok (.tableswitch 69 0 4 #[36, 43, 50, 57, 63], 36) := bg01_68.2.2.1.1
theorem dX12_gargoyle_56 : decode cX12_gargoyle 56 = .ok (.aload_n 0, 1) := bg01_68.2.2.1.2
theorem dX12_gargoyle_57 : decode cX12_gargoyle 57 = .ok (.getfield 88, 3) := bg01_68.2.2.2.1
theorem dX12_gargoyle_60 : decode cX12_gargoyle 60 = .ok (.iload_n 1, 1) := bg01_68.2.2.2.2
theorem bg01_69 : (((decode cX12_gargoyle 61 = .ok (.iaload, 1) ∧ decode cX12_gargoyle 62 = .ok (.ireturn, 1)) ∧ (decode cX12_gargoyle 63 = .ok (.aload_n 0, 1) ∧ decode cX12_gargoyle 64 = .ok (.getfield 91, 3))) ∧ ((decode cX12_gargoyle 67 = .ok (.iload_n 1, 1) ∧ decode cX12_gargoyle 68 = .ok (.iaload, 1)) ∧ (decode cX12_gargoyle 69 = .ok (.ireturn, 1) ∧ decode cX12_gargoyle 70 = .ok (.aload_n 0, 1)))) ∧ (((decode cX12_gargoyle 71 = .ok (.getfield 94, 3) ∧ decode cX12_gargoyle 74 = .ok (.iload_n 1, 1)) ∧ (decode cX12_gargoyle 75 = .ok (.iaload, 1) ∧ decode cX12_gargoyle 76 = .ok (.ireturn, 1))) ∧ ((decode cX12_gargoyle 77 = .ok (.aload_n 0, 1) ∧ decode cX12_gargoyle 78 = .ok (.iload_n 1, 1)) ∧ (decode cX12_gargoyle 79 = .ok (.invokevirtual 355, 3) ∧ decode cX12_gargoyle 82 = .ok (.ireturn, 1)))) := by decide +kernel
theorem dX12_gargoyle_61 : decode cX12_gargoyle 61 = .ok (.iaload, 1) := bg01_69.1.1.1.1
theorem dX12_gargoyle_62 : decode cX12_gargoyle 62 = .ok (.ireturn, 1) := bg01_69.1.1.1.2
theorem dX12_gargoyle_63 : decode cX12_gargoyle 63 = .ok (.aload_n 0, 1) := bg01_69.1.1.2.1
theorem dX12_gargoyle_64 : decode cX12_gargoyle 64 = .ok (.getfield 91, 3) := bg01_69.1.1.2.2
theorem dX12_gargoyle_67 : decode cX12_gargoyle 67 = .ok (.iload_n 1, 1) := bg01_69.1.2.1.1
theorem dX12_gargoyle_68 : decode cX12_gargoyle 68 = .ok (.iaload, 1) := bg01_69.1.2.1.2
theorem dX12_gargoyle_69 : decode cX12_gargoyle 69 = .ok (.ireturn, 1) := bg01_69.1.2.2.1
theorem dX12_gargoyle_70 : decode cX12_gargoyle 70 = .ok (.aload_n 0, 1) := bg01_69.1.2.2.2
theorem dX12_gargoyle_71 : decode cX12_gargoyle 71 = .ok (.getfield 94, 3) := bg01_69.2.1.1.1
theorem dX12_gargoyle_74 : decode cX12_gargoyle 74 = .ok (.iload_n 1, 1) := bg01_69.2.1.1.2
theorem dX12_gargoyle_75 : decode cX12_gargoyle 75 = .ok (.iaload, 1) := bg01_69.2.1.2.1
theorem dX12_gargoyle_76 : decode cX12_gargoyle 76 = .ok (.ireturn, 1) := bg01_69.2.1.2.2
theorem dX12_gargoyle_77 : decode cX12_gargoyle 77 = .ok (.aload_n 0, 1) := bg01_69.2.2.1.1
theorem dX12_gargoyle_78 : decode cX12_gargoyle 78 = .ok (.iload_n 1, 1) := bg01_69.2.2.1.2
theorem dX12_gargoyle_79 : decode cX12_gargoyle 79 = .ok (.invokevirtual 355, 3) := bg01_69.2.2.2.1
theorem dX12_gargoyle_82 : decode cX12_gargoyle 82 = .ok (.ireturn, 1) := bg01_69.2.2.2.2
theorem bg01_70 : ((decode cX12_gargoyle 83 = .ok (.aload_n 0, 1) ∧ decode cX12_gargoyle 84 = .ok (.iload_n 1, 1)) ∧ (decode cX12_gargoyle 85 = .ok (.invokevirtual 414, 3) ∧ decode cX12_gargoyle 88 = .ok (.ireturn, 1))) ∧ ((decode cX12_gargoyle 89 = .ok (.aload_n 0, 1) ∧ decode cX12_gargoyle 90 = .ok (.iconst 1, 1)) ∧ (decode cX12_gargoyle 91 = .ok (.invokevirtual 310, 3) ∧ decode cX12_gargoyle 94 = .ok (.ireturn, 1))) := by decide +kernel
theorem dX12_gargoyle_83 : decode cX12_gargoyle 83 = .ok (.aload_n 0, 1) := bg01_70.1.1.1
theorem dX12_gargoyle_84 : decode cX12_gargoyle 84 = .ok (.iload_n 1, 1) := bg01_70.1.1.2
theorem dX12_gargoyle_85 : decode cX12_gargoyle 85 = .ok (.invokevirtual 414, 3) := bg01_70.1.2.1
theorem dX12_gargoyle_88 : decode cX12_gargoyle 88 = .ok (.ireturn, 1) := bg01_70.1.2.2
theorem dX12_gargoyle_89 : decode cX12_gargoyle 89 = .ok (.aload_n 0, 1) := bg01_70.2.1.1
theorem dX12_gargoyle_90 : decode cX12_gargoyle 90 = .ok (.iconst 1, 1) := bg01_70.2.1.2
theorem dX12_gargoyle_91 : decode cX12_gargoyle 91 = .ok (.invokevirtual 310, 3) := bg01_70.2.2.1
theorem dX12_gargoyle_94 : decode cX12_gargoyle 94 = .ok (.ireturn, 1) := bg01_70.2.2.2
theorem bg01_71 : (((decode cX12_person 0 = .ok (.aload_n 0, 1) ∧ decode cX12_person 1 = .ok (.iconst 0, 1)) ∧ (decode cX12_person 2 = .ok (.putfield 163, 3) ∧ decode cX12_person 5 = .ok (.aload_n 0, 1))) ∧ ((decode cX12_person 6 = .ok (.iload_n 1, 1) ∧ decode cX12_person 7 = .ok (.invokevirtual 417, 3)) ∧ (decode cX12_person 10 = .ok (.ifCond .ne 9, 3) ∧ decode cX12_person 13 = .ok (.aload_n 0, 1)))) ∧ (((decode cX12_person 14 = .ok (.iconst 1, 1) ∧ decode cX12_person 15 = .ok (.invokevirtual 310, 3)) ∧ (decode cX12_person 18 = .ok (.ireturn, 1) ∧ decode cX12_person 19 = .ok (.iload_n 2, 1))) ∧ ((decode cX12_person 20 = .ok (.tableswitch 82 0 5 #[40, 47, 54, 61, 68, 75], 40) ∧ decode cX12_person 60 = .ok (.aload_n 0, 1)) ∧ (decode cX12_person 61 = .ok (.getfield 96, 3) ∧ decode cX12_person 64 = .ok (.iload_n 1, 1)))) := by decide +kernel
theorem dX12_person_0 : decode cX12_person 0 = .ok (.aload_n 0, 1) := bg01_71.1.1.1.1
theorem dX12_person_1 : decode cX12_person 1 = .ok (.iconst 0, 1) := bg01_71.1.1.1.2
theorem dX12_person_2 : decode cX12_person 2 = .ok (.putfield 163, 3) := bg01_71.1.1.2.1
theorem dX12_person_5 : decode cX12_person 5 = .ok (.aload_n 0, 1) := bg01_71.1.1.2.2
theorem dX12_person_6 : decode cX12_person 6 = .ok (.iload_n 1, 1) := bg01_71.1.2.1.1
theorem dX12_person_7 : decode cX12_person 7 = .ok (.invokevirtual 417, 3) := bg01_71.1.2.1.2
theorem dX12_person_10 : decode cX12_person 10 = .ok (.ifCond .ne 9, 3) := bg01_71.1.2.2.1
theorem dX12_person_13 : decode cX12_person 13 = .ok (.aload_n 0, 1) := bg01_71.1.2.2.2
theorem dX12_person_14 : decode cX12_person 14 = .ok (.iconst 1, 1) := bg01_71.2.1.1.1
theorem dX12_person_15 : decode cX12_person 15 = .ok (.invokevirtual 310, 3) := bg01_71.2.1.1.2
theorem dX12_person_18 : decode cX12_person 18 = .ok (.ireturn, 1) := bg01_71.2.1.2.1
theorem dX12_person_19 : decode cX12_person 19 = .ok (.iload_n 2, 1) := bg01_71.2.1.2.2
theorem dX12_person_20 : decode cX12_person 20 = .ok (.tableswitch 82 0 5 #[40, 47, 54, 61, 68, 75], 40) := bg01_71.2.2.1.1
theorem dX12_person_60 : decode cX12_person 60 = .ok (.aload_n 0, 1) := bg01_71.2.2.1.2
theorem dX12_person_61 : decode cX12_person 61 = .ok (.getfield 96, 3) := bg01_71.2.2.2.1
theorem dX12_person_64 : decode cX12_person 64 = .ok (.iload_n 1, 1) := bg01_71.2.2.2.2
theorem bg01_72 : (((decode cX12_person 65 = .ok (.iaload, 1) ∧ decode cX12_person 66 = .ok (.ireturn, 1)) ∧ (decode cX12_person 67 = .ok (.aload_n 0, 1) ∧ decode cX12_person 68 = .ok (.getfield 99, 3))) ∧ ((decode cX12_person 71 = .ok (.iload_n 1, 1) ∧ decode cX12_person 72 = .ok (.iaload, 1)) ∧ (decode cX12_person 73 = .ok (.ireturn, 1) ∧ decode cX12_person 74 = .ok (.aload_n 0, 1)))) ∧ (((decode cX12_person 75 = .ok (.getfield 102, 3) ∧ decode cX12_person 78 = .ok (.iload_n 1, 1)) ∧ (decode cX12_person 79 = .ok (.iaload, 1) ∧ decode cX12_person 80 = .ok (.ireturn, 1))) ∧ ((decode cX12_person 81 = .ok (.aload_n 0, 1) ∧ decode cX12_person 82 = .ok (.getfield 104, 3)) ∧ (decode cX12_person 85 = .ok (.iload_n 1, 1) ∧ decode cX12_person 86 = .ok (.iaload, 1)))) := by decide +kernel
theorem dX12_person_65 : decode cX12_person 65 = .ok (.iaload, 1) := bg01_72.1.1.1.1
theorem dX12_person_66 : decode cX12_person 66 = .ok (.ireturn, 1) := bg01_72.1.1.1.2
theorem dX12_person_67 : decode cX12_person 67 = .ok (.aload_n 0, 1) := bg01_72.1.1.2.1
theorem dX12_person_68 : decode cX12_person 68 = .ok (.getfield 99, 3) := bg01_72.1.1.2.2
theorem dX12_person_71 : decode cX12_person 71 = .ok (.iload_n 1, 1) := bg01_72.1.2.1.1
theorem dX12_person_72 : decode cX12_person 72 = .ok (.iaload, 1) := bg01_72.1.2.1.2
theorem dX12_person_73 : decode cX12_person 73 = .ok (.ireturn, 1) := bg01_72.1.2.2.1
theorem dX12_person_74 : decode cX12_person 74 = .ok (.aload_n 0, 1) := bg01_72.1.2.2.2
theorem dX12_person_75 : decode cX12_person 75 = .ok (.getfield 102, 3) := bg01_72.2.1.1.1
theorem dX12_person_78 : decode cX12_person 78 = .ok (.iload_n 1, 1) := bg01_72.2.1.1.2
theorem dX12_person_79 : decode cX12_person 79 = .ok (.iaload, 1) := bg01_72.2.1.2.1
theorem dX12_person_80 : decode cX12_person 80 = .ok (.ireturn, 1) := bg01_72.2.1.2.2
theorem dX12_person_81 : decode cX12_person 81 = .ok (.aload_n 0, 1) := bg01_72.2.2.1.1
theorem dX12_person_82 : decode cX12_person 82 = .ok (.getfield 104, 3) := bg01_72.2.2.1.2
theorem dX12_person_85 : decode cX12_person 85 = .ok (.iload_n 1, 1) := bg01_72.2.2.2.1
theorem dX12_person_86 : decode cX12_person 86 = .ok (.iaload, 1) := bg01_72.2.2.2.2
theorem bg01_73 : (((decode cX12_person 87 = .ok (.ireturn, 1) ∧ decode cX12_person 88 = .ok (.aload_n 0, 1)) ∧ (decode cX12_person 89 = .ok (.getfield 106, 3) ∧ decode cX12_person 92 = .ok (.iload_n 1, 1))) ∧ ((decode cX12_person 93 = .ok (.iaload, 1) ∧ decode cX12_person 94 = .ok (.ireturn, 1)) ∧ (decode cX12_person 95 = .ok (.aload_n 0, 1) ∧ decode cX12_person 96 = .ok (.getfield 55, 3)))) ∧ (((decode cX12_person 99 = .ok (.iload_n 1, 1) ∧ decode cX12_person 100 = .ok (.iaload, 1)) ∧ (decode cX12_person 101 = .ok (.ireturn, 1) ∧ decode cX12_person 102 = .ok (.aload_n 0, 1))) ∧ ((decode cX12_person 103 = .ok (.iconst 1, 1) ∧ decode cX12_person 104 = .ok (.invokevirtual 310, 3)) ∧ (decode cX12_person 107 = .ok (.ireturn, 1)))) := by decide +kernel
theorem dX12_person_87 : decode cX12_person 87 = .ok (.ireturn, 1) := bg01_73.1.1.1.1
theorem dX12_person_88 : decode cX12_person 88 = .ok (.aload_n 0, 1) := bg01_73.1.1.1.2
theorem dX12_person_89 : decode cX12_person 89 = .ok (.getfield 106, 3) := bg01_73.1.1.2.1
theorem dX12_person_92 : decode cX12_person 92 = .ok (.iload_n 1, 1) := bg01_73.1.1.2.2
theorem dX12_person_93 : decode cX12_person 93 = .ok (.iaload, 1) := bg01_73.1.2.1.1
theorem dX12_person_94 : decode cX12_person 94 = .ok (.ireturn, 1) := bg01_73.1.2.1.2
theorem dX12_person_95 : decode cX12_person 95 = .ok (.aload_n 0, 1) := bg01_73.1.2.2.1
theorem dX12_person_96 : decode cX12_person 96 = .ok (.getfield 55, 3) := bg01_73.1.2.2.2
theorem dX12_person_99 : decode cX12_person 99 = .ok (.iload_n 1, 1) := bg01_73.2.1.1.1
theorem dX12_person_100 : decode cX12_person 100 = .ok (.iaload, 1) := bg01_73.2.1.1.2
theorem dX12_person_101 : decode cX12_person 101 = .ok (.ireturn, 1) := bg01_73.2.1.2.1
theorem dX12_person_102 : decode cX12_person 102 = .ok (.aload_n 0, 1) := bg01_73.2.1.2.2
theorem dX12_person_103 : decode cX12_person 103 = .ok (.iconst 1, 1) := bg01_73.2.2.1.1
theorem dX12_person_104 : decode cX12_person 104 = .ok (.invokevirtual 310, 3) := bg01_73.2.2.1.2
theorem dX12_person_107 : decode cX12_person 107 = .ok (.ireturn, 1) := bg01_73.2.2.2
theorem bg01_74 : (((decode cX12_refuse 0 = .ok (.aload_n 0, 1) ∧ decode cX12_refuse 1 = .ok (.getfield 78, 3)) ∧ (decode cX12_refuse 4 = .ok (.iload_n 1, 1))) ∧ (decode cX12_refuse 5 = .ok (.dup2, 1) ∧ decode cX12_refuse 6 = .ok (.iaload, 1))) ∧ (((decode cX12_refuse 7 = .ok (.iconst 1, 1) ∧ decode cX12_refuse 8 = .ok (.iadd, 1)) ∧ (decode cX12_refuse 9 = .ok (.iastore, 1))) ∧ (decode cX12_refuse 10 = .ok (.iconst (-1), 1) ∧ decode cX12_refuse 11 = .ok (.ireturn, 1))) := by decide +kernel
theorem dX12_refuse_0 : decode cX12_refuse 0 = .ok (.aload_n 0, 1) := bg01_74.1.1.1.1
theorem dX12_refuse_1 : decode cX12_refuse 1 = .ok (.getfield 78, 3) := bg01_74.1.1.1.2
theorem dX12_refuse_4 : decode cX12_refuse 4 = .ok (.iload_n 1, 1) := bg01_74.1.1.2
theorem dX12_refuse_5 : decode cX12_refuse 5 = .ok (.dup2, 1) := bg01_74.1.2.1
theorem dX12_refuse_6 : decode cX12_refuse 6 = .ok (.iaload, 1) := bg01_74.1.2.2
theorem dX12_refuse_7 : decode cX12_refuse 7 = .ok (.iconst 1, 1) := bg01_74.2.1.1.1
theorem dX12_refuse_8 : decode cX12_refuse 8 = .ok (.iadd, 1) := bg01_74.2.1.1.2
theorem dX12_refuse_9 : decode cX12_refuse 9 = .ok (.iastore, 1) := bg01_74.2.1.2
theorem dX12_refuse_10 : decode cX12_refuse 10 = .ok (.iconst (-1), 1) := bg01_74.2.2.1
theorem dX12_refuse_11 : decode cX12_refuse 11 = .ok (.ireturn, 1) := bg01_74.2.2.2
theorem bg01_75 : (((decode cX12_keep 0 = .ok (.aload_n 0, 1) ∧ decode cX12_keep 1 = .ok (.getfield 326, 3)) ∧ (decode cX12_keep 4 = .ok (.bipush 40, 2) ∧ decode cX12_keep 6 = .ok (.if_icmp .ne 46, 3))) ∧ ((decode cX12_keep 9 = .ok (.bipush 65, 2) ∧ decode cX12_keep 11 = .ok (.istore_n 1, 1)) ∧ (decode cX12_keep 12 = .ok (.iload_n 1, 1) ∧ decode cX12_keep 13 = .ok (.aload_n 0, 1)))) ∧ (((decode cX12_keep 14 = .ok (.getfield 109, 3) ∧ decode cX12_keep 17 = .ok (.arraylength, 1)) ∧ (decode cX12_keep 18 = .ok (.if_icmp .ge 24, 3) ∧ decode cX12_keep 21 = .ok (.aload_n 0, 1))) ∧ ((decode cX12_keep 22 = .ok (.getfield 109, 3) ∧ decode cX12_keep 25 = .ok (.iload_n 1, 1)) ∧ (decode cX12_keep 26 = .ok (.bipush 65, 2) ∧ decode cX12_keep 28 = .ok (.isub, 1)))) := by decide +kernel
theorem dX12_keep_0 : decode cX12_keep 0 = .ok (.aload_n 0, 1) := bg01_75.1.1.1.1
theorem dX12_keep_1 : decode cX12_keep 1 = .ok (.getfield 326, 3) := bg01_75.1.1.1.2
theorem dX12_keep_4 : decode cX12_keep 4 = .ok (.bipush 40, 2) := bg01_75.1.1.2.1
theorem dX12_keep_6 : decode cX12_keep 6 = .ok (.if_icmp .ne 46, 3) := bg01_75.1.1.2.2
theorem dX12_keep_9 : decode cX12_keep 9 = .ok (.bipush 65, 2) := bg01_75.1.2.1.1
theorem dX12_keep_11 : decode cX12_keep 11 = .ok (.istore_n 1, 1) := bg01_75.1.2.1.2
theorem dX12_keep_12 : decode cX12_keep 12 = .ok (.iload_n 1, 1) := bg01_75.1.2.2.1
theorem dX12_keep_13 : decode cX12_keep 13 = .ok (.aload_n 0, 1) := bg01_75.1.2.2.2
theorem dX12_keep_14 : decode cX12_keep 14 = .ok (.getfield 109, 3) := bg01_75.2.1.1.1
theorem dX12_keep_17 : decode cX12_keep 17 = .ok (.arraylength, 1) := bg01_75.2.1.1.2
theorem dX12_keep_18 : decode cX12_keep 18 = .ok (.if_icmp .ge 24, 3) := bg01_75.2.1.2.1
theorem dX12_keep_21 : decode cX12_keep 21 = .ok (.aload_n 0, 1) := bg01_75.2.1.2.2
theorem dX12_keep_22 : decode cX12_keep 22 = .ok (.getfield 109, 3) := bg01_75.2.2.1.1
theorem dX12_keep_25 : decode cX12_keep 25 = .ok (.iload_n 1, 1) := bg01_75.2.2.1.2
theorem dX12_keep_26 : decode cX12_keep 26 = .ok (.bipush 65, 2) := bg01_75.2.2.2.1
theorem dX12_keep_28 : decode cX12_keep 28 = .ok (.isub, 1) := bg01_75.2.2.2.2
theorem bg01_76 : (((decode cX12_keep 29 = .ok (.aload_n 0, 1) ∧ decode cX12_keep 30 = .ok (.getfield 109, 3)) ∧ (decode cX12_keep 33 = .ok (.iload_n 1, 1) ∧ decode cX12_keep 34 = .ok (.iaload, 1))) ∧ ((decode cX12_keep 35 = .ok (.iastore, 1) ∧ decode cX12_keep 36 = .ok (.iinc 1 1, 3)) ∧ (decode cX12_keep 39 = .ok (.goto (-27), 3) ∧ decode cX12_keep 42 = .ok (.aload_n 0, 1)))) ∧ (((decode cX12_keep 43 = .ok (.dup, 1) ∧ decode cX12_keep 44 = .ok (.getfield 326, 3)) ∧ (decode cX12_keep 47 = .ok (.iconst 1, 1) ∧ decode cX12_keep 48 = .ok (.isub, 1))) ∧ ((decode cX12_keep 49 = .ok (.putfield 326, 3) ∧ decode cX12_keep 52 = .ok (.aload_n 0, 1)) ∧ (decode cX12_keep 53 = .ok (.aload_n 0, 1) ∧ decode cX12_keep 54 = .ok (.getfield 109, 3)))) := by decide +kernel
theorem dX12_keep_29 : decode cX12_keep 29 = .ok (.aload_n 0, 1) := bg01_76.1.1.1.1
theorem dX12_keep_30 : decode cX12_keep 30 = .ok (.getfield 109, 3) := bg01_76.1.1.1.2
theorem dX12_keep_33 : decode cX12_keep 33 = .ok (.iload_n 1, 1) := bg01_76.1.1.2.1
theorem dX12_keep_34 : decode cX12_keep 34 = .ok (.iaload, 1) := bg01_76.1.1.2.2
theorem dX12_keep_35 : decode cX12_keep 35 = .ok (.iastore, 1) := bg01_76.1.2.1.1
theorem dX12_keep_36 : decode cX12_keep 36 = .ok (.iinc 1 1, 3) := bg01_76.1.2.1.2
theorem dX12_keep_39 : decode cX12_keep 39 = .ok (.goto (-27), 3) := bg01_76.1.2.2.1
theorem dX12_keep_42 : decode cX12_keep 42 = .ok (.aload_n 0, 1) := bg01_76.1.2.2.2
theorem dX12_keep_43 : decode cX12_keep 43 = .ok (.dup, 1) := bg01_76.2.1.1.1
theorem dX12_keep_44 : decode cX12_keep 44 = .ok (.getfield 326, 3) := bg01_76.2.1.1.2
theorem dX12_keep_47 : decode cX12_keep 47 = .ok (.iconst 1, 1) := bg01_76.2.1.2.1
theorem dX12_keep_48 : decode cX12_keep 48 = .ok (.isub, 1) := bg01_76.2.1.2.2
theorem dX12_keep_49 : decode cX12_keep 49 = .ok (.putfield 326, 3) := bg01_76.2.2.1.1
theorem dX12_keep_52 : decode cX12_keep 52 = .ok (.aload_n 0, 1) := bg01_76.2.2.1.2
theorem dX12_keep_53 : decode cX12_keep 53 = .ok (.aload_n 0, 1) := bg01_76.2.2.2.1
theorem dX12_keep_54 : decode cX12_keep 54 = .ok (.getfield 109, 3) := bg01_76.2.2.2.2
theorem bg01_77 : (((decode cX12_keep 57 = .ok (.bipush 65, 2) ∧ decode cX12_keep 59 = .ok (.aload_n 0, 1)) ∧ (decode cX12_keep 60 = .ok (.getfield 326, 3))) ∧ ((decode cX12_keep 63 = .ok (.imul, 1) ∧ decode cX12_keep 64 = .ok (.invokevirtual 420, 3)) ∧ (decode cX12_keep 67 = .ok (.aload_n 0, 1)))) ∧ (((decode cX12_keep 68 = .ok (.dup, 1) ∧ decode cX12_keep 69 = .ok (.getfield 326, 3)) ∧ (decode cX12_keep 72 = .ok (.iconst 1, 1))) ∧ ((decode cX12_keep 73 = .ok (.iadd, 1) ∧ decode cX12_keep 74 = .ok (.putfield 326, 3)) ∧ (decode cX12_keep 77 = .ok (.return_, 1)))) := by decide +kernel
theorem dX12_keep_57 : decode cX12_keep 57 = .ok (.bipush 65, 2) := bg01_77.1.1.1.1
theorem dX12_keep_59 : decode cX12_keep 59 = .ok (.aload_n 0, 1) := bg01_77.1.1.1.2
theorem dX12_keep_60 : decode cX12_keep 60 = .ok (.getfield 326, 3) := bg01_77.1.1.2
theorem dX12_keep_63 : decode cX12_keep 63 = .ok (.imul, 1) := bg01_77.1.2.1.1
theorem dX12_keep_64 : decode cX12_keep 64 = .ok (.invokevirtual 420, 3) := bg01_77.1.2.1.2
theorem dX12_keep_67 : decode cX12_keep 67 = .ok (.aload_n 0, 1) := bg01_77.1.2.2
theorem dX12_keep_68 : decode cX12_keep 68 = .ok (.dup, 1) := bg01_77.2.1.1.1
theorem dX12_keep_69 : decode cX12_keep 69 = .ok (.getfield 326, 3) := bg01_77.2.1.1.2
theorem dX12_keep_72 : decode cX12_keep 72 = .ok (.iconst 1, 1) := bg01_77.2.1.2
theorem dX12_keep_73 : decode cX12_keep 73 = .ok (.iadd, 1) := bg01_77.2.2.1.1
theorem dX12_keep_74 : decode cX12_keep 74 = .ok (.putfield 326, 3) := bg01_77.2.2.1.2
theorem dX12_keep_77 : decode cX12_keep 77 = .ok (.return_, 1) := bg01_77.2.2.2
theorem bg01_78 : (((decode cX12_years 0 = .ok (.aload_n 0, 1) ∧ decode cX12_years 1 = .ok (.iconst 0, 1)) ∧ (decode cX12_years 2 = .ok (.putfield 163, 3) ∧ decode cX12_years 5 = .ok (.iload_n 1, 1))) ∧ ((decode cX12_years 6 = .ok (.i2l, 1) ∧ decode cX12_years 7 = .ok (.lconst 1, 1)) ∧ (decode cX12_years 8 = .ok (.ldc2_w 424, 3) ∧ decode cX12_years 11 = .ok (.invokestatic 166, 3)))) ∧ (((decode cX12_years 14 = .ok (.ifCond .eq 15, 3) ∧ decode cX12_years 17 = .ok (.aload_n 0, 1)) ∧ (decode cX12_years 18 = .ok (.getfield 323, 3) ∧ decode cX12_years 21 = .ok (.iload_n 1, 1))) ∧ ((decode cX12_years 22 = .ok (.iadd, 1) ∧ decode cX12_years 23 = .ok (.sipush 999, 3)) ∧ (decode cX12_years 26 = .ok (.if_icmp .le 9, 3) ∧ decode cX12_years 29 = .ok (.aload_n 0, 1)))) := by decide +kernel
theorem dX12_years_0 : decode cX12_years 0 = .ok (.aload_n 0, 1) := bg01_78.1.1.1.1
theorem dX12_years_1 : decode cX12_years 1 = .ok (.iconst 0, 1) := bg01_78.1.1.1.2
theorem dX12_years_2 : decode cX12_years 2 = .ok (.putfield 163, 3) := bg01_78.1.1.2.1
theorem dX12_years_5 : decode cX12_years 5 = .ok (.iload_n 1, 1) := bg01_78.1.1.2.2
theorem dX12_years_6 : decode cX12_years 6 = .ok (.i2l, 1) := bg01_78.1.2.1.1
theorem dX12_years_7 : decode cX12_years 7 = .ok (.lconst 1, 1) := bg01_78.1.2.1.2
theorem dX12_years_8 : decode cX12_years 8 = .ok (.ldc2_w 424, 3) := bg01_78.1.2.2.1
theorem dX12_years_11 : decode cX12_years 11 = .ok (.invokestatic 166, 3) := bg01_78.1.2.2.2
theorem dX12_years_14 : decode cX12_years 14 = .ok (.ifCond .eq 15, 3) := bg01_78.2.1.1.1
theorem dX12_years_17 : decode cX12_years 17 = .ok (.aload_n 0, 1) := bg01_78.2.1.1.2
theorem dX12_years_18 : decode cX12_years 18 = .ok (.getfield 323, 3) := bg01_78.2.1.2.1
theorem dX12_years_21 : decode cX12_years 21 = .ok (.iload_n 1, 1) := bg01_78.2.1.2.2
theorem dX12_years_22 : decode cX12_years 22 = .ok (.iadd, 1) := bg01_78.2.2.1.1
theorem dX12_years_23 : decode cX12_years 23 = .ok (.sipush 999, 3) := bg01_78.2.2.1.2
theorem dX12_years_26 : decode cX12_years 26 = .ok (.if_icmp .le 9, 3) := bg01_78.2.2.2.1
theorem dX12_years_29 : decode cX12_years 29 = .ok (.aload_n 0, 1) := bg01_78.2.2.2.2
theorem bg01_79 : (((decode cX12_years 30 = .ok (.iconst 1, 1) ∧ decode cX12_years 31 = .ok (.invokevirtual 426, 3)) ∧ (decode cX12_years 34 = .ok (.ireturn, 1))) ∧ ((decode cX12_years 35 = .ok (.aload_n 0, 1) ∧ decode cX12_years 36 = .ok (.invokevirtual 429, 3)) ∧ (decode cX12_years 39 = .ok (.aload_n 0, 1)))) ∧ (((decode cX12_years 40 = .ok (.iload_n 1, 1) ∧ decode cX12_years 41 = .ok (.invokevirtual 432, 3)) ∧ (decode cX12_years 44 = .ok (.aload_n 0, 1))) ∧ (decode cX12_years 45 = .ok (.getfield 323, 3) ∧ decode cX12_years 48 = .ok (.ireturn, 1))) := by decide +kernel
theorem dX12_years_30 : decode cX12_years 30 = .ok (.iconst 1, 1) := bg01_79.1.1.1.1
theorem dX12_years_31 : decode cX12_years 31 = .ok (.invokevirtual 426, 3) := bg01_79.1.1.1.2
theorem dX12_years_34 : decode cX12_years 34 = .ok (.ireturn, 1) := bg01_79.1.1.2
theorem dX12_years_35 : decode cX12_years 35 = .ok (.aload_n 0, 1) := bg01_79.1.2.1.1
theorem dX12_years_36 : decode cX12_years 36 = .ok (.invokevirtual 429, 3) := bg01_79.1.2.1.2
theorem dX12_years_39 : decode cX12_years 39 = .ok (.aload_n 0, 1) := bg01_79.1.2.2
theorem dX12_years_40 : decode cX12_years 40 = .ok (.iload_n 1, 1) := bg01_79.2.1.1.1
theorem dX12_years_41 : decode cX12_years 41 = .ok (.invokevirtual 432, 3) := bg01_79.2.1.1.2
theorem dX12_years_44 : decode cX12_years 44 = .ok (.aload_n 0, 1) := bg01_79.2.1.2
theorem dX12_years_45 : decode cX12_years 45 = .ok (.getfield 323, 3) := bg01_79.2.2.1
theorem dX12_years_48 : decode cX12_years 48 = .ok (.ireturn, 1) := bg01_79.2.2.2
theorem bg01_80 : (((decode cX12_carve 0 = .ok (.aload_n 0, 1) ∧ decode cX12_carve 1 = .ok (.getfield 88, 3)) ∧ (decode cX12_carve 4 = .ok (.iload_n 1, 1) ∧ decode cX12_carve 5 = .ok (.iload_n 2, 1))) ∧ ((decode cX12_carve 6 = .ok (.iastore, 1) ∧ decode cX12_carve 7 = .ok (.aload_n 0, 1)) ∧ (decode cX12_carve 8 = .ok (.getfield 91, 3) ∧ decode cX12_carve 11 = .ok (.iload_n 1, 1)))) ∧ (((decode cX12_carve 12 = .ok (.iload_n 3, 1) ∧ decode cX12_carve 13 = .ok (.iastore, 1)) ∧ (decode cX12_carve 14 = .ok (.aload_n 0, 1) ∧ decode cX12_carve 15 = .ok (.getfield 94, 3))) ∧ ((decode cX12_carve 18 = .ok (.iload_n 1, 1) ∧ decode cX12_carve 19 = .ok (.bipush 99, 2)) ∧ (decode cX12_carve 21 = .ok (.iastore, 1) ∧ decode cX12_carve 22 = .ok (.return_, 1)))) := by decide +kernel
theorem dX12_carve_0 : decode cX12_carve 0 = .ok (.aload_n 0, 1) := bg01_80.1.1.1.1
theorem dX12_carve_1 : decode cX12_carve 1 = .ok (.getfield 88, 3) := bg01_80.1.1.1.2
theorem dX12_carve_4 : decode cX12_carve 4 = .ok (.iload_n 1, 1) := bg01_80.1.1.2.1
theorem dX12_carve_5 : decode cX12_carve 5 = .ok (.iload_n 2, 1) := bg01_80.1.1.2.2
theorem dX12_carve_6 : decode cX12_carve 6 = .ok (.iastore, 1) := bg01_80.1.2.1.1
theorem dX12_carve_7 : decode cX12_carve 7 = .ok (.aload_n 0, 1) := bg01_80.1.2.1.2
theorem dX12_carve_8 : decode cX12_carve 8 = .ok (.getfield 91, 3) := bg01_80.1.2.2.1
theorem dX12_carve_11 : decode cX12_carve 11 = .ok (.iload_n 1, 1) := bg01_80.1.2.2.2
theorem dX12_carve_12 : decode cX12_carve 12 = .ok (.iload_n 3, 1) := bg01_80.2.1.1.1
theorem dX12_carve_13 : decode cX12_carve 13 = .ok (.iastore, 1) := bg01_80.2.1.1.2
theorem dX12_carve_14 : decode cX12_carve 14 = .ok (.aload_n 0, 1) := bg01_80.2.1.2.1
theorem dX12_carve_15 : decode cX12_carve 15 = .ok (.getfield 94, 3) := bg01_80.2.1.2.2
theorem dX12_carve_18 : decode cX12_carve 18 = .ok (.iload_n 1, 1) := bg01_80.2.2.1.1
theorem dX12_carve_19 : decode cX12_carve 19 = .ok (.bipush 99, 2) := bg01_80.2.2.1.2
theorem dX12_carve_21 : decode cX12_carve 21 = .ok (.iastore, 1) := bg01_80.2.2.2.1
theorem dX12_carve_22 : decode cX12_carve 22 = .ok (.return_, 1) := bg01_80.2.2.2.2
theorem bg01_81 : (((decode cX12_cut 0 = .ok (.aload_n 0, 1) ∧ decode cX12_cut 1 = .ok (.iconst 0, 1)) ∧ (decode cX12_cut 2 = .ok (.putfield 163, 3) ∧ decode cX12_cut 5 = .ok (.aload_n 0, 1))) ∧ ((decode cX12_cut 6 = .ok (.iload_n 1, 1) ∧ decode cX12_cut 7 = .ok (.invokevirtual 411, 3)) ∧ (decode cX12_cut 10 = .ok (.ifCond .ne 9, 3) ∧ decode cX12_cut 13 = .ok (.aload_n 0, 1)))) ∧ (((decode cX12_cut 14 = .ok (.iconst 1, 1) ∧ decode cX12_cut 15 = .ok (.invokevirtual 310, 3)) ∧ (decode cX12_cut 18 = .ok (.ireturn, 1) ∧ decode cX12_cut 19 = .ok (.iload_n 2, 1))) ∧ ((decode cX12_cut 20 = .ok (.i2l, 1) ∧ decode cX12_cut 21 = .ok (.lconst 0, 1)) ∧ (decode cX12_cut 22 = .ok (.ldc2_w 435, 3) ∧ decode cX12_cut 25 = .ok (.invokestatic 166, 3)))) := by decide +kernel
theorem dX12_cut_0 : decode cX12_cut 0 = .ok (.aload_n 0, 1) := bg01_81.1.1.1.1
theorem dX12_cut_1 : decode cX12_cut 1 = .ok (.iconst 0, 1) := bg01_81.1.1.1.2
theorem dX12_cut_2 : decode cX12_cut 2 = .ok (.putfield 163, 3) := bg01_81.1.1.2.1
theorem dX12_cut_5 : decode cX12_cut 5 = .ok (.aload_n 0, 1) := bg01_81.1.1.2.2
theorem dX12_cut_6 : decode cX12_cut 6 = .ok (.iload_n 1, 1) := bg01_81.1.2.1.1
theorem dX12_cut_7 : decode cX12_cut 7 = .ok (.invokevirtual 411, 3) := bg01_81.1.2.1.2
theorem dX12_cut_10 : decode cX12_cut 10 = .ok (.ifCond .ne 9, 3) := bg01_81.1.2.2.1
theorem dX12_cut_13 : decode cX12_cut 13 = .ok (.aload_n 0, 1) := bg01_81.1.2.2.2
theorem dX12_cut_14 : decode cX12_cut 14 = .ok (.iconst 1, 1) := bg01_81.2.1.1.1
theorem dX12_cut_15 : decode cX12_cut 15 = .ok (.invokevirtual 310, 3) := bg01_81.2.1.1.2
theorem dX12_cut_18 : decode cX12_cut 18 = .ok (.ireturn, 1) := bg01_81.2.1.2.1
theorem dX12_cut_19 : decode cX12_cut 19 = .ok (.iload_n 2, 1) := bg01_81.2.1.2.2
theorem dX12_cut_20 : decode cX12_cut 20 = .ok (.i2l, 1) := bg01_81.2.2.1.1
theorem dX12_cut_21 : decode cX12_cut 21 = .ok (.lconst 0, 1) := bg01_81.2.2.1.2
theorem dX12_cut_22 : decode cX12_cut 22 = .ok (.ldc2_w 435, 3) := bg01_81.2.2.2.1
theorem dX12_cut_25 : decode cX12_cut 25 = .ok (.invokestatic 166, 3) := bg01_81.2.2.2.2
theorem bg01_82 : (((decode cX12_cut 28 = .ok (.ifCond .eq 15, 3) ∧ decode cX12_cut 31 = .ok (.iload_n 3, 1)) ∧ (decode cX12_cut 32 = .ok (.i2l, 1) ∧ decode cX12_cut 33 = .ok (.lconst 0, 1))) ∧ ((decode cX12_cut 34 = .ok (.ldc2_w 435, 3) ∧ decode cX12_cut 37 = .ok (.invokestatic 166, 3)) ∧ (decode cX12_cut 40 = .ok (.ifCond .ne 9, 3) ∧ decode cX12_cut 43 = .ok (.aload_n 0, 1)))) ∧ (((decode cX12_cut 44 = .ok (.iconst 1, 1) ∧ decode cX12_cut 45 = .ok (.invokevirtual 426, 3)) ∧ (decode cX12_cut 48 = .ok (.ireturn, 1) ∧ decode cX12_cut 49 = .ok (.aload_n 0, 1))) ∧ ((decode cX12_cut 50 = .ok (.invokevirtual 429, 3) ∧ decode cX12_cut 53 = .ok (.aload_n 0, 1)) ∧ (decode cX12_cut 54 = .ok (.getfield 94, 3) ∧ decode cX12_cut 57 = .ok (.iload_n 1, 1)))) := by decide +kernel
theorem dX12_cut_28 : decode cX12_cut 28 = .ok (.ifCond .eq 15, 3) := bg01_82.1.1.1.1
theorem dX12_cut_31 : decode cX12_cut 31 = .ok (.iload_n 3, 1) := bg01_82.1.1.1.2
theorem dX12_cut_32 : decode cX12_cut 32 = .ok (.i2l, 1) := bg01_82.1.1.2.1
theorem dX12_cut_33 : decode cX12_cut 33 = .ok (.lconst 0, 1) := bg01_82.1.1.2.2
theorem dX12_cut_34 : decode cX12_cut 34 = .ok (.ldc2_w 435, 3) := bg01_82.1.2.1.1
theorem dX12_cut_37 : decode cX12_cut 37 = .ok (.invokestatic 166, 3) := bg01_82.1.2.1.2
theorem dX12_cut_40 : decode cX12_cut 40 = .ok (.ifCond .ne 9, 3) := bg01_82.1.2.2.1
theorem dX12_cut_43 : decode cX12_cut 43 = .ok (.aload_n 0, 1) := bg01_82.1.2.2.2
theorem dX12_cut_44 : decode cX12_cut 44 = .ok (.iconst 1, 1) := bg01_82.2.1.1.1
theorem dX12_cut_45 : decode cX12_cut 45 = .ok (.invokevirtual 426, 3) := bg01_82.2.1.1.2
theorem dX12_cut_48 : decode cX12_cut 48 = .ok (.ireturn, 1) := bg01_82.2.1.2.1
theorem dX12_cut_49 : decode cX12_cut 49 = .ok (.aload_n 0, 1) := bg01_82.2.1.2.2
theorem dX12_cut_50 : decode cX12_cut 50 = .ok (.invokevirtual 429, 3) := bg01_82.2.2.1.1
theorem dX12_cut_53 : decode cX12_cut 53 = .ok (.aload_n 0, 1) := bg01_82.2.2.1.2
theorem dX12_cut_54 : decode cX12_cut 54 = .ok (.getfield 94, 3) := bg01_82.2.2.2.1
theorem dX12_cut_57 : decode cX12_cut 57 = .ok (.iload_n 1, 1) := bg01_82.2.2.2.2
theorem bg01_83 : (((decode cX12_cut 58 = .ok (.iaload, 1) ∧ decode cX12_cut 59 = .ok (.istore 4, 2)) ∧ (decode cX12_cut 61 = .ok (.aload_n 0, 1))) ∧ (decode cX12_cut 62 = .ok (.iload_n 1, 1) ∧ decode cX12_cut 63 = .ok (.iload_n 2, 1))) ∧ ((decode cX12_cut 64 = .ok (.iload_n 3, 1) ∧ decode cX12_cut 65 = .ok (.invokevirtual 437, 3)) ∧ (decode cX12_cut 68 = .ok (.iload 4, 2) ∧ decode cX12_cut 70 = .ok (.ireturn, 1))) := by decide +kernel
theorem dX12_cut_58 : decode cX12_cut 58 = .ok (.iaload, 1) := bg01_83.1.1.1.1
theorem dX12_cut_59 : decode cX12_cut 59 = .ok (.istore 4, 2) := bg01_83.1.1.1.2
theorem dX12_cut_61 : decode cX12_cut 61 = .ok (.aload_n 0, 1) := bg01_83.1.1.2
theorem dX12_cut_62 : decode cX12_cut 62 = .ok (.iload_n 1, 1) := bg01_83.1.2.1
theorem dX12_cut_63 : decode cX12_cut 63 = .ok (.iload_n 2, 1) := bg01_83.1.2.2
theorem dX12_cut_64 : decode cX12_cut 64 = .ok (.iload_n 3, 1) := bg01_83.2.1.1
theorem dX12_cut_65 : decode cX12_cut 65 = .ok (.invokevirtual 437, 3) := bg01_83.2.1.2
theorem dX12_cut_68 : decode cX12_cut 68 = .ok (.iload 4, 2) := bg01_83.2.2.1
theorem dX12_cut_70 : decode cX12_cut 70 = .ok (.ireturn, 1) := bg01_83.2.2.2
theorem bg01_84 : (((decode cX12_call 0 = .ok (.aload_n 0, 1) ∧ decode cX12_call 1 = .ok (.iconst 0, 1)) ∧ (decode cX12_call 2 = .ok (.putfield 163, 3) ∧ decode cX12_call 5 = .ok (.aload_n 0, 1))) ∧ ((decode cX12_call 6 = .ok (.iload_n 1, 1) ∧ decode cX12_call 7 = .ok (.invokevirtual 417, 3)) ∧ (decode cX12_call 10 = .ok (.ifCond .ne 9, 3) ∧ decode cX12_call 13 = .ok (.aload_n 0, 1)))) ∧ (((decode cX12_call 14 = .ok (.iconst 1, 1) ∧ decode cX12_call 15 = .ok (.invokevirtual 310, 3)) ∧ (decode cX12_call 18 = .ok (.ireturn, 1) ∧ decode cX12_call 19 = .ok (.aload_n 0, 1))) ∧ ((decode cX12_call 20 = .ok (.getfield 106, 3) ∧ decode cX12_call 23 = .ok (.iload_n 1, 1)) ∧ (decode cX12_call 24 = .ok (.iaload, 1) ∧ decode cX12_call 25 = .ok (.istore_n 2, 1)))) := by decide +kernel
theorem dX12_call_0 : decode cX12_call 0 = .ok (.aload_n 0, 1) := bg01_84.1.1.1.1
theorem dX12_call_1 : decode cX12_call 1 = .ok (.iconst 0, 1) := bg01_84.1.1.1.2
theorem dX12_call_2 : decode cX12_call 2 = .ok (.putfield 163, 3) := bg01_84.1.1.2.1
theorem dX12_call_5 : decode cX12_call 5 = .ok (.aload_n 0, 1) := bg01_84.1.1.2.2
theorem dX12_call_6 : decode cX12_call 6 = .ok (.iload_n 1, 1) := bg01_84.1.2.1.1
theorem dX12_call_7 : decode cX12_call 7 = .ok (.invokevirtual 417, 3) := bg01_84.1.2.1.2
theorem dX12_call_10 : decode cX12_call 10 = .ok (.ifCond .ne 9, 3) := bg01_84.1.2.2.1
theorem dX12_call_13 : decode cX12_call 13 = .ok (.aload_n 0, 1) := bg01_84.1.2.2.2
theorem dX12_call_14 : decode cX12_call 14 = .ok (.iconst 1, 1) := bg01_84.2.1.1.1
theorem dX12_call_15 : decode cX12_call 15 = .ok (.invokevirtual 310, 3) := bg01_84.2.1.1.2
theorem dX12_call_18 : decode cX12_call 18 = .ok (.ireturn, 1) := bg01_84.2.1.2.1
theorem dX12_call_19 : decode cX12_call 19 = .ok (.aload_n 0, 1) := bg01_84.2.1.2.2
theorem dX12_call_20 : decode cX12_call 20 = .ok (.getfield 106, 3) := bg01_84.2.2.1.1
theorem dX12_call_23 : decode cX12_call 23 = .ok (.iload_n 1, 1) := bg01_84.2.2.1.2
theorem dX12_call_24 : decode cX12_call 24 = .ok (.iaload, 1) := bg01_84.2.2.2.1
theorem dX12_call_25 : decode cX12_call 25 = .ok (.istore_n 2, 1) := bg01_84.2.2.2.2
theorem bg01_85 : (((decode cX12_call 26 = .ok (.iload_n 2, 1) ∧ decode cX12_call 27 = .ok (.iconst (-1), 1)) ∧ (decode cX12_call 28 = .ok (.if_icmp .ne 9, 3) ∧ decode cX12_call 31 = .ok (.aload_n 0, 1))) ∧ ((decode cX12_call 32 = .ok (.iconst 1, 1) ∧ decode cX12_call 33 = .ok (.invokevirtual 426, 3)) ∧ (decode cX12_call 36 = .ok (.ireturn, 1) ∧ decode cX12_call 37 = .ok (.aload_n 0, 1)))) ∧ (((decode cX12_call 38 = .ok (.invokevirtual 429, 3) ∧ decode cX12_call 41 = .ok (.aload_n 0, 1)) ∧ (decode cX12_call 42 = .ok (.getfield 106, 3) ∧ decode cX12_call 45 = .ok (.iload_n 1, 1))) ∧ ((decode cX12_call 46 = .ok (.iconst (-1), 1) ∧ decode cX12_call 47 = .ok (.iastore, 1)) ∧ (decode cX12_call 48 = .ok (.iload_n 2, 1) ∧ decode cX12_call 49 = .ok (.ireturn, 1)))) := by decide +kernel
theorem dX12_call_26 : decode cX12_call 26 = .ok (.iload_n 2, 1) := bg01_85.1.1.1.1
theorem dX12_call_27 : decode cX12_call 27 = .ok (.iconst (-1), 1) := bg01_85.1.1.1.2
theorem dX12_call_28 : decode cX12_call 28 = .ok (.if_icmp .ne 9, 3) := bg01_85.1.1.2.1
theorem dX12_call_31 : decode cX12_call 31 = .ok (.aload_n 0, 1) := bg01_85.1.1.2.2
theorem dX12_call_32 : decode cX12_call 32 = .ok (.iconst 1, 1) := bg01_85.1.2.1.1
theorem dX12_call_33 : decode cX12_call 33 = .ok (.invokevirtual 426, 3) := bg01_85.1.2.1.2
theorem dX12_call_36 : decode cX12_call 36 = .ok (.ireturn, 1) := bg01_85.1.2.2.1
theorem dX12_call_37 : decode cX12_call 37 = .ok (.aload_n 0, 1) := bg01_85.1.2.2.2
theorem dX12_call_38 : decode cX12_call 38 = .ok (.invokevirtual 429, 3) := bg01_85.2.1.1.1
theorem dX12_call_41 : decode cX12_call 41 = .ok (.aload_n 0, 1) := bg01_85.2.1.1.2
theorem dX12_call_42 : decode cX12_call 42 = .ok (.getfield 106, 3) := bg01_85.2.1.2.1
theorem dX12_call_45 : decode cX12_call 45 = .ok (.iload_n 1, 1) := bg01_85.2.1.2.2
theorem dX12_call_46 : decode cX12_call 46 = .ok (.iconst (-1), 1) := bg01_85.2.2.1.1
theorem dX12_call_47 : decode cX12_call 47 = .ok (.iastore, 1) := bg01_85.2.2.1.2
theorem dX12_call_48 : decode cX12_call 48 = .ok (.iload_n 2, 1) := bg01_85.2.2.2.1
theorem dX12_call_49 : decode cX12_call 49 = .ok (.ireturn, 1) := bg01_85.2.2.2.2
theorem bg01_86 : (((decode cX12_lift 0 = .ok (.aload_n 0, 1) ∧ decode cX12_lift 1 = .ok (.iconst 0, 1)) ∧ (decode cX12_lift 2 = .ok (.putfield 163, 3) ∧ decode cX12_lift 5 = .ok (.aload_n 0, 1))) ∧ ((decode cX12_lift 6 = .ok (.iload_n 1, 1) ∧ decode cX12_lift 7 = .ok (.invokevirtual 417, 3)) ∧ (decode cX12_lift 10 = .ok (.ifCond .eq 11, 3) ∧ decode cX12_lift 13 = .ok (.aload_n 0, 1)))) ∧ (((decode cX12_lift 14 = .ok (.iload_n 2, 1) ∧ decode cX12_lift 15 = .ok (.invokevirtual 411, 3)) ∧ (decode cX12_lift 18 = .ok (.ifCond .ne 9, 3) ∧ decode cX12_lift 21 = .ok (.aload_n 0, 1))) ∧ ((decode cX12_lift 22 = .ok (.iconst 1, 1) ∧ decode cX12_lift 23 = .ok (.invokevirtual 441, 3)) ∧ (decode cX12_lift 26 = .ok (.ireturn, 1) ∧ decode cX12_lift 27 = .ok (.aload_n 0, 1)))) := by decide +kernel
theorem dX12_lift_0 : decode cX12_lift 0 = .ok (.aload_n 0, 1) := bg01_86.1.1.1.1
theorem dX12_lift_1 : decode cX12_lift 1 = .ok (.iconst 0, 1) := bg01_86.1.1.1.2
theorem dX12_lift_2 : decode cX12_lift 2 = .ok (.putfield 163, 3) := bg01_86.1.1.2.1
theorem dX12_lift_5 : decode cX12_lift 5 = .ok (.aload_n 0, 1) := bg01_86.1.1.2.2
theorem dX12_lift_6 : decode cX12_lift 6 = .ok (.iload_n 1, 1) := bg01_86.1.2.1.1
theorem dX12_lift_7 : decode cX12_lift 7 = .ok (.invokevirtual 417, 3) := bg01_86.1.2.1.2
theorem dX12_lift_10 : decode cX12_lift 10 = .ok (.ifCond .eq 11, 3) := bg01_86.1.2.2.1
theorem dX12_lift_13 : decode cX12_lift 13 = .ok (.aload_n 0, 1) := bg01_86.1.2.2.2
theorem dX12_lift_14 : decode cX12_lift 14 = .ok (.iload_n 2, 1) := bg01_86.2.1.1.1
theorem dX12_lift_15 : decode cX12_lift 15 = .ok (.invokevirtual 411, 3) := bg01_86.2.1.1.2
theorem dX12_lift_18 : decode cX12_lift 18 = .ok (.ifCond .ne 9, 3) := bg01_86.2.1.2.1
theorem dX12_lift_21 : decode cX12_lift 21 = .ok (.aload_n 0, 1) := bg01_86.2.1.2.2
theorem dX12_lift_22 : decode cX12_lift 22 = .ok (.iconst 1, 1) := bg01_86.2.2.1.1
theorem dX12_lift_23 : decode cX12_lift 23 = .ok (.invokevirtual 441, 3) := bg01_86.2.2.1.2
theorem dX12_lift_26 : decode cX12_lift 26 = .ok (.ireturn, 1) := bg01_86.2.2.2.1
theorem dX12_lift_27 : decode cX12_lift 27 = .ok (.aload_n 0, 1) := bg01_86.2.2.2.2
theorem bg01_87 : (((decode cX12_lift 28 = .ok (.getfield 106, 3) ∧ decode cX12_lift 31 = .ok (.iload_n 1, 1)) ∧ (decode cX12_lift 32 = .ok (.iaload, 1) ∧ decode cX12_lift 33 = .ok (.iconst (-1), 1))) ∧ ((decode cX12_lift 34 = .ok (.if_icmp .ne 12, 3) ∧ decode cX12_lift 37 = .ok (.aload_n 0, 1)) ∧ (decode cX12_lift 38 = .ok (.iload_n 2, 1) ∧ decode cX12_lift 39 = .ok (.invokevirtual 355, 3)))) ∧ (((decode cX12_lift 42 = .ok (.iconst (-1), 1) ∧ decode cX12_lift 43 = .ok (.if_icmp .eq 15, 3)) ∧ (decode cX12_lift 46 = .ok (.aload_n 0, 1) ∧ decode cX12_lift 47 = .ok (.getfield 78, 3))) ∧ ((decode cX12_lift 50 = .ok (.iconst 1, 1) ∧ decode cX12_lift 51 = .ok (.dup2, 1)) ∧ (decode cX12_lift 52 = .ok (.iaload, 1) ∧ decode cX12_lift 53 = .ok (.iconst 1, 1)))) := by decide +kernel
theorem dX12_lift_28 : decode cX12_lift 28 = .ok (.getfield 106, 3) := bg01_87.1.1.1.1
theorem dX12_lift_31 : decode cX12_lift 31 = .ok (.iload_n 1, 1) := bg01_87.1.1.1.2
theorem dX12_lift_32 : decode cX12_lift 32 = .ok (.iaload, 1) := bg01_87.1.1.2.1
theorem dX12_lift_33 : decode cX12_lift 33 = .ok (.iconst (-1), 1) := bg01_87.1.1.2.2
theorem dX12_lift_34 : decode cX12_lift 34 = .ok (.if_icmp .ne 12, 3) := bg01_87.1.2.1.1
theorem dX12_lift_37 : decode cX12_lift 37 = .ok (.aload_n 0, 1) := bg01_87.1.2.1.2
theorem dX12_lift_38 : decode cX12_lift 38 = .ok (.iload_n 2, 1) := bg01_87.1.2.2.1
theorem dX12_lift_39 : decode cX12_lift 39 = .ok (.invokevirtual 355, 3) := bg01_87.1.2.2.2
theorem dX12_lift_42 : decode cX12_lift 42 = .ok (.iconst (-1), 1) := bg01_87.2.1.1.1
theorem dX12_lift_43 : decode cX12_lift 43 = .ok (.if_icmp .eq 15, 3) := bg01_87.2.1.1.2
theorem dX12_lift_46 : decode cX12_lift 46 = .ok (.aload_n 0, 1) := bg01_87.2.1.2.1
theorem dX12_lift_47 : decode cX12_lift 47 = .ok (.getfield 78, 3) := bg01_87.2.1.2.2
theorem dX12_lift_50 : decode cX12_lift 50 = .ok (.iconst 1, 1) := bg01_87.2.2.1.1
theorem dX12_lift_51 : decode cX12_lift 51 = .ok (.dup2, 1) := bg01_87.2.2.1.2
theorem dX12_lift_52 : decode cX12_lift 52 = .ok (.iaload, 1) := bg01_87.2.2.2.1
theorem dX12_lift_53 : decode cX12_lift 53 = .ok (.iconst 1, 1) := bg01_87.2.2.2.2
theorem bg01_88 : (((decode cX12_lift 54 = .ok (.iadd, 1) ∧ decode cX12_lift 55 = .ok (.iastore, 1)) ∧ (decode cX12_lift 56 = .ok (.iconst 0, 1) ∧ decode cX12_lift 57 = .ok (.ireturn, 1))) ∧ ((decode cX12_lift 58 = .ok (.aload_n 0, 1) ∧ decode cX12_lift 59 = .ok (.invokevirtual 429, 3)) ∧ (decode cX12_lift 62 = .ok (.aload_n 0, 1)))) ∧ (((decode cX12_lift 63 = .ok (.getfield 106, 3) ∧ decode cX12_lift 66 = .ok (.iload_n 1, 1)) ∧ (decode cX12_lift 67 = .ok (.iload_n 2, 1))) ∧ ((decode cX12_lift 68 = .ok (.iastore, 1) ∧ decode cX12_lift 69 = .ok (.iconst 1, 1)) ∧ (decode cX12_lift 70 = .ok (.ireturn, 1)))) := by decide +kernel
theorem dX12_lift_54 : decode cX12_lift 54 = .ok (.iadd, 1) := bg01_88.1.1.1.1
theorem dX12_lift_55 : decode cX12_lift 55 = .ok (.iastore, 1) := bg01_88.1.1.1.2
theorem dX12_lift_56 : decode cX12_lift 56 = .ok (.iconst 0, 1) := bg01_88.1.1.2.1
theorem dX12_lift_57 : decode cX12_lift 57 = .ok (.ireturn, 1) := bg01_88.1.1.2.2
theorem dX12_lift_58 : decode cX12_lift 58 = .ok (.aload_n 0, 1) := bg01_88.1.2.1.1
theorem dX12_lift_59 : decode cX12_lift 59 = .ok (.invokevirtual 429, 3) := bg01_88.1.2.1.2
theorem dX12_lift_62 : decode cX12_lift 62 = .ok (.aload_n 0, 1) := bg01_88.1.2.2
theorem dX12_lift_63 : decode cX12_lift 63 = .ok (.getfield 106, 3) := bg01_88.2.1.1.1
theorem dX12_lift_66 : decode cX12_lift 66 = .ok (.iload_n 1, 1) := bg01_88.2.1.1.2
theorem dX12_lift_67 : decode cX12_lift 67 = .ok (.iload_n 2, 1) := bg01_88.2.1.2
theorem dX12_lift_68 : decode cX12_lift 68 = .ok (.iastore, 1) := bg01_88.2.2.1.1
theorem dX12_lift_69 : decode cX12_lift 69 = .ok (.iconst 1, 1) := bg01_88.2.2.1.2
theorem dX12_lift_70 : decode cX12_lift 70 = .ok (.ireturn, 1) := bg01_88.2.2.2
theorem bg01_89 : (((decode cX12_leave 0 = .ok (.aload_n 0, 1) ∧ decode cX12_leave 1 = .ok (.iconst 0, 1)) ∧ (decode cX12_leave 2 = .ok (.putfield 163, 3) ∧ decode cX12_leave 5 = .ok (.aload_n 0, 1))) ∧ ((decode cX12_leave 6 = .ok (.iload_n 1, 1) ∧ decode cX12_leave 7 = .ok (.invokevirtual 417, 3)) ∧ (decode cX12_leave 10 = .ok (.ifCond .eq 23, 3) ∧ decode cX12_leave 13 = .ok (.iload_n 2, 1)))) ∧ (((decode cX12_leave 14 = .ok (.i2l, 1) ∧ decode cX12_leave 15 = .ok (.ldc2_w 444, 3)) ∧ (decode cX12_leave 18 = .ok (.aload_n 0, 1) ∧ decode cX12_leave 19 = .ok (.getfield 42, 3))) ∧ ((decode cX12_leave 22 = .ok (.iconst 0, 1) ∧ decode cX12_leave 23 = .ok (.iaload, 1)) ∧ (decode cX12_leave 24 = .ok (.iconst 1, 1) ∧ decode cX12_leave 25 = .ok (.isub, 1)))) := by decide +kernel
theorem dX12_leave_0 : decode cX12_leave 0 = .ok (.aload_n 0, 1) := bg01_89.1.1.1.1
theorem dX12_leave_1 : decode cX12_leave 1 = .ok (.iconst 0, 1) := bg01_89.1.1.1.2
theorem dX12_leave_2 : decode cX12_leave 2 = .ok (.putfield 163, 3) := bg01_89.1.1.2.1
theorem dX12_leave_5 : decode cX12_leave 5 = .ok (.aload_n 0, 1) := bg01_89.1.1.2.2
theorem dX12_leave_6 : decode cX12_leave 6 = .ok (.iload_n 1, 1) := bg01_89.1.2.1.1
theorem dX12_leave_7 : decode cX12_leave 7 = .ok (.invokevirtual 417, 3) := bg01_89.1.2.1.2
theorem dX12_leave_10 : decode cX12_leave 10 = .ok (.ifCond .eq 23, 3) := bg01_89.1.2.2.1
theorem dX12_leave_13 : decode cX12_leave 13 = .ok (.iload_n 2, 1) := bg01_89.1.2.2.2
theorem dX12_leave_14 : decode cX12_leave 14 = .ok (.i2l, 1) := bg01_89.2.1.1.1
theorem dX12_leave_15 : decode cX12_leave 15 = .ok (.ldc2_w 444, 3) := bg01_89.2.1.1.2
theorem dX12_leave_18 : decode cX12_leave 18 = .ok (.aload_n 0, 1) := bg01_89.2.1.2.1
theorem dX12_leave_19 : decode cX12_leave 19 = .ok (.getfield 42, 3) := bg01_89.2.1.2.2
theorem dX12_leave_22 : decode cX12_leave 22 = .ok (.iconst 0, 1) := bg01_89.2.2.1.1
theorem dX12_leave_23 : decode cX12_leave 23 = .ok (.iaload, 1) := bg01_89.2.2.1.2
theorem dX12_leave_24 : decode cX12_leave 24 = .ok (.iconst 1, 1) := bg01_89.2.2.2.1
theorem dX12_leave_25 : decode cX12_leave 25 = .ok (.isub, 1) := bg01_89.2.2.2.2
theorem bg01_90 : (((decode cX12_leave 26 = .ok (.i2l, 1) ∧ decode cX12_leave 27 = .ok (.invokestatic 166, 3)) ∧ (decode cX12_leave 30 = .ok (.ifCond .ne 9, 3) ∧ decode cX12_leave 33 = .ok (.aload_n 0, 1))) ∧ ((decode cX12_leave 34 = .ok (.iconst 1, 1) ∧ decode cX12_leave 35 = .ok (.invokevirtual 310, 3)) ∧ (decode cX12_leave 38 = .ok (.ireturn, 1) ∧ decode cX12_leave 39 = .ok (.aload_n 0, 1)))) ∧ (((decode cX12_leave 40 = .ok (.getfield 104, 3) ∧ decode cX12_leave 43 = .ok (.iload_n 1, 1)) ∧ (decode cX12_leave 44 = .ok (.iaload, 1) ∧ decode cX12_leave 45 = .ok (.istore_n 3, 1))) ∧ ((decode cX12_leave 46 = .ok (.iload_n 3, 1) ∧ decode cX12_leave 47 = .ok (.iload_n 2, 1)) ∧ (decode cX12_leave 48 = .ok (.if_icmp .ne 16, 3) ∧ decode cX12_leave 51 = .ok (.aload_n 0, 1)))) := by decide +kernel
theorem dX12_leave_26 : decode cX12_leave 26 = .ok (.i2l, 1) := bg01_90.1.1.1.1
theorem dX12_leave_27 : decode cX12_leave 27 = .ok (.invokestatic 166, 3) := bg01_90.1.1.1.2
theorem dX12_leave_30 : decode cX12_leave 30 = .ok (.ifCond .ne 9, 3) := bg01_90.1.1.2.1
theorem dX12_leave_33 : decode cX12_leave 33 = .ok (.aload_n 0, 1) := bg01_90.1.1.2.2
theorem dX12_leave_34 : decode cX12_leave 34 = .ok (.iconst 1, 1) := bg01_90.1.2.1.1
theorem dX12_leave_35 : decode cX12_leave 35 = .ok (.invokevirtual 310, 3) := bg01_90.1.2.1.2
theorem dX12_leave_38 : decode cX12_leave 38 = .ok (.ireturn, 1) := bg01_90.1.2.2.1
theorem dX12_leave_39 : decode cX12_leave 39 = .ok (.aload_n 0, 1) := bg01_90.1.2.2.2
theorem dX12_leave_40 : decode cX12_leave 40 = .ok (.getfield 104, 3) := bg01_90.2.1.1.1
theorem dX12_leave_43 : decode cX12_leave 43 = .ok (.iload_n 1, 1) := bg01_90.2.1.1.2
theorem dX12_leave_44 : decode cX12_leave 44 = .ok (.iaload, 1) := bg01_90.2.1.2.1
theorem dX12_leave_45 : decode cX12_leave 45 = .ok (.istore_n 3, 1) := bg01_90.2.1.2.2
theorem dX12_leave_46 : decode cX12_leave 46 = .ok (.iload_n 3, 1) := bg01_90.2.2.1.1
theorem dX12_leave_47 : decode cX12_leave 47 = .ok (.iload_n 2, 1) := bg01_90.2.2.1.2
theorem dX12_leave_48 : decode cX12_leave 48 = .ok (.if_icmp .ne 16, 3) := bg01_90.2.2.2.1
theorem dX12_leave_51 : decode cX12_leave 51 = .ok (.aload_n 0, 1) := bg01_90.2.2.2.2
theorem bg01_91 : (((decode cX12_leave 52 = .ok (.getfield 78, 3) ∧ decode cX12_leave 55 = .ok (.iconst 1, 1)) ∧ (decode cX12_leave 56 = .ok (.dup2, 1) ∧ decode cX12_leave 57 = .ok (.iaload, 1))) ∧ ((decode cX12_leave 58 = .ok (.iconst 1, 1) ∧ decode cX12_leave 59 = .ok (.iadd, 1)) ∧ (decode cX12_leave 60 = .ok (.iastore, 1) ∧ decode cX12_leave 61 = .ok (.bipush (-2), 2)))) ∧ (((decode cX12_leave 63 = .ok (.ireturn, 1) ∧ decode cX12_leave 64 = .ok (.aload_n 0, 1)) ∧ (decode cX12_leave 65 = .ok (.invokevirtual 429, 3) ∧ decode cX12_leave 68 = .ok (.aload_n 0, 1))) ∧ ((decode cX12_leave 69 = .ok (.getfield 104, 3) ∧ decode cX12_leave 72 = .ok (.iload_n 1, 1)) ∧ (decode cX12_leave 73 = .ok (.iload_n 2, 1) ∧ decode cX12_leave 74 = .ok (.iastore, 1)))) := by decide +kernel
theorem dX12_leave_52 : decode cX12_leave 52 = .ok (.getfield 78, 3) := bg01_91.1.1.1.1
theorem dX12_leave_55 : decode cX12_leave 55 = .ok (.iconst 1, 1) := bg01_91.1.1.1.2
theorem dX12_leave_56 : decode cX12_leave 56 = .ok (.dup2, 1) := bg01_91.1.1.2.1
theorem dX12_leave_57 : decode cX12_leave 57 = .ok (.iaload, 1) := bg01_91.1.1.2.2
theorem dX12_leave_58 : decode cX12_leave 58 = .ok (.iconst 1, 1) := bg01_91.1.2.1.1
theorem dX12_leave_59 : decode cX12_leave 59 = .ok (.iadd, 1) := bg01_91.1.2.1.2
theorem dX12_leave_60 : decode cX12_leave 60 = .ok (.iastore, 1) := bg01_91.1.2.2.1
theorem dX12_leave_61 : decode cX12_leave 61 = .ok (.bipush (-2), 2) := bg01_91.1.2.2.2
theorem dX12_leave_63 : decode cX12_leave 63 = .ok (.ireturn, 1) := bg01_91.2.1.1.1
theorem dX12_leave_64 : decode cX12_leave 64 = .ok (.aload_n 0, 1) := bg01_91.2.1.1.2
theorem dX12_leave_65 : decode cX12_leave 65 = .ok (.invokevirtual 429, 3) := bg01_91.2.1.2.1
theorem dX12_leave_68 : decode cX12_leave 68 = .ok (.aload_n 0, 1) := bg01_91.2.1.2.2
theorem dX12_leave_69 : decode cX12_leave 69 = .ok (.getfield 104, 3) := bg01_91.2.2.1.1
theorem dX12_leave_72 : decode cX12_leave 72 = .ok (.iload_n 1, 1) := bg01_91.2.2.1.2
theorem dX12_leave_73 : decode cX12_leave 73 = .ok (.iload_n 2, 1) := bg01_91.2.2.2.1
theorem dX12_leave_74 : decode cX12_leave 74 = .ok (.iastore, 1) := bg01_91.2.2.2.2
theorem bg01_92 : ((decode cX12_leave 75 = .ok (.iload_n 3, 1) ∧ decode cX12_leave 76 = .ok (.ireturn, 1)) ∧ (decode cX12_undo 0 = .ok (.aload_n 0, 1) ∧ decode cX12_undo 1 = .ok (.iconst 0, 1))) ∧ ((decode cX12_undo 2 = .ok (.putfield 163, 3) ∧ decode cX12_undo 5 = .ok (.aload_n 0, 1)) ∧ (decode cX12_undo 6 = .ok (.getfield 326, 3) ∧ decode cX12_undo 9 = .ok (.ifCond .ne 5, 3))) := by decide +kernel
theorem dX12_leave_75 : decode cX12_leave 75 = .ok (.iload_n 3, 1) := bg01_92.1.1.1
theorem dX12_leave_76 : decode cX12_leave 76 = .ok (.ireturn, 1) := bg01_92.1.1.2
theorem dX12_undo_0 : decode cX12_undo 0 = .ok (.aload_n 0, 1) := bg01_92.1.2.1
theorem dX12_undo_1 : decode cX12_undo 1 = .ok (.iconst 0, 1) := bg01_92.1.2.2
theorem dX12_undo_2 : decode cX12_undo 2 = .ok (.putfield 163, 3) := bg01_92.2.1.1
theorem dX12_undo_5 : decode cX12_undo 5 = .ok (.aload_n 0, 1) := bg01_92.2.1.2
theorem dX12_undo_6 : decode cX12_undo 6 = .ok (.getfield 326, 3) := bg01_92.2.2.1
theorem dX12_undo_9 : decode cX12_undo 9 = .ok (.ifCond .ne 5, 3) := bg01_92.2.2.2
theorem bg01_93 : (((decode cX12_undo 12 = .ok (.iconst (-1), 1) ∧ decode cX12_undo 13 = .ok (.ireturn, 1)) ∧ (decode cX12_undo 14 = .ok (.aload_n 0, 1) ∧ decode cX12_undo 15 = .ok (.dup, 1))) ∧ ((decode cX12_undo 16 = .ok (.getfield 326, 3) ∧ decode cX12_undo 19 = .ok (.iconst 1, 1)) ∧ (decode cX12_undo 20 = .ok (.isub, 1) ∧ decode cX12_undo 21 = .ok (.putfield 326, 3)))) ∧ (((decode cX12_undo 24 = .ok (.aload_n 0, 1) ∧ decode cX12_undo 25 = .ok (.aload_n 0, 1)) ∧ (decode cX12_undo 26 = .ok (.getfield 109, 3) ∧ decode cX12_undo 29 = .ok (.bipush 65, 2))) ∧ ((decode cX12_undo 31 = .ok (.aload_n 0, 1) ∧ decode cX12_undo 32 = .ok (.getfield 326, 3)) ∧ (decode cX12_undo 35 = .ok (.imul, 1) ∧ decode cX12_undo 36 = .ok (.invokevirtual 446, 3)))) := by decide +kernel
theorem dX12_undo_12 : decode cX12_undo 12 = .ok (.iconst (-1), 1) := bg01_93.1.1.1.1
theorem dX12_undo_13 : decode cX12_undo 13 = .ok (.ireturn, 1) := bg01_93.1.1.1.2
theorem dX12_undo_14 : decode cX12_undo 14 = .ok (.aload_n 0, 1) := bg01_93.1.1.2.1
theorem dX12_undo_15 : decode cX12_undo 15 = .ok (.dup, 1) := bg01_93.1.1.2.2
theorem dX12_undo_16 : decode cX12_undo 16 = .ok (.getfield 326, 3) := bg01_93.1.2.1.1
theorem dX12_undo_19 : decode cX12_undo 19 = .ok (.iconst 1, 1) := bg01_93.1.2.1.2
theorem dX12_undo_20 : decode cX12_undo 20 = .ok (.isub, 1) := bg01_93.1.2.2.1
theorem dX12_undo_21 : decode cX12_undo 21 = .ok (.putfield 326, 3) := bg01_93.1.2.2.2
theorem dX12_undo_24 : decode cX12_undo 24 = .ok (.aload_n 0, 1) := bg01_93.2.1.1.1
theorem dX12_undo_25 : decode cX12_undo 25 = .ok (.aload_n 0, 1) := bg01_93.2.1.1.2
theorem dX12_undo_26 : decode cX12_undo 26 = .ok (.getfield 109, 3) := bg01_93.2.1.2.1
theorem dX12_undo_29 : decode cX12_undo 29 = .ok (.bipush 65, 2) := bg01_93.2.1.2.2
theorem dX12_undo_31 : decode cX12_undo 31 = .ok (.aload_n 0, 1) := bg01_93.2.2.1.1
theorem dX12_undo_32 : decode cX12_undo 32 = .ok (.getfield 326, 3) := bg01_93.2.2.1.2
theorem dX12_undo_35 : decode cX12_undo 35 = .ok (.imul, 1) := bg01_93.2.2.2.1
theorem dX12_undo_36 : decode cX12_undo 36 = .ok (.invokevirtual 446, 3) := bg01_93.2.2.2.2
theorem bg01_94 : ((decode cX12_undo 39 = .ok (.aload_n 0, 1) ∧ decode cX12_undo 40 = .ok (.getfield 326, 3)) ∧ (decode cX12_undo 43 = .ok (.ireturn, 1) ∧ decode cX12_then 0 = .ok (.aload_n 0, 1))) ∧ ((decode cX12_then 1 = .ok (.iconst 0, 1) ∧ decode cX12_then 2 = .ok (.putfield 163, 3)) ∧ (decode cX12_then 5 = .ok (.aload_n 0, 1) ∧ decode cX12_then 6 = .ok (.iload_n 1, 1))) := by decide +kernel
theorem dX12_undo_39 : decode cX12_undo 39 = .ok (.aload_n 0, 1) := bg01_94.1.1.1
theorem dX12_undo_40 : decode cX12_undo 40 = .ok (.getfield 326, 3) := bg01_94.1.1.2
theorem dX12_undo_43 : decode cX12_undo 43 = .ok (.ireturn, 1) := bg01_94.1.2.1
theorem dX12_then_0 : decode cX12_then 0 = .ok (.aload_n 0, 1) := bg01_94.1.2.2
theorem dX12_then_1 : decode cX12_then 1 = .ok (.iconst 0, 1) := bg01_94.2.1.1
theorem dX12_then_2 : decode cX12_then 2 = .ok (.putfield 163, 3) := bg01_94.2.1.2
theorem dX12_then_5 : decode cX12_then 5 = .ok (.aload_n 0, 1) := bg01_94.2.2.1
theorem dX12_then_6 : decode cX12_then 6 = .ok (.iload_n 1, 1) := bg01_94.2.2.2
theorem bg01_95 : (((decode cX12_then 7 = .ok (.invokevirtual 411, 3) ∧ decode cX12_then 10 = .ok (.ifCond .eq 15, 3)) ∧ (decode cX12_then 13 = .ok (.iload_n 3, 1) ∧ decode cX12_then 14 = .ok (.i2l, 1))) ∧ ((decode cX12_then 15 = .ok (.lconst 0, 1) ∧ decode cX12_then 16 = .ok (.ldc2_w 449, 3)) ∧ (decode cX12_then 19 = .ok (.invokestatic 166, 3) ∧ decode cX12_then 22 = .ok (.ifCond .ne 9, 3)))) ∧ (((decode cX12_then 25 = .ok (.aload_n 0, 1) ∧ decode cX12_then 26 = .ok (.iconst 1, 1)) ∧ (decode cX12_then 27 = .ok (.invokevirtual 310, 3) ∧ decode cX12_then 30 = .ok (.ireturn, 1))) ∧ ((decode cX12_then 31 = .ok (.iload_n 2, 1) ∧ decode cX12_then 32 = .ok (.i2l, 1)) ∧ (decode cX12_then 33 = .ok (.lconst 0, 1) ∧ decode cX12_then 34 = .ok (.ldc2_w 451, 3)))) := by decide +kernel
theorem dX12_then_7 : decode cX12_then 7 = .ok (.invokevirtual 411, 3) := bg01_95.1.1.1.1
theorem dX12_then_10 : decode cX12_then 10 = .ok (.ifCond .eq 15, 3) := bg01_95.1.1.1.2
theorem dX12_then_13 : decode cX12_then 13 = .ok (.iload_n 3, 1) := bg01_95.1.1.2.1
theorem dX12_then_14 : decode cX12_then 14 = .ok (.i2l, 1) := bg01_95.1.1.2.2
theorem dX12_then_15 : decode cX12_then 15 = .ok (.lconst 0, 1) := bg01_95.1.2.1.1
theorem dX12_then_16 : decode cX12_then 16 = .ok (.ldc2_w 449, 3) := bg01_95.1.2.1.2
theorem dX12_then_19 : decode cX12_then 19 = .ok (.invokestatic 166, 3) := bg01_95.1.2.2.1
theorem dX12_then_22 : decode cX12_then 22 = .ok (.ifCond .ne 9, 3) := bg01_95.1.2.2.2
theorem dX12_then_25 : decode cX12_then 25 = .ok (.aload_n 0, 1) := bg01_95.2.1.1.1
theorem dX12_then_26 : decode cX12_then 26 = .ok (.iconst 1, 1) := bg01_95.2.1.1.2
theorem dX12_then_27 : decode cX12_then 27 = .ok (.invokevirtual 310, 3) := bg01_95.2.1.2.1
theorem dX12_then_30 : decode cX12_then 30 = .ok (.ireturn, 1) := bg01_95.2.1.2.2
theorem dX12_then_31 : decode cX12_then 31 = .ok (.iload_n 2, 1) := bg01_95.2.2.1.1
theorem dX12_then_32 : decode cX12_then 32 = .ok (.i2l, 1) := bg01_95.2.2.1.2
theorem dX12_then_33 : decode cX12_then 33 = .ok (.lconst 0, 1) := bg01_95.2.2.2.1
theorem dX12_then_34 : decode cX12_then 34 = .ok (.ldc2_w 451, 3) := bg01_95.2.2.2.2
theorem bg01_96 : (((decode cX12_then 37 = .ok (.invokestatic 166, 3) ∧ decode cX12_then 40 = .ok (.ifCond .ne 9, 3)) ∧ (decode cX12_then 43 = .ok (.aload_n 0, 1) ∧ decode cX12_then 44 = .ok (.iconst 2, 1))) ∧ ((decode cX12_then 45 = .ok (.invokevirtual 310, 3) ∧ decode cX12_then 48 = .ok (.ireturn, 1)) ∧ (decode cX12_then 49 = .ok (.aload_n 0, 1) ∧ decode cX12_then 50 = .ok (.aload_n 0, 1)))) ∧ (((decode cX12_then 51 = .ok (.getfield 118, 3) ∧ decode cX12_then 54 = .ok (.iconst 0, 1)) ∧ (decode cX12_then 55 = .ok (.invokevirtual 420, 3) ∧ decode cX12_then 58 = .ok (.aload_n 0, 1))) ∧ ((decode cX12_then 59 = .ok (.iload_n 2, 1) ∧ decode cX12_then 60 = .ok (.invokevirtual 432, 3)) ∧ (decode cX12_then 63 = .ok (.iload_n 3, 1) ∧ decode cX12_then 64 = .ok (.ifCond .ne 12, 3)))) := by decide +kernel
theorem dX12_then_37 : decode cX12_then 37 = .ok (.invokestatic 166, 3) := bg01_96.1.1.1.1
theorem dX12_then_40 : decode cX12_then 40 = .ok (.ifCond .ne 9, 3) := bg01_96.1.1.1.2
theorem dX12_then_43 : decode cX12_then 43 = .ok (.aload_n 0, 1) := bg01_96.1.1.2.1
theorem dX12_then_44 : decode cX12_then 44 = .ok (.iconst 2, 1) := bg01_96.1.1.2.2
theorem dX12_then_45 : decode cX12_then 45 = .ok (.invokevirtual 310, 3) := bg01_96.1.2.1.1
theorem dX12_then_48 : decode cX12_then 48 = .ok (.ireturn, 1) := bg01_96.1.2.1.2
theorem dX12_then_49 : decode cX12_then 49 = .ok (.aload_n 0, 1) := bg01_96.1.2.2.1
theorem dX12_then_50 : decode cX12_then 50 = .ok (.aload_n 0, 1) := bg01_96.1.2.2.2
theorem dX12_then_51 : decode cX12_then 51 = .ok (.getfield 118, 3) := bg01_96.2.1.1.1
theorem dX12_then_54 : decode cX12_then 54 = .ok (.iconst 0, 1) := bg01_96.2.1.1.2
theorem dX12_then_55 : decode cX12_then 55 = .ok (.invokevirtual 420, 3) := bg01_96.2.1.2.1
theorem dX12_then_58 : decode cX12_then 58 = .ok (.aload_n 0, 1) := bg01_96.2.1.2.2
theorem dX12_then_59 : decode cX12_then 59 = .ok (.iload_n 2, 1) := bg01_96.2.2.1.1
theorem dX12_then_60 : decode cX12_then 60 = .ok (.invokevirtual 432, 3) := bg01_96.2.2.1.2
theorem dX12_then_63 : decode cX12_then 63 = .ok (.iload_n 3, 1) := bg01_96.2.2.2.1
theorem dX12_then_64 : decode cX12_then 64 = .ok (.ifCond .ne 12, 3) := bg01_96.2.2.2.2
theorem bg01_97 : (((decode cX12_then 67 = .ok (.aload_n 0, 1) ∧ decode cX12_then 68 = .ok (.getfield 94, 3)) ∧ (decode cX12_then 71 = .ok (.iload_n 1, 1) ∧ decode cX12_then 72 = .ok (.iaload, 1))) ∧ ((decode cX12_then 73 = .ok (.goto 36, 3) ∧ decode cX12_then 76 = .ok (.iload_n 3, 1)) ∧ (decode cX12_then 77 = .ok (.iconst 1, 1) ∧ decode cX12_then 78 = .ok (.if_icmp .ne 12, 3)))) ∧ (((decode cX12_then 81 = .ok (.aload_n 0, 1) ∧ decode cX12_then 82 = .ok (.getfield 88, 3)) ∧ (decode cX12_then 85 = .ok (.iload_n 1, 1) ∧ decode cX12_then 86 = .ok (.iaload, 1))) ∧ ((decode cX12_then 87 = .ok (.goto 22, 3) ∧ decode cX12_then 90 = .ok (.iload_n 3, 1)) ∧ (decode cX12_then 91 = .ok (.iconst 2, 1) ∧ decode cX12_then 92 = .ok (.if_icmp .ne 12, 3)))) := by decide +kernel
theorem dX12_then_67 : decode cX12_then 67 = .ok (.aload_n 0, 1) := bg01_97.1.1.1.1
theorem dX12_then_68 : decode cX12_then 68 = .ok (.getfield 94, 3) := bg01_97.1.1.1.2
theorem dX12_then_71 : decode cX12_then 71 = .ok (.iload_n 1, 1) := bg01_97.1.1.2.1
theorem dX12_then_72 : decode cX12_then 72 = .ok (.iaload, 1) := bg01_97.1.1.2.2
theorem dX12_then_73 : decode cX12_then 73 = .ok (.goto 36, 3) := bg01_97.1.2.1.1
theorem dX12_then_76 : decode cX12_then 76 = .ok (.iload_n 3, 1) := bg01_97.1.2.1.2
theorem dX12_then_77 : decode cX12_then 77 = .ok (.iconst 1, 1) := bg01_97.1.2.2.1
theorem dX12_then_78 : decode cX12_then 78 = .ok (.if_icmp .ne 12, 3) := bg01_97.1.2.2.2
theorem dX12_then_81 : decode cX12_then 81 = .ok (.aload_n 0, 1) := bg01_97.2.1.1.1
theorem dX12_then_82 : decode cX12_then 82 = .ok (.getfield 88, 3) := bg01_97.2.1.1.2
theorem dX12_then_85 : decode cX12_then 85 = .ok (.iload_n 1, 1) := bg01_97.2.1.2.1
theorem dX12_then_86 : decode cX12_then 86 = .ok (.iaload, 1) := bg01_97.2.1.2.2
theorem dX12_then_87 : decode cX12_then 87 = .ok (.goto 22, 3) := bg01_97.2.2.1.1
theorem dX12_then_90 : decode cX12_then 90 = .ok (.iload_n 3, 1) := bg01_97.2.2.1.2
theorem dX12_then_91 : decode cX12_then 91 = .ok (.iconst 2, 1) := bg01_97.2.2.2.1
theorem dX12_then_92 : decode cX12_then 92 = .ok (.if_icmp .ne 12, 3) := bg01_97.2.2.2.2
theorem bg01_98 : (((decode cX12_then 95 = .ok (.aload_n 0, 1) ∧ decode cX12_then 96 = .ok (.getfield 91, 3)) ∧ (decode cX12_then 99 = .ok (.iload_n 1, 1) ∧ decode cX12_then 100 = .ok (.iaload, 1))) ∧ ((decode cX12_then 101 = .ok (.goto 8, 3) ∧ decode cX12_then 104 = .ok (.aload_n 0, 1)) ∧ (decode cX12_then 105 = .ok (.iload_n 1, 1) ∧ decode cX12_then 106 = .ok (.invokevirtual 355, 3)))) ∧ (((decode cX12_then 109 = .ok (.istore 4, 2) ∧ decode cX12_then 111 = .ok (.aload_n 0, 1)) ∧ (decode cX12_then 112 = .ok (.aload_n 0, 1) ∧ decode cX12_then 113 = .ok (.getfield 118, 3))) ∧ ((decode cX12_then 116 = .ok (.iconst 0, 1) ∧ decode cX12_then 117 = .ok (.invokevirtual 446, 3)) ∧ (decode cX12_then 120 = .ok (.iload 4, 2) ∧ decode cX12_then 122 = .ok (.ireturn, 1)))) := by decide +kernel
theorem dX12_then_95 : decode cX12_then 95 = .ok (.aload_n 0, 1) := bg01_98.1.1.1.1
theorem dX12_then_96 : decode cX12_then 96 = .ok (.getfield 91, 3) := bg01_98.1.1.1.2
theorem dX12_then_99 : decode cX12_then 99 = .ok (.iload_n 1, 1) := bg01_98.1.1.2.1
theorem dX12_then_100 : decode cX12_then 100 = .ok (.iaload, 1) := bg01_98.1.1.2.2
theorem dX12_then_101 : decode cX12_then 101 = .ok (.goto 8, 3) := bg01_98.1.2.1.1
theorem dX12_then_104 : decode cX12_then 104 = .ok (.aload_n 0, 1) := bg01_98.1.2.1.2
theorem dX12_then_105 : decode cX12_then 105 = .ok (.iload_n 1, 1) := bg01_98.1.2.2.1
theorem dX12_then_106 : decode cX12_then 106 = .ok (.invokevirtual 355, 3) := bg01_98.1.2.2.2
theorem dX12_then_109 : decode cX12_then 109 = .ok (.istore 4, 2) := bg01_98.2.1.1.1
theorem dX12_then_111 : decode cX12_then 111 = .ok (.aload_n 0, 1) := bg01_98.2.1.1.2
theorem dX12_then_112 : decode cX12_then 112 = .ok (.aload_n 0, 1) := bg01_98.2.1.2.1
theorem dX12_then_113 : decode cX12_then 113 = .ok (.getfield 118, 3) := bg01_98.2.1.2.2
theorem dX12_then_116 : decode cX12_then 116 = .ok (.iconst 0, 1) := bg01_98.2.2.1.1
theorem dX12_then_117 : decode cX12_then 117 = .ok (.invokevirtual 446, 3) := bg01_98.2.2.1.2
theorem dX12_then_120 : decode cX12_then 120 = .ok (.iload 4, 2) := bg01_98.2.2.2.1
theorem dX12_then_122 : decode cX12_then 122 = .ok (.ireturn, 1) := bg01_98.2.2.2.2
theorem bg01_99 : (((decode cX12_where 0 = .ok (.aload_n 0, 1) ∧ decode cX12_where 1 = .ok (.iconst 0, 1)) ∧ (decode cX12_where 2 = .ok (.putfield 163, 3) ∧ decode cX12_where 5 = .ok (.aload_n 0, 1))) ∧ ((decode cX12_where 6 = .ok (.iload_n 1, 1) ∧ decode cX12_where 7 = .ok (.invokevirtual 417, 3)) ∧ (decode cX12_where 10 = .ok (.ifCond .eq 15, 3) ∧ decode cX12_where 13 = .ok (.iload_n 3, 1)))) ∧ (((decode cX12_where 14 = .ok (.i2l, 1) ∧ decode cX12_where 15 = .ok (.lconst 0, 1)) ∧ (decode cX12_where 16 = .ok (.ldc2_w 453, 3) ∧ decode cX12_where 19 = .ok (.invokestatic 166, 3))) ∧ ((decode cX12_where 22 = .ok (.ifCond .ne 9, 3) ∧ decode cX12_where 25 = .ok (.aload_n 0, 1)) ∧ (decode cX12_where 26 = .ok (.iconst 1, 1) ∧ decode cX12_where 27 = .ok (.invokevirtual 310, 3)))) := by decide +kernel
theorem dX12_where_0 : decode cX12_where 0 = .ok (.aload_n 0, 1) := bg01_99.1.1.1.1
theorem dX12_where_1 : decode cX12_where 1 = .ok (.iconst 0, 1) := bg01_99.1.1.1.2
theorem dX12_where_2 : decode cX12_where 2 = .ok (.putfield 163, 3) := bg01_99.1.1.2.1
theorem dX12_where_5 : decode cX12_where 5 = .ok (.aload_n 0, 1) := bg01_99.1.1.2.2
theorem dX12_where_6 : decode cX12_where 6 = .ok (.iload_n 1, 1) := bg01_99.1.2.1.1
theorem dX12_where_7 : decode cX12_where 7 = .ok (.invokevirtual 417, 3) := bg01_99.1.2.1.2
theorem dX12_where_10 : decode cX12_where 10 = .ok (.ifCond .eq 15, 3) := bg01_99.1.2.2.1
theorem dX12_where_13 : decode cX12_where 13 = .ok (.iload_n 3, 1) := bg01_99.1.2.2.2
theorem dX12_where_14 : decode cX12_where 14 = .ok (.i2l, 1) := bg01_99.2.1.1.1
theorem dX12_where_15 : decode cX12_where 15 = .ok (.lconst 0, 1) := bg01_99.2.1.1.2
theorem dX12_where_16 : decode cX12_where 16 = .ok (.ldc2_w 453, 3) := bg01_99.2.1.2.1
theorem dX12_where_19 : decode cX12_where 19 = .ok (.invokestatic 166, 3) := bg01_99.2.1.2.2
theorem dX12_where_22 : decode cX12_where 22 = .ok (.ifCond .ne 9, 3) := bg01_99.2.2.1.1
theorem dX12_where_25 : decode cX12_where 25 = .ok (.aload_n 0, 1) := bg01_99.2.2.1.2
theorem dX12_where_26 : decode cX12_where 26 = .ok (.iconst 1, 1) := bg01_99.2.2.2.1
theorem dX12_where_27 : decode cX12_where 27 = .ok (.invokevirtual 310, 3) := bg01_99.2.2.2.2
theorem bg01_100 : (((decode cX12_where 30 = .ok (.ireturn, 1) ∧ decode cX12_where 31 = .ok (.iload_n 2, 1)) ∧ (decode cX12_where 32 = .ok (.i2l, 1) ∧ decode cX12_where 33 = .ok (.lconst 0, 1))) ∧ ((decode cX12_where 34 = .ok (.ldc2_w 451, 3) ∧ decode cX12_where 37 = .ok (.invokestatic 166, 3)) ∧ (decode cX12_where 40 = .ok (.ifCond .ne 9, 3) ∧ decode cX12_where 43 = .ok (.aload_n 0, 1)))) ∧ (((decode cX12_where 44 = .ok (.iconst 2, 1) ∧ decode cX12_where 45 = .ok (.invokevirtual 310, 3)) ∧ (decode cX12_where 48 = .ok (.ireturn, 1) ∧ decode cX12_where 49 = .ok (.aload_n 0, 1))) ∧ ((decode cX12_where 50 = .ok (.aload_n 0, 1) ∧ decode cX12_where 51 = .ok (.getfield 118, 3)) ∧ (decode cX12_where 54 = .ok (.iconst 0, 1) ∧ decode cX12_where 55 = .ok (.invokevirtual 420, 3)))) := by decide +kernel
theorem dX12_where_30 : decode cX12_where 30 = .ok (.ireturn, 1) := bg01_100.1.1.1.1
theorem dX12_where_31 : decode cX12_where 31 = .ok (.iload_n 2, 1) := bg01_100.1.1.1.2
theorem dX12_where_32 : decode cX12_where 32 = .ok (.i2l, 1) := bg01_100.1.1.2.1
theorem dX12_where_33 : decode cX12_where 33 = .ok (.lconst 0, 1) := bg01_100.1.1.2.2
theorem dX12_where_34 : decode cX12_where 34 = .ok (.ldc2_w 451, 3) := bg01_100.1.2.1.1
theorem dX12_where_37 : decode cX12_where 37 = .ok (.invokestatic 166, 3) := bg01_100.1.2.1.2
theorem dX12_where_40 : decode cX12_where 40 = .ok (.ifCond .ne 9, 3) := bg01_100.1.2.2.1
theorem dX12_where_43 : decode cX12_where 43 = .ok (.aload_n 0, 1) := bg01_100.1.2.2.2
theorem dX12_where_44 : decode cX12_where 44 = .ok (.iconst 2, 1) := bg01_100.2.1.1.1
theorem dX12_where_45 : decode cX12_where 45 = .ok (.invokevirtual 310, 3) := bg01_100.2.1.1.2
theorem dX12_where_48 : decode cX12_where 48 = .ok (.ireturn, 1) := bg01_100.2.1.2.1
theorem dX12_where_49 : decode cX12_where 49 = .ok (.aload_n 0, 1) := bg01_100.2.1.2.2
theorem dX12_where_50 : decode cX12_where 50 = .ok (.aload_n 0, 1) := bg01_100.2.2.1.1
theorem dX12_where_51 : decode cX12_where 51 = .ok (.getfield 118, 3) := bg01_100.2.2.1.2
theorem dX12_where_54 : decode cX12_where 54 = .ok (.iconst 0, 1) := bg01_100.2.2.2.1
theorem dX12_where_55 : decode cX12_where 55 = .ok (.invokevirtual 420, 3) := bg01_100.2.2.2.2
theorem bg01_101 : (((decode cX12_where 58 = .ok (.aload_n 0, 1) ∧ decode cX12_where 59 = .ok (.iload_n 2, 1)) ∧ (decode cX12_where 60 = .ok (.invokevirtual 432, 3) ∧ decode cX12_where 63 = .ok (.aload_n 0, 1))) ∧ ((decode cX12_where 64 = .ok (.iload_n 1, 1) ∧ decode cX12_where 65 = .ok (.iconst 0, 1)) ∧ (decode cX12_where 66 = .ok (.invokevirtual 367, 3) ∧ decode cX12_where 69 = .ok (.istore 4, 2)))) ∧ (((decode cX12_where 71 = .ok (.iload_n 3, 1) ∧ decode cX12_where 72 = .ok (.ifCond .ne 12, 3)) ∧ (decode cX12_where 75 = .ok (.aload_n 0, 1) ∧ decode cX12_where 76 = .ok (.getfield 106, 3))) ∧ ((decode cX12_where 79 = .ok (.iload_n 1, 1) ∧ decode cX12_where 80 = .ok (.iaload, 1)) ∧ (decode cX12_where 81 = .ok (.goto 68, 3) ∧ decode cX12_where 84 = .ok (.iload_n 3, 1)))) := by decide +kernel
theorem dX12_where_58 : decode cX12_where 58 = .ok (.aload_n 0, 1) := bg01_101.1.1.1.1
theorem dX12_where_59 : decode cX12_where 59 = .ok (.iload_n 2, 1) := bg01_101.1.1.1.2
theorem dX12_where_60 : decode cX12_where 60 = .ok (.invokevirtual 432, 3) := bg01_101.1.1.2.1
theorem dX12_where_63 : decode cX12_where 63 = .ok (.aload_n 0, 1) := bg01_101.1.1.2.2
theorem dX12_where_64 : decode cX12_where 64 = .ok (.iload_n 1, 1) := bg01_101.1.2.1.1
theorem dX12_where_65 : decode cX12_where 65 = .ok (.iconst 0, 1) := bg01_101.1.2.1.2
theorem dX12_where_66 : decode cX12_where 66 = .ok (.invokevirtual 367, 3) := bg01_101.1.2.2.1
theorem dX12_where_69 : decode cX12_where 69 = .ok (.istore 4, 2) := bg01_101.1.2.2.2
theorem dX12_where_71 : decode cX12_where 71 = .ok (.iload_n 3, 1) := bg01_101.2.1.1.1
theorem dX12_where_72 : decode cX12_where 72 = .ok (.ifCond .ne 12, 3) := bg01_101.2.1.1.2
theorem dX12_where_75 : decode cX12_where 75 = .ok (.aload_n 0, 1) := bg01_101.2.1.2.1
theorem dX12_where_76 : decode cX12_where 76 = .ok (.getfield 106, 3) := bg01_101.2.1.2.2
theorem dX12_where_79 : decode cX12_where 79 = .ok (.iload_n 1, 1) := bg01_101.2.2.1.1
theorem dX12_where_80 : decode cX12_where 80 = .ok (.iaload, 1) := bg01_101.2.2.1.2
theorem dX12_where_81 : decode cX12_where 81 = .ok (.goto 68, 3) := bg01_101.2.2.2.1
theorem dX12_where_84 : decode cX12_where 84 = .ok (.iload_n 3, 1) := bg01_101.2.2.2.2
theorem bg01_102 : (((decode cX12_where 85 = .ok (.iconst 1, 1) ∧ decode cX12_where 86 = .ok (.if_icmp .ne 12, 3)) ∧ (decode cX12_where 89 = .ok (.aload_n 0, 1) ∧ decode cX12_where 90 = .ok (.getfield 96, 3))) ∧ ((decode cX12_where 93 = .ok (.iload_n 1, 1) ∧ decode cX12_where 94 = .ok (.iaload, 1)) ∧ (decode cX12_where 95 = .ok (.goto 54, 3) ∧ decode cX12_where 98 = .ok (.iload_n 3, 1)))) ∧ (((decode cX12_where 99 = .ok (.iconst 2, 1) ∧ decode cX12_where 100 = .ok (.if_icmp .ne 12, 3)) ∧ (decode cX12_where 103 = .ok (.aload_n 0, 1) ∧ decode cX12_where 104 = .ok (.getfield 99, 3))) ∧ ((decode cX12_where 107 = .ok (.iload_n 1, 1) ∧ decode cX12_where 108 = .ok (.iaload, 1)) ∧ (decode cX12_where 109 = .ok (.goto 40, 3) ∧ decode cX12_where 112 = .ok (.iload_n 3, 1)))) := by decide +kernel
theorem dX12_where_85 : decode cX12_where 85 = .ok (.iconst 1, 1) := bg01_102.1.1.1.1
theorem dX12_where_86 : decode cX12_where 86 = .ok (.if_icmp .ne 12, 3) := bg01_102.1.1.1.2
theorem dX12_where_89 : decode cX12_where 89 = .ok (.aload_n 0, 1) := bg01_102.1.1.2.1
theorem dX12_where_90 : decode cX12_where 90 = .ok (.getfield 96, 3) := bg01_102.1.1.2.2
theorem dX12_where_93 : decode cX12_where 93 = .ok (.iload_n 1, 1) := bg01_102.1.2.1.1
theorem dX12_where_94 : decode cX12_where 94 = .ok (.iaload, 1) := bg01_102.1.2.1.2
theorem dX12_where_95 : decode cX12_where 95 = .ok (.goto 54, 3) := bg01_102.1.2.2.1
theorem dX12_where_98 : decode cX12_where 98 = .ok (.iload_n 3, 1) := bg01_102.1.2.2.2
theorem dX12_where_99 : decode cX12_where 99 = .ok (.iconst 2, 1) := bg01_102.2.1.1.1
theorem dX12_where_100 : decode cX12_where 100 = .ok (.if_icmp .ne 12, 3) := bg01_102.2.1.1.2
theorem dX12_where_103 : decode cX12_where 103 = .ok (.aload_n 0, 1) := bg01_102.2.1.2.1
theorem dX12_where_104 : decode cX12_where 104 = .ok (.getfield 99, 3) := bg01_102.2.1.2.2
theorem dX12_where_107 : decode cX12_where 107 = .ok (.iload_n 1, 1) := bg01_102.2.2.1.1
theorem dX12_where_108 : decode cX12_where 108 = .ok (.iaload, 1) := bg01_102.2.2.1.2
theorem dX12_where_109 : decode cX12_where 109 = .ok (.goto 40, 3) := bg01_102.2.2.2.1
theorem dX12_where_112 : decode cX12_where 112 = .ok (.iload_n 3, 1) := bg01_102.2.2.2.2
theorem bg01_103 : (((decode cX12_where 113 = .ok (.iconst 3, 1) ∧ decode cX12_where 114 = .ok (.if_icmp .ne 12, 3)) ∧ (decode cX12_where 117 = .ok (.aload_n 0, 1) ∧ decode cX12_where 118 = .ok (.getfield 102, 3))) ∧ ((decode cX12_where 121 = .ok (.iload_n 1, 1) ∧ decode cX12_where 122 = .ok (.iaload, 1)) ∧ (decode cX12_where 123 = .ok (.goto 26, 3) ∧ decode cX12_where 126 = .ok (.iload_n 3, 1)))) ∧ (((decode cX12_where 127 = .ok (.iconst 4, 1) ∧ decode cX12_where 128 = .ok (.if_icmp .eq 9, 3)) ∧ (decode cX12_where 131 = .ok (.iload 4, 2) ∧ decode cX12_where 133 = .ok (.iconst (-1), 1))) ∧ ((decode cX12_where 134 = .ok (.if_icmp .ne 8, 3) ∧ decode cX12_where 137 = .ok (.iload 4, 2)) ∧ (decode cX12_where 139 = .ok (.goto 10, 3) ∧ decode cX12_where 142 = .ok (.aload_n 0, 1)))) := by decide +kernel
theorem dX12_where_113 : decode cX12_where 113 = .ok (.iconst 3, 1) := bg01_103.1.1.1.1
theorem dX12_where_114 : decode cX12_where 114 = .ok (.if_icmp .ne 12, 3) := bg01_103.1.1.1.2
theorem dX12_where_117 : decode cX12_where 117 = .ok (.aload_n 0, 1) := bg01_103.1.1.2.1
theorem dX12_where_118 : decode cX12_where 118 = .ok (.getfield 102, 3) := bg01_103.1.1.2.2
theorem dX12_where_121 : decode cX12_where 121 = .ok (.iload_n 1, 1) := bg01_103.1.2.1.1
theorem dX12_where_122 : decode cX12_where 122 = .ok (.iaload, 1) := bg01_103.1.2.1.2
theorem dX12_where_123 : decode cX12_where 123 = .ok (.goto 26, 3) := bg01_103.1.2.2.1
theorem dX12_where_126 : decode cX12_where 126 = .ok (.iload_n 3, 1) := bg01_103.1.2.2.2
theorem dX12_where_127 : decode cX12_where 127 = .ok (.iconst 4, 1) := bg01_103.2.1.1.1
theorem dX12_where_128 : decode cX12_where 128 = .ok (.if_icmp .eq 9, 3) := bg01_103.2.1.1.2
theorem dX12_where_131 : decode cX12_where 131 = .ok (.iload 4, 2) := bg01_103.2.1.2.1
theorem dX12_where_133 : decode cX12_where 133 = .ok (.iconst (-1), 1) := bg01_103.2.1.2.2
theorem dX12_where_134 : decode cX12_where 134 = .ok (.if_icmp .ne 8, 3) := bg01_103.2.2.1.1
theorem dX12_where_137 : decode cX12_where 137 = .ok (.iload 4, 2) := bg01_103.2.2.1.2
theorem dX12_where_139 : decode cX12_where 139 = .ok (.goto 10, 3) := bg01_103.2.2.2.1
theorem dX12_where_142 : decode cX12_where 142 = .ok (.aload_n 0, 1) := bg01_103.2.2.2.2
theorem bg01_104 : (((decode cX12_where 143 = .ok (.iload_n 1, 1) ∧ decode cX12_where 144 = .ok (.iload 4, 2)) ∧ (decode cX12_where 146 = .ok (.invokevirtual 352, 3))) ∧ ((decode cX12_where 149 = .ok (.istore 5, 2) ∧ decode cX12_where 151 = .ok (.aload_n 0, 1)) ∧ (decode cX12_where 152 = .ok (.aload_n 0, 1)))) ∧ (((decode cX12_where 153 = .ok (.getfield 118, 3) ∧ decode cX12_where 156 = .ok (.iconst 0, 1)) ∧ (decode cX12_where 157 = .ok (.invokevirtual 446, 3))) ∧ (decode cX12_where 160 = .ok (.iload 5, 2) ∧ decode cX12_where 162 = .ok (.ireturn, 1))) := by decide +kernel
theorem dX12_where_143 : decode cX12_where 143 = .ok (.iload_n 1, 1) := bg01_104.1.1.1.1
theorem dX12_where_144 : decode cX12_where 144 = .ok (.iload 4, 2) := bg01_104.1.1.1.2
theorem dX12_where_146 : decode cX12_where 146 = .ok (.invokevirtual 352, 3) := bg01_104.1.1.2
theorem dX12_where_149 : decode cX12_where 149 = .ok (.istore 5, 2) := bg01_104.1.2.1.1
theorem dX12_where_151 : decode cX12_where 151 = .ok (.aload_n 0, 1) := bg01_104.1.2.1.2
theorem dX12_where_152 : decode cX12_where 152 = .ok (.aload_n 0, 1) := bg01_104.1.2.2
theorem dX12_where_153 : decode cX12_where 153 = .ok (.getfield 118, 3) := bg01_104.2.1.1.1
theorem dX12_where_156 : decode cX12_where 156 = .ok (.iconst 0, 1) := bg01_104.2.1.1.2
theorem dX12_where_157 : decode cX12_where 157 = .ok (.invokevirtual 446, 3) := bg01_104.2.1.2
theorem dX12_where_160 : decode cX12_where 160 = .ok (.iload 5, 2) := bg01_104.2.2.1
theorem dX12_where_162 : decode cX12_where 162 = .ok (.ireturn, 1) := bg01_104.2.2.2
theorem bg01_105 : (((decode cX12_loafIn 0 = .ok (.iconst (-1), 1) ∧ decode cX12_loafIn 1 = .ok (.istore_n 2, 1)) ∧ (decode cX12_loafIn 2 = .ok (.iconst 0, 1) ∧ decode cX12_loafIn 3 = .ok (.istore_n 3, 1))) ∧ ((decode cX12_loafIn 4 = .ok (.iload_n 3, 1) ∧ decode cX12_loafIn 5 = .ok (.bipush 60, 2)) ∧ (decode cX12_loafIn 7 = .ok (.if_icmp .gt 30, 3) ∧ decode cX12_loafIn 10 = .ok (.iload_n 2, 1)))) ∧ (((decode cX12_loafIn 11 = .ok (.iconst (-1), 1) ∧ decode cX12_loafIn 12 = .ok (.if_icmp .ne 25, 3)) ∧ (decode cX12_loafIn 15 = .ok (.aload_n 0, 1) ∧ decode cX12_loafIn 16 = .ok (.getfield 94, 3))) ∧ ((decode cX12_loafIn 19 = .ok (.iload_n 1, 1) ∧ decode cX12_loafIn 20 = .ok (.iaload, 1)) ∧ (decode cX12_loafIn 21 = .ok (.ifCond .ne 5, 3) ∧ decode cX12_loafIn 24 = .ok (.iload_n 3, 1)))) := by decide +kernel
theorem dX12_loafIn_0 : decode cX12_loafIn 0 = .ok (.iconst (-1), 1) := bg01_105.1.1.1.1
theorem dX12_loafIn_1 : decode cX12_loafIn 1 = .ok (.istore_n 2, 1) := bg01_105.1.1.1.2
theorem dX12_loafIn_2 : decode cX12_loafIn 2 = .ok (.iconst 0, 1) := bg01_105.1.1.2.1
theorem dX12_loafIn_3 : decode cX12_loafIn 3 = .ok (.istore_n 3, 1) := bg01_105.1.1.2.2
theorem dX12_loafIn_4 : decode cX12_loafIn 4 = .ok (.iload_n 3, 1) := bg01_105.1.2.1.1
theorem dX12_loafIn_5 : decode cX12_loafIn 5 = .ok (.bipush 60, 2) := bg01_105.1.2.1.2
theorem dX12_loafIn_7 : decode cX12_loafIn 7 = .ok (.if_icmp .gt 30, 3) := bg01_105.1.2.2.1
theorem dX12_loafIn_10 : decode cX12_loafIn 10 = .ok (.iload_n 2, 1) := bg01_105.1.2.2.2
theorem dX12_loafIn_11 : decode cX12_loafIn 11 = .ok (.iconst (-1), 1) := bg01_105.2.1.1.1
theorem dX12_loafIn_12 : decode cX12_loafIn 12 = .ok (.if_icmp .ne 25, 3) := bg01_105.2.1.1.2
theorem dX12_loafIn_15 : decode cX12_loafIn 15 = .ok (.aload_n 0, 1) := bg01_105.2.1.2.1
theorem dX12_loafIn_16 : decode cX12_loafIn 16 = .ok (.getfield 94, 3) := bg01_105.2.1.2.2
theorem dX12_loafIn_19 : decode cX12_loafIn 19 = .ok (.iload_n 1, 1) := bg01_105.2.2.1.1
theorem dX12_loafIn_20 : decode cX12_loafIn 20 = .ok (.iaload, 1) := bg01_105.2.2.1.2
theorem dX12_loafIn_21 : decode cX12_loafIn 21 = .ok (.ifCond .ne 5, 3) := bg01_105.2.2.2.1
theorem dX12_loafIn_24 : decode cX12_loafIn 24 = .ok (.iload_n 3, 1) := bg01_105.2.2.2.2
theorem bg01_106 : (((decode cX12_loafIn 25 = .ok (.istore_n 2, 1) ∧ decode cX12_loafIn 26 = .ok (.aload_n 0, 1)) ∧ (decode cX12_loafIn 27 = .ok (.iconst 1, 1) ∧ decode cX12_loafIn 28 = .ok (.invokevirtual 432, 3))) ∧ ((decode cX12_loafIn 31 = .ok (.iinc 3 1, 3) ∧ decode cX12_loafIn 34 = .ok (.goto (-30), 3)) ∧ (decode cX12_loafIn 37 = .ok (.aload_n 0, 1)))) ∧ (((decode cX12_loafIn 38 = .ok (.aload_n 0, 1) ∧ decode cX12_loafIn 39 = .ok (.getfield 118, 3)) ∧ (decode cX12_loafIn 42 = .ok (.iconst 0, 1))) ∧ ((decode cX12_loafIn 43 = .ok (.invokevirtual 446, 3) ∧ decode cX12_loafIn 46 = .ok (.iload_n 2, 1)) ∧ (decode cX12_loafIn 47 = .ok (.ireturn, 1)))) := by decide +kernel
theorem dX12_loafIn_25 : decode cX12_loafIn 25 = .ok (.istore_n 2, 1) := bg01_106.1.1.1.1
theorem dX12_loafIn_26 : decode cX12_loafIn 26 = .ok (.aload_n 0, 1) := bg01_106.1.1.1.2
theorem dX12_loafIn_27 : decode cX12_loafIn 27 = .ok (.iconst 1, 1) := bg01_106.1.1.2.1
theorem dX12_loafIn_28 : decode cX12_loafIn 28 = .ok (.invokevirtual 432, 3) := bg01_106.1.1.2.2
theorem dX12_loafIn_31 : decode cX12_loafIn 31 = .ok (.iinc 3 1, 3) := bg01_106.1.2.1.1
theorem dX12_loafIn_34 : decode cX12_loafIn 34 = .ok (.goto (-30), 3) := bg01_106.1.2.1.2
theorem dX12_loafIn_37 : decode cX12_loafIn 37 = .ok (.aload_n 0, 1) := bg01_106.1.2.2
theorem dX12_loafIn_38 : decode cX12_loafIn 38 = .ok (.aload_n 0, 1) := bg01_106.2.1.1.1
theorem dX12_loafIn_39 : decode cX12_loafIn 39 = .ok (.getfield 118, 3) := bg01_106.2.1.1.2
theorem dX12_loafIn_42 : decode cX12_loafIn 42 = .ok (.iconst 0, 1) := bg01_106.2.1.2
theorem dX12_loafIn_43 : decode cX12_loafIn 43 = .ok (.invokevirtual 446, 3) := bg01_106.2.2.1.1
theorem dX12_loafIn_46 : decode cX12_loafIn 46 = .ok (.iload_n 2, 1) := bg01_106.2.2.1.2
theorem dX12_loafIn_47 : decode cX12_loafIn 47 = .ok (.ireturn, 1) := bg01_106.2.2.2
theorem bg01_107 : (((decode cX12_loaf 0 = .ok (.aload_n 0, 1) ∧ decode cX12_loaf 1 = .ok (.iconst 0, 1)) ∧ (decode cX12_loaf 2 = .ok (.putfield 163, 3) ∧ decode cX12_loaf 5 = .ok (.aload_n 0, 1))) ∧ ((decode cX12_loaf 6 = .ok (.iload_n 1, 1) ∧ decode cX12_loaf 7 = .ok (.invokevirtual 411, 3)) ∧ (decode cX12_loaf 10 = .ok (.ifCond .ne 9, 3) ∧ decode cX12_loaf 13 = .ok (.aload_n 0, 1)))) ∧ (((decode cX12_loaf 14 = .ok (.iconst 1, 1) ∧ decode cX12_loaf 15 = .ok (.invokevirtual 310, 3)) ∧ (decode cX12_loaf 18 = .ok (.ireturn, 1) ∧ decode cX12_loaf 19 = .ok (.aload_n 0, 1))) ∧ ((decode cX12_loaf 20 = .ok (.aload_n 0, 1) ∧ decode cX12_loaf 21 = .ok (.getfield 118, 3)) ∧ (decode cX12_loaf 24 = .ok (.iconst 0, 1) ∧ decode cX12_loaf 25 = .ok (.invokevirtual 420, 3)))) := by decide +kernel
theorem dX12_loaf_0 : decode cX12_loaf 0 = .ok (.aload_n 0, 1) := bg01_107.1.1.1.1
theorem dX12_loaf_1 : decode cX12_loaf 1 = .ok (.iconst 0, 1) := bg01_107.1.1.1.2
theorem dX12_loaf_2 : decode cX12_loaf 2 = .ok (.putfield 163, 3) := bg01_107.1.1.2.1
theorem dX12_loaf_5 : decode cX12_loaf 5 = .ok (.aload_n 0, 1) := bg01_107.1.1.2.2
theorem dX12_loaf_6 : decode cX12_loaf 6 = .ok (.iload_n 1, 1) := bg01_107.1.2.1.1
theorem dX12_loaf_7 : decode cX12_loaf 7 = .ok (.invokevirtual 411, 3) := bg01_107.1.2.1.2
theorem dX12_loaf_10 : decode cX12_loaf 10 = .ok (.ifCond .ne 9, 3) := bg01_107.1.2.2.1
theorem dX12_loaf_13 : decode cX12_loaf 13 = .ok (.aload_n 0, 1) := bg01_107.1.2.2.2
theorem dX12_loaf_14 : decode cX12_loaf 14 = .ok (.iconst 1, 1) := bg01_107.2.1.1.1
theorem dX12_loaf_15 : decode cX12_loaf 15 = .ok (.invokevirtual 310, 3) := bg01_107.2.1.1.2
theorem dX12_loaf_18 : decode cX12_loaf 18 = .ok (.ireturn, 1) := bg01_107.2.1.2.1
theorem dX12_loaf_19 : decode cX12_loaf 19 = .ok (.aload_n 0, 1) := bg01_107.2.1.2.2
theorem dX12_loaf_20 : decode cX12_loaf 20 = .ok (.aload_n 0, 1) := bg01_107.2.2.1.1
theorem dX12_loaf_21 : decode cX12_loaf 21 = .ok (.getfield 118, 3) := bg01_107.2.2.1.2
theorem dX12_loaf_24 : decode cX12_loaf 24 = .ok (.iconst 0, 1) := bg01_107.2.2.2.1
theorem dX12_loaf_25 : decode cX12_loaf 25 = .ok (.invokevirtual 420, 3) := bg01_107.2.2.2.2
theorem bg01_108 : ((decode cX12_loaf 28 = .ok (.aload_n 0, 1) ∧ decode cX12_loaf 29 = .ok (.iload_n 1, 1)) ∧ (decode cX12_loaf 30 = .ok (.invokevirtual 455, 3) ∧ decode cX12_loaf 33 = .ok (.ireturn, 1))) ∧ ((decode cX12_later 0 = .ok (.aload_n 0, 1) ∧ decode cX12_later 1 = .ok (.iconst 0, 1)) ∧ (decode cX12_later 2 = .ok (.putfield 163, 3) ∧ decode cX12_later 5 = .ok (.iload_n 2, 1))) := by decide +kernel
theorem dX12_loaf_28 : decode cX12_loaf 28 = .ok (.aload_n 0, 1) := bg01_108.1.1.1
theorem dX12_loaf_29 : decode cX12_loaf 29 = .ok (.iload_n 1, 1) := bg01_108.1.1.2
theorem dX12_loaf_30 : decode cX12_loaf 30 = .ok (.invokevirtual 455, 3) := bg01_108.1.2.1
theorem dX12_loaf_33 : decode cX12_loaf 33 = .ok (.ireturn, 1) := bg01_108.1.2.2
theorem dX12_later_0 : decode cX12_later 0 = .ok (.aload_n 0, 1) := bg01_108.2.1.1
theorem dX12_later_1 : decode cX12_later 1 = .ok (.iconst 0, 1) := bg01_108.2.1.2
theorem dX12_later_2 : decode cX12_later 2 = .ok (.putfield 163, 3) := bg01_108.2.2.1
theorem dX12_later_5 : decode cX12_later 5 = .ok (.iload_n 2, 1) := bg01_108.2.2.2
theorem bg01_109 : (((decode cX12_later 6 = .ok (.i2l, 1) ∧ decode cX12_later 7 = .ok (.lconst 0, 1)) ∧ (decode cX12_later 8 = .ok (.ldc2_w 458, 3) ∧ decode cX12_later 11 = .ok (.invokestatic 166, 3))) ∧ ((decode cX12_later 14 = .ok (.ifCond .ne 9, 3) ∧ decode cX12_later 17 = .ok (.aload_n 0, 1)) ∧ (decode cX12_later 18 = .ok (.iconst 1, 1) ∧ decode cX12_later 19 = .ok (.invokevirtual 310, 3)))) ∧ (((decode cX12_later 22 = .ok (.ireturn, 1) ∧ decode cX12_later 23 = .ok (.iload_n 1, 1)) ∧ (decode cX12_later 24 = .ok (.i2l, 1) ∧ decode cX12_later 25 = .ok (.lconst 0, 1))) ∧ ((decode cX12_later 26 = .ok (.ldc2_w 451, 3) ∧ decode cX12_later 29 = .ok (.invokestatic 166, 3)) ∧ (decode cX12_later 32 = .ok (.ifCond .ne 9, 3) ∧ decode cX12_later 35 = .ok (.aload_n 0, 1)))) := by decide +kernel
theorem dX12_later_6 : decode cX12_later 6 = .ok (.i2l, 1) := bg01_109.1.1.1.1
theorem dX12_later_7 : decode cX12_later 7 = .ok (.lconst 0, 1) := bg01_109.1.1.1.2
theorem dX12_later_8 : decode cX12_later 8 = .ok (.ldc2_w 458, 3) := bg01_109.1.1.2.1
theorem dX12_later_11 : decode cX12_later 11 = .ok (.invokestatic 166, 3) := bg01_109.1.1.2.2
theorem dX12_later_14 : decode cX12_later 14 = .ok (.ifCond .ne 9, 3) := bg01_109.1.2.1.1
theorem dX12_later_17 : decode cX12_later 17 = .ok (.aload_n 0, 1) := bg01_109.1.2.1.2
theorem dX12_later_18 : decode cX12_later 18 = .ok (.iconst 1, 1) := bg01_109.1.2.2.1
theorem dX12_later_19 : decode cX12_later 19 = .ok (.invokevirtual 310, 3) := bg01_109.1.2.2.2
theorem dX12_later_22 : decode cX12_later 22 = .ok (.ireturn, 1) := bg01_109.2.1.1.1
theorem dX12_later_23 : decode cX12_later 23 = .ok (.iload_n 1, 1) := bg01_109.2.1.1.2
theorem dX12_later_24 : decode cX12_later 24 = .ok (.i2l, 1) := bg01_109.2.1.2.1
theorem dX12_later_25 : decode cX12_later 25 = .ok (.lconst 0, 1) := bg01_109.2.1.2.2
theorem dX12_later_26 : decode cX12_later 26 = .ok (.ldc2_w 451, 3) := bg01_109.2.2.1.1
theorem dX12_later_29 : decode cX12_later 29 = .ok (.invokestatic 166, 3) := bg01_109.2.2.1.2
theorem dX12_later_32 : decode cX12_later 32 = .ok (.ifCond .ne 9, 3) := bg01_109.2.2.2.1
theorem dX12_later_35 : decode cX12_later 35 = .ok (.aload_n 0, 1) := bg01_109.2.2.2.2
theorem bg01_110 : (((decode cX12_later 36 = .ok (.iconst 2, 1) ∧ decode cX12_later 37 = .ok (.invokevirtual 310, 3)) ∧ (decode cX12_later 40 = .ok (.ireturn, 1) ∧ decode cX12_later 41 = .ok (.aload_n 0, 1))) ∧ ((decode cX12_later 42 = .ok (.aload_n 0, 1) ∧ decode cX12_later 43 = .ok (.getfield 118, 3)) ∧ (decode cX12_later 46 = .ok (.iconst 0, 1) ∧ decode cX12_later 47 = .ok (.invokevirtual 420, 3)))) ∧ (((decode cX12_later 50 = .ok (.aload_n 0, 1) ∧ decode cX12_later 51 = .ok (.iload_n 1, 1)) ∧ (decode cX12_later 52 = .ok (.invokevirtual 432, 3) ∧ decode cX12_later 55 = .ok (.iload_n 2, 1))) ∧ ((decode cX12_later 56 = .ok (.ifCond .ne 10, 3) ∧ decode cX12_later 59 = .ok (.aload_n 0, 1)) ∧ (decode cX12_later 60 = .ok (.invokevirtual 393, 3) ∧ decode cX12_later 63 = .ok (.goto 19, 3)))) := by decide +kernel
theorem dX12_later_36 : decode cX12_later 36 = .ok (.iconst 2, 1) := bg01_110.1.1.1.1
theorem dX12_later_37 : decode cX12_later 37 = .ok (.invokevirtual 310, 3) := bg01_110.1.1.1.2
theorem dX12_later_40 : decode cX12_later 40 = .ok (.ireturn, 1) := bg01_110.1.1.2.1
theorem dX12_later_41 : decode cX12_later 41 = .ok (.aload_n 0, 1) := bg01_110.1.1.2.2
theorem dX12_later_42 : decode cX12_later 42 = .ok (.aload_n 0, 1) := bg01_110.1.2.1.1
theorem dX12_later_43 : decode cX12_later 43 = .ok (.getfield 118, 3) := bg01_110.1.2.1.2
theorem dX12_later_46 : decode cX12_later 46 = .ok (.iconst 0, 1) := bg01_110.1.2.2.1
theorem dX12_later_47 : decode cX12_later 47 = .ok (.invokevirtual 420, 3) := bg01_110.1.2.2.2
theorem dX12_later_50 : decode cX12_later 50 = .ok (.aload_n 0, 1) := bg01_110.2.1.1.1
theorem dX12_later_51 : decode cX12_later 51 = .ok (.iload_n 1, 1) := bg01_110.2.1.1.2
theorem dX12_later_52 : decode cX12_later 52 = .ok (.invokevirtual 432, 3) := bg01_110.2.1.2.1
theorem dX12_later_55 : decode cX12_later 55 = .ok (.iload_n 2, 1) := bg01_110.2.1.2.2
theorem dX12_later_56 : decode cX12_later 56 = .ok (.ifCond .ne 10, 3) := bg01_110.2.2.1.1
theorem dX12_later_59 : decode cX12_later 59 = .ok (.aload_n 0, 1) := bg01_110.2.2.1.2
theorem dX12_later_60 : decode cX12_later 60 = .ok (.invokevirtual 393, 3) := bg01_110.2.2.2.1
theorem dX12_later_63 : decode cX12_later 63 = .ok (.goto 19, 3) := bg01_110.2.2.2.2
theorem bg01_111 : (((decode cX12_later 66 = .ok (.iload_n 2, 1) ∧ decode cX12_later 67 = .ok (.iconst 1, 1)) ∧ (decode cX12_later 68 = .ok (.if_icmp .ne 10, 3) ∧ decode cX12_later 71 = .ok (.aload_n 0, 1))) ∧ ((decode cX12_later 72 = .ok (.invokevirtual 399, 3) ∧ decode cX12_later 75 = .ok (.goto 7, 3)) ∧ (decode cX12_later 78 = .ok (.aload_n 0, 1) ∧ decode cX12_later 79 = .ok (.invokevirtual 402, 3)))) ∧ (((decode cX12_later 82 = .ok (.istore_n 3, 1) ∧ decode cX12_later 83 = .ok (.aload_n 0, 1)) ∧ (decode cX12_later 84 = .ok (.aload_n 0, 1) ∧ decode cX12_later 85 = .ok (.getfield 118, 3))) ∧ ((decode cX12_later 88 = .ok (.iconst 0, 1) ∧ decode cX12_later 89 = .ok (.invokevirtual 446, 3)) ∧ (decode cX12_later 92 = .ok (.iload_n 3, 1) ∧ decode cX12_later 93 = .ok (.ireturn, 1)))) := by decide +kernel
theorem dX12_later_66 : decode cX12_later 66 = .ok (.iload_n 2, 1) := bg01_111.1.1.1.1
theorem dX12_later_67 : decode cX12_later 67 = .ok (.iconst 1, 1) := bg01_111.1.1.1.2
theorem dX12_later_68 : decode cX12_later 68 = .ok (.if_icmp .ne 10, 3) := bg01_111.1.1.2.1
theorem dX12_later_71 : decode cX12_later 71 = .ok (.aload_n 0, 1) := bg01_111.1.1.2.2
theorem dX12_later_72 : decode cX12_later 72 = .ok (.invokevirtual 399, 3) := bg01_111.1.2.1.1
theorem dX12_later_75 : decode cX12_later 75 = .ok (.goto 7, 3) := bg01_111.1.2.1.2
theorem dX12_later_78 : decode cX12_later 78 = .ok (.aload_n 0, 1) := bg01_111.1.2.2.1
theorem dX12_later_79 : decode cX12_later 79 = .ok (.invokevirtual 402, 3) := bg01_111.1.2.2.2
theorem dX12_later_82 : decode cX12_later 82 = .ok (.istore_n 3, 1) := bg01_111.2.1.1.1
theorem dX12_later_83 : decode cX12_later 83 = .ok (.aload_n 0, 1) := bg01_111.2.1.1.2
theorem dX12_later_84 : decode cX12_later 84 = .ok (.aload_n 0, 1) := bg01_111.2.1.2.1
theorem dX12_later_85 : decode cX12_later 85 = .ok (.getfield 118, 3) := bg01_111.2.1.2.2
theorem dX12_later_88 : decode cX12_later 88 = .ok (.iconst 0, 1) := bg01_111.2.2.1.1
theorem dX12_later_89 : decode cX12_later 89 = .ok (.invokevirtual 446, 3) := bg01_111.2.2.1.2
theorem dX12_later_92 : decode cX12_later 92 = .ok (.iload_n 3, 1) := bg01_111.2.2.2.1
theorem dX12_later_93 : decode cX12_later 93 = .ok (.ireturn, 1) := bg01_111.2.2.2.2
theorem bg01_112 : (((decode cX12_sat 0 = .ok (.aload_n 0, 1) ∧ decode cX12_sat 1 = .ok (.iconst 0, 1)) ∧ (decode cX12_sat 2 = .ok (.putfield 163, 3) ∧ decode cX12_sat 5 = .ok (.aload_n 0, 1))) ∧ ((decode cX12_sat 6 = .ok (.iload_n 1, 1) ∧ decode cX12_sat 7 = .ok (.invokevirtual 411, 3)) ∧ (decode cX12_sat 10 = .ok (.ifCond .ne 9, 3) ∧ decode cX12_sat 13 = .ok (.aload_n 0, 1)))) ∧ (((decode cX12_sat 14 = .ok (.iconst 1, 1) ∧ decode cX12_sat 15 = .ok (.invokevirtual 310, 3)) ∧ (decode cX12_sat 18 = .ok (.ireturn, 1) ∧ decode cX12_sat 19 = .ok (.iload_n 2, 1))) ∧ ((decode cX12_sat 20 = .ok (.i2l, 1) ∧ decode cX12_sat 21 = .ok (.lconst 1, 1)) ∧ (decode cX12_sat 22 = .ok (.ldc2_w 451, 3) ∧ decode cX12_sat 25 = .ok (.invokestatic 166, 3)))) := by decide +kernel
theorem dX12_sat_0 : decode cX12_sat 0 = .ok (.aload_n 0, 1) := bg01_112.1.1.1.1
theorem dX12_sat_1 : decode cX12_sat 1 = .ok (.iconst 0, 1) := bg01_112.1.1.1.2
theorem dX12_sat_2 : decode cX12_sat 2 = .ok (.putfield 163, 3) := bg01_112.1.1.2.1
theorem dX12_sat_5 : decode cX12_sat 5 = .ok (.aload_n 0, 1) := bg01_112.1.1.2.2
theorem dX12_sat_6 : decode cX12_sat 6 = .ok (.iload_n 1, 1) := bg01_112.1.2.1.1
theorem dX12_sat_7 : decode cX12_sat 7 = .ok (.invokevirtual 411, 3) := bg01_112.1.2.1.2
theorem dX12_sat_10 : decode cX12_sat 10 = .ok (.ifCond .ne 9, 3) := bg01_112.1.2.2.1
theorem dX12_sat_13 : decode cX12_sat 13 = .ok (.aload_n 0, 1) := bg01_112.1.2.2.2
theorem dX12_sat_14 : decode cX12_sat 14 = .ok (.iconst 1, 1) := bg01_112.2.1.1.1
theorem dX12_sat_15 : decode cX12_sat 15 = .ok (.invokevirtual 310, 3) := bg01_112.2.1.1.2
theorem dX12_sat_18 : decode cX12_sat 18 = .ok (.ireturn, 1) := bg01_112.2.1.2.1
theorem dX12_sat_19 : decode cX12_sat 19 = .ok (.iload_n 2, 1) := bg01_112.2.1.2.2
theorem dX12_sat_20 : decode cX12_sat 20 = .ok (.i2l, 1) := bg01_112.2.2.1.1
theorem dX12_sat_21 : decode cX12_sat 21 = .ok (.lconst 1, 1) := bg01_112.2.2.1.2
theorem dX12_sat_22 : decode cX12_sat 22 = .ok (.ldc2_w 451, 3) := bg01_112.2.2.2.1
theorem dX12_sat_25 : decode cX12_sat 25 = .ok (.invokestatic 166, 3) := bg01_112.2.2.2.2
theorem bg01_113 : (((decode cX12_sat 28 = .ok (.ifCond .ne 9, 3) ∧ decode cX12_sat 31 = .ok (.aload_n 0, 1)) ∧ (decode cX12_sat 32 = .ok (.iconst 2, 1) ∧ decode cX12_sat 33 = .ok (.invokevirtual 310, 3))) ∧ ((decode cX12_sat 36 = .ok (.ireturn, 1) ∧ decode cX12_sat 37 = .ok (.aload_n 0, 1)) ∧ (decode cX12_sat 38 = .ok (.aload_n 0, 1) ∧ decode cX12_sat 39 = .ok (.getfield 118, 3)))) ∧ (((decode cX12_sat 42 = .ok (.iconst 0, 1) ∧ decode cX12_sat 43 = .ok (.invokevirtual 420, 3)) ∧ (decode cX12_sat 46 = .ok (.iconst 0, 1) ∧ decode cX12_sat 47 = .ok (.istore_n 3, 1))) ∧ ((decode cX12_sat 48 = .ok (.iconst 0, 1) ∧ decode cX12_sat 49 = .ok (.istore 4, 2)) ∧ (decode cX12_sat 51 = .ok (.iload 4, 2) ∧ decode cX12_sat 53 = .ok (.iload_n 2, 1)))) := by decide +kernel
theorem dX12_sat_28 : decode cX12_sat 28 = .ok (.ifCond .ne 9, 3) := bg01_113.1.1.1.1
theorem dX12_sat_31 : decode cX12_sat 31 = .ok (.aload_n 0, 1) := bg01_113.1.1.1.2
theorem dX12_sat_32 : decode cX12_sat 32 = .ok (.iconst 2, 1) := bg01_113.1.1.2.1
theorem dX12_sat_33 : decode cX12_sat 33 = .ok (.invokevirtual 310, 3) := bg01_113.1.1.2.2
theorem dX12_sat_36 : decode cX12_sat 36 = .ok (.ireturn, 1) := bg01_113.1.2.1.1
theorem dX12_sat_37 : decode cX12_sat 37 = .ok (.aload_n 0, 1) := bg01_113.1.2.1.2
theorem dX12_sat_38 : decode cX12_sat 38 = .ok (.aload_n 0, 1) := bg01_113.1.2.2.1
theorem dX12_sat_39 : decode cX12_sat 39 = .ok (.getfield 118, 3) := bg01_113.1.2.2.2
theorem dX12_sat_42 : decode cX12_sat 42 = .ok (.iconst 0, 1) := bg01_113.2.1.1.1
theorem dX12_sat_43 : decode cX12_sat 43 = .ok (.invokevirtual 420, 3) := bg01_113.2.1.1.2
theorem dX12_sat_46 : decode cX12_sat 46 = .ok (.iconst 0, 1) := bg01_113.2.1.2.1
theorem dX12_sat_47 : decode cX12_sat 47 = .ok (.istore_n 3, 1) := bg01_113.2.1.2.2
theorem dX12_sat_48 : decode cX12_sat 48 = .ok (.iconst 0, 1) := bg01_113.2.2.1.1
theorem dX12_sat_49 : decode cX12_sat 49 = .ok (.istore 4, 2) := bg01_113.2.2.1.2
theorem dX12_sat_51 : decode cX12_sat 51 = .ok (.iload 4, 2) := bg01_113.2.2.2.1
theorem dX12_sat_53 : decode cX12_sat 53 = .ok (.iload_n 2, 1) := bg01_113.2.2.2.2
theorem bg01_114 : (((decode cX12_sat 54 = .ok (.if_icmp .ge 31, 3) ∧ decode cX12_sat 57 = .ok (.aload_n 0, 1)) ∧ (decode cX12_sat 58 = .ok (.iconst 1, 1) ∧ decode cX12_sat 59 = .ok (.invokevirtual 432, 3))) ∧ ((decode cX12_sat 62 = .ok (.iload_n 3, 1) ∧ decode cX12_sat 63 = .ok (.aload_n 0, 1)) ∧ (decode cX12_sat 64 = .ok (.iload_n 1, 1) ∧ decode cX12_sat 65 = .ok (.invokevirtual 355, 3)))) ∧ (((decode cX12_sat 68 = .ok (.iconst (-1), 1) ∧ decode cX12_sat 69 = .ok (.if_icmp .eq 7, 3)) ∧ (decode cX12_sat 72 = .ok (.iconst 1, 1) ∧ decode cX12_sat 73 = .ok (.goto 4, 3))) ∧ ((decode cX12_sat 76 = .ok (.iconst 0, 1) ∧ decode cX12_sat 77 = .ok (.iadd, 1)) ∧ (decode cX12_sat 78 = .ok (.istore_n 3, 1) ∧ decode cX12_sat 79 = .ok (.iinc 4 1, 3)))) := by decide +kernel
theorem dX12_sat_54 : decode cX12_sat 54 = .ok (.if_icmp .ge 31, 3) := bg01_114.1.1.1.1
theorem dX12_sat_57 : decode cX12_sat 57 = .ok (.aload_n 0, 1) := bg01_114.1.1.1.2
theorem dX12_sat_58 : decode cX12_sat 58 = .ok (.iconst 1, 1) := bg01_114.1.1.2.1
theorem dX12_sat_59 : decode cX12_sat 59 = .ok (.invokevirtual 432, 3) := bg01_114.1.1.2.2
theorem dX12_sat_62 : decode cX12_sat 62 = .ok (.iload_n 3, 1) := bg01_114.1.2.1.1
theorem dX12_sat_63 : decode cX12_sat 63 = .ok (.aload_n 0, 1) := bg01_114.1.2.1.2
theorem dX12_sat_64 : decode cX12_sat 64 = .ok (.iload_n 1, 1) := bg01_114.1.2.2.1
theorem dX12_sat_65 : decode cX12_sat 65 = .ok (.invokevirtual 355, 3) := bg01_114.1.2.2.2
theorem dX12_sat_68 : decode cX12_sat 68 = .ok (.iconst (-1), 1) := bg01_114.2.1.1.1
theorem dX12_sat_69 : decode cX12_sat 69 = .ok (.if_icmp .eq 7, 3) := bg01_114.2.1.1.2
theorem dX12_sat_72 : decode cX12_sat 72 = .ok (.iconst 1, 1) := bg01_114.2.1.2.1
theorem dX12_sat_73 : decode cX12_sat 73 = .ok (.goto 4, 3) := bg01_114.2.1.2.2
theorem dX12_sat_76 : decode cX12_sat 76 = .ok (.iconst 0, 1) := bg01_114.2.2.1.1
theorem dX12_sat_77 : decode cX12_sat 77 = .ok (.iadd, 1) := bg01_114.2.2.1.2
theorem dX12_sat_78 : decode cX12_sat 78 = .ok (.istore_n 3, 1) := bg01_114.2.2.2.1
theorem dX12_sat_79 : decode cX12_sat 79 = .ok (.iinc 4 1, 3) := bg01_114.2.2.2.2
theorem bg01_115 : ((decode cX12_sat 82 = .ok (.goto (-31), 3) ∧ decode cX12_sat 85 = .ok (.aload_n 0, 1)) ∧ (decode cX12_sat 86 = .ok (.aload_n 0, 1) ∧ decode cX12_sat 87 = .ok (.getfield 118, 3))) ∧ ((decode cX12_sat 90 = .ok (.iconst 0, 1) ∧ decode cX12_sat 91 = .ok (.invokevirtual 446, 3)) ∧ (decode cX12_sat 94 = .ok (.iload_n 3, 1) ∧ decode cX12_sat 95 = .ok (.ireturn, 1))) := by decide +kernel
theorem dX12_sat_82 : decode cX12_sat 82 = .ok (.goto (-31), 3) := bg01_115.1.1.1
theorem dX12_sat_85 : decode cX12_sat 85 = .ok (.aload_n 0, 1) := bg01_115.1.1.2
theorem dX12_sat_86 : decode cX12_sat 86 = .ok (.aload_n 0, 1) := bg01_115.1.2.1
theorem dX12_sat_87 : decode cX12_sat 87 = .ok (.getfield 118, 3) := bg01_115.1.2.2
theorem dX12_sat_90 : decode cX12_sat 90 = .ok (.iconst 0, 1) := bg01_115.2.1.1
theorem dX12_sat_91 : decode cX12_sat 91 = .ok (.invokevirtual 446, 3) := bg01_115.2.1.2
theorem dX12_sat_94 : decode cX12_sat 94 = .ok (.iload_n 3, 1) := bg01_115.2.2.1
theorem dX12_sat_95 : decode cX12_sat 95 = .ok (.ireturn, 1) := bg01_115.2.2.2
theorem bg01_116 : (((decode cX12_fits 0 = .ok (.aload_n 0, 1) ∧ decode cX12_fits 1 = .ok (.iconst 0, 1)) ∧ (decode cX12_fits 2 = .ok (.putfield 163, 3) ∧ decode cX12_fits 5 = .ok (.aload_n 0, 1))) ∧ ((decode cX12_fits 6 = .ok (.iload_n 1, 1) ∧ decode cX12_fits 7 = .ok (.invokevirtual 417, 3)) ∧ (decode cX12_fits 10 = .ok (.ifCond .eq 11, 3) ∧ decode cX12_fits 13 = .ok (.aload_n 0, 1)))) ∧ (((decode cX12_fits 14 = .ok (.iload_n 2, 1) ∧ decode cX12_fits 15 = .ok (.invokevirtual 411, 3)) ∧ (decode cX12_fits 18 = .ok (.ifCond .ne 9, 3) ∧ decode cX12_fits 21 = .ok (.aload_n 0, 1))) ∧ ((decode cX12_fits 22 = .ok (.iconst 1, 1) ∧ decode cX12_fits 23 = .ok (.invokevirtual 310, 3)) ∧ (decode cX12_fits 26 = .ok (.ireturn, 1) ∧ decode cX12_fits 27 = .ok (.aload_n 0, 1)))) := by decide +kernel
theorem dX12_fits_0 : decode cX12_fits 0 = .ok (.aload_n 0, 1) := bg01_116.1.1.1.1
theorem dX12_fits_1 : decode cX12_fits 1 = .ok (.iconst 0, 1) := bg01_116.1.1.1.2
theorem dX12_fits_2 : decode cX12_fits 2 = .ok (.putfield 163, 3) := bg01_116.1.1.2.1
theorem dX12_fits_5 : decode cX12_fits 5 = .ok (.aload_n 0, 1) := bg01_116.1.1.2.2
theorem dX12_fits_6 : decode cX12_fits 6 = .ok (.iload_n 1, 1) := bg01_116.1.2.1.1
theorem dX12_fits_7 : decode cX12_fits 7 = .ok (.invokevirtual 417, 3) := bg01_116.1.2.1.2
theorem dX12_fits_10 : decode cX12_fits 10 = .ok (.ifCond .eq 11, 3) := bg01_116.1.2.2.1
theorem dX12_fits_13 : decode cX12_fits 13 = .ok (.aload_n 0, 1) := bg01_116.1.2.2.2
theorem dX12_fits_14 : decode cX12_fits 14 = .ok (.iload_n 2, 1) := bg01_116.2.1.1.1
theorem dX12_fits_15 : decode cX12_fits 15 = .ok (.invokevirtual 411, 3) := bg01_116.2.1.1.2
theorem dX12_fits_18 : decode cX12_fits 18 = .ok (.ifCond .ne 9, 3) := bg01_116.2.1.2.1
theorem dX12_fits_21 : decode cX12_fits 21 = .ok (.aload_n 0, 1) := bg01_116.2.1.2.2
theorem dX12_fits_22 : decode cX12_fits 22 = .ok (.iconst 1, 1) := bg01_116.2.2.1.1
theorem dX12_fits_23 : decode cX12_fits 23 = .ok (.invokevirtual 310, 3) := bg01_116.2.2.1.2
theorem dX12_fits_26 : decode cX12_fits 26 = .ok (.ireturn, 1) := bg01_116.2.2.2.1
theorem dX12_fits_27 : decode cX12_fits 27 = .ok (.aload_n 0, 1) := bg01_116.2.2.2.2
theorem bg01_117 : (((decode cX12_fits 28 = .ok (.aload_n 0, 1) ∧ decode cX12_fits 29 = .ok (.getfield 118, 3)) ∧ (decode cX12_fits 32 = .ok (.iconst 0, 1) ∧ decode cX12_fits 33 = .ok (.invokevirtual 420, 3))) ∧ ((decode cX12_fits 36 = .ok (.iconst (-1), 1) ∧ decode cX12_fits 37 = .ok (.istore_n 3, 1)) ∧ (decode cX12_fits 38 = .ok (.iconst 0, 1) ∧ decode cX12_fits 39 = .ok (.istore 4, 2)))) ∧ (((decode cX12_fits 41 = .ok (.iload 4, 2) ∧ decode cX12_fits 43 = .ok (.bipush 60, 2)) ∧ (decode cX12_fits 45 = .ok (.if_icmp .gt 31, 3) ∧ decode cX12_fits 48 = .ok (.iload_n 3, 1))) ∧ ((decode cX12_fits 49 = .ok (.iconst (-1), 1) ∧ decode cX12_fits 50 = .ok (.if_icmp .ne 26, 3)) ∧ (decode cX12_fits 53 = .ok (.aload_n 0, 1) ∧ decode cX12_fits 54 = .ok (.iload_n 1, 1)))) := by decide +kernel
theorem dX12_fits_28 : decode cX12_fits 28 = .ok (.aload_n 0, 1) := bg01_117.1.1.1.1
theorem dX12_fits_29 : decode cX12_fits 29 = .ok (.getfield 118, 3) := bg01_117.1.1.1.2
theorem dX12_fits_32 : decode cX12_fits 32 = .ok (.iconst 0, 1) := bg01_117.1.1.2.1
theorem dX12_fits_33 : decode cX12_fits 33 = .ok (.invokevirtual 420, 3) := bg01_117.1.1.2.2
theorem dX12_fits_36 : decode cX12_fits 36 = .ok (.iconst (-1), 1) := bg01_117.1.2.1.1
theorem dX12_fits_37 : decode cX12_fits 37 = .ok (.istore_n 3, 1) := bg01_117.1.2.1.2
theorem dX12_fits_38 : decode cX12_fits 38 = .ok (.iconst 0, 1) := bg01_117.1.2.2.1
theorem dX12_fits_39 : decode cX12_fits 39 = .ok (.istore 4, 2) := bg01_117.1.2.2.2
theorem dX12_fits_41 : decode cX12_fits 41 = .ok (.iload 4, 2) := bg01_117.2.1.1.1
theorem dX12_fits_43 : decode cX12_fits 43 = .ok (.bipush 60, 2) := bg01_117.2.1.1.2
theorem dX12_fits_45 : decode cX12_fits 45 = .ok (.if_icmp .gt 31, 3) := bg01_117.2.1.2.1
theorem dX12_fits_48 : decode cX12_fits 48 = .ok (.iload_n 3, 1) := bg01_117.2.1.2.2
theorem dX12_fits_49 : decode cX12_fits 49 = .ok (.iconst (-1), 1) := bg01_117.2.2.1.1
theorem dX12_fits_50 : decode cX12_fits 50 = .ok (.if_icmp .ne 26, 3) := bg01_117.2.2.1.2
theorem dX12_fits_53 : decode cX12_fits 53 = .ok (.aload_n 0, 1) := bg01_117.2.2.2.1
theorem dX12_fits_54 : decode cX12_fits 54 = .ok (.iload_n 1, 1) := bg01_117.2.2.2.2
theorem bg01_118 : (((decode cX12_fits 55 = .ok (.iload_n 2, 1) ∧ decode cX12_fits 56 = .ok (.invokevirtual 352, 3)) ∧ (decode cX12_fits 59 = .ok (.ifCond .ne 6, 3) ∧ decode cX12_fits 62 = .ok (.iload 4, 2))) ∧ ((decode cX12_fits 64 = .ok (.istore_n 3, 1) ∧ decode cX12_fits 65 = .ok (.aload_n 0, 1)) ∧ (decode cX12_fits 66 = .ok (.iconst 1, 1) ∧ decode cX12_fits 67 = .ok (.invokevirtual 432, 3)))) ∧ (((decode cX12_fits 70 = .ok (.iinc 4 1, 3) ∧ decode cX12_fits 73 = .ok (.goto (-32), 3)) ∧ (decode cX12_fits 76 = .ok (.aload_n 0, 1) ∧ decode cX12_fits 77 = .ok (.aload_n 0, 1))) ∧ ((decode cX12_fits 78 = .ok (.getfield 118, 3) ∧ decode cX12_fits 81 = .ok (.iconst 0, 1)) ∧ (decode cX12_fits 82 = .ok (.invokevirtual 446, 3) ∧ decode cX12_fits 85 = .ok (.iload_n 3, 1)))) := by decide +kernel
theorem dX12_fits_55 : decode cX12_fits 55 = .ok (.iload_n 2, 1) := bg01_118.1.1.1.1
theorem dX12_fits_56 : decode cX12_fits 56 = .ok (.invokevirtual 352, 3) := bg01_118.1.1.1.2
theorem dX12_fits_59 : decode cX12_fits 59 = .ok (.ifCond .ne 6, 3) := bg01_118.1.1.2.1
theorem dX12_fits_62 : decode cX12_fits 62 = .ok (.iload 4, 2) := bg01_118.1.1.2.2
theorem dX12_fits_64 : decode cX12_fits 64 = .ok (.istore_n 3, 1) := bg01_118.1.2.1.1
theorem dX12_fits_65 : decode cX12_fits 65 = .ok (.aload_n 0, 1) := bg01_118.1.2.1.2
theorem dX12_fits_66 : decode cX12_fits 66 = .ok (.iconst 1, 1) := bg01_118.1.2.2.1
theorem dX12_fits_67 : decode cX12_fits 67 = .ok (.invokevirtual 432, 3) := bg01_118.1.2.2.2
theorem dX12_fits_70 : decode cX12_fits 70 = .ok (.iinc 4 1, 3) := bg01_118.2.1.1.1
theorem dX12_fits_73 : decode cX12_fits 73 = .ok (.goto (-32), 3) := bg01_118.2.1.1.2
theorem dX12_fits_76 : decode cX12_fits 76 = .ok (.aload_n 0, 1) := bg01_118.2.1.2.1
theorem dX12_fits_77 : decode cX12_fits 77 = .ok (.aload_n 0, 1) := bg01_118.2.1.2.2
theorem dX12_fits_78 : decode cX12_fits 78 = .ok (.getfield 118, 3) := bg01_118.2.2.1.1
theorem dX12_fits_81 : decode cX12_fits 81 = .ok (.iconst 0, 1) := bg01_118.2.2.1.2
theorem dX12_fits_82 : decode cX12_fits 82 = .ok (.invokevirtual 446, 3) := bg01_118.2.2.2.1
theorem dX12_fits_85 : decode cX12_fits 85 = .ok (.iload_n 3, 1) := bg01_118.2.2.2.2
theorem bg01_119 : ((decode cX12_fits 86 = .ok (.ireturn, 1) ∧ decode cX12_eldestSitting 0 = .ok (.iconst (-1), 1)) ∧ (decode cX12_eldestSitting 1 = .ok (.istore_n 1, 1))) ∧ ((decode cX12_eldestSitting 2 = .ok (.iconst 0, 1) ∧ decode cX12_eldestSitting 3 = .ok (.istore_n 2, 1)) ∧ (decode cX12_eldestSitting 4 = .ok (.iload_n 2, 1))) := by decide +kernel
theorem dX12_fits_86 : decode cX12_fits 86 = .ok (.ireturn, 1) := bg01_119.1.1.1
theorem dX12_eldestSitting_0 : decode cX12_eldestSitting 0 = .ok (.iconst (-1), 1) := bg01_119.1.1.2
theorem dX12_eldestSitting_1 : decode cX12_eldestSitting 1 = .ok (.istore_n 1, 1) := bg01_119.1.2
theorem dX12_eldestSitting_2 : decode cX12_eldestSitting 2 = .ok (.iconst 0, 1) := bg01_119.2.1.1
theorem dX12_eldestSitting_3 : decode cX12_eldestSitting 3 = .ok (.istore_n 2, 1) := bg01_119.2.1.2
theorem dX12_eldestSitting_4 : decode cX12_eldestSitting 4 = .ok (.iload_n 2, 1) := bg01_119.2.2
