theorem bd01_0 : ((decode cX4_readValue 74 = .ok (.iadd, 1) ∧ decode cX4_readValue 75 = .ok (.invokevirtual 196, 3)) ∧ (decode cX4_readValue 78 = .ok (.aload_n 0, 1) ∧ decode cX4_readValue 79 = .ok (.invokevirtual 110, 3))) ∧ ((decode cX4_readValue 82 = .ok (.return_, 1) ∧ decode cX4_advance 0 = .ok (.aload_n 0, 1)) ∧ (decode cX4_advance 1 = .ok (.aload_n 0, 1) ∧ decode cX4_advance 2 = .ok (.aload_n 0, 1))) := by decide +kernel
theorem dX4_readValue_74 : decode cX4_readValue 74 = .ok (.iadd, 1) := bd01_0.1.1.1
theorem dX4_readValue_75 : decode cX4_readValue 75 = .ok (.invokevirtual 196, 3) := bd01_0.1.1.2
theorem dX4_readValue_78 : decode cX4_readValue 78 = .ok (.aload_n 0, 1) := bd01_0.1.2.1
theorem dX4_readValue_79 : decode cX4_readValue 79 = .ok (.invokevirtual 110, 3) := bd01_0.1.2.2
theorem dX4_readValue_82 : decode cX4_readValue 82 = .ok (.return_, 1) := bd01_0.2.1.1
theorem dX4_advance_0 : decode cX4_advance 0 = .ok (.aload_n 0, 1) := bd01_0.2.1.2
theorem dX4_advance_1 : decode cX4_advance 1 = .ok (.aload_n 0, 1) := bd01_0.2.2.1
theorem dX4_advance_2 : decode cX4_advance 2 = .ok (.aload_n 0, 1) := bd01_0.2.2.2
theorem bd01_1 : (((decode cX4_advance 3 = .ok (.getfield 104, 3) ∧ decode cX4_advance 6 = .ok (.iconst 3, 1)) ∧ (decode cX4_advance 7 = .ok (.invokevirtual 232, 3) ∧ decode cX4_advance 10 = .ok (.putfield 104, 3))) ∧ ((decode cX4_advance 13 = .ok (.aload_n 0, 1) ∧ decode cX4_advance 14 = .ok (.aload_n 0, 1)) ∧ (decode cX4_advance 15 = .ok (.getfield 104, 3) ∧ decode cX4_advance 18 = .ok (.putfield 113, 3)))) ∧ (((decode cX4_advance 21 = .ok (.aload_n 0, 1) ∧ decode cX4_advance 22 = .ok (.aconst_null, 1)) ∧ (decode cX4_advance 23 = .ok (.putfield 43, 3) ∧ decode cX4_advance 26 = .ok (.aload_n 0, 1))) ∧ ((decode cX4_advance 27 = .ok (.getfield 104, 3) ∧ decode cX4_advance 30 = .ok (.aload_n 0, 1)) ∧ (decode cX4_advance 31 = .ok (.getfield 101, 3) ∧ decode cX4_advance 34 = .ok (.if_icmp .lt 9, 3)))) := by decide +kernel
theorem dX4_advance_3 : decode cX4_advance 3 = .ok (.getfield 104, 3) := bd01_1.1.1.1.1
theorem dX4_advance_6 : decode cX4_advance 6 = .ok (.iconst 3, 1) := bd01_1.1.1.1.2
theorem dX4_advance_7 : decode cX4_advance 7 = .ok (.invokevirtual 232, 3) := bd01_1.1.1.2.1
theorem dX4_advance_10 : decode cX4_advance 10 = .ok (.putfield 104, 3) := bd01_1.1.1.2.2
theorem dX4_advance_13 : decode cX4_advance 13 = .ok (.aload_n 0, 1) := bd01_1.1.2.1.1
theorem dX4_advance_14 : decode cX4_advance 14 = .ok (.aload_n 0, 1) := bd01_1.1.2.1.2
theorem dX4_advance_15 : decode cX4_advance 15 = .ok (.getfield 104, 3) := bd01_1.1.2.2.1
theorem dX4_advance_18 : decode cX4_advance 18 = .ok (.putfield 113, 3) := bd01_1.1.2.2.2
theorem dX4_advance_21 : decode cX4_advance 21 = .ok (.aload_n 0, 1) := bd01_1.2.1.1.1
theorem dX4_advance_22 : decode cX4_advance 22 = .ok (.aconst_null, 1) := bd01_1.2.1.1.2
theorem dX4_advance_23 : decode cX4_advance 23 = .ok (.putfield 43, 3) := bd01_1.2.1.2.1
theorem dX4_advance_26 : decode cX4_advance 26 = .ok (.aload_n 0, 1) := bd01_1.2.1.2.2
theorem dX4_advance_27 : decode cX4_advance 27 = .ok (.getfield 104, 3) := bd01_1.2.2.1.1
theorem dX4_advance_30 : decode cX4_advance 30 = .ok (.aload_n 0, 1) := bd01_1.2.2.1.2
theorem dX4_advance_31 : decode cX4_advance 31 = .ok (.getfield 101, 3) := bd01_1.2.2.2.1
theorem dX4_advance_34 : decode cX4_advance 34 = .ok (.if_icmp .lt 9, 3) := bd01_1.2.2.2.2
theorem bd01_2 : (((decode cX4_advance 37 = .ok (.aload_n 0, 1) ∧ decode cX4_advance 38 = .ok (.iconst 0, 1)) ∧ (decode cX4_advance 39 = .ok (.putfield 37, 3) ∧ decode cX4_advance 42 = .ok (.return_, 1))) ∧ ((decode cX4_advance 43 = .ok (.aload_n 0, 1) ∧ decode cX4_advance 44 = .ok (.aload_n 0, 1)) ∧ (decode cX4_advance 45 = .ok (.getfield 22, 3) ∧ decode cX4_advance 48 = .ok (.aload_n 0, 1)))) ∧ (((decode cX4_advance 49 = .ok (.getfield 104, 3) ∧ decode cX4_advance 52 = .ok (.baload, 1)) ∧ (decode cX4_advance 53 = .ok (.invokestatic 235, 3) ∧ decode cX4_advance 56 = .ok (.putfield 37, 3))) ∧ ((decode cX4_advance 59 = .ok (.aload_n 0, 1) ∧ decode cX4_advance 60 = .ok (.aload_n 0, 1)) ∧ (decode cX4_advance 61 = .ok (.getfield 37, 3) ∧ decode cX4_advance 64 = .ok (.iconst 1, 1)))) := by decide +kernel
theorem dX4_advance_37 : decode cX4_advance 37 = .ok (.aload_n 0, 1) := bd01_2.1.1.1.1
theorem dX4_advance_38 : decode cX4_advance 38 = .ok (.iconst 0, 1) := bd01_2.1.1.1.2
theorem dX4_advance_39 : decode cX4_advance 39 = .ok (.putfield 37, 3) := bd01_2.1.1.2.1
theorem dX4_advance_42 : decode cX4_advance 42 = .ok (.return_, 1) := bd01_2.1.1.2.2
theorem dX4_advance_43 : decode cX4_advance 43 = .ok (.aload_n 0, 1) := bd01_2.1.2.1.1
theorem dX4_advance_44 : decode cX4_advance 44 = .ok (.aload_n 0, 1) := bd01_2.1.2.1.2
theorem dX4_advance_45 : decode cX4_advance 45 = .ok (.getfield 22, 3) := bd01_2.1.2.2.1
theorem dX4_advance_48 : decode cX4_advance 48 = .ok (.aload_n 0, 1) := bd01_2.1.2.2.2
theorem dX4_advance_49 : decode cX4_advance 49 = .ok (.getfield 104, 3) := bd01_2.2.1.1.1
theorem dX4_advance_52 : decode cX4_advance 52 = .ok (.baload, 1) := bd01_2.2.1.1.2
theorem dX4_advance_53 : decode cX4_advance 53 = .ok (.invokestatic 235, 3) := bd01_2.2.1.2.1
theorem dX4_advance_56 : decode cX4_advance 56 = .ok (.putfield 37, 3) := bd01_2.2.1.2.2
theorem dX4_advance_59 : decode cX4_advance 59 = .ok (.aload_n 0, 1) := bd01_2.2.2.1.1
theorem dX4_advance_60 : decode cX4_advance 60 = .ok (.aload_n 0, 1) := bd01_2.2.2.1.2
theorem dX4_advance_61 : decode cX4_advance 61 = .ok (.getfield 37, 3) := bd01_2.2.2.2.1
theorem dX4_advance_64 : decode cX4_advance 64 = .ok (.iconst 1, 1) := bd01_2.2.2.2.2
theorem bd01_3 : (((decode cX4_advance 65 = .ok (.if_icmp .eq 11, 3) ∧ decode cX4_advance 68 = .ok (.aload_n 0, 1)) ∧ (decode cX4_advance 69 = .ok (.getfield 37, 3) ∧ decode cX4_advance 72 = .ok (.iconst 2, 1))) ∧ ((decode cX4_advance 73 = .ok (.if_icmp .ne 18, 3) ∧ decode cX4_advance 76 = .ok (.aload_n 0, 1)) ∧ (decode cX4_advance 77 = .ok (.aload_n 0, 1) ∧ decode cX4_advance 78 = .ok (.getfield 104, 3)))) ∧ (((decode cX4_advance 81 = .ok (.aload_n 0, 1) ∧ decode cX4_advance 82 = .ok (.getfield 37, 3)) ∧ (decode cX4_advance 85 = .ok (.invokevirtual 232, 3) ∧ decode cX4_advance 88 = .ok (.goto 9, 3))) ∧ ((decode cX4_advance 91 = .ok (.aload_n 0, 1) ∧ decode cX4_advance 92 = .ok (.getfield 104, 3)) ∧ (decode cX4_advance 95 = .ok (.iconst 1, 1) ∧ decode cX4_advance 96 = .ok (.iadd, 1)))) := by decide +kernel
theorem dX4_advance_65 : decode cX4_advance 65 = .ok (.if_icmp .eq 11, 3) := bd01_3.1.1.1.1
theorem dX4_advance_68 : decode cX4_advance 68 = .ok (.aload_n 0, 1) := bd01_3.1.1.1.2
theorem dX4_advance_69 : decode cX4_advance 69 = .ok (.getfield 37, 3) := bd01_3.1.1.2.1
theorem dX4_advance_72 : decode cX4_advance 72 = .ok (.iconst 2, 1) := bd01_3.1.1.2.2
theorem dX4_advance_73 : decode cX4_advance 73 = .ok (.if_icmp .ne 18, 3) := bd01_3.1.2.1.1
theorem dX4_advance_76 : decode cX4_advance 76 = .ok (.aload_n 0, 1) := bd01_3.1.2.1.2
theorem dX4_advance_77 : decode cX4_advance 77 = .ok (.aload_n 0, 1) := bd01_3.1.2.2.1
theorem dX4_advance_78 : decode cX4_advance 78 = .ok (.getfield 104, 3) := bd01_3.1.2.2.2
theorem dX4_advance_81 : decode cX4_advance 81 = .ok (.aload_n 0, 1) := bd01_3.2.1.1.1
theorem dX4_advance_82 : decode cX4_advance 82 = .ok (.getfield 37, 3) := bd01_3.2.1.1.2
theorem dX4_advance_85 : decode cX4_advance 85 = .ok (.invokevirtual 232, 3) := bd01_3.2.1.2.1
theorem dX4_advance_88 : decode cX4_advance 88 = .ok (.goto 9, 3) := bd01_3.2.1.2.2
theorem dX4_advance_91 : decode cX4_advance 91 = .ok (.aload_n 0, 1) := bd01_3.2.2.1.1
theorem dX4_advance_92 : decode cX4_advance 92 = .ok (.getfield 104, 3) := bd01_3.2.2.1.2
theorem dX4_advance_95 : decode cX4_advance 95 = .ok (.iconst 1, 1) := bd01_3.2.2.2.1
theorem dX4_advance_96 : decode cX4_advance 96 = .ok (.iadd, 1) := bd01_3.2.2.2.2
theorem bd01_4 : (((decode cX4_advance 97 = .ok (.putfield 104, 3) ∧ decode cX4_advance 100 = .ok (.aload_n 0, 1)) ∧ (decode cX4_advance 101 = .ok (.getfield 37, 3) ∧ decode cX4_advance 104 = .ok (.iconst 1, 1))) ∧ ((decode cX4_advance 105 = .ok (.if_icmp .ne 14, 3) ∧ decode cX4_advance 108 = .ok (.aload_n 0, 1)) ∧ (decode cX4_advance 109 = .ok (.aload_n 0, 1) ∧ decode cX4_advance 110 = .ok (.invokevirtual 238, 3)))) ∧ (((decode cX4_advance 113 = .ok (.putfield 43, 3) ∧ decode cX4_advance 116 = .ok (.goto 19, 3)) ∧ (decode cX4_advance 119 = .ok (.aload_n 0, 1) ∧ decode cX4_advance 120 = .ok (.getfield 37, 3))) ∧ ((decode cX4_advance 123 = .ok (.iconst 2, 1) ∧ decode cX4_advance 124 = .ok (.if_icmp .ne 11, 3)) ∧ (decode cX4_advance 127 = .ok (.aload_n 0, 1) ∧ decode cX4_advance 128 = .ok (.aload_n 0, 1)))) := by decide +kernel
theorem dX4_advance_97 : decode cX4_advance 97 = .ok (.putfield 104, 3) := bd01_4.1.1.1.1
theorem dX4_advance_100 : decode cX4_advance 100 = .ok (.aload_n 0, 1) := bd01_4.1.1.1.2
theorem dX4_advance_101 : decode cX4_advance 101 = .ok (.getfield 37, 3) := bd01_4.1.1.2.1
theorem dX4_advance_104 : decode cX4_advance 104 = .ok (.iconst 1, 1) := bd01_4.1.1.2.2
theorem dX4_advance_105 : decode cX4_advance 105 = .ok (.if_icmp .ne 14, 3) := bd01_4.1.2.1.1
theorem dX4_advance_108 : decode cX4_advance 108 = .ok (.aload_n 0, 1) := bd01_4.1.2.1.2
theorem dX4_advance_109 : decode cX4_advance 109 = .ok (.aload_n 0, 1) := bd01_4.1.2.2.1
theorem dX4_advance_110 : decode cX4_advance 110 = .ok (.invokevirtual 238, 3) := bd01_4.1.2.2.2
theorem dX4_advance_113 : decode cX4_advance 113 = .ok (.putfield 43, 3) := bd01_4.2.1.1.1
theorem dX4_advance_116 : decode cX4_advance 116 = .ok (.goto 19, 3) := bd01_4.2.1.1.2
theorem dX4_advance_119 : decode cX4_advance 119 = .ok (.aload_n 0, 1) := bd01_4.2.1.2.1
theorem dX4_advance_120 : decode cX4_advance 120 = .ok (.getfield 37, 3) := bd01_4.2.1.2.2
theorem dX4_advance_123 : decode cX4_advance 123 = .ok (.iconst 2, 1) := bd01_4.2.2.1.1
theorem dX4_advance_124 : decode cX4_advance 124 = .ok (.if_icmp .ne 11, 3) := bd01_4.2.2.1.2
theorem dX4_advance_127 : decode cX4_advance 127 = .ok (.aload_n 0, 1) := bd01_4.2.2.2.1
theorem dX4_advance_128 : decode cX4_advance 128 = .ok (.aload_n 0, 1) := bd01_4.2.2.2.2
theorem bd01_5 : ((decode cX4_advance 129 = .ok (.invokevirtual 242, 3) ∧ decode cX4_advance 132 = .ok (.putfield 116, 3)) ∧ (decode cX4_advance 135 = .ok (.return_, 1) ∧ decode cX4_endOfRow 0 = .ok (.iload_n 1, 1))) ∧ ((decode cX4_endOfRow 1 = .ok (.istore_n 3, 1) ∧ decode cX4_endOfRow 2 = .ok (.iload_n 3, 1)) ∧ (decode cX4_endOfRow 3 = .ok (.aload_n 0, 1) ∧ decode cX4_endOfRow 4 = .ok (.getfield 101, 3))) := by decide +kernel
theorem dX4_advance_129 : decode cX4_advance 129 = .ok (.invokevirtual 242, 3) := bd01_5.1.1.1
theorem dX4_advance_132 : decode cX4_advance 132 = .ok (.putfield 116, 3) := bd01_5.1.1.2
theorem dX4_advance_135 : decode cX4_advance 135 = .ok (.return_, 1) := bd01_5.1.2.1
theorem dX4_endOfRow_0 : decode cX4_endOfRow 0 = .ok (.iload_n 1, 1) := bd01_5.1.2.2
theorem dX4_endOfRow_1 : decode cX4_endOfRow 1 = .ok (.istore_n 3, 1) := bd01_5.2.1.1
theorem dX4_endOfRow_2 : decode cX4_endOfRow 2 = .ok (.iload_n 3, 1) := bd01_5.2.1.2
theorem dX4_endOfRow_3 : decode cX4_endOfRow 3 = .ok (.aload_n 0, 1) := bd01_5.2.2.1
theorem dX4_endOfRow_4 : decode cX4_endOfRow 4 = .ok (.getfield 101, 3) := bd01_5.2.2.2
theorem bd01_6 : (((decode cX4_endOfRow 7 = .ok (.if_icmp .ge 24, 3) ∧ decode cX4_endOfRow 10 = .ok (.aload_n 0, 1)) ∧ (decode cX4_endOfRow 11 = .ok (.getfield 22, 3) ∧ decode cX4_endOfRow 14 = .ok (.iload_n 3, 1))) ∧ ((decode cX4_endOfRow 15 = .ok (.baload, 1) ∧ decode cX4_endOfRow 16 = .ok (.invokestatic 235, 3)) ∧ (decode cX4_endOfRow 19 = .ok (.iload_n 2, 1) ∧ decode cX4_endOfRow 20 = .ok (.if_icmp .eq 5, 3)))) ∧ (((decode cX4_endOfRow 23 = .ok (.iload_n 3, 1) ∧ decode cX4_endOfRow 24 = .ok (.ireturn, 1)) ∧ (decode cX4_endOfRow 25 = .ok (.iinc 3 1, 3) ∧ decode cX4_endOfRow 28 = .ok (.goto (-26), 3))) ∧ ((decode cX4_endOfRow 31 = .ok (.aload_n 0, 1) ∧ decode cX4_endOfRow 32 = .ok (.getfield 101, 3)) ∧ (decode cX4_endOfRow 35 = .ok (.ireturn, 1)))) := by decide +kernel
theorem dX4_endOfRow_7 : decode cX4_endOfRow 7 = .ok (.if_icmp .ge 24, 3) := bd01_6.1.1.1.1
theorem dX4_endOfRow_10 : decode cX4_endOfRow 10 = .ok (.aload_n 0, 1) := bd01_6.1.1.1.2
theorem dX4_endOfRow_11 : decode cX4_endOfRow 11 = .ok (.getfield 22, 3) := bd01_6.1.1.2.1
theorem dX4_endOfRow_14 : decode cX4_endOfRow 14 = .ok (.iload_n 3, 1) := bd01_6.1.1.2.2
theorem dX4_endOfRow_15 : decode cX4_endOfRow 15 = .ok (.baload, 1) := bd01_6.1.2.1.1
theorem dX4_endOfRow_16 : decode cX4_endOfRow 16 = .ok (.invokestatic 235, 3) := bd01_6.1.2.1.2
theorem dX4_endOfRow_19 : decode cX4_endOfRow 19 = .ok (.iload_n 2, 1) := bd01_6.1.2.2.1
theorem dX4_endOfRow_20 : decode cX4_endOfRow 20 = .ok (.if_icmp .eq 5, 3) := bd01_6.1.2.2.2
theorem dX4_endOfRow_23 : decode cX4_endOfRow 23 = .ok (.iload_n 3, 1) := bd01_6.2.1.1.1
theorem dX4_endOfRow_24 : decode cX4_endOfRow 24 = .ok (.ireturn, 1) := bd01_6.2.1.1.2
theorem dX4_endOfRow_25 : decode cX4_endOfRow 25 = .ok (.iinc 3 1, 3) := bd01_6.2.1.2.1
theorem dX4_endOfRow_28 : decode cX4_endOfRow 28 = .ok (.goto (-26), 3) := bd01_6.2.1.2.2
theorem dX4_endOfRow_31 : decode cX4_endOfRow 31 = .ok (.aload_n 0, 1) := bd01_6.2.2.1.1
theorem dX4_endOfRow_32 : decode cX4_endOfRow 32 = .ok (.getfield 101, 3) := bd01_6.2.2.1.2
theorem dX4_endOfRow_35 : decode cX4_endOfRow 35 = .ok (.ireturn, 1) := bd01_6.2.2.2
theorem bd01_7 : (((decode cX4_kindOf 0 = .ok (.iload_n 0, 1) ∧ decode cX4_kindOf 1 = .ok (.lookupswitch 103 #[(10, 99), (32, 99), (40, 101), (41, 101), (42, 101), (43, 101), (45, 101), (47, 101), (59, 101), (60, 101), (61, 101)], 99)) ∧ (decode cX4_kindOf 100 = .ok (.iconst 3, 1) ∧ decode cX4_kindOf 101 = .ok (.ireturn, 1))) ∧ ((decode cX4_kindOf 102 = .ok (.iload_n 0, 1) ∧ decode cX4_kindOf 103 = .ok (.ireturn, 1)) ∧ (decode cX4_kindOf 104 = .ok (.iload_n 0, 1) ∧ decode cX4_kindOf 105 = .ok (.bipush 97, 2)))) ∧ (((decode cX4_kindOf 107 = .ok (.if_icmp .lt 11, 3) ∧ decode cX4_kindOf 110 = .ok (.iload_n 0, 1)) ∧ (decode cX4_kindOf 111 = .ok (.bipush 122, 2) ∧ decode cX4_kindOf 113 = .ok (.if_icmp .gt 5, 3))) ∧ ((decode cX4_kindOf 116 = .ok (.iconst 1, 1) ∧ decode cX4_kindOf 117 = .ok (.ireturn, 1)) ∧ (decode cX4_kindOf 118 = .ok (.iload_n 0, 1) ∧ decode cX4_kindOf 119 = .ok (.bipush 48, 2)))) := by decide +kernel
theorem dX4_kindOf_0 : decode cX4_kindOf 0 = .ok (.iload_n 0, 1) := bd01_7.1.1.1.1
theorem dX4_kindOf_1 : decode cX4_kindOf 1 = .ok (.lookupswitch 103 #[(10, 99), (32, 99), (40, 101), (41, 101), (42, 101), (43, 101), (45, 101), (47, 101), (59, 101), (60, 101), (61, 101)], 99) := bd01_7.1.1.1.2
theorem dX4_kindOf_100 : decode cX4_kindOf 100 = .ok (.iconst 3, 1) := bd01_7.1.1.2.1
theorem dX4_kindOf_101 : decode cX4_kindOf 101 = .ok (.ireturn, 1) := bd01_7.1.1.2.2
theorem dX4_kindOf_102 : decode cX4_kindOf 102 = .ok (.iload_n 0, 1) := bd01_7.1.2.1.1
theorem dX4_kindOf_103 : decode cX4_kindOf 103 = .ok (.ireturn, 1) := bd01_7.1.2.1.2
theorem dX4_kindOf_104 : decode cX4_kindOf 104 = .ok (.iload_n 0, 1) := bd01_7.1.2.2.1
theorem dX4_kindOf_105 : decode cX4_kindOf 105 = .ok (.bipush 97, 2) := bd01_7.1.2.2.2
theorem dX4_kindOf_107 : decode cX4_kindOf 107 = .ok (.if_icmp .lt 11, 3) := bd01_7.2.1.1.1
theorem dX4_kindOf_110 : decode cX4_kindOf 110 = .ok (.iload_n 0, 1) := bd01_7.2.1.1.2
theorem dX4_kindOf_111 : decode cX4_kindOf 111 = .ok (.bipush 122, 2) := bd01_7.2.1.2.1
theorem dX4_kindOf_113 : decode cX4_kindOf 113 = .ok (.if_icmp .gt 5, 3) := bd01_7.2.1.2.2
theorem dX4_kindOf_116 : decode cX4_kindOf 116 = .ok (.iconst 1, 1) := bd01_7.2.2.1.1
theorem dX4_kindOf_117 : decode cX4_kindOf 117 = .ok (.ireturn, 1) := bd01_7.2.2.1.2
theorem dX4_kindOf_118 : decode cX4_kindOf 118 = .ok (.iload_n 0, 1) := bd01_7.2.2.2.1
theorem dX4_kindOf_119 : decode cX4_kindOf 119 = .ok (.bipush 48, 2) := bd01_7.2.2.2.2
theorem bd01_8 : ((decode cX4_kindOf 121 = .ok (.if_icmp .lt 13, 3) ∧ decode cX4_kindOf 124 = .ok (.iload_n 0, 1)) ∧ (decode cX4_kindOf 125 = .ok (.bipush 57, 2) ∧ decode cX4_kindOf 127 = .ok (.if_icmp .gt 7, 3))) ∧ ((decode cX4_kindOf 130 = .ok (.iconst 2, 1) ∧ decode cX4_kindOf 131 = .ok (.goto 4, 3)) ∧ (decode cX4_kindOf 134 = .ok (.iconst 4, 1) ∧ decode cX4_kindOf 135 = .ok (.ireturn, 1))) := by decide +kernel
theorem dX4_kindOf_121 : decode cX4_kindOf 121 = .ok (.if_icmp .lt 13, 3) := bd01_8.1.1.1
theorem dX4_kindOf_124 : decode cX4_kindOf 124 = .ok (.iload_n 0, 1) := bd01_8.1.1.2
theorem dX4_kindOf_125 : decode cX4_kindOf 125 = .ok (.bipush 57, 2) := bd01_8.1.2.1
theorem dX4_kindOf_127 : decode cX4_kindOf 127 = .ok (.if_icmp .gt 7, 3) := bd01_8.1.2.2
theorem dX4_kindOf_130 : decode cX4_kindOf 130 = .ok (.iconst 2, 1) := bd01_8.2.1.1
theorem dX4_kindOf_131 : decode cX4_kindOf 131 = .ok (.goto 4, 3) := bd01_8.2.1.2
theorem dX4_kindOf_134 : decode cX4_kindOf 134 = .ok (.iconst 4, 1) := bd01_8.2.2.1
theorem dX4_kindOf_135 : decode cX4_kindOf 135 = .ok (.ireturn, 1) := bd01_8.2.2.2
theorem bd01_9 : (((decode cX4_findWord 0 = .ok (.iconst 0, 1) ∧ decode cX4_findWord 1 = .ok (.istore_n 1, 1)) ∧ (decode cX4_findWord 2 = .ok (.iload_n 1, 1) ∧ decode cX4_findWord 3 = .ok (.getstatic 245, 3))) ∧ ((decode cX4_findWord 6 = .ok (.arraylength, 1) ∧ decode cX4_findWord 7 = .ok (.if_icmp .ge 93, 3)) ∧ (decode cX4_findWord 10 = .ok (.getstatic 245, 3) ∧ decode cX4_findWord 13 = .ok (.iload_n 1, 1)))) ∧ (((decode cX4_findWord 14 = .ok (.aaload, 1) ∧ decode cX4_findWord 15 = .ok (.getfield 249, 3)) ∧ (decode cX4_findWord 18 = .ok (.astore_n 2, 1) ∧ decode cX4_findWord 19 = .ok (.iconst 0, 1))) ∧ ((decode cX4_findWord 20 = .ok (.istore_n 3, 1) ∧ decode cX4_findWord 21 = .ok (.iload_n 3, 1)) ∧ (decode cX4_findWord 22 = .ok (.aload_n 2, 1) ∧ decode cX4_findWord 23 = .ok (.invokevirtual 253, 3)))) := by decide +kernel
theorem dX4_findWord_0 : decode cX4_findWord 0 = .ok (.iconst 0, 1) := bd01_9.1.1.1.1
theorem dX4_findWord_1 : decode cX4_findWord 1 = .ok (.istore_n 1, 1) := bd01_9.1.1.1.2
theorem dX4_findWord_2 : decode cX4_findWord 2 = .ok (.iload_n 1, 1) := bd01_9.1.1.2.1
theorem dX4_findWord_3 : decode cX4_findWord 3 = .ok (.getstatic 245, 3) := bd01_9.1.1.2.2
theorem dX4_findWord_6 : decode cX4_findWord 6 = .ok (.arraylength, 1) := bd01_9.1.2.1.1
theorem dX4_findWord_7 : decode cX4_findWord 7 = .ok (.if_icmp .ge 93, 3) := bd01_9.1.2.1.2
theorem dX4_findWord_10 : decode cX4_findWord 10 = .ok (.getstatic 245, 3) := bd01_9.1.2.2.1
theorem dX4_findWord_13 : decode cX4_findWord 13 = .ok (.iload_n 1, 1) := bd01_9.1.2.2.2
theorem dX4_findWord_14 : decode cX4_findWord 14 = .ok (.aaload, 1) := bd01_9.2.1.1.1
theorem dX4_findWord_15 : decode cX4_findWord 15 = .ok (.getfield 249, 3) := bd01_9.2.1.1.2
theorem dX4_findWord_18 : decode cX4_findWord 18 = .ok (.astore_n 2, 1) := bd01_9.2.1.2.1
theorem dX4_findWord_19 : decode cX4_findWord 19 = .ok (.iconst 0, 1) := bd01_9.2.1.2.2
theorem dX4_findWord_20 : decode cX4_findWord 20 = .ok (.istore_n 3, 1) := bd01_9.2.2.1.1
theorem dX4_findWord_21 : decode cX4_findWord 21 = .ok (.iload_n 3, 1) := bd01_9.2.2.1.2
theorem dX4_findWord_22 : decode cX4_findWord 22 = .ok (.aload_n 2, 1) := bd01_9.2.2.2.1
theorem dX4_findWord_23 : decode cX4_findWord 23 = .ok (.invokevirtual 253, 3) := bd01_9.2.2.2.2
theorem bd01_10 : (((decode cX4_findWord 26 = .ok (.if_icmp .ge 41, 3) ∧ decode cX4_findWord 29 = .ok (.aload_n 0, 1)) ∧ (decode cX4_findWord 30 = .ok (.getfield 113, 3) ∧ decode cX4_findWord 33 = .ok (.iload_n 3, 1))) ∧ ((decode cX4_findWord 34 = .ok (.iadd, 1) ∧ decode cX4_findWord 35 = .ok (.aload_n 0, 1)) ∧ (decode cX4_findWord 36 = .ok (.getfield 104, 3) ∧ decode cX4_findWord 39 = .ok (.if_icmp .ge 28, 3)))) ∧ (((decode cX4_findWord 42 = .ok (.aload_n 2, 1) ∧ decode cX4_findWord 43 = .ok (.iload_n 3, 1)) ∧ (decode cX4_findWord 44 = .ok (.invokevirtual 257, 3) ∧ decode cX4_findWord 47 = .ok (.aload_n 0, 1))) ∧ ((decode cX4_findWord 48 = .ok (.getfield 22, 3) ∧ decode cX4_findWord 51 = .ok (.aload_n 0, 1)) ∧ (decode cX4_findWord 52 = .ok (.getfield 113, 3) ∧ decode cX4_findWord 55 = .ok (.iload_n 3, 1)))) := by decide +kernel
theorem dX4_findWord_26 : decode cX4_findWord 26 = .ok (.if_icmp .ge 41, 3) := bd01_10.1.1.1.1
theorem dX4_findWord_29 : decode cX4_findWord 29 = .ok (.aload_n 0, 1) := bd01_10.1.1.1.2
theorem dX4_findWord_30 : decode cX4_findWord 30 = .ok (.getfield 113, 3) := bd01_10.1.1.2.1
theorem dX4_findWord_33 : decode cX4_findWord 33 = .ok (.iload_n 3, 1) := bd01_10.1.1.2.2
theorem dX4_findWord_34 : decode cX4_findWord 34 = .ok (.iadd, 1) := bd01_10.1.2.1.1
theorem dX4_findWord_35 : decode cX4_findWord 35 = .ok (.aload_n 0, 1) := bd01_10.1.2.1.2
theorem dX4_findWord_36 : decode cX4_findWord 36 = .ok (.getfield 104, 3) := bd01_10.1.2.2.1
theorem dX4_findWord_39 : decode cX4_findWord 39 = .ok (.if_icmp .ge 28, 3) := bd01_10.1.2.2.2
theorem dX4_findWord_42 : decode cX4_findWord 42 = .ok (.aload_n 2, 1) := bd01_10.2.1.1.1
theorem dX4_findWord_43 : decode cX4_findWord 43 = .ok (.iload_n 3, 1) := bd01_10.2.1.1.2
theorem dX4_findWord_44 : decode cX4_findWord 44 = .ok (.invokevirtual 257, 3) := bd01_10.2.1.2.1
theorem dX4_findWord_47 : decode cX4_findWord 47 = .ok (.aload_n 0, 1) := bd01_10.2.1.2.2
theorem dX4_findWord_48 : decode cX4_findWord 48 = .ok (.getfield 22, 3) := bd01_10.2.2.1.1
theorem dX4_findWord_51 : decode cX4_findWord 51 = .ok (.aload_n 0, 1) := bd01_10.2.2.1.2
theorem dX4_findWord_52 : decode cX4_findWord 52 = .ok (.getfield 113, 3) := bd01_10.2.2.2.1
theorem dX4_findWord_55 : decode cX4_findWord 55 = .ok (.iload_n 3, 1) := bd01_10.2.2.2.2
theorem bd01_11 : (((decode cX4_findWord 56 = .ok (.iadd, 1) ∧ decode cX4_findWord 57 = .ok (.baload, 1)) ∧ (decode cX4_findWord 58 = .ok (.if_icmp .ne 9, 3) ∧ decode cX4_findWord 61 = .ok (.iinc 3 1, 3))) ∧ ((decode cX4_findWord 64 = .ok (.goto (-43), 3) ∧ decode cX4_findWord 67 = .ok (.iload_n 3, 1)) ∧ (decode cX4_findWord 68 = .ok (.aload_n 2, 1) ∧ decode cX4_findWord 69 = .ok (.invokevirtual 253, 3)))) ∧ (((decode cX4_findWord 72 = .ok (.if_icmp .ne 22, 3) ∧ decode cX4_findWord 75 = .ok (.aload_n 0, 1)) ∧ (decode cX4_findWord 76 = .ok (.getfield 113, 3) ∧ decode cX4_findWord 79 = .ok (.iload_n 3, 1))) ∧ ((decode cX4_findWord 80 = .ok (.iadd, 1) ∧ decode cX4_findWord 81 = .ok (.aload_n 0, 1)) ∧ (decode cX4_findWord 82 = .ok (.getfield 104, 3) ∧ decode cX4_findWord 85 = .ok (.if_icmp .ne 9, 3)))) := by decide +kernel
theorem dX4_findWord_56 : decode cX4_findWord 56 = .ok (.iadd, 1) := bd01_11.1.1.1.1
theorem dX4_findWord_57 : decode cX4_findWord 57 = .ok (.baload, 1) := bd01_11.1.1.1.2
theorem dX4_findWord_58 : decode cX4_findWord 58 = .ok (.if_icmp .ne 9, 3) := bd01_11.1.1.2.1
theorem dX4_findWord_61 : decode cX4_findWord 61 = .ok (.iinc 3 1, 3) := bd01_11.1.1.2.2
theorem dX4_findWord_64 : decode cX4_findWord 64 = .ok (.goto (-43), 3) := bd01_11.1.2.1.1
theorem dX4_findWord_67 : decode cX4_findWord 67 = .ok (.iload_n 3, 1) := bd01_11.1.2.1.2
theorem dX4_findWord_68 : decode cX4_findWord 68 = .ok (.aload_n 2, 1) := bd01_11.1.2.2.1
theorem dX4_findWord_69 : decode cX4_findWord 69 = .ok (.invokevirtual 253, 3) := bd01_11.1.2.2.2
theorem dX4_findWord_72 : decode cX4_findWord 72 = .ok (.if_icmp .ne 22, 3) := bd01_11.2.1.1.1
theorem dX4_findWord_75 : decode cX4_findWord 75 = .ok (.aload_n 0, 1) := bd01_11.2.1.1.2
theorem dX4_findWord_76 : decode cX4_findWord 76 = .ok (.getfield 113, 3) := bd01_11.2.1.2.1
theorem dX4_findWord_79 : decode cX4_findWord 79 = .ok (.iload_n 3, 1) := bd01_11.2.1.2.2
theorem dX4_findWord_80 : decode cX4_findWord 80 = .ok (.iadd, 1) := bd01_11.2.2.1.1
theorem dX4_findWord_81 : decode cX4_findWord 81 = .ok (.aload_n 0, 1) := bd01_11.2.2.1.2
theorem dX4_findWord_82 : decode cX4_findWord 82 = .ok (.getfield 104, 3) := bd01_11.2.2.2.1
theorem dX4_findWord_85 : decode cX4_findWord 85 = .ok (.if_icmp .ne 9, 3) := bd01_11.2.2.2.2
theorem bd01_12 : ((decode cX4_findWord 88 = .ok (.getstatic 245, 3) ∧ decode cX4_findWord 91 = .ok (.iload_n 1, 1)) ∧ (decode cX4_findWord 92 = .ok (.aaload, 1) ∧ decode cX4_findWord 93 = .ok (.areturn, 1))) ∧ ((decode cX4_findWord 94 = .ok (.iinc 1 1, 3) ∧ decode cX4_findWord 97 = .ok (.goto (-95), 3)) ∧ (decode cX4_findWord 100 = .ok (.aconst_null, 1) ∧ decode cX4_findWord 101 = .ok (.areturn, 1))) := by decide +kernel
theorem dX4_findWord_88 : decode cX4_findWord 88 = .ok (.getstatic 245, 3) := bd01_12.1.1.1
theorem dX4_findWord_91 : decode cX4_findWord 91 = .ok (.iload_n 1, 1) := bd01_12.1.1.2
theorem dX4_findWord_92 : decode cX4_findWord 92 = .ok (.aaload, 1) := bd01_12.1.2.1
theorem dX4_findWord_93 : decode cX4_findWord 93 = .ok (.areturn, 1) := bd01_12.1.2.2
theorem dX4_findWord_94 : decode cX4_findWord 94 = .ok (.iinc 1 1, 3) := bd01_12.2.1.1
theorem dX4_findWord_97 : decode cX4_findWord 97 = .ok (.goto (-95), 3) := bd01_12.2.1.2
theorem dX4_findWord_100 : decode cX4_findWord 100 = .ok (.aconst_null, 1) := bd01_12.2.2.1
theorem dX4_findWord_101 : decode cX4_findWord 101 = .ok (.areturn, 1) := bd01_12.2.2.2
theorem bd01_13 : (((decode cX4_findNumber 0 = .ok (.aload_n 0, 1) ∧ decode cX4_findNumber 1 = .ok (.getfield 104, 3)) ∧ (decode cX4_findNumber 4 = .ok (.aload_n 0, 1) ∧ decode cX4_findNumber 5 = .ok (.getfield 113, 3))) ∧ ((decode cX4_findNumber 8 = .ok (.isub, 1) ∧ decode cX4_findNumber 9 = .ok (.iconst 4, 1)) ∧ (decode cX4_findNumber 10 = .ok (.if_icmp .le 7, 3) ∧ decode cX4_findNumber 13 = .ok (.sipush 10000, 3)))) ∧ (((decode cX4_findNumber 16 = .ok (.ireturn, 1) ∧ decode cX4_findNumber 17 = .ok (.iconst 0, 1)) ∧ (decode cX4_findNumber 18 = .ok (.istore_n 1, 1) ∧ decode cX4_findNumber 19 = .ok (.aload_n 0, 1))) ∧ ((decode cX4_findNumber 20 = .ok (.getfield 113, 3) ∧ decode cX4_findNumber 23 = .ok (.istore_n 2, 1)) ∧ (decode cX4_findNumber 24 = .ok (.iload_n 2, 1) ∧ decode cX4_findNumber 25 = .ok (.aload_n 0, 1)))) := by decide +kernel
theorem dX4_findNumber_0 : decode cX4_findNumber 0 = .ok (.aload_n 0, 1) := bd01_13.1.1.1.1
theorem dX4_findNumber_1 : decode cX4_findNumber 1 = .ok (.getfield 104, 3) := bd01_13.1.1.1.2
theorem dX4_findNumber_4 : decode cX4_findNumber 4 = .ok (.aload_n 0, 1) := bd01_13.1.1.2.1
theorem dX4_findNumber_5 : decode cX4_findNumber 5 = .ok (.getfield 113, 3) := bd01_13.1.1.2.2
theorem dX4_findNumber_8 : decode cX4_findNumber 8 = .ok (.isub, 1) := bd01_13.1.2.1.1
theorem dX4_findNumber_9 : decode cX4_findNumber 9 = .ok (.iconst 4, 1) := bd01_13.1.2.1.2
theorem dX4_findNumber_10 : decode cX4_findNumber 10 = .ok (.if_icmp .le 7, 3) := bd01_13.1.2.2.1
theorem dX4_findNumber_13 : decode cX4_findNumber 13 = .ok (.sipush 10000, 3) := bd01_13.1.2.2.2
theorem dX4_findNumber_16 : decode cX4_findNumber 16 = .ok (.ireturn, 1) := bd01_13.2.1.1.1
theorem dX4_findNumber_17 : decode cX4_findNumber 17 = .ok (.iconst 0, 1) := bd01_13.2.1.1.2
theorem dX4_findNumber_18 : decode cX4_findNumber 18 = .ok (.istore_n 1, 1) := bd01_13.2.1.2.1
theorem dX4_findNumber_19 : decode cX4_findNumber 19 = .ok (.aload_n 0, 1) := bd01_13.2.1.2.2
theorem dX4_findNumber_20 : decode cX4_findNumber 20 = .ok (.getfield 113, 3) := bd01_13.2.2.1.1
theorem dX4_findNumber_23 : decode cX4_findNumber 23 = .ok (.istore_n 2, 1) := bd01_13.2.2.1.2
theorem dX4_findNumber_24 : decode cX4_findNumber 24 = .ok (.iload_n 2, 1) := bd01_13.2.2.2.1
theorem dX4_findNumber_25 : decode cX4_findNumber 25 = .ok (.aload_n 0, 1) := bd01_13.2.2.2.2
theorem bd01_14 : (((decode cX4_findNumber 26 = .ok (.getfield 104, 3) ∧ decode cX4_findNumber 29 = .ok (.if_icmp .ge 24, 3)) ∧ (decode cX4_findNumber 32 = .ok (.bipush 10, 2) ∧ decode cX4_findNumber 34 = .ok (.iload_n 1, 1))) ∧ ((decode cX4_findNumber 35 = .ok (.imul, 1) ∧ decode cX4_findNumber 36 = .ok (.aload_n 0, 1)) ∧ (decode cX4_findNumber 37 = .ok (.getfield 22, 3) ∧ decode cX4_findNumber 40 = .ok (.iload_n 2, 1)))) ∧ (((decode cX4_findNumber 41 = .ok (.baload, 1) ∧ decode cX4_findNumber 42 = .ok (.iadd, 1)) ∧ (decode cX4_findNumber 43 = .ok (.bipush 48, 2) ∧ decode cX4_findNumber 45 = .ok (.isub, 1))) ∧ ((decode cX4_findNumber 46 = .ok (.istore_n 1, 1) ∧ decode cX4_findNumber 47 = .ok (.iinc 2 1, 3)) ∧ (decode cX4_findNumber 50 = .ok (.goto (-26), 3) ∧ decode cX4_findNumber 53 = .ok (.iload_n 1, 1)))) := by decide +kernel
theorem dX4_findNumber_26 : decode cX4_findNumber 26 = .ok (.getfield 104, 3) := bd01_14.1.1.1.1
theorem dX4_findNumber_29 : decode cX4_findNumber 29 = .ok (.if_icmp .ge 24, 3) := bd01_14.1.1.1.2
theorem dX4_findNumber_32 : decode cX4_findNumber 32 = .ok (.bipush 10, 2) := bd01_14.1.1.2.1
theorem dX4_findNumber_34 : decode cX4_findNumber 34 = .ok (.iload_n 1, 1) := bd01_14.1.1.2.2
theorem dX4_findNumber_35 : decode cX4_findNumber 35 = .ok (.imul, 1) := bd01_14.1.2.1.1
theorem dX4_findNumber_36 : decode cX4_findNumber 36 = .ok (.aload_n 0, 1) := bd01_14.1.2.1.2
theorem dX4_findNumber_37 : decode cX4_findNumber 37 = .ok (.getfield 22, 3) := bd01_14.1.2.2.1
theorem dX4_findNumber_40 : decode cX4_findNumber 40 = .ok (.iload_n 2, 1) := bd01_14.1.2.2.2
theorem dX4_findNumber_41 : decode cX4_findNumber 41 = .ok (.baload, 1) := bd01_14.2.1.1.1
theorem dX4_findNumber_42 : decode cX4_findNumber 42 = .ok (.iadd, 1) := bd01_14.2.1.1.2
theorem dX4_findNumber_43 : decode cX4_findNumber 43 = .ok (.bipush 48, 2) := bd01_14.2.1.2.1
theorem dX4_findNumber_45 : decode cX4_findNumber 45 = .ok (.isub, 1) := bd01_14.2.1.2.2
theorem dX4_findNumber_46 : decode cX4_findNumber 46 = .ok (.istore_n 1, 1) := bd01_14.2.2.1.1
theorem dX4_findNumber_47 : decode cX4_findNumber 47 = .ok (.iinc 2 1, 3) := bd01_14.2.2.1.2
theorem dX4_findNumber_50 : decode cX4_findNumber 50 = .ok (.goto (-26), 3) := bd01_14.2.2.2.1
theorem dX4_findNumber_53 : decode cX4_findNumber 53 = .ok (.iload_n 1, 1) := bd01_14.2.2.2.2
theorem bd01_15 : ((decode cX4_findNumber 54 = .ok (.ireturn, 1) ∧ decode cX5_init 0 = .ok (.aload_n 0, 1)) ∧ (decode cX5_init 1 = .ok (.invokespecial 3, 3) ∧ decode cX5_init 4 = .ok (.aload_n 0, 1))) ∧ ((decode cX5_init 5 = .ok (.sipush 700, 3) ∧ decode cX5_init 8 = .ok (.newarray .int, 2)) ∧ (decode cX5_init 10 = .ok (.putfield 9, 3) ∧ decode cX5_init 13 = .ok (.return_, 1))) := by decide +kernel
theorem dX4_findNumber_54 : decode cX4_findNumber 54 = .ok (.ireturn, 1) := bd01_15.1.1.1
theorem dX5_init_0 : decode cX5_init 0 = .ok (.aload_n 0, 1) := bd01_15.1.1.2
theorem dX5_init_1 : decode cX5_init 1 = .ok (.invokespecial 3, 3) := bd01_15.1.2.1
theorem dX5_init_4 : decode cX5_init 4 = .ok (.aload_n 0, 1) := bd01_15.1.2.2
theorem dX5_init_5 : decode cX5_init 5 = .ok (.sipush 700, 3) := bd01_15.2.1.1
theorem dX5_init_8 : decode cX5_init 8 = .ok (.newarray .int, 2) := bd01_15.2.1.2
theorem dX5_init_10 : decode cX5_init 10 = .ok (.putfield 9, 3) := bd01_15.2.2.1
theorem dX5_init_13 : decode cX5_init 13 = .ok (.return_, 1) := bd01_15.2.2.2
theorem bd01_16 : (((decode cX5_add 0 = .ok (.aload_n 0, 1) ∧ decode cX5_add 1 = .ok (.getfield 15, 3)) ∧ (decode cX5_add 4 = .ok (.aload_n 0, 1) ∧ decode cX5_add 5 = .ok (.getfield 9, 3))) ∧ ((decode cX5_add 8 = .ok (.arraylength, 1) ∧ decode cX5_add 9 = .ok (.if_icmp .ge 23, 3)) ∧ (decode cX5_add 12 = .ok (.aload_n 0, 1) ∧ decode cX5_add 13 = .ok (.getfield 9, 3)))) ∧ (((decode cX5_add 16 = .ok (.aload_n 0, 1) ∧ decode cX5_add 17 = .ok (.getfield 15, 3)) ∧ (decode cX5_add 20 = .ok (.iload_n 1, 1) ∧ decode cX5_add 21 = .ok (.iastore, 1))) ∧ ((decode cX5_add 22 = .ok (.aload_n 0, 1) ∧ decode cX5_add 23 = .ok (.dup, 1)) ∧ (decode cX5_add 24 = .ok (.getfield 15, 3) ∧ decode cX5_add 27 = .ok (.iconst 1, 1)))) := by decide +kernel
theorem dX5_add_0 : decode cX5_add 0 = .ok (.aload_n 0, 1) := bd01_16.1.1.1.1
theorem dX5_add_1 : decode cX5_add 1 = .ok (.getfield 15, 3) := bd01_16.1.1.1.2
theorem dX5_add_4 : decode cX5_add 4 = .ok (.aload_n 0, 1) := bd01_16.1.1.2.1
theorem dX5_add_5 : decode cX5_add 5 = .ok (.getfield 9, 3) := bd01_16.1.1.2.2
theorem dX5_add_8 : decode cX5_add 8 = .ok (.arraylength, 1) := bd01_16.1.2.1.1
theorem dX5_add_9 : decode cX5_add 9 = .ok (.if_icmp .ge 23, 3) := bd01_16.1.2.1.2
theorem dX5_add_12 : decode cX5_add 12 = .ok (.aload_n 0, 1) := bd01_16.1.2.2.1
theorem dX5_add_13 : decode cX5_add 13 = .ok (.getfield 9, 3) := bd01_16.1.2.2.2
theorem dX5_add_16 : decode cX5_add 16 = .ok (.aload_n 0, 1) := bd01_16.2.1.1.1
theorem dX5_add_17 : decode cX5_add 17 = .ok (.getfield 15, 3) := bd01_16.2.1.1.2
theorem dX5_add_20 : decode cX5_add 20 = .ok (.iload_n 1, 1) := bd01_16.2.1.2.1
theorem dX5_add_21 : decode cX5_add 21 = .ok (.iastore, 1) := bd01_16.2.1.2.2
theorem dX5_add_22 : decode cX5_add 22 = .ok (.aload_n 0, 1) := bd01_16.2.2.1.1
theorem dX5_add_23 : decode cX5_add 23 = .ok (.dup, 1) := bd01_16.2.2.1.2
theorem dX5_add_24 : decode cX5_add 24 = .ok (.getfield 15, 3) := bd01_16.2.2.2.1
theorem dX5_add_27 : decode cX5_add 27 = .ok (.iconst 1, 1) := bd01_16.2.2.2.2
theorem bd01_17 : ((decode cX5_add 28 = .ok (.iadd, 1) ∧ decode cX5_add 29 = .ok (.putfield 15, 3)) ∧ (decode cX5_add 32 = .ok (.return_, 1) ∧ decode cX5_copyFrom 0 = .ok (.aload_n 0, 1))) ∧ ((decode cX5_copyFrom 1 = .ok (.aload_n 1, 1) ∧ decode cX5_copyFrom 2 = .ok (.getfield 15, 3)) ∧ (decode cX5_copyFrom 5 = .ok (.putfield 15, 3) ∧ decode cX5_copyFrom 8 = .ok (.aload_n 1, 1))) := by decide +kernel
theorem dX5_add_28 : decode cX5_add 28 = .ok (.iadd, 1) := bd01_17.1.1.1
theorem dX5_add_29 : decode cX5_add 29 = .ok (.putfield 15, 3) := bd01_17.1.1.2
theorem dX5_add_32 : decode cX5_add 32 = .ok (.return_, 1) := bd01_17.1.2.1
theorem dX5_copyFrom_0 : decode cX5_copyFrom 0 = .ok (.aload_n 0, 1) := bd01_17.1.2.2
theorem dX5_copyFrom_1 : decode cX5_copyFrom 1 = .ok (.aload_n 1, 1) := bd01_17.2.1.1
theorem dX5_copyFrom_2 : decode cX5_copyFrom 2 = .ok (.getfield 15, 3) := bd01_17.2.1.2
theorem dX5_copyFrom_5 : decode cX5_copyFrom 5 = .ok (.putfield 15, 3) := bd01_17.2.2.1
theorem dX5_copyFrom_8 : decode cX5_copyFrom 8 = .ok (.aload_n 1, 1) := bd01_17.2.2.2
theorem bd01_18 : (((decode cX5_copyFrom 9 = .ok (.getfield 9, 3) ∧ decode cX5_copyFrom 12 = .ok (.iconst 0, 1)) ∧ (decode cX5_copyFrom 13 = .ok (.aload_n 0, 1))) ∧ (decode cX5_copyFrom 14 = .ok (.getfield 9, 3) ∧ decode cX5_copyFrom 17 = .ok (.iconst 0, 1))) ∧ ((decode cX5_copyFrom 18 = .ok (.aload_n 0, 1) ∧ decode cX5_copyFrom 19 = .ok (.getfield 15, 3)) ∧ (decode cX5_copyFrom 22 = .ok (.invokestatic 19, 3) ∧ decode cX5_copyFrom 25 = .ok (.return_, 1))) := by decide +kernel
theorem dX5_copyFrom_9 : decode cX5_copyFrom 9 = .ok (.getfield 9, 3) := bd01_18.1.1.1.1
theorem dX5_copyFrom_12 : decode cX5_copyFrom 12 = .ok (.iconst 0, 1) := bd01_18.1.1.1.2
theorem dX5_copyFrom_13 : decode cX5_copyFrom 13 = .ok (.aload_n 0, 1) := bd01_18.1.1.2
theorem dX5_copyFrom_14 : decode cX5_copyFrom 14 = .ok (.getfield 9, 3) := bd01_18.1.2.1
theorem dX5_copyFrom_17 : decode cX5_copyFrom 17 = .ok (.iconst 0, 1) := bd01_18.1.2.2
theorem dX5_copyFrom_18 : decode cX5_copyFrom 18 = .ok (.aload_n 0, 1) := bd01_18.2.1.1
theorem dX5_copyFrom_19 : decode cX5_copyFrom 19 = .ok (.getfield 15, 3) := bd01_18.2.1.2
theorem dX5_copyFrom_22 : decode cX5_copyFrom 22 = .ok (.invokestatic 19, 3) := bd01_18.2.2.1
theorem dX5_copyFrom_25 : decode cX5_copyFrom 25 = .ok (.return_, 1) := bd01_18.2.2.2
theorem bd01_19 : (((decode cX5_worth 0 = .ok (.iconst 0, 1) ∧ decode cX5_worth 1 = .ok (.istore_n 3, 1)) ∧ (decode cX5_worth 2 = .ok (.iconst 0, 1) ∧ decode cX5_worth 3 = .ok (.istore 4, 2))) ∧ ((decode cX5_worth 5 = .ok (.iload 4, 2) ∧ decode cX5_worth 7 = .ok (.aload_n 0, 1)) ∧ (decode cX5_worth 8 = .ok (.getfield 15, 3) ∧ decode cX5_worth 11 = .ok (.if_icmp .ge 117, 3)))) ∧ (((decode cX5_worth 14 = .ok (.aload_n 0, 1) ∧ decode cX5_worth 15 = .ok (.getfield 9, 3)) ∧ (decode cX5_worth 18 = .ok (.iload 4, 2) ∧ decode cX5_worth 20 = .ok (.iaload, 1))) ∧ ((decode cX5_worth 21 = .ok (.istore 5, 2) ∧ decode cX5_worth 23 = .ok (.iload 5, 2)) ∧ (decode cX5_worth 25 = .ok (.ifCond .lt 39, 3) ∧ decode cX5_worth 28 = .ok (.iload_n 3, 1)))) := by decide +kernel
theorem dX5_worth_0 : decode cX5_worth 0 = .ok (.iconst 0, 1) := bd01_19.1.1.1.1
theorem dX5_worth_1 : decode cX5_worth 1 = .ok (.istore_n 3, 1) := bd01_19.1.1.1.2
theorem dX5_worth_2 : decode cX5_worth 2 = .ok (.iconst 0, 1) := bd01_19.1.1.2.1
theorem dX5_worth_3 : decode cX5_worth 3 = .ok (.istore 4, 2) := bd01_19.1.1.2.2
theorem dX5_worth_5 : decode cX5_worth 5 = .ok (.iload 4, 2) := bd01_19.1.2.1.1
theorem dX5_worth_7 : decode cX5_worth 7 = .ok (.aload_n 0, 1) := bd01_19.1.2.1.2
theorem dX5_worth_8 : decode cX5_worth 8 = .ok (.getfield 15, 3) := bd01_19.1.2.2.1
theorem dX5_worth_11 : decode cX5_worth 11 = .ok (.if_icmp .ge 117, 3) := bd01_19.1.2.2.2
theorem dX5_worth_14 : decode cX5_worth 14 = .ok (.aload_n 0, 1) := bd01_19.2.1.1.1
theorem dX5_worth_15 : decode cX5_worth 15 = .ok (.getfield 9, 3) := bd01_19.2.1.1.2
theorem dX5_worth_18 : decode cX5_worth 18 = .ok (.iload 4, 2) := bd01_19.2.1.2.1
theorem dX5_worth_20 : decode cX5_worth 20 = .ok (.iaload, 1) := bd01_19.2.1.2.2
theorem dX5_worth_21 : decode cX5_worth 21 = .ok (.istore 5, 2) := bd01_19.2.2.1.1
theorem dX5_worth_23 : decode cX5_worth 23 = .ok (.iload 5, 2) := bd01_19.2.2.1.2
theorem dX5_worth_25 : decode cX5_worth 25 = .ok (.ifCond .lt 39, 3) := bd01_19.2.2.2.1
theorem dX5_worth_28 : decode cX5_worth 28 = .ok (.iload_n 3, 1) := bd01_19.2.2.2.2
theorem bd01_20 : (((decode cX5_worth 29 = .ok (.aload_n 2, 1) ∧ decode cX5_worth 30 = .ok (.arraylength, 1)) ∧ (decode cX5_worth 31 = .ok (.if_icmp .ge 91, 3) ∧ decode cX5_worth 34 = .ok (.aload_n 2, 1))) ∧ ((decode cX5_worth 35 = .ok (.iload_n 3, 1) ∧ decode cX5_worth 36 = .ok (.iload 5, 2)) ∧ (decode cX5_worth 38 = .ok (.sipush 10000, 3) ∧ decode cX5_worth 41 = .ok (.if_icmp .ge 8, 3)))) ∧ (((decode cX5_worth 44 = .ok (.iload 5, 2) ∧ decode cX5_worth 46 = .ok (.goto 11, 3)) ∧ (decode cX5_worth 49 = .ok (.aload_n 1, 1) ∧ decode cX5_worth 50 = .ok (.iload 5, 2))) ∧ ((decode cX5_worth 52 = .ok (.sipush 10000, 3) ∧ decode cX5_worth 55 = .ok (.isub, 1)) ∧ (decode cX5_worth 56 = .ok (.iaload, 1) ∧ decode cX5_worth 57 = .ok (.iastore, 1)))) := by decide +kernel
theorem dX5_worth_29 : decode cX5_worth 29 = .ok (.aload_n 2, 1) := bd01_20.1.1.1.1
theorem dX5_worth_30 : decode cX5_worth 30 = .ok (.arraylength, 1) := bd01_20.1.1.1.2
theorem dX5_worth_31 : decode cX5_worth 31 = .ok (.if_icmp .ge 91, 3) := bd01_20.1.1.2.1
theorem dX5_worth_34 : decode cX5_worth 34 = .ok (.aload_n 2, 1) := bd01_20.1.1.2.2
theorem dX5_worth_35 : decode cX5_worth 35 = .ok (.iload_n 3, 1) := bd01_20.1.2.1.1
theorem dX5_worth_36 : decode cX5_worth 36 = .ok (.iload 5, 2) := bd01_20.1.2.1.2
theorem dX5_worth_38 : decode cX5_worth 38 = .ok (.sipush 10000, 3) := bd01_20.1.2.2.1
theorem dX5_worth_41 : decode cX5_worth 41 = .ok (.if_icmp .ge 8, 3) := bd01_20.1.2.2.2
theorem dX5_worth_44 : decode cX5_worth 44 = .ok (.iload 5, 2) := bd01_20.2.1.1.1
theorem dX5_worth_46 : decode cX5_worth 46 = .ok (.goto 11, 3) := bd01_20.2.1.1.2
theorem dX5_worth_49 : decode cX5_worth 49 = .ok (.aload_n 1, 1) := bd01_20.2.1.2.1
theorem dX5_worth_50 : decode cX5_worth 50 = .ok (.iload 5, 2) := bd01_20.2.1.2.2
theorem dX5_worth_52 : decode cX5_worth 52 = .ok (.sipush 10000, 3) := bd01_20.2.2.1.1
theorem dX5_worth_55 : decode cX5_worth 55 = .ok (.isub, 1) := bd01_20.2.2.1.2
theorem dX5_worth_56 : decode cX5_worth 56 = .ok (.iaload, 1) := bd01_20.2.2.2.1
theorem dX5_worth_57 : decode cX5_worth 57 = .ok (.iastore, 1) := bd01_20.2.2.2.2
theorem bd01_21 : (((decode cX5_worth 58 = .ok (.iinc 3 1, 3) ∧ decode cX5_worth 61 = .ok (.goto 61, 3)) ∧ (decode cX5_worth 64 = .ok (.iload 5, 2) ∧ decode cX5_worth 66 = .ok (.bipush (-3), 2))) ∧ ((decode cX5_worth 68 = .ok (.if_icmp .ne 28, 3) ∧ decode cX5_worth 71 = .ok (.iload_n 3, 1)) ∧ (decode cX5_worth 72 = .ok (.ifCond .le 50, 3) ∧ decode cX5_worth 75 = .ok (.aload_n 2, 1)))) ∧ (((decode cX5_worth 76 = .ok (.iload_n 3, 1) ∧ decode cX5_worth 77 = .ok (.iconst 1, 1)) ∧ (decode cX5_worth 78 = .ok (.isub, 1) ∧ decode cX5_worth 79 = .ok (.aload_n 2, 1))) ∧ ((decode cX5_worth 80 = .ok (.iload_n 3, 1) ∧ decode cX5_worth 81 = .ok (.iconst 1, 1)) ∧ (decode cX5_worth 82 = .ok (.isub, 1) ∧ decode cX5_worth 83 = .ok (.iaload, 1)))) := by decide +kernel
theorem dX5_worth_58 : decode cX5_worth 58 = .ok (.iinc 3 1, 3) := bd01_21.1.1.1.1
theorem dX5_worth_61 : decode cX5_worth 61 = .ok (.goto 61, 3) := bd01_21.1.1.1.2
theorem dX5_worth_64 : decode cX5_worth 64 = .ok (.iload 5, 2) := bd01_21.1.1.2.1
theorem dX5_worth_66 : decode cX5_worth 66 = .ok (.bipush (-3), 2) := bd01_21.1.1.2.2
theorem dX5_worth_68 : decode cX5_worth 68 = .ok (.if_icmp .ne 28, 3) := bd01_21.1.2.1.1
theorem dX5_worth_71 : decode cX5_worth 71 = .ok (.iload_n 3, 1) := bd01_21.1.2.1.2
theorem dX5_worth_72 : decode cX5_worth 72 = .ok (.ifCond .le 50, 3) := bd01_21.1.2.2.1
theorem dX5_worth_75 : decode cX5_worth 75 = .ok (.aload_n 2, 1) := bd01_21.1.2.2.2
theorem dX5_worth_76 : decode cX5_worth 76 = .ok (.iload_n 3, 1) := bd01_21.2.1.1.1
theorem dX5_worth_77 : decode cX5_worth 77 = .ok (.iconst 1, 1) := bd01_21.2.1.1.2
theorem dX5_worth_78 : decode cX5_worth 78 = .ok (.isub, 1) := bd01_21.2.1.2.1
theorem dX5_worth_79 : decode cX5_worth 79 = .ok (.aload_n 2, 1) := bd01_21.2.1.2.2
theorem dX5_worth_80 : decode cX5_worth 80 = .ok (.iload_n 3, 1) := bd01_21.2.2.1.1
theorem dX5_worth_81 : decode cX5_worth 81 = .ok (.iconst 1, 1) := bd01_21.2.2.1.2
theorem dX5_worth_82 : decode cX5_worth 82 = .ok (.isub, 1) := bd01_21.2.2.2.1
theorem dX5_worth_83 : decode cX5_worth 83 = .ok (.iaload, 1) := bd01_21.2.2.2.2
theorem bd01_22 : (((decode cX5_worth 84 = .ok (.ifCond .ne 7, 3) ∧ decode cX5_worth 87 = .ok (.iconst 1, 1)) ∧ (decode cX5_worth 88 = .ok (.goto 4, 3) ∧ decode cX5_worth 91 = .ok (.iconst 0, 1))) ∧ ((decode cX5_worth 92 = .ok (.iastore, 1) ∧ decode cX5_worth 93 = .ok (.goto 29, 3)) ∧ (decode cX5_worth 96 = .ok (.iload_n 3, 1) ∧ decode cX5_worth 97 = .ok (.iconst 1, 1)))) ∧ (((decode cX5_worth 98 = .ok (.if_icmp .le 24, 3) ∧ decode cX5_worth 101 = .ok (.iinc 3 (-1), 3)) ∧ (decode cX5_worth 104 = .ok (.aload_n 2, 1) ∧ decode cX5_worth 105 = .ok (.iload_n 3, 1))) ∧ ((decode cX5_worth 106 = .ok (.iconst 1, 1) ∧ decode cX5_worth 107 = .ok (.isub, 1)) ∧ (decode cX5_worth 108 = .ok (.iload 5, 2) ∧ decode cX5_worth 110 = .ok (.aload_n 2, 1)))) := by decide +kernel
theorem dX5_worth_84 : decode cX5_worth 84 = .ok (.ifCond .ne 7, 3) := bd01_22.1.1.1.1
theorem dX5_worth_87 : decode cX5_worth 87 = .ok (.iconst 1, 1) := bd01_22.1.1.1.2
theorem dX5_worth_88 : decode cX5_worth 88 = .ok (.goto 4, 3) := bd01_22.1.1.2.1
theorem dX5_worth_91 : decode cX5_worth 91 = .ok (.iconst 0, 1) := bd01_22.1.1.2.2
theorem dX5_worth_92 : decode cX5_worth 92 = .ok (.iastore, 1) := bd01_22.1.2.1.1
theorem dX5_worth_93 : decode cX5_worth 93 = .ok (.goto 29, 3) := bd01_22.1.2.1.2
theorem dX5_worth_96 : decode cX5_worth 96 = .ok (.iload_n 3, 1) := bd01_22.1.2.2.1
theorem dX5_worth_97 : decode cX5_worth 97 = .ok (.iconst 1, 1) := bd01_22.1.2.2.2
theorem dX5_worth_98 : decode cX5_worth 98 = .ok (.if_icmp .le 24, 3) := bd01_22.2.1.1.1
theorem dX5_worth_101 : decode cX5_worth 101 = .ok (.iinc 3 (-1), 3) := bd01_22.2.1.1.2
theorem dX5_worth_104 : decode cX5_worth 104 = .ok (.aload_n 2, 1) := bd01_22.2.1.2.1
theorem dX5_worth_105 : decode cX5_worth 105 = .ok (.iload_n 3, 1) := bd01_22.2.1.2.2
theorem dX5_worth_106 : decode cX5_worth 106 = .ok (.iconst 1, 1) := bd01_22.2.2.1.1
theorem dX5_worth_107 : decode cX5_worth 107 = .ok (.isub, 1) := bd01_22.2.2.1.2
theorem dX5_worth_108 : decode cX5_worth 108 = .ok (.iload 5, 2) := bd01_22.2.2.2.1
theorem dX5_worth_110 : decode cX5_worth 110 = .ok (.aload_n 2, 1) := bd01_22.2.2.2.2
theorem bd01_23 : (((decode cX5_worth 111 = .ok (.iload_n 3, 1) ∧ decode cX5_worth 112 = .ok (.iconst 1, 1)) ∧ (decode cX5_worth 113 = .ok (.isub, 1) ∧ decode cX5_worth 114 = .ok (.iaload, 1))) ∧ ((decode cX5_worth 115 = .ok (.aload_n 2, 1) ∧ decode cX5_worth 116 = .ok (.iload_n 3, 1)) ∧ (decode cX5_worth 117 = .ok (.iaload, 1) ∧ decode cX5_worth 118 = .ok (.invokestatic 25, 3)))) ∧ (((decode cX5_worth 121 = .ok (.iastore, 1) ∧ decode cX5_worth 122 = .ok (.iinc 4 1, 3)) ∧ (decode cX5_worth 125 = .ok (.goto (-120), 3) ∧ decode cX5_worth 128 = .ok (.iload_n 3, 1))) ∧ ((decode cX5_worth 129 = .ok (.ifCond .le 11, 3) ∧ decode cX5_worth 132 = .ok (.aload_n 2, 1)) ∧ (decode cX5_worth 133 = .ok (.iload_n 3, 1) ∧ decode cX5_worth 134 = .ok (.iconst 1, 1)))) := by decide +kernel
theorem dX5_worth_111 : decode cX5_worth 111 = .ok (.iload_n 3, 1) := bd01_23.1.1.1.1
theorem dX5_worth_112 : decode cX5_worth 112 = .ok (.iconst 1, 1) := bd01_23.1.1.1.2
theorem dX5_worth_113 : decode cX5_worth 113 = .ok (.isub, 1) := bd01_23.1.1.2.1
theorem dX5_worth_114 : decode cX5_worth 114 = .ok (.iaload, 1) := bd01_23.1.1.2.2
theorem dX5_worth_115 : decode cX5_worth 115 = .ok (.aload_n 2, 1) := bd01_23.1.2.1.1
theorem dX5_worth_116 : decode cX5_worth 116 = .ok (.iload_n 3, 1) := bd01_23.1.2.1.2
theorem dX5_worth_117 : decode cX5_worth 117 = .ok (.iaload, 1) := bd01_23.1.2.2.1
theorem dX5_worth_118 : decode cX5_worth 118 = .ok (.invokestatic 25, 3) := bd01_23.1.2.2.2
theorem dX5_worth_121 : decode cX5_worth 121 = .ok (.iastore, 1) := bd01_23.2.1.1.1
theorem dX5_worth_122 : decode cX5_worth 122 = .ok (.iinc 4 1, 3) := bd01_23.2.1.1.2
theorem dX5_worth_125 : decode cX5_worth 125 = .ok (.goto (-120), 3) := bd01_23.2.1.2.1
theorem dX5_worth_128 : decode cX5_worth 128 = .ok (.iload_n 3, 1) := bd01_23.2.1.2.2
theorem dX5_worth_129 : decode cX5_worth 129 = .ok (.ifCond .le 11, 3) := bd01_23.2.2.1.1
theorem dX5_worth_132 : decode cX5_worth 132 = .ok (.aload_n 2, 1) := bd01_23.2.2.1.2
theorem dX5_worth_133 : decode cX5_worth 133 = .ok (.iload_n 3, 1) := bd01_23.2.2.2.1
theorem dX5_worth_134 : decode cX5_worth 134 = .ok (.iconst 1, 1) := bd01_23.2.2.2.2
theorem bd01_24 : ((decode cX5_worth 135 = .ok (.isub, 1) ∧ decode cX5_worth 136 = .ok (.iaload, 1)) ∧ (decode cX5_worth 137 = .ok (.goto 4, 3) ∧ decode cX5_worth 140 = .ok (.iconst 0, 1))) ∧ ((decode cX5_worth 141 = .ok (.ireturn, 1) ∧ decode cX5_join 0 = .ok (.iload_n 0, 1)) ∧ (decode cX5_join 1 = .ok (.tableswitch 109 (-8) (-1) #[105, 101, 97, 86, 75, 109, 61, 47], 47) ∧ decode cX5_join 48 = .ok (.iload_n 1, 1))) := by decide +kernel
theorem dX5_worth_135 : decode cX5_worth 135 = .ok (.isub, 1) := bd01_24.1.1.1
theorem dX5_worth_136 : decode cX5_worth 136 = .ok (.iaload, 1) := bd01_24.1.1.2
theorem dX5_worth_137 : decode cX5_worth 137 = .ok (.goto 4, 3) := bd01_24.1.2.1
theorem dX5_worth_140 : decode cX5_worth 140 = .ok (.iconst 0, 1) := bd01_24.1.2.2
theorem dX5_worth_141 : decode cX5_worth 141 = .ok (.ireturn, 1) := bd01_24.2.1.1
theorem dX5_join_0 : decode cX5_join 0 = .ok (.iload_n 0, 1) := bd01_24.2.1.2
theorem dX5_join_1 : decode cX5_join 1 = .ok (.tableswitch 109 (-8) (-1) #[105, 101, 97, 86, 75, 109, 61, 47], 47) := bd01_24.2.2.1
theorem dX5_join_48 : decode cX5_join 48 = .ok (.iload_n 1, 1) := bd01_24.2.2.2
theorem bd01_25 : (((decode cX5_join 49 = .ok (.ifCond .ne 7, 3) ∧ decode cX5_join 52 = .ok (.iload_n 2, 1)) ∧ (decode cX5_join 53 = .ok (.ifCond .eq 7, 3) ∧ decode cX5_join 56 = .ok (.iconst 1, 1))) ∧ ((decode cX5_join 57 = .ok (.goto 4, 3) ∧ decode cX5_join 60 = .ok (.iconst 0, 1)) ∧ (decode cX5_join 61 = .ok (.ireturn, 1) ∧ decode cX5_join 62 = .ok (.iload_n 1, 1)))) ∧ (((decode cX5_join 63 = .ok (.ifCond .eq 11, 3) ∧ decode cX5_join 66 = .ok (.iload_n 2, 1)) ∧ (decode cX5_join 67 = .ok (.ifCond .eq 7, 3) ∧ decode cX5_join 70 = .ok (.iconst 1, 1))) ∧ ((decode cX5_join 71 = .ok (.goto 4, 3) ∧ decode cX5_join 74 = .ok (.iconst 0, 1)) ∧ (decode cX5_join 75 = .ok (.ireturn, 1) ∧ decode cX5_join 76 = .ok (.iload_n 1, 1)))) := by decide +kernel
theorem dX5_join_49 : decode cX5_join 49 = .ok (.ifCond .ne 7, 3) := bd01_25.1.1.1.1
theorem dX5_join_52 : decode cX5_join 52 = .ok (.iload_n 2, 1) := bd01_25.1.1.1.2
theorem dX5_join_53 : decode cX5_join 53 = .ok (.ifCond .eq 7, 3) := bd01_25.1.1.2.1
theorem dX5_join_56 : decode cX5_join 56 = .ok (.iconst 1, 1) := bd01_25.1.1.2.2
theorem dX5_join_57 : decode cX5_join 57 = .ok (.goto 4, 3) := bd01_25.1.2.1.1
theorem dX5_join_60 : decode cX5_join 60 = .ok (.iconst 0, 1) := bd01_25.1.2.1.2
theorem dX5_join_61 : decode cX5_join 61 = .ok (.ireturn, 1) := bd01_25.1.2.2.1
theorem dX5_join_62 : decode cX5_join 62 = .ok (.iload_n 1, 1) := bd01_25.1.2.2.2
theorem dX5_join_63 : decode cX5_join 63 = .ok (.ifCond .eq 11, 3) := bd01_25.2.1.1.1
theorem dX5_join_66 : decode cX5_join 66 = .ok (.iload_n 2, 1) := bd01_25.2.1.1.2
theorem dX5_join_67 : decode cX5_join 67 = .ok (.ifCond .eq 7, 3) := bd01_25.2.1.2.1
theorem dX5_join_70 : decode cX5_join 70 = .ok (.iconst 1, 1) := bd01_25.2.1.2.2
theorem dX5_join_71 : decode cX5_join 71 = .ok (.goto 4, 3) := bd01_25.2.2.1.1
theorem dX5_join_74 : decode cX5_join 74 = .ok (.iconst 0, 1) := bd01_25.2.2.1.2
theorem dX5_join_75 : decode cX5_join 75 = .ok (.ireturn, 1) := bd01_25.2.2.2.1
theorem dX5_join_76 : decode cX5_join 76 = .ok (.iload_n 1, 1) := bd01_25.2.2.2.2
theorem bd01_26 : (((decode cX5_join 77 = .ok (.iload_n 2, 1) ∧ decode cX5_join 78 = .ok (.if_icmp .ge 7, 3)) ∧ (decode cX5_join 81 = .ok (.iconst 1, 1) ∧ decode cX5_join 82 = .ok (.goto 4, 3))) ∧ ((decode cX5_join 85 = .ok (.iconst 0, 1) ∧ decode cX5_join 86 = .ok (.ireturn, 1)) ∧ (decode cX5_join 87 = .ok (.iload_n 1, 1) ∧ decode cX5_join 88 = .ok (.iload_n 2, 1)))) ∧ (((decode cX5_join 89 = .ok (.if_icmp .ne 7, 3) ∧ decode cX5_join 92 = .ok (.iconst 1, 1)) ∧ (decode cX5_join 93 = .ok (.goto 4, 3) ∧ decode cX5_join 96 = .ok (.iconst 0, 1))) ∧ ((decode cX5_join 97 = .ok (.ireturn, 1) ∧ decode cX5_join 98 = .ok (.iload_n 1, 1)) ∧ (decode cX5_join 99 = .ok (.iload_n 2, 1) ∧ decode cX5_join 100 = .ok (.iadd, 1)))) := by decide +kernel
theorem dX5_join_77 : decode cX5_join 77 = .ok (.iload_n 2, 1) := bd01_26.1.1.1.1
theorem dX5_join_78 : decode cX5_join 78 = .ok (.if_icmp .ge 7, 3) := bd01_26.1.1.1.2
theorem dX5_join_81 : decode cX5_join 81 = .ok (.iconst 1, 1) := bd01_26.1.1.2.1
theorem dX5_join_82 : decode cX5_join 82 = .ok (.goto 4, 3) := bd01_26.1.1.2.2
theorem dX5_join_85 : decode cX5_join 85 = .ok (.iconst 0, 1) := bd01_26.1.2.1.1
theorem dX5_join_86 : decode cX5_join 86 = .ok (.ireturn, 1) := bd01_26.1.2.1.2
theorem dX5_join_87 : decode cX5_join 87 = .ok (.iload_n 1, 1) := bd01_26.1.2.2.1
theorem dX5_join_88 : decode cX5_join 88 = .ok (.iload_n 2, 1) := bd01_26.1.2.2.2
theorem dX5_join_89 : decode cX5_join 89 = .ok (.if_icmp .ne 7, 3) := bd01_26.2.1.1.1
theorem dX5_join_92 : decode cX5_join 92 = .ok (.iconst 1, 1) := bd01_26.2.1.1.2
theorem dX5_join_93 : decode cX5_join 93 = .ok (.goto 4, 3) := bd01_26.2.1.2.1
theorem dX5_join_96 : decode cX5_join 96 = .ok (.iconst 0, 1) := bd01_26.2.1.2.2
theorem dX5_join_97 : decode cX5_join 97 = .ok (.ireturn, 1) := bd01_26.2.2.1.1
theorem dX5_join_98 : decode cX5_join 98 = .ok (.iload_n 1, 1) := bd01_26.2.2.1.2
theorem dX5_join_99 : decode cX5_join 99 = .ok (.iload_n 2, 1) := bd01_26.2.2.2.1
theorem dX5_join_100 : decode cX5_join 100 = .ok (.iadd, 1) := bd01_26.2.2.2.2
theorem bd01_27 : (((decode cX5_join 101 = .ok (.ireturn, 1) ∧ decode cX5_join 102 = .ok (.iload_n 1, 1)) ∧ (decode cX5_join 103 = .ok (.iload_n 2, 1) ∧ decode cX5_join 104 = .ok (.isub, 1))) ∧ ((decode cX5_join 105 = .ok (.ireturn, 1) ∧ decode cX5_join 106 = .ok (.iload_n 1, 1)) ∧ (decode cX5_join 107 = .ok (.iload_n 2, 1) ∧ decode cX5_join 108 = .ok (.imul, 1)))) ∧ (((decode cX5_join 109 = .ok (.ireturn, 1) ∧ decode cX5_join 110 = .ok (.iload_n 2, 1)) ∧ (decode cX5_join 111 = .ok (.ifCond .ne 7, 3) ∧ decode cX5_join 114 = .ok (.iconst 0, 1))) ∧ ((decode cX5_join 115 = .ok (.goto 6, 3) ∧ decode cX5_join 118 = .ok (.iload_n 1, 1)) ∧ (decode cX5_join 119 = .ok (.iload_n 2, 1) ∧ decode cX5_join 120 = .ok (.idiv, 1)))) := by decide +kernel
theorem dX5_join_101 : decode cX5_join 101 = .ok (.ireturn, 1) := bd01_27.1.1.1.1
theorem dX5_join_102 : decode cX5_join 102 = .ok (.iload_n 1, 1) := bd01_27.1.1.1.2
theorem dX5_join_103 : decode cX5_join 103 = .ok (.iload_n 2, 1) := bd01_27.1.1.2.1
theorem dX5_join_104 : decode cX5_join 104 = .ok (.isub, 1) := bd01_27.1.1.2.2
theorem dX5_join_105 : decode cX5_join 105 = .ok (.ireturn, 1) := bd01_27.1.2.1.1
theorem dX5_join_106 : decode cX5_join 106 = .ok (.iload_n 1, 1) := bd01_27.1.2.1.2
theorem dX5_join_107 : decode cX5_join 107 = .ok (.iload_n 2, 1) := bd01_27.1.2.2.1
theorem dX5_join_108 : decode cX5_join 108 = .ok (.imul, 1) := bd01_27.1.2.2.2
theorem dX5_join_109 : decode cX5_join 109 = .ok (.ireturn, 1) := bd01_27.2.1.1.1
theorem dX5_join_110 : decode cX5_join 110 = .ok (.iload_n 2, 1) := bd01_27.2.1.1.2
theorem dX5_join_111 : decode cX5_join 111 = .ok (.ifCond .ne 7, 3) := bd01_27.2.1.2.1
theorem dX5_join_114 : decode cX5_join 114 = .ok (.iconst 0, 1) := bd01_27.2.1.2.2
theorem dX5_join_115 : decode cX5_join 115 = .ok (.goto 6, 3) := bd01_27.2.2.1.1
theorem dX5_join_118 : decode cX5_join 118 = .ok (.iload_n 1, 1) := bd01_27.2.2.1.2
theorem dX5_join_119 : decode cX5_join 119 = .ok (.iload_n 2, 1) := bd01_27.2.2.2.1
theorem dX5_join_120 : decode cX5_join 120 = .ok (.idiv, 1) := bd01_27.2.2.2.2
theorem bd01_28 : ((decode cX5_join 121 = .ok (.ireturn, 1) ∧ decode cX6_init 0 = .ok (.aload_n 0, 1)) ∧ (decode cX6_init 1 = .ok (.invokespecial 3, 3) ∧ decode cX6_init 4 = .ok (.aload_n 0, 1))) ∧ ((decode cX6_init 5 = .ok (.sipush 2304, 3) ∧ decode cX6_init 8 = .ok (.newarray .int, 2)) ∧ (decode cX6_init 10 = .ok (.putfield 11, 3) ∧ decode cX6_init 13 = .ok (.aload_n 0, 1))) := by decide +kernel
theorem dX5_join_121 : decode cX5_join 121 = .ok (.ireturn, 1) := bd01_28.1.1.1
theorem dX6_init_0 : decode cX6_init 0 = .ok (.aload_n 0, 1) := bd01_28.1.1.2
theorem dX6_init_1 : decode cX6_init 1 = .ok (.invokespecial 3, 3) := bd01_28.1.2.1
theorem dX6_init_4 : decode cX6_init 4 = .ok (.aload_n 0, 1) := bd01_28.1.2.2
theorem dX6_init_5 : decode cX6_init 5 = .ok (.sipush 2304, 3) := bd01_28.2.1.1
theorem dX6_init_8 : decode cX6_init 8 = .ok (.newarray .int, 2) := bd01_28.2.1.2
theorem dX6_init_10 : decode cX6_init 10 = .ok (.putfield 11, 3) := bd01_28.2.2.1
theorem dX6_init_13 : decode cX6_init 13 = .ok (.aload_n 0, 1) := bd01_28.2.2.2
theorem bd01_29 : ((decode cX6_init 14 = .ok (.aload_n 1, 1) ∧ decode cX6_init 15 = .ok (.putfield 15, 3)) ∧ (decode cX6_init 18 = .ok (.return_, 1) ∧ decode cX6_find 0 = .ok (.aload_n 0, 1))) ∧ ((decode cX6_find 1 = .ok (.getfield 15, 3) ∧ decode cX6_find 4 = .ok (.getfield 19, 3)) ∧ (decode cX6_find 7 = .ok (.aload_n 0, 1) ∧ decode cX6_find 8 = .ok (.getfield 15, 3))) := by decide +kernel
theorem dX6_init_14 : decode cX6_init 14 = .ok (.aload_n 1, 1) := bd01_29.1.1.1
theorem dX6_init_15 : decode cX6_init 15 = .ok (.putfield 15, 3) := bd01_29.1.1.2
theorem dX6_init_18 : decode cX6_init 18 = .ok (.return_, 1) := bd01_29.1.2.1
theorem dX6_find_0 : decode cX6_find 0 = .ok (.aload_n 0, 1) := bd01_29.1.2.2
theorem dX6_find_1 : decode cX6_find 1 = .ok (.getfield 15, 3) := bd01_29.2.1.1
theorem dX6_find_4 : decode cX6_find 4 = .ok (.getfield 19, 3) := bd01_29.2.1.2
theorem dX6_find_7 : decode cX6_find 7 = .ok (.aload_n 0, 1) := bd01_29.2.2.1
theorem dX6_find_8 : decode cX6_find 8 = .ok (.getfield 15, 3) := bd01_29.2.2.2
theorem bd01_30 : (((decode cX6_find 11 = .ok (.getfield 25, 3) ∧ decode cX6_find 14 = .ok (.invokestatic 28, 3)) ∧ (decode cX6_find 17 = .ok (.istore_n 1, 1) ∧ decode cX6_find 18 = .ok (.iconst 1, 1))) ∧ ((decode cX6_find 19 = .ok (.aload_n 0, 1) ∧ decode cX6_find 20 = .ok (.getfield 15, 3)) ∧ (decode cX6_find 23 = .ok (.getfield 19, 3) ∧ decode cX6_find 26 = .ok (.ishl, 1)))) ∧ (((decode cX6_find 27 = .ok (.istore_n 2, 1) ∧ decode cX6_find 28 = .ok (.iconst 0, 1)) ∧ (decode cX6_find 29 = .ok (.istore_n 3, 1) ∧ decode cX6_find 30 = .ok (.iload_n 3, 1))) ∧ ((decode cX6_find 31 = .ok (.iload_n 2, 1) ∧ decode cX6_find 32 = .ok (.if_icmp .ge 41, 3)) ∧ (decode cX6_find 35 = .ok (.aload_n 0, 1) ∧ decode cX6_find 36 = .ok (.getfield 11, 3)))) := by decide +kernel
theorem dX6_find_11 : decode cX6_find 11 = .ok (.getfield 25, 3) := bd01_30.1.1.1.1
theorem dX6_find_14 : decode cX6_find 14 = .ok (.invokestatic 28, 3) := bd01_30.1.1.1.2
theorem dX6_find_17 : decode cX6_find 17 = .ok (.istore_n 1, 1) := bd01_30.1.1.2.1
theorem dX6_find_18 : decode cX6_find 18 = .ok (.iconst 1, 1) := bd01_30.1.1.2.2
theorem dX6_find_19 : decode cX6_find 19 = .ok (.aload_n 0, 1) := bd01_30.1.2.1.1
theorem dX6_find_20 : decode cX6_find 20 = .ok (.getfield 15, 3) := bd01_30.1.2.1.2
theorem dX6_find_23 : decode cX6_find 23 = .ok (.getfield 19, 3) := bd01_30.1.2.2.1
theorem dX6_find_26 : decode cX6_find 26 = .ok (.ishl, 1) := bd01_30.1.2.2.2
theorem dX6_find_27 : decode cX6_find 27 = .ok (.istore_n 2, 1) := bd01_30.2.1.1.1
theorem dX6_find_28 : decode cX6_find 28 = .ok (.iconst 0, 1) := bd01_30.2.1.1.2
theorem dX6_find_29 : decode cX6_find 29 = .ok (.istore_n 3, 1) := bd01_30.2.1.2.1
theorem dX6_find_30 : decode cX6_find 30 = .ok (.iload_n 3, 1) := bd01_30.2.1.2.2
theorem dX6_find_31 : decode cX6_find 31 = .ok (.iload_n 2, 1) := bd01_30.2.2.1.1
theorem dX6_find_32 : decode cX6_find 32 = .ok (.if_icmp .ge 41, 3) := bd01_30.2.2.1.2
theorem dX6_find_35 : decode cX6_find 35 = .ok (.aload_n 0, 1) := bd01_30.2.2.2.1
theorem dX6_find_36 : decode cX6_find 36 = .ok (.getfield 11, 3) := bd01_30.2.2.2.2
theorem bd01_31 : (((decode cX6_find 39 = .ok (.aload_n 0, 1) ∧ decode cX6_find 40 = .ok (.getfield 15, 3)) ∧ (decode cX6_find 43 = .ok (.getfield 25, 3) ∧ decode cX6_find 46 = .ok (.sipush 256, 3))) ∧ ((decode cX6_find 49 = .ok (.imul, 1) ∧ decode cX6_find 50 = .ok (.iload_n 3, 1)) ∧ (decode cX6_find 51 = .ok (.iadd, 1) ∧ decode cX6_find 52 = .ok (.iload_n 3, 1)))) ∧ (((decode cX6_find 53 = .ok (.invokestatic 34, 3) ∧ decode cX6_find 56 = .ok (.iload_n 1, 1)) ∧ (decode cX6_find 57 = .ok (.if_icmp .ne 7, 3) ∧ decode cX6_find 60 = .ok (.iconst 0, 1))) ∧ ((decode cX6_find 61 = .ok (.goto 5, 3) ∧ decode cX6_find 64 = .ok (.ldc 40, 2)) ∧ (decode cX6_find 66 = .ok (.iastore, 1) ∧ decode cX6_find 67 = .ok (.iinc 3 1, 3)))) := by decide +kernel
theorem dX6_find_39 : decode cX6_find 39 = .ok (.aload_n 0, 1) := bd01_31.1.1.1.1
theorem dX6_find_40 : decode cX6_find 40 = .ok (.getfield 15, 3) := bd01_31.1.1.1.2
theorem dX6_find_43 : decode cX6_find 43 = .ok (.getfield 25, 3) := bd01_31.1.1.2.1
theorem dX6_find_46 : decode cX6_find 46 = .ok (.sipush 256, 3) := bd01_31.1.1.2.2
theorem dX6_find_49 : decode cX6_find 49 = .ok (.imul, 1) := bd01_31.1.2.1.1
theorem dX6_find_50 : decode cX6_find 50 = .ok (.iload_n 3, 1) := bd01_31.1.2.1.2
theorem dX6_find_51 : decode cX6_find 51 = .ok (.iadd, 1) := bd01_31.1.2.2.1
theorem dX6_find_52 : decode cX6_find 52 = .ok (.iload_n 3, 1) := bd01_31.1.2.2.2
theorem dX6_find_53 : decode cX6_find 53 = .ok (.invokestatic 34, 3) := bd01_31.2.1.1.1
theorem dX6_find_56 : decode cX6_find 56 = .ok (.iload_n 1, 1) := bd01_31.2.1.1.2
theorem dX6_find_57 : decode cX6_find 57 = .ok (.if_icmp .ne 7, 3) := bd01_31.2.1.2.1
theorem dX6_find_60 : decode cX6_find 60 = .ok (.iconst 0, 1) := bd01_31.2.1.2.2
theorem dX6_find_61 : decode cX6_find 61 = .ok (.goto 5, 3) := bd01_31.2.2.1.1
theorem dX6_find_64 : decode cX6_find 64 = .ok (.ldc 40, 2) := bd01_31.2.2.1.2
theorem dX6_find_66 : decode cX6_find 66 = .ok (.iastore, 1) := bd01_31.2.2.2.1
theorem dX6_find_67 : decode cX6_find 67 = .ok (.iinc 3 1, 3) := bd01_31.2.2.2.2
theorem bd01_32 : (((decode cX6_find 70 = .ok (.goto (-40), 3) ∧ decode cX6_find 73 = .ok (.aload_n 0, 1)) ∧ (decode cX6_find 74 = .ok (.getfield 15, 3) ∧ decode cX6_find 77 = .ok (.getfield 25, 3))) ∧ ((decode cX6_find 80 = .ok (.iconst 1, 1) ∧ decode cX6_find 81 = .ok (.isub, 1)) ∧ (decode cX6_find 82 = .ok (.istore_n 3, 1) ∧ decode cX6_find 83 = .ok (.iload_n 3, 1)))) ∧ (((decode cX6_find 84 = .ok (.ifCond .lt 44, 3) ∧ decode cX6_find 87 = .ok (.iconst 0, 1)) ∧ (decode cX6_find 88 = .ok (.istore 4, 2) ∧ decode cX6_find 90 = .ok (.iload 4, 2))) ∧ ((decode cX6_find 92 = .ok (.iload_n 2, 1) ∧ decode cX6_find 93 = .ok (.if_icmp .ge 29, 3)) ∧ (decode cX6_find 96 = .ok (.aload_n 0, 1) ∧ decode cX6_find 97 = .ok (.getfield 11, 3)))) := by decide +kernel
theorem dX6_find_70 : decode cX6_find 70 = .ok (.goto (-40), 3) := bd01_32.1.1.1.1
theorem dX6_find_73 : decode cX6_find 73 = .ok (.aload_n 0, 1) := bd01_32.1.1.1.2
theorem dX6_find_74 : decode cX6_find 74 = .ok (.getfield 15, 3) := bd01_32.1.1.2.1
theorem dX6_find_77 : decode cX6_find 77 = .ok (.getfield 25, 3) := bd01_32.1.1.2.2
theorem dX6_find_80 : decode cX6_find 80 = .ok (.iconst 1, 1) := bd01_32.1.2.1.1
theorem dX6_find_81 : decode cX6_find 81 = .ok (.isub, 1) := bd01_32.1.2.1.2
theorem dX6_find_82 : decode cX6_find 82 = .ok (.istore_n 3, 1) := bd01_32.1.2.2.1
theorem dX6_find_83 : decode cX6_find 83 = .ok (.iload_n 3, 1) := bd01_32.1.2.2.2
theorem dX6_find_84 : decode cX6_find 84 = .ok (.ifCond .lt 44, 3) := bd01_32.2.1.1.1
theorem dX6_find_87 : decode cX6_find 87 = .ok (.iconst 0, 1) := bd01_32.2.1.1.2
theorem dX6_find_88 : decode cX6_find 88 = .ok (.istore 4, 2) := bd01_32.2.1.2.1
theorem dX6_find_90 : decode cX6_find 90 = .ok (.iload 4, 2) := bd01_32.2.1.2.2
theorem dX6_find_92 : decode cX6_find 92 = .ok (.iload_n 2, 1) := bd01_32.2.2.1.1
theorem dX6_find_93 : decode cX6_find 93 = .ok (.if_icmp .ge 29, 3) := bd01_32.2.2.1.2
theorem dX6_find_96 : decode cX6_find 96 = .ok (.aload_n 0, 1) := bd01_32.2.2.2.1
theorem dX6_find_97 : decode cX6_find 97 = .ok (.getfield 11, 3) := bd01_32.2.2.2.2
theorem bd01_33 : (((decode cX6_find 100 = .ok (.iload_n 3, 1) ∧ decode cX6_find 101 = .ok (.sipush 256, 3)) ∧ (decode cX6_find 104 = .ok (.imul, 1) ∧ decode cX6_find 105 = .ok (.iload 4, 2))) ∧ ((decode cX6_find 107 = .ok (.iadd, 1) ∧ decode cX6_find 108 = .ok (.aload_n 0, 1)) ∧ (decode cX6_find 109 = .ok (.iload_n 3, 1) ∧ decode cX6_find 110 = .ok (.iload 4, 2)))) ∧ (((decode cX6_find 112 = .ok (.invokevirtual 41, 3) ∧ decode cX6_find 115 = .ok (.iastore, 1)) ∧ (decode cX6_find 116 = .ok (.iinc 4 1, 3) ∧ decode cX6_find 119 = .ok (.goto (-29), 3))) ∧ ((decode cX6_find 122 = .ok (.iinc 3 (-1), 3) ∧ decode cX6_find 125 = .ok (.goto (-42), 3)) ∧ (decode cX6_find 128 = .ok (.return_, 1)))) := by decide +kernel
theorem dX6_find_100 : decode cX6_find 100 = .ok (.iload_n 3, 1) := bd01_33.1.1.1.1
theorem dX6_find_101 : decode cX6_find 101 = .ok (.sipush 256, 3) := bd01_33.1.1.1.2
theorem dX6_find_104 : decode cX6_find 104 = .ok (.imul, 1) := bd01_33.1.1.2.1
theorem dX6_find_105 : decode cX6_find 105 = .ok (.iload 4, 2) := bd01_33.1.1.2.2
theorem dX6_find_107 : decode cX6_find 107 = .ok (.iadd, 1) := bd01_33.1.2.1.1
theorem dX6_find_108 : decode cX6_find 108 = .ok (.aload_n 0, 1) := bd01_33.1.2.1.2
theorem dX6_find_109 : decode cX6_find 109 = .ok (.iload_n 3, 1) := bd01_33.1.2.2.1
theorem dX6_find_110 : decode cX6_find 110 = .ok (.iload 4, 2) := bd01_33.1.2.2.2
theorem dX6_find_112 : decode cX6_find 112 = .ok (.invokevirtual 41, 3) := bd01_33.2.1.1.1
theorem dX6_find_115 : decode cX6_find 115 = .ok (.iastore, 1) := bd01_33.2.1.1.2
theorem dX6_find_116 : decode cX6_find 116 = .ok (.iinc 4 1, 3) := bd01_33.2.1.2.1
theorem dX6_find_119 : decode cX6_find 119 = .ok (.goto (-29), 3) := bd01_33.2.1.2.2
theorem dX6_find_122 : decode cX6_find 122 = .ok (.iinc 3 (-1), 3) := bd01_33.2.2.1.1
theorem dX6_find_125 : decode cX6_find 125 = .ok (.goto (-42), 3) := bd01_33.2.2.1.2
theorem dX6_find_128 : decode cX6_find 128 = .ok (.return_, 1) := bd01_33.2.2.2
theorem bd01_34 : ((decode cX6_difference 0 = .ok (.aload_n 0, 1) ∧ decode cX6_difference 1 = .ok (.getfield 11, 3)) ∧ (decode cX6_difference 4 = .ok (.iconst 0, 1) ∧ decode cX6_difference 5 = .ok (.iaload, 1))) ∧ ((decode cX6_difference 6 = .ok (.ireturn, 1) ∧ decode cX6_placeFor 0 = .ok (.iconst 0, 1)) ∧ (decode cX6_placeFor 1 = .ok (.istore_n 2, 1) ∧ decode cX6_placeFor 2 = .ok (.iconst (-1), 1))) := by decide +kernel
theorem dX6_difference_0 : decode cX6_difference 0 = .ok (.aload_n 0, 1) := bd01_34.1.1.1
theorem dX6_difference_1 : decode cX6_difference 1 = .ok (.getfield 11, 3) := bd01_34.1.1.2
theorem dX6_difference_4 : decode cX6_difference 4 = .ok (.iconst 0, 1) := bd01_34.1.2.1
theorem dX6_difference_5 : decode cX6_difference 5 = .ok (.iaload, 1) := bd01_34.1.2.2
theorem dX6_difference_6 : decode cX6_difference 6 = .ok (.ireturn, 1) := bd01_34.2.1.1
theorem dX6_placeFor_0 : decode cX6_placeFor 0 = .ok (.iconst 0, 1) := bd01_34.2.1.2
theorem dX6_placeFor_1 : decode cX6_placeFor 1 = .ok (.istore_n 2, 1) := bd01_34.2.2.1
theorem dX6_placeFor_2 : decode cX6_placeFor 2 = .ok (.iconst (-1), 1) := bd01_34.2.2.2
theorem bd01_35 : (((decode cX6_placeFor 3 = .ok (.istore_n 3, 1) ∧ decode cX6_placeFor 4 = .ok (.iconst 0, 1)) ∧ (decode cX6_placeFor 5 = .ok (.istore 4, 2) ∧ decode cX6_placeFor 7 = .ok (.iload 4, 2))) ∧ ((decode cX6_placeFor 9 = .ok (.iload_n 1, 1) ∧ decode cX6_placeFor 10 = .ok (.if_icmp .gt 28, 3)) ∧ (decode cX6_placeFor 13 = .ok (.aload_n 0, 1) ∧ decode cX6_placeFor 14 = .ok (.iload 4, 2)))) ∧ (((decode cX6_placeFor 16 = .ok (.iload_n 2, 1) ∧ decode cX6_placeFor 17 = .ok (.invokevirtual 44, 3)) ∧ (decode cX6_placeFor 20 = .ok (.istore_n 3, 1) ∧ decode cX6_placeFor 21 = .ok (.iload_n 3, 1))) ∧ ((decode cX6_placeFor 22 = .ok (.iconst (-1), 1) ∧ decode cX6_placeFor 23 = .ok (.if_icmp .eq 9, 3)) ∧ (decode cX6_placeFor 26 = .ok (.iload_n 2, 1) ∧ decode cX6_placeFor 27 = .ok (.iconst 1, 1)))) := by decide +kernel
theorem dX6_placeFor_3 : decode cX6_placeFor 3 = .ok (.istore_n 3, 1) := bd01_35.1.1.1.1
theorem dX6_placeFor_4 : decode cX6_placeFor 4 = .ok (.iconst 0, 1) := bd01_35.1.1.1.2
theorem dX6_placeFor_5 : decode cX6_placeFor 5 = .ok (.istore 4, 2) := bd01_35.1.1.2.1
theorem dX6_placeFor_7 : decode cX6_placeFor 7 = .ok (.iload 4, 2) := bd01_35.1.1.2.2
theorem dX6_placeFor_9 : decode cX6_placeFor 9 = .ok (.iload_n 1, 1) := bd01_35.1.2.1.1
theorem dX6_placeFor_10 : decode cX6_placeFor 10 = .ok (.if_icmp .gt 28, 3) := bd01_35.1.2.1.2
theorem dX6_placeFor_13 : decode cX6_placeFor 13 = .ok (.aload_n 0, 1) := bd01_35.1.2.2.1
theorem dX6_placeFor_14 : decode cX6_placeFor 14 = .ok (.iload 4, 2) := bd01_35.1.2.2.2
theorem dX6_placeFor_16 : decode cX6_placeFor 16 = .ok (.iload_n 2, 1) := bd01_35.2.1.1.1
theorem dX6_placeFor_17 : decode cX6_placeFor 17 = .ok (.invokevirtual 44, 3) := bd01_35.2.1.1.2
theorem dX6_placeFor_20 : decode cX6_placeFor 20 = .ok (.istore_n 3, 1) := bd01_35.2.1.2.1
theorem dX6_placeFor_21 : decode cX6_placeFor 21 = .ok (.iload_n 3, 1) := bd01_35.2.1.2.2
theorem dX6_placeFor_22 : decode cX6_placeFor 22 = .ok (.iconst (-1), 1) := bd01_35.2.2.1.1
theorem dX6_placeFor_23 : decode cX6_placeFor 23 = .ok (.if_icmp .eq 9, 3) := bd01_35.2.2.1.2
theorem dX6_placeFor_26 : decode cX6_placeFor 26 = .ok (.iload_n 2, 1) := bd01_35.2.2.2.1
theorem dX6_placeFor_27 : decode cX6_placeFor 27 = .ok (.iconst 1, 1) := bd01_35.2.2.2.2
theorem bd01_36 : ((decode cX6_placeFor 28 = .ok (.iload_n 3, 1) ∧ decode cX6_placeFor 29 = .ok (.ishl, 1)) ∧ (decode cX6_placeFor 30 = .ok (.ior, 1) ∧ decode cX6_placeFor 31 = .ok (.istore_n 2, 1))) ∧ ((decode cX6_placeFor 32 = .ok (.iinc 4 1, 3) ∧ decode cX6_placeFor 35 = .ok (.goto (-28), 3)) ∧ (decode cX6_placeFor 38 = .ok (.iload_n 3, 1) ∧ decode cX6_placeFor 39 = .ok (.ireturn, 1))) := by decide +kernel
theorem dX6_placeFor_28 : decode cX6_placeFor 28 = .ok (.iload_n 3, 1) := bd01_36.1.1.1
theorem dX6_placeFor_29 : decode cX6_placeFor 29 = .ok (.ishl, 1) := bd01_36.1.1.2
theorem dX6_placeFor_30 : decode cX6_placeFor 30 = .ok (.ior, 1) := bd01_36.1.2.1
theorem dX6_placeFor_31 : decode cX6_placeFor 31 = .ok (.istore_n 2, 1) := bd01_36.1.2.2
theorem dX6_placeFor_32 : decode cX6_placeFor 32 = .ok (.iinc 4 1, 3) := bd01_36.2.1.1
theorem dX6_placeFor_35 : decode cX6_placeFor 35 = .ok (.goto (-28), 3) := bd01_36.2.1.2
theorem dX6_placeFor_38 : decode cX6_placeFor 38 = .ok (.iload_n 3, 1) := bd01_36.2.2.1
theorem dX6_placeFor_39 : decode cX6_placeFor 39 = .ok (.ireturn, 1) := bd01_36.2.2.2
theorem bd01_37 : (((decode cX6_leastFrom 0 = .ok (.aload_n 0, 1) ∧ decode cX6_leastFrom 1 = .ok (.getfield 11, 3)) ∧ (decode cX6_leastFrom 4 = .ok (.iload_n 1, 1) ∧ decode cX6_leastFrom 5 = .ok (.iconst 1, 1))) ∧ ((decode cX6_leastFrom 6 = .ok (.iadd, 1) ∧ decode cX6_leastFrom 7 = .ok (.sipush 256, 3)) ∧ (decode cX6_leastFrom 10 = .ok (.imul, 1) ∧ decode cX6_leastFrom 11 = .ok (.iload_n 2, 1)))) ∧ (((decode cX6_leastFrom 12 = .ok (.iadd, 1) ∧ decode cX6_leastFrom 13 = .ok (.iaload, 1)) ∧ (decode cX6_leastFrom 14 = .ok (.istore_n 3, 1) ∧ decode cX6_leastFrom 15 = .ok (.iconst 0, 1))) ∧ ((decode cX6_leastFrom 16 = .ok (.istore 4, 2) ∧ decode cX6_leastFrom 18 = .ok (.iload 4, 2)) ∧ (decode cX6_leastFrom 20 = .ok (.aload_n 0, 1) ∧ decode cX6_leastFrom 21 = .ok (.getfield 15, 3)))) := by decide +kernel
theorem dX6_leastFrom_0 : decode cX6_leastFrom 0 = .ok (.aload_n 0, 1) := bd01_37.1.1.1.1
theorem dX6_leastFrom_1 : decode cX6_leastFrom 1 = .ok (.getfield 11, 3) := bd01_37.1.1.1.2
theorem dX6_leastFrom_4 : decode cX6_leastFrom 4 = .ok (.iload_n 1, 1) := bd01_37.1.1.2.1
theorem dX6_leastFrom_5 : decode cX6_leastFrom 5 = .ok (.iconst 1, 1) := bd01_37.1.1.2.2
theorem dX6_leastFrom_6 : decode cX6_leastFrom 6 = .ok (.iadd, 1) := bd01_37.1.2.1.1
theorem dX6_leastFrom_7 : decode cX6_leastFrom 7 = .ok (.sipush 256, 3) := bd01_37.1.2.1.2
theorem dX6_leastFrom_10 : decode cX6_leastFrom 10 = .ok (.imul, 1) := bd01_37.1.2.2.1
theorem dX6_leastFrom_11 : decode cX6_leastFrom 11 = .ok (.iload_n 2, 1) := bd01_37.1.2.2.2
theorem dX6_leastFrom_12 : decode cX6_leastFrom 12 = .ok (.iadd, 1) := bd01_37.2.1.1.1
theorem dX6_leastFrom_13 : decode cX6_leastFrom 13 = .ok (.iaload, 1) := bd01_37.2.1.1.2
theorem dX6_leastFrom_14 : decode cX6_leastFrom 14 = .ok (.istore_n 3, 1) := bd01_37.2.1.2.1
theorem dX6_leastFrom_15 : decode cX6_leastFrom 15 = .ok (.iconst 0, 1) := bd01_37.2.1.2.2
theorem dX6_leastFrom_16 : decode cX6_leastFrom 16 = .ok (.istore 4, 2) := bd01_37.2.2.1.1
theorem dX6_leastFrom_18 : decode cX6_leastFrom 18 = .ok (.iload 4, 2) := bd01_37.2.2.1.2
theorem dX6_leastFrom_20 : decode cX6_leastFrom 20 = .ok (.aload_n 0, 1) := bd01_37.2.2.2.1
theorem dX6_leastFrom_21 : decode cX6_leastFrom 21 = .ok (.getfield 15, 3) := bd01_37.2.2.2.2
theorem bd01_38 : (((decode cX6_leastFrom 24 = .ok (.getfield 19, 3) ∧ decode cX6_leastFrom 27 = .ok (.if_icmp .ge 22, 3)) ∧ (decode cX6_leastFrom 30 = .ok (.iload_n 3, 1) ∧ decode cX6_leastFrom 31 = .ok (.aload_n 0, 1))) ∧ ((decode cX6_leastFrom 32 = .ok (.iload_n 1, 1) ∧ decode cX6_leastFrom 33 = .ok (.iload 4, 2)) ∧ (decode cX6_leastFrom 35 = .ok (.iload_n 2, 1)))) ∧ (((decode cX6_leastFrom 36 = .ok (.invokevirtual 47, 3) ∧ decode cX6_leastFrom 39 = .ok (.invokestatic 28, 3)) ∧ (decode cX6_leastFrom 42 = .ok (.istore_n 3, 1) ∧ decode cX6_leastFrom 43 = .ok (.iinc 4 1, 3))) ∧ ((decode cX6_leastFrom 46 = .ok (.goto (-28), 3) ∧ decode cX6_leastFrom 49 = .ok (.iload_n 3, 1)) ∧ (decode cX6_leastFrom 50 = .ok (.ireturn, 1)))) := by decide +kernel
theorem dX6_leastFrom_24 : decode cX6_leastFrom 24 = .ok (.getfield 19, 3) := bd01_38.1.1.1.1
theorem dX6_leastFrom_27 : decode cX6_leastFrom 27 = .ok (.if_icmp .ge 22, 3) := bd01_38.1.1.1.2
theorem dX6_leastFrom_30 : decode cX6_leastFrom 30 = .ok (.iload_n 3, 1) := bd01_38.1.1.2.1
theorem dX6_leastFrom_31 : decode cX6_leastFrom 31 = .ok (.aload_n 0, 1) := bd01_38.1.1.2.2
theorem dX6_leastFrom_32 : decode cX6_leastFrom 32 = .ok (.iload_n 1, 1) := bd01_38.1.2.1.1
theorem dX6_leastFrom_33 : decode cX6_leastFrom 33 = .ok (.iload 4, 2) := bd01_38.1.2.1.2
theorem dX6_leastFrom_35 : decode cX6_leastFrom 35 = .ok (.iload_n 2, 1) := bd01_38.1.2.2
theorem dX6_leastFrom_36 : decode cX6_leastFrom 36 = .ok (.invokevirtual 47, 3) := bd01_38.2.1.1.1
theorem dX6_leastFrom_39 : decode cX6_leastFrom 39 = .ok (.invokestatic 28, 3) := bd01_38.2.1.1.2
theorem dX6_leastFrom_42 : decode cX6_leastFrom 42 = .ok (.istore_n 3, 1) := bd01_38.2.1.2.1
theorem dX6_leastFrom_43 : decode cX6_leastFrom 43 = .ok (.iinc 4 1, 3) := bd01_38.2.1.2.2
theorem dX6_leastFrom_46 : decode cX6_leastFrom 46 = .ok (.goto (-28), 3) := bd01_38.2.2.1.1
theorem dX6_leastFrom_49 : decode cX6_leastFrom 49 = .ok (.iload_n 3, 1) := bd01_38.2.2.1.2
theorem dX6_leastFrom_50 : decode cX6_leastFrom 50 = .ok (.ireturn, 1) := bd01_38.2.2.2
theorem bd01_39 : (((decode cX6_firstPlace 0 = .ok (.iconst 0, 1) ∧ decode cX6_firstPlace 1 = .ok (.istore_n 3, 1)) ∧ (decode cX6_firstPlace 2 = .ok (.iload_n 3, 1) ∧ decode cX6_firstPlace 3 = .ok (.aload_n 0, 1))) ∧ ((decode cX6_firstPlace 4 = .ok (.getfield 15, 3) ∧ decode cX6_firstPlace 7 = .ok (.getfield 19, 3)) ∧ (decode cX6_firstPlace 10 = .ok (.if_icmp .ge 33, 3) ∧ decode cX6_firstPlace 13 = .ok (.aload_n 0, 1)))) ∧ (((decode cX6_firstPlace 14 = .ok (.iload_n 1, 1) ∧ decode cX6_firstPlace 15 = .ok (.iload_n 3, 1)) ∧ (decode cX6_firstPlace 16 = .ok (.iload_n 2, 1) ∧ decode cX6_firstPlace 17 = .ok (.invokevirtual 47, 3))) ∧ ((decode cX6_firstPlace 20 = .ok (.aload_n 0, 1) ∧ decode cX6_firstPlace 21 = .ok (.getfield 11, 3)) ∧ (decode cX6_firstPlace 24 = .ok (.iload_n 1, 1) ∧ decode cX6_firstPlace 25 = .ok (.sipush 256, 3)))) := by decide +kernel
theorem dX6_firstPlace_0 : decode cX6_firstPlace 0 = .ok (.iconst 0, 1) := bd01_39.1.1.1.1
theorem dX6_firstPlace_1 : decode cX6_firstPlace 1 = .ok (.istore_n 3, 1) := bd01_39.1.1.1.2
theorem dX6_firstPlace_2 : decode cX6_firstPlace 2 = .ok (.iload_n 3, 1) := bd01_39.1.1.2.1
theorem dX6_firstPlace_3 : decode cX6_firstPlace 3 = .ok (.aload_n 0, 1) := bd01_39.1.1.2.2
theorem dX6_firstPlace_4 : decode cX6_firstPlace 4 = .ok (.getfield 15, 3) := bd01_39.1.2.1.1
theorem dX6_firstPlace_7 : decode cX6_firstPlace 7 = .ok (.getfield 19, 3) := bd01_39.1.2.1.2
theorem dX6_firstPlace_10 : decode cX6_firstPlace 10 = .ok (.if_icmp .ge 33, 3) := bd01_39.1.2.2.1
theorem dX6_firstPlace_13 : decode cX6_firstPlace 13 = .ok (.aload_n 0, 1) := bd01_39.1.2.2.2
theorem dX6_firstPlace_14 : decode cX6_firstPlace 14 = .ok (.iload_n 1, 1) := bd01_39.2.1.1.1
theorem dX6_firstPlace_15 : decode cX6_firstPlace 15 = .ok (.iload_n 3, 1) := bd01_39.2.1.1.2
theorem dX6_firstPlace_16 : decode cX6_firstPlace 16 = .ok (.iload_n 2, 1) := bd01_39.2.1.2.1
theorem dX6_firstPlace_17 : decode cX6_firstPlace 17 = .ok (.invokevirtual 47, 3) := bd01_39.2.1.2.2
theorem dX6_firstPlace_20 : decode cX6_firstPlace 20 = .ok (.aload_n 0, 1) := bd01_39.2.2.1.1
theorem dX6_firstPlace_21 : decode cX6_firstPlace 21 = .ok (.getfield 11, 3) := bd01_39.2.2.1.2
theorem dX6_firstPlace_24 : decode cX6_firstPlace 24 = .ok (.iload_n 1, 1) := bd01_39.2.2.2.1
theorem dX6_firstPlace_25 : decode cX6_firstPlace 25 = .ok (.sipush 256, 3) := bd01_39.2.2.2.2
theorem bd01_40 : (((decode cX6_firstPlace 28 = .ok (.imul, 1) ∧ decode cX6_firstPlace 29 = .ok (.iload_n 2, 1)) ∧ (decode cX6_firstPlace 30 = .ok (.iadd, 1))) ∧ ((decode cX6_firstPlace 31 = .ok (.iaload, 1) ∧ decode cX6_firstPlace 32 = .ok (.if_icmp .ne 5, 3)) ∧ (decode cX6_firstPlace 35 = .ok (.iload_n 3, 1)))) ∧ (((decode cX6_firstPlace 36 = .ok (.ireturn, 1) ∧ decode cX6_firstPlace 37 = .ok (.iinc 3 1, 3)) ∧ (decode cX6_firstPlace 40 = .ok (.goto (-38), 3))) ∧ (decode cX6_firstPlace 43 = .ok (.iconst (-1), 1) ∧ decode cX6_firstPlace 44 = .ok (.ireturn, 1))) := by decide +kernel
theorem dX6_firstPlace_28 : decode cX6_firstPlace 28 = .ok (.imul, 1) := bd01_40.1.1.1.1
theorem dX6_firstPlace_29 : decode cX6_firstPlace 29 = .ok (.iload_n 2, 1) := bd01_40.1.1.1.2
theorem dX6_firstPlace_30 : decode cX6_firstPlace 30 = .ok (.iadd, 1) := bd01_40.1.1.2
theorem dX6_firstPlace_31 : decode cX6_firstPlace 31 = .ok (.iaload, 1) := bd01_40.1.2.1.1
theorem dX6_firstPlace_32 : decode cX6_firstPlace 32 = .ok (.if_icmp .ne 5, 3) := bd01_40.1.2.1.2
theorem dX6_firstPlace_35 : decode cX6_firstPlace 35 = .ok (.iload_n 3, 1) := bd01_40.1.2.2
theorem dX6_firstPlace_36 : decode cX6_firstPlace 36 = .ok (.ireturn, 1) := bd01_40.2.1.1.1
theorem dX6_firstPlace_37 : decode cX6_firstPlace 37 = .ok (.iinc 3 1, 3) := bd01_40.2.1.1.2
theorem dX6_firstPlace_40 : decode cX6_firstPlace 40 = .ok (.goto (-38), 3) := bd01_40.2.1.2
theorem dX6_firstPlace_43 : decode cX6_firstPlace 43 = .ok (.iconst (-1), 1) := bd01_40.2.2.1
theorem dX6_firstPlace_44 : decode cX6_firstPlace 44 = .ok (.ireturn, 1) := bd01_40.2.2.2
theorem bd01_41 : (((decode cX6_differenceWith 0 = .ok (.iload_n 3, 1) ∧ decode cX6_differenceWith 1 = .ok (.iload_n 2, 1)) ∧ (decode cX6_differenceWith 2 = .ok (.ishr, 1) ∧ decode cX6_differenceWith 3 = .ok (.iconst 1, 1))) ∧ ((decode cX6_differenceWith 4 = .ok (.iand, 1) ∧ decode cX6_differenceWith 5 = .ok (.iconst 1, 1)) ∧ (decode cX6_differenceWith 6 = .ok (.if_icmp .ne 6, 3) ∧ decode cX6_differenceWith 9 = .ok (.ldc 40, 2)))) ∧ (((decode cX6_differenceWith 11 = .ok (.ireturn, 1) ∧ decode cX6_differenceWith 12 = .ok (.aload_n 0, 1)) ∧ (decode cX6_differenceWith 13 = .ok (.getfield 11, 3) ∧ decode cX6_differenceWith 16 = .ok (.iload_n 1, 1))) ∧ ((decode cX6_differenceWith 17 = .ok (.iconst 1, 1) ∧ decode cX6_differenceWith 18 = .ok (.iadd, 1)) ∧ (decode cX6_differenceWith 19 = .ok (.sipush 256, 3) ∧ decode cX6_differenceWith 22 = .ok (.imul, 1)))) := by decide +kernel
theorem dX6_differenceWith_0 : decode cX6_differenceWith 0 = .ok (.iload_n 3, 1) := bd01_41.1.1.1.1
theorem dX6_differenceWith_1 : decode cX6_differenceWith 1 = .ok (.iload_n 2, 1) := bd01_41.1.1.1.2
theorem dX6_differenceWith_2 : decode cX6_differenceWith 2 = .ok (.ishr, 1) := bd01_41.1.1.2.1
theorem dX6_differenceWith_3 : decode cX6_differenceWith 3 = .ok (.iconst 1, 1) := bd01_41.1.1.2.2
theorem dX6_differenceWith_4 : decode cX6_differenceWith 4 = .ok (.iand, 1) := bd01_41.1.2.1.1
theorem dX6_differenceWith_5 : decode cX6_differenceWith 5 = .ok (.iconst 1, 1) := bd01_41.1.2.1.2
theorem dX6_differenceWith_6 : decode cX6_differenceWith 6 = .ok (.if_icmp .ne 6, 3) := bd01_41.1.2.2.1
theorem dX6_differenceWith_9 : decode cX6_differenceWith 9 = .ok (.ldc 40, 2) := bd01_41.1.2.2.2
theorem dX6_differenceWith_11 : decode cX6_differenceWith 11 = .ok (.ireturn, 1) := bd01_41.2.1.1.1
theorem dX6_differenceWith_12 : decode cX6_differenceWith 12 = .ok (.aload_n 0, 1) := bd01_41.2.1.1.2
theorem dX6_differenceWith_13 : decode cX6_differenceWith 13 = .ok (.getfield 11, 3) := bd01_41.2.1.2.1
theorem dX6_differenceWith_16 : decode cX6_differenceWith 16 = .ok (.iload_n 1, 1) := bd01_41.2.1.2.2
theorem dX6_differenceWith_17 : decode cX6_differenceWith 17 = .ok (.iconst 1, 1) := bd01_41.2.2.1.1
theorem dX6_differenceWith_18 : decode cX6_differenceWith 18 = .ok (.iadd, 1) := bd01_41.2.2.1.2
theorem dX6_differenceWith_19 : decode cX6_differenceWith 19 = .ok (.sipush 256, 3) := bd01_41.2.2.2.1
theorem dX6_differenceWith_22 : decode cX6_differenceWith 22 = .ok (.imul, 1) := bd01_41.2.2.2.2
theorem bd01_42 : (((decode cX6_differenceWith 23 = .ok (.iload_n 3, 1) ∧ decode cX6_differenceWith 24 = .ok (.iconst 1, 1)) ∧ (decode cX6_differenceWith 25 = .ok (.iload_n 2, 1) ∧ decode cX6_differenceWith 26 = .ok (.ishl, 1))) ∧ ((decode cX6_differenceWith 27 = .ok (.ior, 1) ∧ decode cX6_differenceWith 28 = .ok (.iadd, 1)) ∧ (decode cX6_differenceWith 29 = .ok (.iaload, 1) ∧ decode cX6_differenceWith 30 = .ok (.istore 4, 2)))) ∧ (((decode cX6_differenceWith 32 = .ok (.ldc 40, 2) ∧ decode cX6_differenceWith 34 = .ok (.iload 4, 2)) ∧ (decode cX6_differenceWith 36 = .ok (.aload_n 0, 1) ∧ decode cX6_differenceWith 37 = .ok (.getfield 15, 3))) ∧ ((decode cX6_differenceWith 40 = .ok (.iload_n 1, 1) ∧ decode cX6_differenceWith 41 = .ok (.invokestatic 51, 3)) ∧ (decode cX6_differenceWith 44 = .ok (.iload_n 2, 1) ∧ decode cX6_differenceWith 45 = .ok (.invokevirtual 54, 3)))) := by decide +kernel
theorem dX6_differenceWith_23 : decode cX6_differenceWith 23 = .ok (.iload_n 3, 1) := bd01_42.1.1.1.1
theorem dX6_differenceWith_24 : decode cX6_differenceWith 24 = .ok (.iconst 1, 1) := bd01_42.1.1.1.2
theorem dX6_differenceWith_25 : decode cX6_differenceWith 25 = .ok (.iload_n 2, 1) := bd01_42.1.1.2.1
theorem dX6_differenceWith_26 : decode cX6_differenceWith 26 = .ok (.ishl, 1) := bd01_42.1.1.2.2
theorem dX6_differenceWith_27 : decode cX6_differenceWith 27 = .ok (.ior, 1) := bd01_42.1.2.1.1
theorem dX6_differenceWith_28 : decode cX6_differenceWith 28 = .ok (.iadd, 1) := bd01_42.1.2.1.2
theorem dX6_differenceWith_29 : decode cX6_differenceWith 29 = .ok (.iaload, 1) := bd01_42.1.2.2.1
theorem dX6_differenceWith_30 : decode cX6_differenceWith 30 = .ok (.istore 4, 2) := bd01_42.1.2.2.2
theorem dX6_differenceWith_32 : decode cX6_differenceWith 32 = .ok (.ldc 40, 2) := bd01_42.2.1.1.1
theorem dX6_differenceWith_34 : decode cX6_differenceWith 34 = .ok (.iload 4, 2) := bd01_42.2.1.1.2
theorem dX6_differenceWith_36 : decode cX6_differenceWith 36 = .ok (.aload_n 0, 1) := bd01_42.2.1.2.1
theorem dX6_differenceWith_37 : decode cX6_differenceWith 37 = .ok (.getfield 15, 3) := bd01_42.2.1.2.2
theorem dX6_differenceWith_40 : decode cX6_differenceWith 40 = .ok (.iload_n 1, 1) := bd01_42.2.2.1.1
theorem dX6_differenceWith_41 : decode cX6_differenceWith 41 = .ok (.invokestatic 51, 3) := bd01_42.2.2.1.2
theorem dX6_differenceWith_44 : decode cX6_differenceWith 44 = .ok (.iload_n 2, 1) := bd01_42.2.2.2.1
theorem dX6_differenceWith_45 : decode cX6_differenceWith 45 = .ok (.invokevirtual 54, 3) := bd01_42.2.2.2.2
theorem bd01_43 : ((decode cX6_differenceWith 48 = .ok (.iadd, 1) ∧ decode cX6_differenceWith 49 = .ok (.invokestatic 28, 3)) ∧ (decode cX6_differenceWith 52 = .ok (.ireturn, 1) ∧ decode cX7_init 0 = .ok (.aload_n 0, 1))) ∧ ((decode cX7_init 1 = .ok (.invokespecial 3, 3) ∧ decode cX7_init 4 = .ok (.aload_n 0, 1)) ∧ (decode cX7_init 5 = .ok (.bipush 8, 2) ∧ decode cX7_init 7 = .ok (.newarray .int, 2))) := by decide +kernel
theorem dX6_differenceWith_48 : decode cX6_differenceWith 48 = .ok (.iadd, 1) := bd01_43.1.1.1
theorem dX6_differenceWith_49 : decode cX6_differenceWith 49 = .ok (.invokestatic 28, 3) := bd01_43.1.1.2
theorem dX6_differenceWith_52 : decode cX6_differenceWith 52 = .ok (.ireturn, 1) := bd01_43.1.2.1
theorem dX7_init_0 : decode cX7_init 0 = .ok (.aload_n 0, 1) := bd01_43.1.2.2
theorem dX7_init_1 : decode cX7_init 1 = .ok (.invokespecial 3, 3) := bd01_43.2.1.1
theorem dX7_init_4 : decode cX7_init 4 = .ok (.aload_n 0, 1) := bd01_43.2.1.2
theorem dX7_init_5 : decode cX7_init 5 = .ok (.bipush 8, 2) := bd01_43.2.2.1
theorem dX7_init_7 : decode cX7_init 7 = .ok (.newarray .int, 2) := bd01_43.2.2.2
theorem bd01_44 : (((decode cX7_init 9 = .ok (.putfield 9, 3) ∧ decode cX7_init 12 = .ok (.aload_n 0, 1)) ∧ (decode cX7_init 13 = .ok (.bipush 8, 2))) ∧ (decode cX7_init 15 = .ok (.newarray .int, 2) ∧ decode cX7_init 17 = .ok (.putfield 15, 3))) ∧ (((decode cX7_init 20 = .ok (.aload_n 0, 1) ∧ decode cX7_init 21 = .ok (.bipush 8, 2)) ∧ (decode cX7_init 23 = .ok (.newarray .int, 2))) ∧ (decode cX7_init 25 = .ok (.putfield 18, 3) ∧ decode cX7_init 28 = .ok (.return_, 1))) := by decide +kernel
theorem dX7_init_9 : decode cX7_init 9 = .ok (.putfield 9, 3) := bd01_44.1.1.1.1
theorem dX7_init_12 : decode cX7_init 12 = .ok (.aload_n 0, 1) := bd01_44.1.1.1.2
theorem dX7_init_13 : decode cX7_init 13 = .ok (.bipush 8, 2) := bd01_44.1.1.2
theorem dX7_init_15 : decode cX7_init 15 = .ok (.newarray .int, 2) := bd01_44.1.2.1
theorem dX7_init_17 : decode cX7_init 17 = .ok (.putfield 15, 3) := bd01_44.1.2.2
theorem dX7_init_20 : decode cX7_init 20 = .ok (.aload_n 0, 1) := bd01_44.2.1.1.1
theorem dX7_init_21 : decode cX7_init 21 = .ok (.bipush 8, 2) := bd01_44.2.1.1.2
theorem dX7_init_23 : decode cX7_init 23 = .ok (.newarray .int, 2) := bd01_44.2.1.2
theorem dX7_init_25 : decode cX7_init 25 = .ok (.putfield 18, 3) := bd01_44.2.2.1
theorem dX7_init_28 : decode cX7_init 28 = .ok (.return_, 1) := bd01_44.2.2.2
theorem bd01_45 : (((decode cX7_put 0 = .ok (.aload_n 0, 1) ∧ decode cX7_put 1 = .ok (.getfield 21, 3)) ∧ (decode cX7_put 4 = .ok (.bipush 8, 2) ∧ decode cX7_put 6 = .ok (.if_icmp .ge 43, 3))) ∧ ((decode cX7_put 9 = .ok (.aload_n 0, 1) ∧ decode cX7_put 10 = .ok (.getfield 9, 3)) ∧ (decode cX7_put 13 = .ok (.aload_n 0, 1) ∧ decode cX7_put 14 = .ok (.getfield 21, 3)))) ∧ (((decode cX7_put 17 = .ok (.iload_n 1, 1) ∧ decode cX7_put 18 = .ok (.iastore, 1)) ∧ (decode cX7_put 19 = .ok (.aload_n 0, 1) ∧ decode cX7_put 20 = .ok (.getfield 15, 3))) ∧ ((decode cX7_put 23 = .ok (.aload_n 0, 1) ∧ decode cX7_put 24 = .ok (.getfield 21, 3)) ∧ (decode cX7_put 27 = .ok (.iload_n 2, 1) ∧ decode cX7_put 28 = .ok (.iastore, 1)))) := by decide +kernel
theorem dX7_put_0 : decode cX7_put 0 = .ok (.aload_n 0, 1) := bd01_45.1.1.1.1
theorem dX7_put_1 : decode cX7_put 1 = .ok (.getfield 21, 3) := bd01_45.1.1.1.2
theorem dX7_put_4 : decode cX7_put 4 = .ok (.bipush 8, 2) := bd01_45.1.1.2.1
theorem dX7_put_6 : decode cX7_put 6 = .ok (.if_icmp .ge 43, 3) := bd01_45.1.1.2.2
theorem dX7_put_9 : decode cX7_put 9 = .ok (.aload_n 0, 1) := bd01_45.1.2.1.1
theorem dX7_put_10 : decode cX7_put 10 = .ok (.getfield 9, 3) := bd01_45.1.2.1.2
theorem dX7_put_13 : decode cX7_put 13 = .ok (.aload_n 0, 1) := bd01_45.1.2.2.1
theorem dX7_put_14 : decode cX7_put 14 = .ok (.getfield 21, 3) := bd01_45.1.2.2.2
theorem dX7_put_17 : decode cX7_put 17 = .ok (.iload_n 1, 1) := bd01_45.2.1.1.1
theorem dX7_put_18 : decode cX7_put 18 = .ok (.iastore, 1) := bd01_45.2.1.1.2
theorem dX7_put_19 : decode cX7_put 19 = .ok (.aload_n 0, 1) := bd01_45.2.1.2.1
theorem dX7_put_20 : decode cX7_put 20 = .ok (.getfield 15, 3) := bd01_45.2.1.2.2
theorem dX7_put_23 : decode cX7_put 23 = .ok (.aload_n 0, 1) := bd01_45.2.2.1.1
theorem dX7_put_24 : decode cX7_put 24 = .ok (.getfield 21, 3) := bd01_45.2.2.1.2
theorem dX7_put_27 : decode cX7_put 27 = .ok (.iload_n 2, 1) := bd01_45.2.2.2.1
theorem dX7_put_28 : decode cX7_put 28 = .ok (.iastore, 1) := bd01_45.2.2.2.2
theorem bd01_46 : (((decode cX7_put 29 = .ok (.aload_n 0, 1) ∧ decode cX7_put 30 = .ok (.getfield 18, 3)) ∧ (decode cX7_put 33 = .ok (.aload_n 0, 1) ∧ decode cX7_put 34 = .ok (.getfield 21, 3))) ∧ ((decode cX7_put 37 = .ok (.iload_n 3, 1) ∧ decode cX7_put 38 = .ok (.iastore, 1)) ∧ (decode cX7_put 39 = .ok (.aload_n 0, 1)))) ∧ (((decode cX7_put 40 = .ok (.dup, 1) ∧ decode cX7_put 41 = .ok (.getfield 21, 3)) ∧ (decode cX7_put 44 = .ok (.iconst 1, 1))) ∧ ((decode cX7_put 45 = .ok (.iadd, 1) ∧ decode cX7_put 46 = .ok (.putfield 21, 3)) ∧ (decode cX7_put 49 = .ok (.return_, 1)))) := by decide +kernel
theorem dX7_put_29 : decode cX7_put 29 = .ok (.aload_n 0, 1) := bd01_46.1.1.1.1
theorem dX7_put_30 : decode cX7_put 30 = .ok (.getfield 18, 3) := bd01_46.1.1.1.2
theorem dX7_put_33 : decode cX7_put 33 = .ok (.aload_n 0, 1) := bd01_46.1.1.2.1
theorem dX7_put_34 : decode cX7_put 34 = .ok (.getfield 21, 3) := bd01_46.1.1.2.2
theorem dX7_put_37 : decode cX7_put 37 = .ok (.iload_n 3, 1) := bd01_46.1.2.1.1
theorem dX7_put_38 : decode cX7_put 38 = .ok (.iastore, 1) := bd01_46.1.2.1.2
theorem dX7_put_39 : decode cX7_put 39 = .ok (.aload_n 0, 1) := bd01_46.1.2.2
theorem dX7_put_40 : decode cX7_put 40 = .ok (.dup, 1) := bd01_46.2.1.1.1
theorem dX7_put_41 : decode cX7_put 41 = .ok (.getfield 21, 3) := bd01_46.2.1.1.2
theorem dX7_put_44 : decode cX7_put 44 = .ok (.iconst 1, 1) := bd01_46.2.1.2
theorem dX7_put_45 : decode cX7_put 45 = .ok (.iadd, 1) := bd01_46.2.2.1.1
theorem dX7_put_46 : decode cX7_put 46 = .ok (.putfield 21, 3) := bd01_46.2.2.1.2
theorem dX7_put_49 : decode cX7_put 49 = .ok (.return_, 1) := bd01_46.2.2.2
theorem bd01_47 : (((decode cX7_lastYears 0 = .ok (.iconst (-1), 1) ∧ decode cX7_lastYears 1 = .ok (.istore_n 1, 1)) ∧ (decode cX7_lastYears 2 = .ok (.iconst 0, 1) ∧ decode cX7_lastYears 3 = .ok (.istore_n 2, 1))) ∧ ((decode cX7_lastYears 4 = .ok (.iload_n 2, 1) ∧ decode cX7_lastYears 5 = .ok (.aload_n 0, 1)) ∧ (decode cX7_lastYears 6 = .ok (.getfield 21, 3) ∧ decode cX7_lastYears 9 = .ok (.if_icmp .ge 20, 3)))) ∧ (((decode cX7_lastYears 12 = .ok (.iload_n 1, 1) ∧ decode cX7_lastYears 13 = .ok (.aload_n 0, 1)) ∧ (decode cX7_lastYears 14 = .ok (.getfield 15, 3) ∧ decode cX7_lastYears 17 = .ok (.iload_n 2, 1))) ∧ ((decode cX7_lastYears 18 = .ok (.iaload, 1) ∧ decode cX7_lastYears 19 = .ok (.invokestatic 25, 3)) ∧ (decode cX7_lastYears 22 = .ok (.istore_n 1, 1) ∧ decode cX7_lastYears 23 = .ok (.iinc 2 1, 3)))) := by decide +kernel
theorem dX7_lastYears_0 : decode cX7_lastYears 0 = .ok (.iconst (-1), 1) := bd01_47.1.1.1.1
theorem dX7_lastYears_1 : decode cX7_lastYears 1 = .ok (.istore_n 1, 1) := bd01_47.1.1.1.2
theorem dX7_lastYears_2 : decode cX7_lastYears 2 = .ok (.iconst 0, 1) := bd01_47.1.1.2.1
theorem dX7_lastYears_3 : decode cX7_lastYears 3 = .ok (.istore_n 2, 1) := bd01_47.1.1.2.2
theorem dX7_lastYears_4 : decode cX7_lastYears 4 = .ok (.iload_n 2, 1) := bd01_47.1.2.1.1
theorem dX7_lastYears_5 : decode cX7_lastYears 5 = .ok (.aload_n 0, 1) := bd01_47.1.2.1.2
theorem dX7_lastYears_6 : decode cX7_lastYears 6 = .ok (.getfield 21, 3) := bd01_47.1.2.2.1
theorem dX7_lastYears_9 : decode cX7_lastYears 9 = .ok (.if_icmp .ge 20, 3) := bd01_47.1.2.2.2
theorem dX7_lastYears_12 : decode cX7_lastYears 12 = .ok (.iload_n 1, 1) := bd01_47.2.1.1.1
theorem dX7_lastYears_13 : decode cX7_lastYears 13 = .ok (.aload_n 0, 1) := bd01_47.2.1.1.2
theorem dX7_lastYears_14 : decode cX7_lastYears 14 = .ok (.getfield 15, 3) := bd01_47.2.1.2.1
theorem dX7_lastYears_17 : decode cX7_lastYears 17 = .ok (.iload_n 2, 1) := bd01_47.2.1.2.2
theorem dX7_lastYears_18 : decode cX7_lastYears 18 = .ok (.iaload, 1) := bd01_47.2.2.1.1
theorem dX7_lastYears_19 : decode cX7_lastYears 19 = .ok (.invokestatic 25, 3) := bd01_47.2.2.1.2
theorem dX7_lastYears_22 : decode cX7_lastYears 22 = .ok (.istore_n 1, 1) := bd01_47.2.2.2.1
theorem dX7_lastYears_23 : decode cX7_lastYears 23 = .ok (.iinc 2 1, 3) := bd01_47.2.2.2.2
theorem bd01_48 : ((decode cX7_lastYears 26 = .ok (.goto (-22), 3) ∧ decode cX7_lastYears 29 = .ok (.iload_n 1, 1)) ∧ (decode cX7_lastYears 30 = .ok (.ireturn, 1) ∧ decode cX7_isSo 0 = .ok (.iconst 0, 1))) ∧ ((decode cX7_isSo 1 = .ok (.istore_n 3, 1) ∧ decode cX7_isSo 2 = .ok (.iload_n 3, 1)) ∧ (decode cX7_isSo 3 = .ok (.aload_n 0, 1) ∧ decode cX7_isSo 4 = .ok (.getfield 21, 3))) := by decide +kernel
theorem dX7_lastYears_26 : decode cX7_lastYears 26 = .ok (.goto (-22), 3) := bd01_48.1.1.1
theorem dX7_lastYears_29 : decode cX7_lastYears 29 = .ok (.iload_n 1, 1) := bd01_48.1.1.2
theorem dX7_lastYears_30 : decode cX7_lastYears 30 = .ok (.ireturn, 1) := bd01_48.1.2.1
theorem dX7_isSo_0 : decode cX7_isSo 0 = .ok (.iconst 0, 1) := bd01_48.1.2.2
theorem dX7_isSo_1 : decode cX7_isSo 1 = .ok (.istore_n 3, 1) := bd01_48.2.1.1
theorem dX7_isSo_2 : decode cX7_isSo 2 = .ok (.iload_n 3, 1) := bd01_48.2.1.2
theorem dX7_isSo_3 : decode cX7_isSo 3 = .ok (.aload_n 0, 1) := bd01_48.2.2.1
theorem dX7_isSo_4 : decode cX7_isSo 4 = .ok (.getfield 21, 3) := bd01_48.2.2.2
theorem bd01_49 : (((decode cX7_isSo 7 = .ok (.if_icmp .ge 44, 3) ∧ decode cX7_isSo 10 = .ok (.aload_n 0, 1)) ∧ (decode cX7_isSo 11 = .ok (.getfield 15, 3) ∧ decode cX7_isSo 14 = .ok (.iload_n 3, 1))) ∧ ((decode cX7_isSo 15 = .ok (.iaload, 1) ∧ decode cX7_isSo 16 = .ok (.iload_n 2, 1)) ∧ (decode cX7_isSo 17 = .ok (.if_icmp .ne 28, 3) ∧ decode cX7_isSo 20 = .ok (.aload_n 1, 1)))) ∧ (((decode cX7_isSo 21 = .ok (.getfield 31, 3) ∧ decode cX7_isSo 24 = .ok (.aload_n 0, 1)) ∧ (decode cX7_isSo 25 = .ok (.getfield 9, 3) ∧ decode cX7_isSo 28 = .ok (.iload_n 3, 1))) ∧ ((decode cX7_isSo 29 = .ok (.iaload, 1) ∧ decode cX7_isSo 30 = .ok (.invokestatic 34, 3)) ∧ (decode cX7_isSo 33 = .ok (.iaload, 1) ∧ decode cX7_isSo 34 = .ok (.aload_n 0, 1)))) := by decide +kernel
theorem dX7_isSo_7 : decode cX7_isSo 7 = .ok (.if_icmp .ge 44, 3) := bd01_49.1.1.1.1
theorem dX7_isSo_10 : decode cX7_isSo 10 = .ok (.aload_n 0, 1) := bd01_49.1.1.1.2
theorem dX7_isSo_11 : decode cX7_isSo 11 = .ok (.getfield 15, 3) := bd01_49.1.1.2.1
theorem dX7_isSo_14 : decode cX7_isSo 14 = .ok (.iload_n 3, 1) := bd01_49.1.1.2.2
theorem dX7_isSo_15 : decode cX7_isSo 15 = .ok (.iaload, 1) := bd01_49.1.2.1.1
theorem dX7_isSo_16 : decode cX7_isSo 16 = .ok (.iload_n 2, 1) := bd01_49.1.2.1.2
theorem dX7_isSo_17 : decode cX7_isSo 17 = .ok (.if_icmp .ne 28, 3) := bd01_49.1.2.2.1
theorem dX7_isSo_20 : decode cX7_isSo 20 = .ok (.aload_n 1, 1) := bd01_49.1.2.2.2
theorem dX7_isSo_21 : decode cX7_isSo 21 = .ok (.getfield 31, 3) := bd01_49.2.1.1.1
theorem dX7_isSo_24 : decode cX7_isSo 24 = .ok (.aload_n 0, 1) := bd01_49.2.1.1.2
theorem dX7_isSo_25 : decode cX7_isSo 25 = .ok (.getfield 9, 3) := bd01_49.2.1.2.1
theorem dX7_isSo_28 : decode cX7_isSo 28 = .ok (.iload_n 3, 1) := bd01_49.2.1.2.2
theorem dX7_isSo_29 : decode cX7_isSo 29 = .ok (.iaload, 1) := bd01_49.2.2.1.1
theorem dX7_isSo_30 : decode cX7_isSo 30 = .ok (.invokestatic 34, 3) := bd01_49.2.2.1.2
theorem dX7_isSo_33 : decode cX7_isSo 33 = .ok (.iaload, 1) := bd01_49.2.2.2.1
theorem dX7_isSo_34 : decode cX7_isSo 34 = .ok (.aload_n 0, 1) := bd01_49.2.2.2.2
theorem bd01_50 : (((decode cX7_isSo 35 = .ok (.getfield 18, 3) ∧ decode cX7_isSo 38 = .ok (.iload_n 3, 1)) ∧ (decode cX7_isSo 39 = .ok (.iaload, 1))) ∧ (decode cX7_isSo 40 = .ok (.if_icmp .eq 5, 3) ∧ decode cX7_isSo 43 = .ok (.iconst 0, 1))) ∧ (((decode cX7_isSo 44 = .ok (.ireturn, 1) ∧ decode cX7_isSo 45 = .ok (.iinc 3 1, 3)) ∧ (decode cX7_isSo 48 = .ok (.goto (-46), 3))) ∧ (decode cX7_isSo 51 = .ok (.iconst 1, 1) ∧ decode cX7_isSo 52 = .ok (.ireturn, 1))) := by decide +kernel
theorem dX7_isSo_35 : decode cX7_isSo 35 = .ok (.getfield 18, 3) := bd01_50.1.1.1.1
theorem dX7_isSo_38 : decode cX7_isSo 38 = .ok (.iload_n 3, 1) := bd01_50.1.1.1.2
theorem dX7_isSo_39 : decode cX7_isSo 39 = .ok (.iaload, 1) := bd01_50.1.1.2
theorem dX7_isSo_40 : decode cX7_isSo 40 = .ok (.if_icmp .eq 5, 3) := bd01_50.1.2.1
theorem dX7_isSo_43 : decode cX7_isSo 43 = .ok (.iconst 0, 1) := bd01_50.1.2.2
theorem dX7_isSo_44 : decode cX7_isSo 44 = .ok (.ireturn, 1) := bd01_50.2.1.1.1
theorem dX7_isSo_45 : decode cX7_isSo 45 = .ok (.iinc 3 1, 3) := bd01_50.2.1.1.2
theorem dX7_isSo_48 : decode cX7_isSo 48 = .ok (.goto (-46), 3) := bd01_50.2.1.2
theorem dX7_isSo_51 : decode cX7_isSo 51 = .ok (.iconst 1, 1) := bd01_50.2.2.1
theorem dX7_isSo_52 : decode cX7_isSo 52 = .ok (.ireturn, 1) := bd01_50.2.2.2
theorem bd01_51 : (((decode cX7_copyFrom 0 = .ok (.aload_n 0, 1) ∧ decode cX7_copyFrom 1 = .ok (.aload_n 1, 1)) ∧ (decode cX7_copyFrom 2 = .ok (.getfield 21, 3) ∧ decode cX7_copyFrom 5 = .ok (.putfield 21, 3))) ∧ ((decode cX7_copyFrom 8 = .ok (.aload_n 1, 1) ∧ decode cX7_copyFrom 9 = .ok (.getfield 9, 3)) ∧ (decode cX7_copyFrom 12 = .ok (.iconst 0, 1) ∧ decode cX7_copyFrom 13 = .ok (.aload_n 0, 1)))) ∧ (((decode cX7_copyFrom 14 = .ok (.getfield 9, 3) ∧ decode cX7_copyFrom 17 = .ok (.iconst 0, 1)) ∧ (decode cX7_copyFrom 18 = .ok (.bipush 8, 2) ∧ decode cX7_copyFrom 20 = .ok (.invokestatic 38, 3))) ∧ ((decode cX7_copyFrom 23 = .ok (.aload_n 1, 1) ∧ decode cX7_copyFrom 24 = .ok (.getfield 15, 3)) ∧ (decode cX7_copyFrom 27 = .ok (.iconst 0, 1) ∧ decode cX7_copyFrom 28 = .ok (.aload_n 0, 1)))) := by decide +kernel
theorem dX7_copyFrom_0 : decode cX7_copyFrom 0 = .ok (.aload_n 0, 1) := bd01_51.1.1.1.1
theorem dX7_copyFrom_1 : decode cX7_copyFrom 1 = .ok (.aload_n 1, 1) := bd01_51.1.1.1.2
theorem dX7_copyFrom_2 : decode cX7_copyFrom 2 = .ok (.getfield 21, 3) := bd01_51.1.1.2.1
theorem dX7_copyFrom_5 : decode cX7_copyFrom 5 = .ok (.putfield 21, 3) := bd01_51.1.1.2.2
theorem dX7_copyFrom_8 : decode cX7_copyFrom 8 = .ok (.aload_n 1, 1) := bd01_51.1.2.1.1
theorem dX7_copyFrom_9 : decode cX7_copyFrom 9 = .ok (.getfield 9, 3) := bd01_51.1.2.1.2
theorem dX7_copyFrom_12 : decode cX7_copyFrom 12 = .ok (.iconst 0, 1) := bd01_51.1.2.2.1
theorem dX7_copyFrom_13 : decode cX7_copyFrom 13 = .ok (.aload_n 0, 1) := bd01_51.1.2.2.2
theorem dX7_copyFrom_14 : decode cX7_copyFrom 14 = .ok (.getfield 9, 3) := bd01_51.2.1.1.1
theorem dX7_copyFrom_17 : decode cX7_copyFrom 17 = .ok (.iconst 0, 1) := bd01_51.2.1.1.2
theorem dX7_copyFrom_18 : decode cX7_copyFrom 18 = .ok (.bipush 8, 2) := bd01_51.2.1.2.1
theorem dX7_copyFrom_20 : decode cX7_copyFrom 20 = .ok (.invokestatic 38, 3) := bd01_51.2.1.2.2
theorem dX7_copyFrom_23 : decode cX7_copyFrom 23 = .ok (.aload_n 1, 1) := bd01_51.2.2.1.1
theorem dX7_copyFrom_24 : decode cX7_copyFrom 24 = .ok (.getfield 15, 3) := bd01_51.2.2.1.2
theorem dX7_copyFrom_27 : decode cX7_copyFrom 27 = .ok (.iconst 0, 1) := bd01_51.2.2.2.1
theorem dX7_copyFrom_28 : decode cX7_copyFrom 28 = .ok (.aload_n 0, 1) := bd01_51.2.2.2.2
theorem bd01_52 : (((decode cX7_copyFrom 29 = .ok (.getfield 15, 3) ∧ decode cX7_copyFrom 32 = .ok (.iconst 0, 1)) ∧ (decode cX7_copyFrom 33 = .ok (.bipush 8, 2) ∧ decode cX7_copyFrom 35 = .ok (.invokestatic 38, 3))) ∧ ((decode cX7_copyFrom 38 = .ok (.aload_n 1, 1) ∧ decode cX7_copyFrom 39 = .ok (.getfield 18, 3)) ∧ (decode cX7_copyFrom 42 = .ok (.iconst 0, 1)))) ∧ (((decode cX7_copyFrom 43 = .ok (.aload_n 0, 1) ∧ decode cX7_copyFrom 44 = .ok (.getfield 18, 3)) ∧ (decode cX7_copyFrom 47 = .ok (.iconst 0, 1))) ∧ ((decode cX7_copyFrom 48 = .ok (.bipush 8, 2) ∧ decode cX7_copyFrom 50 = .ok (.invokestatic 38, 3)) ∧ (decode cX7_copyFrom 53 = .ok (.return_, 1)))) := by decide +kernel
theorem dX7_copyFrom_29 : decode cX7_copyFrom 29 = .ok (.getfield 15, 3) := bd01_52.1.1.1.1
theorem dX7_copyFrom_32 : decode cX7_copyFrom 32 = .ok (.iconst 0, 1) := bd01_52.1.1.1.2
theorem dX7_copyFrom_33 : decode cX7_copyFrom 33 = .ok (.bipush 8, 2) := bd01_52.1.1.2.1
theorem dX7_copyFrom_35 : decode cX7_copyFrom 35 = .ok (.invokestatic 38, 3) := bd01_52.1.1.2.2
theorem dX7_copyFrom_38 : decode cX7_copyFrom 38 = .ok (.aload_n 1, 1) := bd01_52.1.2.1.1
theorem dX7_copyFrom_39 : decode cX7_copyFrom 39 = .ok (.getfield 18, 3) := bd01_52.1.2.1.2
theorem dX7_copyFrom_42 : decode cX7_copyFrom 42 = .ok (.iconst 0, 1) := bd01_52.1.2.2
theorem dX7_copyFrom_43 : decode cX7_copyFrom 43 = .ok (.aload_n 0, 1) := bd01_52.2.1.1.1
theorem dX7_copyFrom_44 : decode cX7_copyFrom 44 = .ok (.getfield 18, 3) := bd01_52.2.1.1.2
theorem dX7_copyFrom_47 : decode cX7_copyFrom 47 = .ok (.iconst 0, 1) := bd01_52.2.1.2
theorem dX7_copyFrom_48 : decode cX7_copyFrom 48 = .ok (.bipush 8, 2) := bd01_52.2.2.1.1
theorem dX7_copyFrom_50 : decode cX7_copyFrom 50 = .ok (.invokestatic 38, 3) := bd01_52.2.2.1.2
theorem dX7_copyFrom_53 : decode cX7_copyFrom 53 = .ok (.return_, 1) := bd01_52.2.2.2
theorem bd01_53 : (((decode cX8_init 0 = .ok (.aload_n 0, 1) ∧ decode cX8_init 1 = .ok (.invokespecial 3, 3)) ∧ (decode cX8_init 4 = .ok (.aload_n 0, 1) ∧ decode cX8_init 5 = .ok (.bipush 16, 2))) ∧ ((decode cX8_init 7 = .ok (.newarray .int, 2) ∧ decode cX8_init 9 = .ok (.putfield 9, 3)) ∧ (decode cX8_init 12 = .ok (.aload_n 0, 1) ∧ decode cX8_init 13 = .ok (.bipush 16, 2)))) ∧ (((decode cX8_init 15 = .ok (.newarray .int, 2) ∧ decode cX8_init 17 = .ok (.putfield 15, 3)) ∧ (decode cX8_init 20 = .ok (.aload_n 0, 1) ∧ decode cX8_init 21 = .ok (.bipush 8, 2))) ∧ ((decode cX8_init 23 = .ok (.newarray .int, 2) ∧ decode cX8_init 25 = .ok (.putfield 18, 3)) ∧ (decode cX8_init 28 = .ok (.aload_n 0, 1) ∧ decode cX8_init 29 = .ok (.bipush 8, 2)))) := by decide +kernel
theorem dX8_init_0 : decode cX8_init 0 = .ok (.aload_n 0, 1) := bd01_53.1.1.1.1
theorem dX8_init_1 : decode cX8_init 1 = .ok (.invokespecial 3, 3) := bd01_53.1.1.1.2
theorem dX8_init_4 : decode cX8_init 4 = .ok (.aload_n 0, 1) := bd01_53.1.1.2.1
theorem dX8_init_5 : decode cX8_init 5 = .ok (.bipush 16, 2) := bd01_53.1.1.2.2
theorem dX8_init_7 : decode cX8_init 7 = .ok (.newarray .int, 2) := bd01_53.1.2.1.1
theorem dX8_init_9 : decode cX8_init 9 = .ok (.putfield 9, 3) := bd01_53.1.2.1.2
theorem dX8_init_12 : decode cX8_init 12 = .ok (.aload_n 0, 1) := bd01_53.1.2.2.1
theorem dX8_init_13 : decode cX8_init 13 = .ok (.bipush 16, 2) := bd01_53.1.2.2.2
theorem dX8_init_15 : decode cX8_init 15 = .ok (.newarray .int, 2) := bd01_53.2.1.1.1
theorem dX8_init_17 : decode cX8_init 17 = .ok (.putfield 15, 3) := bd01_53.2.1.1.2
theorem dX8_init_20 : decode cX8_init 20 = .ok (.aload_n 0, 1) := bd01_53.2.1.2.1
theorem dX8_init_21 : decode cX8_init 21 = .ok (.bipush 8, 2) := bd01_53.2.1.2.2
theorem dX8_init_23 : decode cX8_init 23 = .ok (.newarray .int, 2) := bd01_53.2.2.1.1
theorem dX8_init_25 : decode cX8_init 25 = .ok (.putfield 18, 3) := bd01_53.2.2.1.2
theorem dX8_init_28 : decode cX8_init 28 = .ok (.aload_n 0, 1) := bd01_53.2.2.2.1
theorem dX8_init_29 : decode cX8_init 29 = .ok (.bipush 8, 2) := bd01_53.2.2.2.2
theorem bd01_54 : (((decode cX8_init 31 = .ok (.newarray .int, 2) ∧ decode cX8_init 33 = .ok (.putfield 21, 3)) ∧ (decode cX8_init 36 = .ok (.aload_n 0, 1))) ∧ ((decode cX8_init 37 = .ok (.bipush 8, 2) ∧ decode cX8_init 39 = .ok (.newarray .int, 2)) ∧ (decode cX8_init 41 = .ok (.putfield 24, 3)))) ∧ (((decode cX8_init 44 = .ok (.aload_n 0, 1) ∧ decode cX8_init 45 = .ok (.bipush 8, 2)) ∧ (decode cX8_init 47 = .ok (.newarray .int, 2))) ∧ (decode cX8_init 49 = .ok (.putfield 27, 3) ∧ decode cX8_init 52 = .ok (.return_, 1))) := by decide +kernel
theorem dX8_init_31 : decode cX8_init 31 = .ok (.newarray .int, 2) := bd01_54.1.1.1.1
theorem dX8_init_33 : decode cX8_init 33 = .ok (.putfield 21, 3) := bd01_54.1.1.1.2
theorem dX8_init_36 : decode cX8_init 36 = .ok (.aload_n 0, 1) := bd01_54.1.1.2
theorem dX8_init_37 : decode cX8_init 37 = .ok (.bipush 8, 2) := bd01_54.1.2.1.1
theorem dX8_init_39 : decode cX8_init 39 = .ok (.newarray .int, 2) := bd01_54.1.2.1.2
theorem dX8_init_41 : decode cX8_init 41 = .ok (.putfield 24, 3) := bd01_54.1.2.2
theorem dX8_init_44 : decode cX8_init 44 = .ok (.aload_n 0, 1) := bd01_54.2.1.1.1
theorem dX8_init_45 : decode cX8_init 45 = .ok (.bipush 8, 2) := bd01_54.2.1.1.2
theorem dX8_init_47 : decode cX8_init 47 = .ok (.newarray .int, 2) := bd01_54.2.1.2
theorem dX8_init_49 : decode cX8_init 49 = .ok (.putfield 27, 3) := bd01_54.2.2.1
theorem dX8_init_52 : decode cX8_init 52 = .ok (.return_, 1) := bd01_54.2.2.2
theorem bd01_55 : ((decode cX8_faceOf 0 = .ok (.bipush 8, 2) ∧ decode cX8_faceOf 2 = .ok (.iload_n 0, 1)) ∧ (decode cX8_faceOf 3 = .ok (.iadd, 1) ∧ decode cX8_faceOf 4 = .ok (.ireturn, 1))) ∧ ((decode cX8_copyFrom 0 = .ok (.aload_n 0, 1) ∧ decode cX8_copyFrom 1 = .ok (.aload_n 1, 1)) ∧ (decode cX8_copyFrom 2 = .ok (.getfield 30, 3) ∧ decode cX8_copyFrom 5 = .ok (.putfield 30, 3))) := by decide +kernel
theorem dX8_faceOf_0 : decode cX8_faceOf 0 = .ok (.bipush 8, 2) := bd01_55.1.1.1
theorem dX8_faceOf_2 : decode cX8_faceOf 2 = .ok (.iload_n 0, 1) := bd01_55.1.1.2
theorem dX8_faceOf_3 : decode cX8_faceOf 3 = .ok (.iadd, 1) := bd01_55.1.2.1
theorem dX8_faceOf_4 : decode cX8_faceOf 4 = .ok (.ireturn, 1) := bd01_55.1.2.2
theorem dX8_copyFrom_0 : decode cX8_copyFrom 0 = .ok (.aload_n 0, 1) := bd01_55.2.1.1
theorem dX8_copyFrom_1 : decode cX8_copyFrom 1 = .ok (.aload_n 1, 1) := bd01_55.2.1.2
theorem dX8_copyFrom_2 : decode cX8_copyFrom 2 = .ok (.getfield 30, 3) := bd01_55.2.2.1
theorem dX8_copyFrom_5 : decode cX8_copyFrom 5 = .ok (.putfield 30, 3) := bd01_55.2.2.2
theorem bd01_56 : (((decode cX8_copyFrom 8 = .ok (.aload_n 0, 1) ∧ decode cX8_copyFrom 9 = .ok (.aload_n 1, 1)) ∧ (decode cX8_copyFrom 10 = .ok (.getfield 34, 3) ∧ decode cX8_copyFrom 13 = .ok (.putfield 34, 3))) ∧ ((decode cX8_copyFrom 16 = .ok (.aload_n 0, 1) ∧ decode cX8_copyFrom 17 = .ok (.aload_n 1, 1)) ∧ (decode cX8_copyFrom 18 = .ok (.getfield 37, 3) ∧ decode cX8_copyFrom 21 = .ok (.putfield 37, 3)))) ∧ (((decode cX8_copyFrom 24 = .ok (.aload_n 1, 1) ∧ decode cX8_copyFrom 25 = .ok (.getfield 9, 3)) ∧ (decode cX8_copyFrom 28 = .ok (.iconst 0, 1) ∧ decode cX8_copyFrom 29 = .ok (.aload_n 0, 1))) ∧ ((decode cX8_copyFrom 30 = .ok (.getfield 9, 3) ∧ decode cX8_copyFrom 33 = .ok (.iconst 0, 1)) ∧ (decode cX8_copyFrom 34 = .ok (.aload_n 0, 1) ∧ decode cX8_copyFrom 35 = .ok (.getfield 9, 3)))) := by decide +kernel
theorem dX8_copyFrom_8 : decode cX8_copyFrom 8 = .ok (.aload_n 0, 1) := bd01_56.1.1.1.1
theorem dX8_copyFrom_9 : decode cX8_copyFrom 9 = .ok (.aload_n 1, 1) := bd01_56.1.1.1.2
theorem dX8_copyFrom_10 : decode cX8_copyFrom 10 = .ok (.getfield 34, 3) := bd01_56.1.1.2.1
theorem dX8_copyFrom_13 : decode cX8_copyFrom 13 = .ok (.putfield 34, 3) := bd01_56.1.1.2.2
theorem dX8_copyFrom_16 : decode cX8_copyFrom 16 = .ok (.aload_n 0, 1) := bd01_56.1.2.1.1
theorem dX8_copyFrom_17 : decode cX8_copyFrom 17 = .ok (.aload_n 1, 1) := bd01_56.1.2.1.2
theorem dX8_copyFrom_18 : decode cX8_copyFrom 18 = .ok (.getfield 37, 3) := bd01_56.1.2.2.1
theorem dX8_copyFrom_21 : decode cX8_copyFrom 21 = .ok (.putfield 37, 3) := bd01_56.1.2.2.2
theorem dX8_copyFrom_24 : decode cX8_copyFrom 24 = .ok (.aload_n 1, 1) := bd01_56.2.1.1.1
theorem dX8_copyFrom_25 : decode cX8_copyFrom 25 = .ok (.getfield 9, 3) := bd01_56.2.1.1.2
theorem dX8_copyFrom_28 : decode cX8_copyFrom 28 = .ok (.iconst 0, 1) := bd01_56.2.1.2.1
theorem dX8_copyFrom_29 : decode cX8_copyFrom 29 = .ok (.aload_n 0, 1) := bd01_56.2.1.2.2
theorem dX8_copyFrom_30 : decode cX8_copyFrom 30 = .ok (.getfield 9, 3) := bd01_56.2.2.1.1
theorem dX8_copyFrom_33 : decode cX8_copyFrom 33 = .ok (.iconst 0, 1) := bd01_56.2.2.1.2
theorem dX8_copyFrom_34 : decode cX8_copyFrom 34 = .ok (.aload_n 0, 1) := bd01_56.2.2.2.1
theorem dX8_copyFrom_35 : decode cX8_copyFrom 35 = .ok (.getfield 9, 3) := bd01_56.2.2.2.2
theorem bd01_57 : (((decode cX8_copyFrom 38 = .ok (.arraylength, 1) ∧ decode cX8_copyFrom 39 = .ok (.invokestatic 40, 3)) ∧ (decode cX8_copyFrom 42 = .ok (.aload_n 1, 1) ∧ decode cX8_copyFrom 43 = .ok (.getfield 15, 3))) ∧ ((decode cX8_copyFrom 46 = .ok (.iconst 0, 1) ∧ decode cX8_copyFrom 47 = .ok (.aload_n 0, 1)) ∧ (decode cX8_copyFrom 48 = .ok (.getfield 15, 3) ∧ decode cX8_copyFrom 51 = .ok (.iconst 0, 1)))) ∧ (((decode cX8_copyFrom 52 = .ok (.aload_n 0, 1) ∧ decode cX8_copyFrom 53 = .ok (.getfield 15, 3)) ∧ (decode cX8_copyFrom 56 = .ok (.arraylength, 1) ∧ decode cX8_copyFrom 57 = .ok (.invokestatic 40, 3))) ∧ ((decode cX8_copyFrom 60 = .ok (.aload_n 1, 1) ∧ decode cX8_copyFrom 61 = .ok (.getfield 18, 3)) ∧ (decode cX8_copyFrom 64 = .ok (.iconst 0, 1) ∧ decode cX8_copyFrom 65 = .ok (.aload_n 0, 1)))) := by decide +kernel
theorem dX8_copyFrom_38 : decode cX8_copyFrom 38 = .ok (.arraylength, 1) := bd01_57.1.1.1.1
theorem dX8_copyFrom_39 : decode cX8_copyFrom 39 = .ok (.invokestatic 40, 3) := bd01_57.1.1.1.2
theorem dX8_copyFrom_42 : decode cX8_copyFrom 42 = .ok (.aload_n 1, 1) := bd01_57.1.1.2.1
theorem dX8_copyFrom_43 : decode cX8_copyFrom 43 = .ok (.getfield 15, 3) := bd01_57.1.1.2.2
theorem dX8_copyFrom_46 : decode cX8_copyFrom 46 = .ok (.iconst 0, 1) := bd01_57.1.2.1.1
theorem dX8_copyFrom_47 : decode cX8_copyFrom 47 = .ok (.aload_n 0, 1) := bd01_57.1.2.1.2
theorem dX8_copyFrom_48 : decode cX8_copyFrom 48 = .ok (.getfield 15, 3) := bd01_57.1.2.2.1
theorem dX8_copyFrom_51 : decode cX8_copyFrom 51 = .ok (.iconst 0, 1) := bd01_57.1.2.2.2
theorem dX8_copyFrom_52 : decode cX8_copyFrom 52 = .ok (.aload_n 0, 1) := bd01_57.2.1.1.1
theorem dX8_copyFrom_53 : decode cX8_copyFrom 53 = .ok (.getfield 15, 3) := bd01_57.2.1.1.2
theorem dX8_copyFrom_56 : decode cX8_copyFrom 56 = .ok (.arraylength, 1) := bd01_57.2.1.2.1
theorem dX8_copyFrom_57 : decode cX8_copyFrom 57 = .ok (.invokestatic 40, 3) := bd01_57.2.1.2.2
theorem dX8_copyFrom_60 : decode cX8_copyFrom 60 = .ok (.aload_n 1, 1) := bd01_57.2.2.1.1
theorem dX8_copyFrom_61 : decode cX8_copyFrom 61 = .ok (.getfield 18, 3) := bd01_57.2.2.1.2
theorem dX8_copyFrom_64 : decode cX8_copyFrom 64 = .ok (.iconst 0, 1) := bd01_57.2.2.2.1
theorem dX8_copyFrom_65 : decode cX8_copyFrom 65 = .ok (.aload_n 0, 1) := bd01_57.2.2.2.2
theorem bd01_58 : (((decode cX8_copyFrom 66 = .ok (.getfield 18, 3) ∧ decode cX8_copyFrom 69 = .ok (.iconst 0, 1)) ∧ (decode cX8_copyFrom 70 = .ok (.aload_n 0, 1) ∧ decode cX8_copyFrom 71 = .ok (.getfield 18, 3))) ∧ ((decode cX8_copyFrom 74 = .ok (.arraylength, 1) ∧ decode cX8_copyFrom 75 = .ok (.invokestatic 40, 3)) ∧ (decode cX8_copyFrom 78 = .ok (.aload_n 1, 1) ∧ decode cX8_copyFrom 79 = .ok (.getfield 21, 3)))) ∧ (((decode cX8_copyFrom 82 = .ok (.iconst 0, 1) ∧ decode cX8_copyFrom 83 = .ok (.aload_n 0, 1)) ∧ (decode cX8_copyFrom 84 = .ok (.getfield 21, 3) ∧ decode cX8_copyFrom 87 = .ok (.iconst 0, 1))) ∧ ((decode cX8_copyFrom 88 = .ok (.aload_n 0, 1) ∧ decode cX8_copyFrom 89 = .ok (.getfield 21, 3)) ∧ (decode cX8_copyFrom 92 = .ok (.arraylength, 1) ∧ decode cX8_copyFrom 93 = .ok (.invokestatic 40, 3)))) := by decide +kernel
theorem dX8_copyFrom_66 : decode cX8_copyFrom 66 = .ok (.getfield 18, 3) := bd01_58.1.1.1.1
theorem dX8_copyFrom_69 : decode cX8_copyFrom 69 = .ok (.iconst 0, 1) := bd01_58.1.1.1.2
theorem dX8_copyFrom_70 : decode cX8_copyFrom 70 = .ok (.aload_n 0, 1) := bd01_58.1.1.2.1
theorem dX8_copyFrom_71 : decode cX8_copyFrom 71 = .ok (.getfield 18, 3) := bd01_58.1.1.2.2
theorem dX8_copyFrom_74 : decode cX8_copyFrom 74 = .ok (.arraylength, 1) := bd01_58.1.2.1.1
theorem dX8_copyFrom_75 : decode cX8_copyFrom 75 = .ok (.invokestatic 40, 3) := bd01_58.1.2.1.2
theorem dX8_copyFrom_78 : decode cX8_copyFrom 78 = .ok (.aload_n 1, 1) := bd01_58.1.2.2.1
theorem dX8_copyFrom_79 : decode cX8_copyFrom 79 = .ok (.getfield 21, 3) := bd01_58.1.2.2.2
theorem dX8_copyFrom_82 : decode cX8_copyFrom 82 = .ok (.iconst 0, 1) := bd01_58.2.1.1.1
theorem dX8_copyFrom_83 : decode cX8_copyFrom 83 = .ok (.aload_n 0, 1) := bd01_58.2.1.1.2
theorem dX8_copyFrom_84 : decode cX8_copyFrom 84 = .ok (.getfield 21, 3) := bd01_58.2.1.2.1
theorem dX8_copyFrom_87 : decode cX8_copyFrom 87 = .ok (.iconst 0, 1) := bd01_58.2.1.2.2
theorem dX8_copyFrom_88 : decode cX8_copyFrom 88 = .ok (.aload_n 0, 1) := bd01_58.2.2.1.1
theorem dX8_copyFrom_89 : decode cX8_copyFrom 89 = .ok (.getfield 21, 3) := bd01_58.2.2.1.2
theorem dX8_copyFrom_92 : decode cX8_copyFrom 92 = .ok (.arraylength, 1) := bd01_58.2.2.2.1
theorem dX8_copyFrom_93 : decode cX8_copyFrom 93 = .ok (.invokestatic 40, 3) := bd01_58.2.2.2.2
theorem bd01_59 : (((decode cX8_copyFrom 96 = .ok (.aload_n 1, 1) ∧ decode cX8_copyFrom 97 = .ok (.getfield 24, 3)) ∧ (decode cX8_copyFrom 100 = .ok (.iconst 0, 1) ∧ decode cX8_copyFrom 101 = .ok (.aload_n 0, 1))) ∧ ((decode cX8_copyFrom 102 = .ok (.getfield 24, 3) ∧ decode cX8_copyFrom 105 = .ok (.iconst 0, 1)) ∧ (decode cX8_copyFrom 106 = .ok (.aload_n 0, 1) ∧ decode cX8_copyFrom 107 = .ok (.getfield 24, 3)))) ∧ (((decode cX8_copyFrom 110 = .ok (.arraylength, 1) ∧ decode cX8_copyFrom 111 = .ok (.invokestatic 40, 3)) ∧ (decode cX8_copyFrom 114 = .ok (.aload_n 1, 1) ∧ decode cX8_copyFrom 115 = .ok (.getfield 27, 3))) ∧ ((decode cX8_copyFrom 118 = .ok (.iconst 0, 1) ∧ decode cX8_copyFrom 119 = .ok (.aload_n 0, 1)) ∧ (decode cX8_copyFrom 120 = .ok (.getfield 27, 3) ∧ decode cX8_copyFrom 123 = .ok (.iconst 0, 1)))) := by decide +kernel
theorem dX8_copyFrom_96 : decode cX8_copyFrom 96 = .ok (.aload_n 1, 1) := bd01_59.1.1.1.1
theorem dX8_copyFrom_97 : decode cX8_copyFrom 97 = .ok (.getfield 24, 3) := bd01_59.1.1.1.2
theorem dX8_copyFrom_100 : decode cX8_copyFrom 100 = .ok (.iconst 0, 1) := bd01_59.1.1.2.1
theorem dX8_copyFrom_101 : decode cX8_copyFrom 101 = .ok (.aload_n 0, 1) := bd01_59.1.1.2.2
theorem dX8_copyFrom_102 : decode cX8_copyFrom 102 = .ok (.getfield 24, 3) := bd01_59.1.2.1.1
theorem dX8_copyFrom_105 : decode cX8_copyFrom 105 = .ok (.iconst 0, 1) := bd01_59.1.2.1.2
theorem dX8_copyFrom_106 : decode cX8_copyFrom 106 = .ok (.aload_n 0, 1) := bd01_59.1.2.2.1
theorem dX8_copyFrom_107 : decode cX8_copyFrom 107 = .ok (.getfield 24, 3) := bd01_59.1.2.2.2
theorem dX8_copyFrom_110 : decode cX8_copyFrom 110 = .ok (.arraylength, 1) := bd01_59.2.1.1.1
theorem dX8_copyFrom_111 : decode cX8_copyFrom 111 = .ok (.invokestatic 40, 3) := bd01_59.2.1.1.2
theorem dX8_copyFrom_114 : decode cX8_copyFrom 114 = .ok (.aload_n 1, 1) := bd01_59.2.1.2.1
theorem dX8_copyFrom_115 : decode cX8_copyFrom 115 = .ok (.getfield 27, 3) := bd01_59.2.1.2.2
theorem dX8_copyFrom_118 : decode cX8_copyFrom 118 = .ok (.iconst 0, 1) := bd01_59.2.2.1.1
theorem dX8_copyFrom_119 : decode cX8_copyFrom 119 = .ok (.aload_n 0, 1) := bd01_59.2.2.1.2
theorem dX8_copyFrom_120 : decode cX8_copyFrom 120 = .ok (.getfield 27, 3) := bd01_59.2.2.2.1
theorem dX8_copyFrom_123 : decode cX8_copyFrom 123 = .ok (.iconst 0, 1) := bd01_59.2.2.2.2
theorem bd01_60 : ((decode cX8_copyFrom 124 = .ok (.aload_n 0, 1) ∧ decode cX8_copyFrom 125 = .ok (.getfield 27, 3)) ∧ (decode cX8_copyFrom 128 = .ok (.arraylength, 1) ∧ decode cX8_copyFrom 129 = .ok (.invokestatic 40, 3))) ∧ ((decode cX8_copyFrom 132 = .ok (.return_, 1) ∧ decode cX8_writeTo 0 = .ok (.aload_n 0, 1)) ∧ (decode cX8_writeTo 1 = .ok (.getfield 9, 3) ∧ decode cX8_writeTo 4 = .ok (.iconst 0, 1))) := by decide +kernel
theorem dX8_copyFrom_124 : decode cX8_copyFrom 124 = .ok (.aload_n 0, 1) := bd01_60.1.1.1
theorem dX8_copyFrom_125 : decode cX8_copyFrom 125 = .ok (.getfield 27, 3) := bd01_60.1.1.2
theorem dX8_copyFrom_128 : decode cX8_copyFrom 128 = .ok (.arraylength, 1) := bd01_60.1.2.1
theorem dX8_copyFrom_129 : decode cX8_copyFrom 129 = .ok (.invokestatic 40, 3) := bd01_60.1.2.2
theorem dX8_copyFrom_132 : decode cX8_copyFrom 132 = .ok (.return_, 1) := bd01_60.2.1.1
theorem dX8_writeTo_0 : decode cX8_writeTo 0 = .ok (.aload_n 0, 1) := bd01_60.2.1.2
theorem dX8_writeTo_1 : decode cX8_writeTo 1 = .ok (.getfield 9, 3) := bd01_60.2.2.1
theorem dX8_writeTo_4 : decode cX8_writeTo 4 = .ok (.iconst 0, 1) := bd01_60.2.2.2
theorem bd01_61 : (((decode cX8_writeTo 5 = .ok (.aload_n 1, 1) ∧ decode cX8_writeTo 6 = .ok (.iload_n 2, 1)) ∧ (decode cX8_writeTo 7 = .ok (.bipush 16, 2) ∧ decode cX8_writeTo 9 = .ok (.invokestatic 40, 3))) ∧ ((decode cX8_writeTo 12 = .ok (.aload_n 0, 1) ∧ decode cX8_writeTo 13 = .ok (.getfield 15, 3)) ∧ (decode cX8_writeTo 16 = .ok (.iconst 0, 1) ∧ decode cX8_writeTo 17 = .ok (.aload_n 1, 1)))) ∧ (((decode cX8_writeTo 18 = .ok (.iload_n 2, 1) ∧ decode cX8_writeTo 19 = .ok (.bipush 16, 2)) ∧ (decode cX8_writeTo 21 = .ok (.iadd, 1) ∧ decode cX8_writeTo 22 = .ok (.bipush 16, 2))) ∧ ((decode cX8_writeTo 24 = .ok (.invokestatic 40, 3) ∧ decode cX8_writeTo 27 = .ok (.aload_n 0, 1)) ∧ (decode cX8_writeTo 28 = .ok (.getfield 18, 3) ∧ decode cX8_writeTo 31 = .ok (.iconst 0, 1)))) := by decide +kernel
theorem dX8_writeTo_5 : decode cX8_writeTo 5 = .ok (.aload_n 1, 1) := bd01_61.1.1.1.1
theorem dX8_writeTo_6 : decode cX8_writeTo 6 = .ok (.iload_n 2, 1) := bd01_61.1.1.1.2
theorem dX8_writeTo_7 : decode cX8_writeTo 7 = .ok (.bipush 16, 2) := bd01_61.1.1.2.1
theorem dX8_writeTo_9 : decode cX8_writeTo 9 = .ok (.invokestatic 40, 3) := bd01_61.1.1.2.2
theorem dX8_writeTo_12 : decode cX8_writeTo 12 = .ok (.aload_n 0, 1) := bd01_61.1.2.1.1
theorem dX8_writeTo_13 : decode cX8_writeTo 13 = .ok (.getfield 15, 3) := bd01_61.1.2.1.2
theorem dX8_writeTo_16 : decode cX8_writeTo 16 = .ok (.iconst 0, 1) := bd01_61.1.2.2.1
theorem dX8_writeTo_17 : decode cX8_writeTo 17 = .ok (.aload_n 1, 1) := bd01_61.1.2.2.2
theorem dX8_writeTo_18 : decode cX8_writeTo 18 = .ok (.iload_n 2, 1) := bd01_61.2.1.1.1
theorem dX8_writeTo_19 : decode cX8_writeTo 19 = .ok (.bipush 16, 2) := bd01_61.2.1.1.2
theorem dX8_writeTo_21 : decode cX8_writeTo 21 = .ok (.iadd, 1) := bd01_61.2.1.2.1
theorem dX8_writeTo_22 : decode cX8_writeTo 22 = .ok (.bipush 16, 2) := bd01_61.2.1.2.2
theorem dX8_writeTo_24 : decode cX8_writeTo 24 = .ok (.invokestatic 40, 3) := bd01_61.2.2.1.1
theorem dX8_writeTo_27 : decode cX8_writeTo 27 = .ok (.aload_n 0, 1) := bd01_61.2.2.1.2
theorem dX8_writeTo_28 : decode cX8_writeTo 28 = .ok (.getfield 18, 3) := bd01_61.2.2.2.1
theorem dX8_writeTo_31 : decode cX8_writeTo 31 = .ok (.iconst 0, 1) := bd01_61.2.2.2.2
theorem bd01_62 : (((decode cX8_writeTo 32 = .ok (.aload_n 1, 1) ∧ decode cX8_writeTo 33 = .ok (.iload_n 2, 1)) ∧ (decode cX8_writeTo 34 = .ok (.bipush 32, 2) ∧ decode cX8_writeTo 36 = .ok (.iadd, 1))) ∧ ((decode cX8_writeTo 37 = .ok (.bipush 8, 2) ∧ decode cX8_writeTo 39 = .ok (.invokestatic 40, 3)) ∧ (decode cX8_writeTo 42 = .ok (.aload_n 0, 1) ∧ decode cX8_writeTo 43 = .ok (.getfield 21, 3)))) ∧ (((decode cX8_writeTo 46 = .ok (.iconst 0, 1) ∧ decode cX8_writeTo 47 = .ok (.aload_n 1, 1)) ∧ (decode cX8_writeTo 48 = .ok (.iload_n 2, 1) ∧ decode cX8_writeTo 49 = .ok (.bipush 40, 2))) ∧ ((decode cX8_writeTo 51 = .ok (.iadd, 1) ∧ decode cX8_writeTo 52 = .ok (.bipush 8, 2)) ∧ (decode cX8_writeTo 54 = .ok (.invokestatic 40, 3) ∧ decode cX8_writeTo 57 = .ok (.aload_n 0, 1)))) := by decide +kernel
theorem dX8_writeTo_32 : decode cX8_writeTo 32 = .ok (.aload_n 1, 1) := bd01_62.1.1.1.1
theorem dX8_writeTo_33 : decode cX8_writeTo 33 = .ok (.iload_n 2, 1) := bd01_62.1.1.1.2
theorem dX8_writeTo_34 : decode cX8_writeTo 34 = .ok (.bipush 32, 2) := bd01_62.1.1.2.1
theorem dX8_writeTo_36 : decode cX8_writeTo 36 = .ok (.iadd, 1) := bd01_62.1.1.2.2
theorem dX8_writeTo_37 : decode cX8_writeTo 37 = .ok (.bipush 8, 2) := bd01_62.1.2.1.1
theorem dX8_writeTo_39 : decode cX8_writeTo 39 = .ok (.invokestatic 40, 3) := bd01_62.1.2.1.2
theorem dX8_writeTo_42 : decode cX8_writeTo 42 = .ok (.aload_n 0, 1) := bd01_62.1.2.2.1
theorem dX8_writeTo_43 : decode cX8_writeTo 43 = .ok (.getfield 21, 3) := bd01_62.1.2.2.2
theorem dX8_writeTo_46 : decode cX8_writeTo 46 = .ok (.iconst 0, 1) := bd01_62.2.1.1.1
theorem dX8_writeTo_47 : decode cX8_writeTo 47 = .ok (.aload_n 1, 1) := bd01_62.2.1.1.2
theorem dX8_writeTo_48 : decode cX8_writeTo 48 = .ok (.iload_n 2, 1) := bd01_62.2.1.2.1
theorem dX8_writeTo_49 : decode cX8_writeTo 49 = .ok (.bipush 40, 2) := bd01_62.2.1.2.2
theorem dX8_writeTo_51 : decode cX8_writeTo 51 = .ok (.iadd, 1) := bd01_62.2.2.1.1
theorem dX8_writeTo_52 : decode cX8_writeTo 52 = .ok (.bipush 8, 2) := bd01_62.2.2.1.2
theorem dX8_writeTo_54 : decode cX8_writeTo 54 = .ok (.invokestatic 40, 3) := bd01_62.2.2.2.1
theorem dX8_writeTo_57 : decode cX8_writeTo 57 = .ok (.aload_n 0, 1) := bd01_62.2.2.2.2
theorem bd01_63 : (((decode cX8_writeTo 58 = .ok (.getfield 24, 3) ∧ decode cX8_writeTo 61 = .ok (.iconst 0, 1)) ∧ (decode cX8_writeTo 62 = .ok (.aload_n 1, 1) ∧ decode cX8_writeTo 63 = .ok (.iload_n 2, 1))) ∧ ((decode cX8_writeTo 64 = .ok (.bipush 48, 2) ∧ decode cX8_writeTo 66 = .ok (.iadd, 1)) ∧ (decode cX8_writeTo 67 = .ok (.bipush 8, 2) ∧ decode cX8_writeTo 69 = .ok (.invokestatic 40, 3)))) ∧ (((decode cX8_writeTo 72 = .ok (.aload_n 0, 1) ∧ decode cX8_writeTo 73 = .ok (.getfield 27, 3)) ∧ (decode cX8_writeTo 76 = .ok (.iconst 0, 1) ∧ decode cX8_writeTo 77 = .ok (.aload_n 1, 1))) ∧ ((decode cX8_writeTo 78 = .ok (.iload_n 2, 1) ∧ decode cX8_writeTo 79 = .ok (.bipush 56, 2)) ∧ (decode cX8_writeTo 81 = .ok (.iadd, 1) ∧ decode cX8_writeTo 82 = .ok (.bipush 8, 2)))) := by decide +kernel
theorem dX8_writeTo_58 : decode cX8_writeTo 58 = .ok (.getfield 24, 3) := bd01_63.1.1.1.1
theorem dX8_writeTo_61 : decode cX8_writeTo 61 = .ok (.iconst 0, 1) := bd01_63.1.1.1.2
theorem dX8_writeTo_62 : decode cX8_writeTo 62 = .ok (.aload_n 1, 1) := bd01_63.1.1.2.1
theorem dX8_writeTo_63 : decode cX8_writeTo 63 = .ok (.iload_n 2, 1) := bd01_63.1.1.2.2
theorem dX8_writeTo_64 : decode cX8_writeTo 64 = .ok (.bipush 48, 2) := bd01_63.1.2.1.1
theorem dX8_writeTo_66 : decode cX8_writeTo 66 = .ok (.iadd, 1) := bd01_63.1.2.1.2
theorem dX8_writeTo_67 : decode cX8_writeTo 67 = .ok (.bipush 8, 2) := bd01_63.1.2.2.1
theorem dX8_writeTo_69 : decode cX8_writeTo 69 = .ok (.invokestatic 40, 3) := bd01_63.1.2.2.2
theorem dX8_writeTo_72 : decode cX8_writeTo 72 = .ok (.aload_n 0, 1) := bd01_63.2.1.1.1
theorem dX8_writeTo_73 : decode cX8_writeTo 73 = .ok (.getfield 27, 3) := bd01_63.2.1.1.2
theorem dX8_writeTo_76 : decode cX8_writeTo 76 = .ok (.iconst 0, 1) := bd01_63.2.1.2.1
theorem dX8_writeTo_77 : decode cX8_writeTo 77 = .ok (.aload_n 1, 1) := bd01_63.2.1.2.2
theorem dX8_writeTo_78 : decode cX8_writeTo 78 = .ok (.iload_n 2, 1) := bd01_63.2.2.1.1
theorem dX8_writeTo_79 : decode cX8_writeTo 79 = .ok (.bipush 56, 2) := bd01_63.2.2.1.2
theorem dX8_writeTo_81 : decode cX8_writeTo 81 = .ok (.iadd, 1) := bd01_63.2.2.2.1
theorem dX8_writeTo_82 : decode cX8_writeTo 82 = .ok (.bipush 8, 2) := bd01_63.2.2.2.2
theorem bd01_64 : (((decode cX8_writeTo 84 = .ok (.invokestatic 40, 3) ∧ decode cX8_writeTo 87 = .ok (.aload_n 1, 1)) ∧ (decode cX8_writeTo 88 = .ok (.iload_n 2, 1))) ∧ (decode cX8_writeTo 89 = .ok (.bipush 64, 2) ∧ decode cX8_writeTo 91 = .ok (.iadd, 1))) ∧ ((decode cX8_writeTo 92 = .ok (.aload_n 0, 1) ∧ decode cX8_writeTo 93 = .ok (.getfield 37, 3)) ∧ (decode cX8_writeTo 96 = .ok (.iastore, 1) ∧ decode cX8_writeTo 97 = .ok (.return_, 1))) := by decide +kernel
theorem dX8_writeTo_84 : decode cX8_writeTo 84 = .ok (.invokestatic 40, 3) := bd01_64.1.1.1.1
theorem dX8_writeTo_87 : decode cX8_writeTo 87 = .ok (.aload_n 1, 1) := bd01_64.1.1.1.2
theorem dX8_writeTo_88 : decode cX8_writeTo 88 = .ok (.iload_n 2, 1) := bd01_64.1.1.2
theorem dX8_writeTo_89 : decode cX8_writeTo 89 = .ok (.bipush 64, 2) := bd01_64.1.2.1
theorem dX8_writeTo_91 : decode cX8_writeTo 91 = .ok (.iadd, 1) := bd01_64.1.2.2
theorem dX8_writeTo_92 : decode cX8_writeTo 92 = .ok (.aload_n 0, 1) := bd01_64.2.1.1
theorem dX8_writeTo_93 : decode cX8_writeTo 93 = .ok (.getfield 37, 3) := bd01_64.2.1.2
theorem dX8_writeTo_96 : decode cX8_writeTo 96 = .ok (.iastore, 1) := bd01_64.2.2.1
theorem dX8_writeTo_97 : decode cX8_writeTo 97 = .ok (.return_, 1) := bd01_64.2.2.2
theorem bd01_65 : (((decode cX8_readFrom 0 = .ok (.aload_n 1, 1) ∧ decode cX8_readFrom 1 = .ok (.iload_n 2, 1)) ∧ (decode cX8_readFrom 2 = .ok (.aload_n 0, 1) ∧ decode cX8_readFrom 3 = .ok (.getfield 9, 3))) ∧ ((decode cX8_readFrom 6 = .ok (.iconst 0, 1) ∧ decode cX8_readFrom 7 = .ok (.bipush 16, 2)) ∧ (decode cX8_readFrom 9 = .ok (.invokestatic 40, 3) ∧ decode cX8_readFrom 12 = .ok (.aload_n 1, 1)))) ∧ (((decode cX8_readFrom 13 = .ok (.iload_n 2, 1) ∧ decode cX8_readFrom 14 = .ok (.bipush 16, 2)) ∧ (decode cX8_readFrom 16 = .ok (.iadd, 1) ∧ decode cX8_readFrom 17 = .ok (.aload_n 0, 1))) ∧ ((decode cX8_readFrom 18 = .ok (.getfield 15, 3) ∧ decode cX8_readFrom 21 = .ok (.iconst 0, 1)) ∧ (decode cX8_readFrom 22 = .ok (.bipush 16, 2) ∧ decode cX8_readFrom 24 = .ok (.invokestatic 40, 3)))) := by decide +kernel
theorem dX8_readFrom_0 : decode cX8_readFrom 0 = .ok (.aload_n 1, 1) := bd01_65.1.1.1.1
theorem dX8_readFrom_1 : decode cX8_readFrom 1 = .ok (.iload_n 2, 1) := bd01_65.1.1.1.2
theorem dX8_readFrom_2 : decode cX8_readFrom 2 = .ok (.aload_n 0, 1) := bd01_65.1.1.2.1
theorem dX8_readFrom_3 : decode cX8_readFrom 3 = .ok (.getfield 9, 3) := bd01_65.1.1.2.2
theorem dX8_readFrom_6 : decode cX8_readFrom 6 = .ok (.iconst 0, 1) := bd01_65.1.2.1.1
theorem dX8_readFrom_7 : decode cX8_readFrom 7 = .ok (.bipush 16, 2) := bd01_65.1.2.1.2
theorem dX8_readFrom_9 : decode cX8_readFrom 9 = .ok (.invokestatic 40, 3) := bd01_65.1.2.2.1
theorem dX8_readFrom_12 : decode cX8_readFrom 12 = .ok (.aload_n 1, 1) := bd01_65.1.2.2.2
theorem dX8_readFrom_13 : decode cX8_readFrom 13 = .ok (.iload_n 2, 1) := bd01_65.2.1.1.1
theorem dX8_readFrom_14 : decode cX8_readFrom 14 = .ok (.bipush 16, 2) := bd01_65.2.1.1.2
theorem dX8_readFrom_16 : decode cX8_readFrom 16 = .ok (.iadd, 1) := bd01_65.2.1.2.1
theorem dX8_readFrom_17 : decode cX8_readFrom 17 = .ok (.aload_n 0, 1) := bd01_65.2.1.2.2
theorem dX8_readFrom_18 : decode cX8_readFrom 18 = .ok (.getfield 15, 3) := bd01_65.2.2.1.1
theorem dX8_readFrom_21 : decode cX8_readFrom 21 = .ok (.iconst 0, 1) := bd01_65.2.2.1.2
theorem dX8_readFrom_22 : decode cX8_readFrom 22 = .ok (.bipush 16, 2) := bd01_65.2.2.2.1
theorem dX8_readFrom_24 : decode cX8_readFrom 24 = .ok (.invokestatic 40, 3) := bd01_65.2.2.2.2
theorem bd01_66 : (((decode cX8_readFrom 27 = .ok (.aload_n 1, 1) ∧ decode cX8_readFrom 28 = .ok (.iload_n 2, 1)) ∧ (decode cX8_readFrom 29 = .ok (.bipush 32, 2) ∧ decode cX8_readFrom 31 = .ok (.iadd, 1))) ∧ ((decode cX8_readFrom 32 = .ok (.aload_n 0, 1) ∧ decode cX8_readFrom 33 = .ok (.getfield 18, 3)) ∧ (decode cX8_readFrom 36 = .ok (.iconst 0, 1) ∧ decode cX8_readFrom 37 = .ok (.bipush 8, 2)))) ∧ (((decode cX8_readFrom 39 = .ok (.invokestatic 40, 3) ∧ decode cX8_readFrom 42 = .ok (.aload_n 1, 1)) ∧ (decode cX8_readFrom 43 = .ok (.iload_n 2, 1) ∧ decode cX8_readFrom 44 = .ok (.bipush 40, 2))) ∧ ((decode cX8_readFrom 46 = .ok (.iadd, 1) ∧ decode cX8_readFrom 47 = .ok (.aload_n 0, 1)) ∧ (decode cX8_readFrom 48 = .ok (.getfield 21, 3) ∧ decode cX8_readFrom 51 = .ok (.iconst 0, 1)))) := by decide +kernel
theorem dX8_readFrom_27 : decode cX8_readFrom 27 = .ok (.aload_n 1, 1) := bd01_66.1.1.1.1
theorem dX8_readFrom_28 : decode cX8_readFrom 28 = .ok (.iload_n 2, 1) := bd01_66.1.1.1.2
theorem dX8_readFrom_29 : decode cX8_readFrom 29 = .ok (.bipush 32, 2) := bd01_66.1.1.2.1
theorem dX8_readFrom_31 : decode cX8_readFrom 31 = .ok (.iadd, 1) := bd01_66.1.1.2.2
theorem dX8_readFrom_32 : decode cX8_readFrom 32 = .ok (.aload_n 0, 1) := bd01_66.1.2.1.1
theorem dX8_readFrom_33 : decode cX8_readFrom 33 = .ok (.getfield 18, 3) := bd01_66.1.2.1.2
theorem dX8_readFrom_36 : decode cX8_readFrom 36 = .ok (.iconst 0, 1) := bd01_66.1.2.2.1
theorem dX8_readFrom_37 : decode cX8_readFrom 37 = .ok (.bipush 8, 2) := bd01_66.1.2.2.2
theorem dX8_readFrom_39 : decode cX8_readFrom 39 = .ok (.invokestatic 40, 3) := bd01_66.2.1.1.1
theorem dX8_readFrom_42 : decode cX8_readFrom 42 = .ok (.aload_n 1, 1) := bd01_66.2.1.1.2
theorem dX8_readFrom_43 : decode cX8_readFrom 43 = .ok (.iload_n 2, 1) := bd01_66.2.1.2.1
theorem dX8_readFrom_44 : decode cX8_readFrom 44 = .ok (.bipush 40, 2) := bd01_66.2.1.2.2
theorem dX8_readFrom_46 : decode cX8_readFrom 46 = .ok (.iadd, 1) := bd01_66.2.2.1.1
theorem dX8_readFrom_47 : decode cX8_readFrom 47 = .ok (.aload_n 0, 1) := bd01_66.2.2.1.2
theorem dX8_readFrom_48 : decode cX8_readFrom 48 = .ok (.getfield 21, 3) := bd01_66.2.2.2.1
theorem dX8_readFrom_51 : decode cX8_readFrom 51 = .ok (.iconst 0, 1) := bd01_66.2.2.2.2
theorem bd01_67 : (((decode cX8_readFrom 52 = .ok (.bipush 8, 2) ∧ decode cX8_readFrom 54 = .ok (.invokestatic 40, 3)) ∧ (decode cX8_readFrom 57 = .ok (.aload_n 1, 1) ∧ decode cX8_readFrom 58 = .ok (.iload_n 2, 1))) ∧ ((decode cX8_readFrom 59 = .ok (.bipush 48, 2) ∧ decode cX8_readFrom 61 = .ok (.iadd, 1)) ∧ (decode cX8_readFrom 62 = .ok (.aload_n 0, 1) ∧ decode cX8_readFrom 63 = .ok (.getfield 24, 3)))) ∧ (((decode cX8_readFrom 66 = .ok (.iconst 0, 1) ∧ decode cX8_readFrom 67 = .ok (.bipush 8, 2)) ∧ (decode cX8_readFrom 69 = .ok (.invokestatic 40, 3) ∧ decode cX8_readFrom 72 = .ok (.aload_n 1, 1))) ∧ ((decode cX8_readFrom 73 = .ok (.iload_n 2, 1) ∧ decode cX8_readFrom 74 = .ok (.bipush 56, 2)) ∧ (decode cX8_readFrom 76 = .ok (.iadd, 1) ∧ decode cX8_readFrom 77 = .ok (.aload_n 0, 1)))) := by decide +kernel
theorem dX8_readFrom_52 : decode cX8_readFrom 52 = .ok (.bipush 8, 2) := bd01_67.1.1.1.1
theorem dX8_readFrom_54 : decode cX8_readFrom 54 = .ok (.invokestatic 40, 3) := bd01_67.1.1.1.2
theorem dX8_readFrom_57 : decode cX8_readFrom 57 = .ok (.aload_n 1, 1) := bd01_67.1.1.2.1
theorem dX8_readFrom_58 : decode cX8_readFrom 58 = .ok (.iload_n 2, 1) := bd01_67.1.1.2.2
theorem dX8_readFrom_59 : decode cX8_readFrom 59 = .ok (.bipush 48, 2) := bd01_67.1.2.1.1
theorem dX8_readFrom_61 : decode cX8_readFrom 61 = .ok (.iadd, 1) := bd01_67.1.2.1.2
theorem dX8_readFrom_62 : decode cX8_readFrom 62 = .ok (.aload_n 0, 1) := bd01_67.1.2.2.1
theorem dX8_readFrom_63 : decode cX8_readFrom 63 = .ok (.getfield 24, 3) := bd01_67.1.2.2.2
theorem dX8_readFrom_66 : decode cX8_readFrom 66 = .ok (.iconst 0, 1) := bd01_67.2.1.1.1
theorem dX8_readFrom_67 : decode cX8_readFrom 67 = .ok (.bipush 8, 2) := bd01_67.2.1.1.2
theorem dX8_readFrom_69 : decode cX8_readFrom 69 = .ok (.invokestatic 40, 3) := bd01_67.2.1.2.1
theorem dX8_readFrom_72 : decode cX8_readFrom 72 = .ok (.aload_n 1, 1) := bd01_67.2.1.2.2
theorem dX8_readFrom_73 : decode cX8_readFrom 73 = .ok (.iload_n 2, 1) := bd01_67.2.2.1.1
theorem dX8_readFrom_74 : decode cX8_readFrom 74 = .ok (.bipush 56, 2) := bd01_67.2.2.1.2
theorem dX8_readFrom_76 : decode cX8_readFrom 76 = .ok (.iadd, 1) := bd01_67.2.2.2.1
theorem dX8_readFrom_77 : decode cX8_readFrom 77 = .ok (.aload_n 0, 1) := bd01_67.2.2.2.2
theorem bd01_68 : (((decode cX8_readFrom 78 = .ok (.getfield 27, 3) ∧ decode cX8_readFrom 81 = .ok (.iconst 0, 1)) ∧ (decode cX8_readFrom 82 = .ok (.bipush 8, 2))) ∧ ((decode cX8_readFrom 84 = .ok (.invokestatic 40, 3) ∧ decode cX8_readFrom 87 = .ok (.aload_n 0, 1)) ∧ (decode cX8_readFrom 88 = .ok (.aload_n 1, 1)))) ∧ (((decode cX8_readFrom 89 = .ok (.iload_n 2, 1) ∧ decode cX8_readFrom 90 = .ok (.bipush 64, 2)) ∧ (decode cX8_readFrom 92 = .ok (.iadd, 1))) ∧ ((decode cX8_readFrom 93 = .ok (.iaload, 1) ∧ decode cX8_readFrom 94 = .ok (.putfield 37, 3)) ∧ (decode cX8_readFrom 97 = .ok (.return_, 1)))) := by decide +kernel
theorem dX8_readFrom_78 : decode cX8_readFrom 78 = .ok (.getfield 27, 3) := bd01_68.1.1.1.1
theorem dX8_readFrom_81 : decode cX8_readFrom 81 = .ok (.iconst 0, 1) := bd01_68.1.1.1.2
theorem dX8_readFrom_82 : decode cX8_readFrom 82 = .ok (.bipush 8, 2) := bd01_68.1.1.2
theorem dX8_readFrom_84 : decode cX8_readFrom 84 = .ok (.invokestatic 40, 3) := bd01_68.1.2.1.1
theorem dX8_readFrom_87 : decode cX8_readFrom 87 = .ok (.aload_n 0, 1) := bd01_68.1.2.1.2
theorem dX8_readFrom_88 : decode cX8_readFrom 88 = .ok (.aload_n 1, 1) := bd01_68.1.2.2
theorem dX8_readFrom_89 : decode cX8_readFrom 89 = .ok (.iload_n 2, 1) := bd01_68.2.1.1.1
theorem dX8_readFrom_90 : decode cX8_readFrom 90 = .ok (.bipush 64, 2) := bd01_68.2.1.1.2
theorem dX8_readFrom_92 : decode cX8_readFrom 92 = .ok (.iadd, 1) := bd01_68.2.1.2
theorem dX8_readFrom_93 : decode cX8_readFrom 93 = .ok (.iaload, 1) := bd01_68.2.2.1.1
theorem dX8_readFrom_94 : decode cX8_readFrom 94 = .ok (.putfield 37, 3) := bd01_68.2.2.1.2
theorem dX8_readFrom_97 : decode cX8_readFrom 97 = .ok (.return_, 1) := bd01_68.2.2.2
theorem bd01_69 : (((decode cX8_unlikeness 0 = .ok (.aload_n 0, 1) ∧ decode cX8_unlikeness 1 = .ok (.getfield 9, 3)) ∧ (decode cX8_unlikeness 4 = .ok (.iload_n 1, 1) ∧ decode cX8_unlikeness 5 = .ok (.iaload, 1))) ∧ ((decode cX8_unlikeness 6 = .ok (.aload_n 0, 1) ∧ decode cX8_unlikeness 7 = .ok (.getfield 9, 3)) ∧ (decode cX8_unlikeness 10 = .ok (.iload_n 2, 1) ∧ decode cX8_unlikeness 11 = .ok (.iaload, 1)))) ∧ (((decode cX8_unlikeness 12 = .ok (.isub, 1) ∧ decode cX8_unlikeness 13 = .ok (.invokestatic 46, 3)) ∧ (decode cX8_unlikeness 16 = .ok (.aload_n 0, 1) ∧ decode cX8_unlikeness 17 = .ok (.getfield 15, 3))) ∧ ((decode cX8_unlikeness 20 = .ok (.iload_n 1, 1) ∧ decode cX8_unlikeness 21 = .ok (.iaload, 1)) ∧ (decode cX8_unlikeness 22 = .ok (.aload_n 0, 1) ∧ decode cX8_unlikeness 23 = .ok (.getfield 15, 3)))) := by decide +kernel
theorem dX8_unlikeness_0 : decode cX8_unlikeness 0 = .ok (.aload_n 0, 1) := bd01_69.1.1.1.1
theorem dX8_unlikeness_1 : decode cX8_unlikeness 1 = .ok (.getfield 9, 3) := bd01_69.1.1.1.2
theorem dX8_unlikeness_4 : decode cX8_unlikeness 4 = .ok (.iload_n 1, 1) := bd01_69.1.1.2.1
theorem dX8_unlikeness_5 : decode cX8_unlikeness 5 = .ok (.iaload, 1) := bd01_69.1.1.2.2
theorem dX8_unlikeness_6 : decode cX8_unlikeness 6 = .ok (.aload_n 0, 1) := bd01_69.1.2.1.1
theorem dX8_unlikeness_7 : decode cX8_unlikeness 7 = .ok (.getfield 9, 3) := bd01_69.1.2.1.2
theorem dX8_unlikeness_10 : decode cX8_unlikeness 10 = .ok (.iload_n 2, 1) := bd01_69.1.2.2.1
theorem dX8_unlikeness_11 : decode cX8_unlikeness 11 = .ok (.iaload, 1) := bd01_69.1.2.2.2
theorem dX8_unlikeness_12 : decode cX8_unlikeness 12 = .ok (.isub, 1) := bd01_69.2.1.1.1
theorem dX8_unlikeness_13 : decode cX8_unlikeness 13 = .ok (.invokestatic 46, 3) := bd01_69.2.1.1.2
theorem dX8_unlikeness_16 : decode cX8_unlikeness 16 = .ok (.aload_n 0, 1) := bd01_69.2.1.2.1
theorem dX8_unlikeness_17 : decode cX8_unlikeness 17 = .ok (.getfield 15, 3) := bd01_69.2.1.2.2
theorem dX8_unlikeness_20 : decode cX8_unlikeness 20 = .ok (.iload_n 1, 1) := bd01_69.2.2.1.1
theorem dX8_unlikeness_21 : decode cX8_unlikeness 21 = .ok (.iaload, 1) := bd01_69.2.2.1.2
theorem dX8_unlikeness_22 : decode cX8_unlikeness 22 = .ok (.aload_n 0, 1) := bd01_69.2.2.2.1
theorem dX8_unlikeness_23 : decode cX8_unlikeness 23 = .ok (.getfield 15, 3) := bd01_69.2.2.2.2
theorem bd01_70 : ((decode cX8_unlikeness 26 = .ok (.iload_n 2, 1) ∧ decode cX8_unlikeness 27 = .ok (.iaload, 1)) ∧ (decode cX8_unlikeness 28 = .ok (.isub, 1) ∧ decode cX8_unlikeness 29 = .ok (.invokestatic 46, 3))) ∧ ((decode cX8_unlikeness 32 = .ok (.iadd, 1) ∧ decode cX8_unlikeness 33 = .ok (.ireturn, 1)) ∧ (decode cX8_closest 0 = .ok (.iconst (-1), 1) ∧ decode cX8_closest 1 = .ok (.istore_n 3, 1))) := by decide +kernel
theorem dX8_unlikeness_26 : decode cX8_unlikeness 26 = .ok (.iload_n 2, 1) := bd01_70.1.1.1
theorem dX8_unlikeness_27 : decode cX8_unlikeness 27 = .ok (.iaload, 1) := bd01_70.1.1.2
theorem dX8_unlikeness_28 : decode cX8_unlikeness 28 = .ok (.isub, 1) := bd01_70.1.2.1
theorem dX8_unlikeness_29 : decode cX8_unlikeness 29 = .ok (.invokestatic 46, 3) := bd01_70.1.2.2
theorem dX8_unlikeness_32 : decode cX8_unlikeness 32 = .ok (.iadd, 1) := bd01_70.2.1.1
theorem dX8_unlikeness_33 : decode cX8_unlikeness 33 = .ok (.ireturn, 1) := bd01_70.2.1.2
theorem dX8_closest_0 : decode cX8_closest 0 = .ok (.iconst (-1), 1) := bd01_70.2.2.1
theorem dX8_closest_1 : decode cX8_closest 1 = .ok (.istore_n 3, 1) := bd01_70.2.2.2
theorem bd01_71 : (((decode cX8_closest 2 = .ok (.iconst (-1), 1) ∧ decode cX8_closest 3 = .ok (.istore 4, 2)) ∧ (decode cX8_closest 5 = .ok (.iconst 0, 1) ∧ decode cX8_closest 6 = .ok (.istore 5, 2))) ∧ ((decode cX8_closest 8 = .ok (.iload 5, 2) ∧ decode cX8_closest 10 = .ok (.aload_n 0, 1)) ∧ (decode cX8_closest 11 = .ok (.getfield 30, 3) ∧ decode cX8_closest 14 = .ok (.if_icmp .ge 61, 3)))) ∧ (((decode cX8_closest 17 = .ok (.aload_n 0, 1) ∧ decode cX8_closest 18 = .ok (.iload_n 1, 1)) ∧ (decode cX8_closest 19 = .ok (.invokestatic 52, 3) ∧ decode cX8_closest 22 = .ok (.iload 5, 2))) ∧ ((decode cX8_closest 24 = .ok (.invokevirtual 55, 3) ∧ decode cX8_closest 27 = .ok (.istore 6, 2)) ∧ (decode cX8_closest 29 = .ok (.iload_n 2, 1) ∧ decode cX8_closest 30 = .ok (.iload 5, 2)))) := by decide +kernel
theorem dX8_closest_2 : decode cX8_closest 2 = .ok (.iconst (-1), 1) := bd01_71.1.1.1.1
theorem dX8_closest_3 : decode cX8_closest 3 = .ok (.istore 4, 2) := bd01_71.1.1.1.2
theorem dX8_closest_5 : decode cX8_closest 5 = .ok (.iconst 0, 1) := bd01_71.1.1.2.1
theorem dX8_closest_6 : decode cX8_closest 6 = .ok (.istore 5, 2) := bd01_71.1.1.2.2
theorem dX8_closest_8 : decode cX8_closest 8 = .ok (.iload 5, 2) := bd01_71.1.2.1.1
theorem dX8_closest_10 : decode cX8_closest 10 = .ok (.aload_n 0, 1) := bd01_71.1.2.1.2
theorem dX8_closest_11 : decode cX8_closest 11 = .ok (.getfield 30, 3) := bd01_71.1.2.2.1
theorem dX8_closest_14 : decode cX8_closest 14 = .ok (.if_icmp .ge 61, 3) := bd01_71.1.2.2.2
theorem dX8_closest_17 : decode cX8_closest 17 = .ok (.aload_n 0, 1) := bd01_71.2.1.1.1
theorem dX8_closest_18 : decode cX8_closest 18 = .ok (.iload_n 1, 1) := bd01_71.2.1.1.2
theorem dX8_closest_19 : decode cX8_closest 19 = .ok (.invokestatic 52, 3) := bd01_71.2.1.2.1
theorem dX8_closest_22 : decode cX8_closest 22 = .ok (.iload 5, 2) := bd01_71.2.1.2.2
theorem dX8_closest_24 : decode cX8_closest 24 = .ok (.invokevirtual 55, 3) := bd01_71.2.2.1.1
theorem dX8_closest_27 : decode cX8_closest 27 = .ok (.istore 6, 2) := bd01_71.2.2.1.2
theorem dX8_closest_29 : decode cX8_closest 29 = .ok (.iload_n 2, 1) := bd01_71.2.2.2.1
theorem dX8_closest_30 : decode cX8_closest 30 = .ok (.iload 5, 2) := bd01_71.2.2.2.2
theorem bd01_72 : (((decode cX8_closest 32 = .ok (.ishr, 1) ∧ decode cX8_closest 33 = .ok (.iconst 1, 1)) ∧ (decode cX8_closest 34 = .ok (.iand, 1) ∧ decode cX8_closest 35 = .ok (.ifCond .ne 7, 3))) ∧ ((decode cX8_closest 38 = .ok (.iconst 1, 1) ∧ decode cX8_closest 39 = .ok (.goto 4, 3)) ∧ (decode cX8_closest 42 = .ok (.iconst 0, 1) ∧ decode cX8_closest 43 = .ok (.istore 7, 2)))) ∧ (((decode cX8_closest 45 = .ok (.iload 7, 2) ∧ decode cX8_closest 47 = .ok (.ifCond .eq 22, 3)) ∧ (decode cX8_closest 50 = .ok (.iload_n 3, 1) ∧ decode cX8_closest 51 = .ok (.iconst (-1), 1))) ∧ ((decode cX8_closest 52 = .ok (.if_icmp .eq 10, 3) ∧ decode cX8_closest 55 = .ok (.iload 6, 2)) ∧ (decode cX8_closest 57 = .ok (.iload 4, 2) ∧ decode cX8_closest 59 = .ok (.if_icmp .ge 10, 3)))) := by decide +kernel
theorem dX8_closest_32 : decode cX8_closest 32 = .ok (.ishr, 1) := bd01_72.1.1.1.1
theorem dX8_closest_33 : decode cX8_closest 33 = .ok (.iconst 1, 1) := bd01_72.1.1.1.2
theorem dX8_closest_34 : decode cX8_closest 34 = .ok (.iand, 1) := bd01_72.1.1.2.1
theorem dX8_closest_35 : decode cX8_closest 35 = .ok (.ifCond .ne 7, 3) := bd01_72.1.1.2.2
theorem dX8_closest_38 : decode cX8_closest 38 = .ok (.iconst 1, 1) := bd01_72.1.2.1.1
theorem dX8_closest_39 : decode cX8_closest 39 = .ok (.goto 4, 3) := bd01_72.1.2.1.2
theorem dX8_closest_42 : decode cX8_closest 42 = .ok (.iconst 0, 1) := bd01_72.1.2.2.1
theorem dX8_closest_43 : decode cX8_closest 43 = .ok (.istore 7, 2) := bd01_72.1.2.2.2
theorem dX8_closest_45 : decode cX8_closest 45 = .ok (.iload 7, 2) := bd01_72.2.1.1.1
theorem dX8_closest_47 : decode cX8_closest 47 = .ok (.ifCond .eq 22, 3) := bd01_72.2.1.1.2
theorem dX8_closest_50 : decode cX8_closest 50 = .ok (.iload_n 3, 1) := bd01_72.2.1.2.1
theorem dX8_closest_51 : decode cX8_closest 51 = .ok (.iconst (-1), 1) := bd01_72.2.1.2.2
theorem dX8_closest_52 : decode cX8_closest 52 = .ok (.if_icmp .eq 10, 3) := bd01_72.2.2.1.1
theorem dX8_closest_55 : decode cX8_closest 55 = .ok (.iload 6, 2) := bd01_72.2.2.1.2
theorem dX8_closest_57 : decode cX8_closest 57 = .ok (.iload 4, 2) := bd01_72.2.2.2.1
theorem dX8_closest_59 : decode cX8_closest 59 = .ok (.if_icmp .ge 10, 3) := bd01_72.2.2.2.2
theorem bd01_73 : ((decode cX8_closest 62 = .ok (.iload 5, 2) ∧ decode cX8_closest 64 = .ok (.istore_n 3, 1)) ∧ (decode cX8_closest 65 = .ok (.iload 6, 2) ∧ decode cX8_closest 67 = .ok (.istore 4, 2))) ∧ ((decode cX8_closest 69 = .ok (.iinc 5 1, 3) ∧ decode cX8_closest 72 = .ok (.goto (-64), 3)) ∧ (decode cX8_closest 75 = .ok (.iload_n 3, 1) ∧ decode cX8_closest 76 = .ok (.ireturn, 1))) := by decide +kernel
theorem dX8_closest_62 : decode cX8_closest 62 = .ok (.iload 5, 2) := bd01_73.1.1.1
theorem dX8_closest_64 : decode cX8_closest 64 = .ok (.istore_n 3, 1) := bd01_73.1.1.2
theorem dX8_closest_65 : decode cX8_closest 65 = .ok (.iload 6, 2) := bd01_73.1.2.1
theorem dX8_closest_67 : decode cX8_closest 67 = .ok (.istore 4, 2) := bd01_73.1.2.2
theorem dX8_closest_69 : decode cX8_closest 69 = .ok (.iinc 5 1, 3) := bd01_73.2.1.1
theorem dX8_closest_72 : decode cX8_closest 72 = .ok (.goto (-64), 3) := bd01_73.2.1.2
theorem dX8_closest_75 : decode cX8_closest 75 = .ok (.iload_n 3, 1) := bd01_73.2.2.1
theorem dX8_closest_76 : decode cX8_closest 76 = .ok (.ireturn, 1) := bd01_73.2.2.2
theorem bd01_74 : (((decode cX8_sitterAt 0 = .ok (.iconst 0, 1) ∧ decode cX8_sitterAt 1 = .ok (.istore_n 2, 1)) ∧ (decode cX8_sitterAt 2 = .ok (.iload_n 2, 1) ∧ decode cX8_sitterAt 3 = .ok (.aload_n 0, 1))) ∧ ((decode cX8_sitterAt 4 = .ok (.getfield 34, 3) ∧ decode cX8_sitterAt 7 = .ok (.if_icmp .ge 21, 3)) ∧ (decode cX8_sitterAt 10 = .ok (.aload_n 0, 1) ∧ decode cX8_sitterAt 11 = .ok (.getfield 27, 3)))) ∧ (((decode cX8_sitterAt 14 = .ok (.iload_n 2, 1) ∧ decode cX8_sitterAt 15 = .ok (.iaload, 1)) ∧ (decode cX8_sitterAt 16 = .ok (.iload_n 1, 1) ∧ decode cX8_sitterAt 17 = .ok (.if_icmp .ne 5, 3))) ∧ ((decode cX8_sitterAt 20 = .ok (.iload_n 2, 1) ∧ decode cX8_sitterAt 21 = .ok (.ireturn, 1)) ∧ (decode cX8_sitterAt 22 = .ok (.iinc 2 1, 3) ∧ decode cX8_sitterAt 25 = .ok (.goto (-23), 3)))) := by decide +kernel
theorem dX8_sitterAt_0 : decode cX8_sitterAt 0 = .ok (.iconst 0, 1) := bd01_74.1.1.1.1
theorem dX8_sitterAt_1 : decode cX8_sitterAt 1 = .ok (.istore_n 2, 1) := bd01_74.1.1.1.2
theorem dX8_sitterAt_2 : decode cX8_sitterAt 2 = .ok (.iload_n 2, 1) := bd01_74.1.1.2.1
theorem dX8_sitterAt_3 : decode cX8_sitterAt 3 = .ok (.aload_n 0, 1) := bd01_74.1.1.2.2
theorem dX8_sitterAt_4 : decode cX8_sitterAt 4 = .ok (.getfield 34, 3) := bd01_74.1.2.1.1
theorem dX8_sitterAt_7 : decode cX8_sitterAt 7 = .ok (.if_icmp .ge 21, 3) := bd01_74.1.2.1.2
theorem dX8_sitterAt_10 : decode cX8_sitterAt 10 = .ok (.aload_n 0, 1) := bd01_74.1.2.2.1
theorem dX8_sitterAt_11 : decode cX8_sitterAt 11 = .ok (.getfield 27, 3) := bd01_74.1.2.2.2
theorem dX8_sitterAt_14 : decode cX8_sitterAt 14 = .ok (.iload_n 2, 1) := bd01_74.2.1.1.1
theorem dX8_sitterAt_15 : decode cX8_sitterAt 15 = .ok (.iaload, 1) := bd01_74.2.1.1.2
theorem dX8_sitterAt_16 : decode cX8_sitterAt 16 = .ok (.iload_n 1, 1) := bd01_74.2.1.2.1
theorem dX8_sitterAt_17 : decode cX8_sitterAt 17 = .ok (.if_icmp .ne 5, 3) := bd01_74.2.1.2.2
theorem dX8_sitterAt_20 : decode cX8_sitterAt 20 = .ok (.iload_n 2, 1) := bd01_74.2.2.1.1
theorem dX8_sitterAt_21 : decode cX8_sitterAt 21 = .ok (.ireturn, 1) := bd01_74.2.2.1.2
theorem dX8_sitterAt_22 : decode cX8_sitterAt 22 = .ok (.iinc 2 1, 3) := bd01_74.2.2.2.1
theorem dX8_sitterAt_25 : decode cX8_sitterAt 25 = .ok (.goto (-23), 3) := bd01_74.2.2.2.2
theorem bd01_75 : ((decode cX8_sitterAt 28 = .ok (.iconst (-1), 1) ∧ decode cX8_sitterAt 29 = .ok (.ireturn, 1)) ∧ (decode cX8_takenBits 0 = .ok (.iconst 0, 1) ∧ decode cX8_takenBits 1 = .ok (.istore_n 1, 1))) ∧ ((decode cX8_takenBits 2 = .ok (.iconst 0, 1) ∧ decode cX8_takenBits 3 = .ok (.istore_n 2, 1)) ∧ (decode cX8_takenBits 4 = .ok (.iload_n 2, 1) ∧ decode cX8_takenBits 5 = .ok (.aload_n 0, 1))) := by decide +kernel
theorem dX8_sitterAt_28 : decode cX8_sitterAt 28 = .ok (.iconst (-1), 1) := bd01_75.1.1.1
theorem dX8_sitterAt_29 : decode cX8_sitterAt 29 = .ok (.ireturn, 1) := bd01_75.1.1.2
theorem dX8_takenBits_0 : decode cX8_takenBits 0 = .ok (.iconst 0, 1) := bd01_75.1.2.1
theorem dX8_takenBits_1 : decode cX8_takenBits 1 = .ok (.istore_n 1, 1) := bd01_75.1.2.2
theorem dX8_takenBits_2 : decode cX8_takenBits 2 = .ok (.iconst 0, 1) := bd01_75.2.1.1
theorem dX8_takenBits_3 : decode cX8_takenBits 3 = .ok (.istore_n 2, 1) := bd01_75.2.1.2
theorem dX8_takenBits_4 : decode cX8_takenBits 4 = .ok (.iload_n 2, 1) := bd01_75.2.2.1
theorem dX8_takenBits_5 : decode cX8_takenBits 5 = .ok (.aload_n 0, 1) := bd01_75.2.2.2
theorem bd01_76 : (((decode cX8_takenBits 6 = .ok (.getfield 34, 3) ∧ decode cX8_takenBits 9 = .ok (.if_icmp .ge 30, 3)) ∧ (decode cX8_takenBits 12 = .ok (.aload_n 0, 1) ∧ decode cX8_takenBits 13 = .ok (.getfield 27, 3))) ∧ ((decode cX8_takenBits 16 = .ok (.iload_n 2, 1) ∧ decode cX8_takenBits 17 = .ok (.iaload, 1)) ∧ (decode cX8_takenBits 18 = .ok (.iconst (-1), 1) ∧ decode cX8_takenBits 19 = .ok (.if_icmp .eq 14, 3)))) ∧ (((decode cX8_takenBits 22 = .ok (.iload_n 1, 1) ∧ decode cX8_takenBits 23 = .ok (.iconst 1, 1)) ∧ (decode cX8_takenBits 24 = .ok (.aload_n 0, 1) ∧ decode cX8_takenBits 25 = .ok (.getfield 27, 3))) ∧ ((decode cX8_takenBits 28 = .ok (.iload_n 2, 1) ∧ decode cX8_takenBits 29 = .ok (.iaload, 1)) ∧ (decode cX8_takenBits 30 = .ok (.ishl, 1) ∧ decode cX8_takenBits 31 = .ok (.ior, 1)))) := by decide +kernel
theorem dX8_takenBits_6 : decode cX8_takenBits 6 = .ok (.getfield 34, 3) := bd01_76.1.1.1.1
theorem dX8_takenBits_9 : decode cX8_takenBits 9 = .ok (.if_icmp .ge 30, 3) := bd01_76.1.1.1.2
theorem dX8_takenBits_12 : decode cX8_takenBits 12 = .ok (.aload_n 0, 1) := bd01_76.1.1.2.1
theorem dX8_takenBits_13 : decode cX8_takenBits 13 = .ok (.getfield 27, 3) := bd01_76.1.1.2.2
theorem dX8_takenBits_16 : decode cX8_takenBits 16 = .ok (.iload_n 2, 1) := bd01_76.1.2.1.1
theorem dX8_takenBits_17 : decode cX8_takenBits 17 = .ok (.iaload, 1) := bd01_76.1.2.1.2
theorem dX8_takenBits_18 : decode cX8_takenBits 18 = .ok (.iconst (-1), 1) := bd01_76.1.2.2.1
theorem dX8_takenBits_19 : decode cX8_takenBits 19 = .ok (.if_icmp .eq 14, 3) := bd01_76.1.2.2.2
theorem dX8_takenBits_22 : decode cX8_takenBits 22 = .ok (.iload_n 1, 1) := bd01_76.2.1.1.1
theorem dX8_takenBits_23 : decode cX8_takenBits 23 = .ok (.iconst 1, 1) := bd01_76.2.1.1.2
theorem dX8_takenBits_24 : decode cX8_takenBits 24 = .ok (.aload_n 0, 1) := bd01_76.2.1.2.1
theorem dX8_takenBits_25 : decode cX8_takenBits 25 = .ok (.getfield 27, 3) := bd01_76.2.1.2.2
theorem dX8_takenBits_28 : decode cX8_takenBits 28 = .ok (.iload_n 2, 1) := bd01_76.2.2.1.1
theorem dX8_takenBits_29 : decode cX8_takenBits 29 = .ok (.iaload, 1) := bd01_76.2.2.1.2
theorem dX8_takenBits_30 : decode cX8_takenBits 30 = .ok (.ishl, 1) := bd01_76.2.2.2.1
theorem dX8_takenBits_31 : decode cX8_takenBits 31 = .ok (.ior, 1) := bd01_76.2.2.2.2
theorem bd01_77 : ((decode cX8_takenBits 32 = .ok (.istore_n 1, 1) ∧ decode cX8_takenBits 33 = .ok (.iinc 2 1, 3)) ∧ (decode cX8_takenBits 36 = .ok (.goto (-32), 3) ∧ decode cX8_takenBits 39 = .ok (.iload_n 1, 1))) ∧ ((decode cX8_takenBits 40 = .ok (.ireturn, 1) ∧ decode cX8_sitterBits 0 = .ok (.iconst 0, 1)) ∧ (decode cX8_sitterBits 1 = .ok (.istore_n 1, 1) ∧ decode cX8_sitterBits 2 = .ok (.iconst 0, 1))) := by decide +kernel
theorem dX8_takenBits_32 : decode cX8_takenBits 32 = .ok (.istore_n 1, 1) := bd01_77.1.1.1
theorem dX8_takenBits_33 : decode cX8_takenBits 33 = .ok (.iinc 2 1, 3) := bd01_77.1.1.2
theorem dX8_takenBits_36 : decode cX8_takenBits 36 = .ok (.goto (-32), 3) := bd01_77.1.2.1
theorem dX8_takenBits_39 : decode cX8_takenBits 39 = .ok (.iload_n 1, 1) := bd01_77.1.2.2
theorem dX8_takenBits_40 : decode cX8_takenBits 40 = .ok (.ireturn, 1) := bd01_77.2.1.1
theorem dX8_sitterBits_0 : decode cX8_sitterBits 0 = .ok (.iconst 0, 1) := bd01_77.2.1.2
theorem dX8_sitterBits_1 : decode cX8_sitterBits 1 = .ok (.istore_n 1, 1) := bd01_77.2.2.1
theorem dX8_sitterBits_2 : decode cX8_sitterBits 2 = .ok (.iconst 0, 1) := bd01_77.2.2.2
theorem bd01_78 : (((decode cX8_sitterBits 3 = .ok (.istore_n 2, 1) ∧ decode cX8_sitterBits 4 = .ok (.iload_n 2, 1)) ∧ (decode cX8_sitterBits 5 = .ok (.aload_n 0, 1) ∧ decode cX8_sitterBits 6 = .ok (.getfield 34, 3))) ∧ ((decode cX8_sitterBits 9 = .ok (.if_icmp .ge 25, 3) ∧ decode cX8_sitterBits 12 = .ok (.aload_n 0, 1)) ∧ (decode cX8_sitterBits 13 = .ok (.getfield 27, 3) ∧ decode cX8_sitterBits 16 = .ok (.iload_n 2, 1)))) ∧ (((decode cX8_sitterBits 17 = .ok (.iaload, 1) ∧ decode cX8_sitterBits 18 = .ok (.iconst (-1), 1)) ∧ (decode cX8_sitterBits 19 = .ok (.if_icmp .eq 9, 3) ∧ decode cX8_sitterBits 22 = .ok (.iload_n 1, 1))) ∧ ((decode cX8_sitterBits 23 = .ok (.iconst 1, 1) ∧ decode cX8_sitterBits 24 = .ok (.iload_n 2, 1)) ∧ (decode cX8_sitterBits 25 = .ok (.ishl, 1) ∧ decode cX8_sitterBits 26 = .ok (.ior, 1)))) := by decide +kernel
theorem dX8_sitterBits_3 : decode cX8_sitterBits 3 = .ok (.istore_n 2, 1) := bd01_78.1.1.1.1
theorem dX8_sitterBits_4 : decode cX8_sitterBits 4 = .ok (.iload_n 2, 1) := bd01_78.1.1.1.2
theorem dX8_sitterBits_5 : decode cX8_sitterBits 5 = .ok (.aload_n 0, 1) := bd01_78.1.1.2.1
theorem dX8_sitterBits_6 : decode cX8_sitterBits 6 = .ok (.getfield 34, 3) := bd01_78.1.1.2.2
theorem dX8_sitterBits_9 : decode cX8_sitterBits 9 = .ok (.if_icmp .ge 25, 3) := bd01_78.1.2.1.1
theorem dX8_sitterBits_12 : decode cX8_sitterBits 12 = .ok (.aload_n 0, 1) := bd01_78.1.2.1.2
theorem dX8_sitterBits_13 : decode cX8_sitterBits 13 = .ok (.getfield 27, 3) := bd01_78.1.2.2.1
theorem dX8_sitterBits_16 : decode cX8_sitterBits 16 = .ok (.iload_n 2, 1) := bd01_78.1.2.2.2
theorem dX8_sitterBits_17 : decode cX8_sitterBits 17 = .ok (.iaload, 1) := bd01_78.2.1.1.1
theorem dX8_sitterBits_18 : decode cX8_sitterBits 18 = .ok (.iconst (-1), 1) := bd01_78.2.1.1.2
theorem dX8_sitterBits_19 : decode cX8_sitterBits 19 = .ok (.if_icmp .eq 9, 3) := bd01_78.2.1.2.1
theorem dX8_sitterBits_22 : decode cX8_sitterBits 22 = .ok (.iload_n 1, 1) := bd01_78.2.1.2.2
theorem dX8_sitterBits_23 : decode cX8_sitterBits 23 = .ok (.iconst 1, 1) := bd01_78.2.2.1.1
theorem dX8_sitterBits_24 : decode cX8_sitterBits 24 = .ok (.iload_n 2, 1) := bd01_78.2.2.1.2
theorem dX8_sitterBits_25 : decode cX8_sitterBits 25 = .ok (.ishl, 1) := bd01_78.2.2.2.1
theorem dX8_sitterBits_26 : decode cX8_sitterBits 26 = .ok (.ior, 1) := bd01_78.2.2.2.2
theorem bd01_79 : ((decode cX8_sitterBits 27 = .ok (.istore_n 1, 1) ∧ decode cX8_sitterBits 28 = .ok (.iinc 2 1, 3)) ∧ (decode cX8_sitterBits 31 = .ok (.goto (-27), 3) ∧ decode cX8_sitterBits 34 = .ok (.iload_n 1, 1))) ∧ ((decode cX8_sitterBits 35 = .ok (.ireturn, 1) ∧ decode cX8_familyBits 0 = .ok (.iconst 0, 1)) ∧ (decode cX8_familyBits 1 = .ok (.istore_n 2, 1) ∧ decode cX8_familyBits 2 = .ok (.iconst 0, 1))) := by decide +kernel
theorem dX8_sitterBits_27 : decode cX8_sitterBits 27 = .ok (.istore_n 1, 1) := bd01_79.1.1.1
theorem dX8_sitterBits_28 : decode cX8_sitterBits 28 = .ok (.iinc 2 1, 3) := bd01_79.1.1.2
theorem dX8_sitterBits_31 : decode cX8_sitterBits 31 = .ok (.goto (-27), 3) := bd01_79.1.2.1
theorem dX8_sitterBits_34 : decode cX8_sitterBits 34 = .ok (.iload_n 1, 1) := bd01_79.1.2.2
theorem dX8_sitterBits_35 : decode cX8_sitterBits 35 = .ok (.ireturn, 1) := bd01_79.2.1.1
theorem dX8_familyBits_0 : decode cX8_familyBits 0 = .ok (.iconst 0, 1) := bd01_79.2.1.2
theorem dX8_familyBits_1 : decode cX8_familyBits 1 = .ok (.istore_n 2, 1) := bd01_79.2.2.1
theorem dX8_familyBits_2 : decode cX8_familyBits 2 = .ok (.iconst 0, 1) := bd01_79.2.2.2
theorem bd01_80 : (((decode cX8_familyBits 3 = .ok (.istore_n 3, 1) ∧ decode cX8_familyBits 4 = .ok (.iload_n 3, 1)) ∧ (decode cX8_familyBits 5 = .ok (.aload_n 0, 1) ∧ decode cX8_familyBits 6 = .ok (.getfield 34, 3))) ∧ ((decode cX8_familyBits 9 = .ok (.if_icmp .ge 25, 3) ∧ decode cX8_familyBits 12 = .ok (.aload_n 0, 1)) ∧ (decode cX8_familyBits 13 = .ok (.getfield 24, 3) ∧ decode cX8_familyBits 16 = .ok (.iload_n 3, 1)))) ∧ (((decode cX8_familyBits 17 = .ok (.iaload, 1) ∧ decode cX8_familyBits 18 = .ok (.iload_n 1, 1)) ∧ (decode cX8_familyBits 19 = .ok (.if_icmp .ne 9, 3) ∧ decode cX8_familyBits 22 = .ok (.iload_n 2, 1))) ∧ ((decode cX8_familyBits 23 = .ok (.iconst 1, 1) ∧ decode cX8_familyBits 24 = .ok (.iload_n 3, 1)) ∧ (decode cX8_familyBits 25 = .ok (.ishl, 1) ∧ decode cX8_familyBits 26 = .ok (.ior, 1)))) := by decide +kernel
theorem dX8_familyBits_3 : decode cX8_familyBits 3 = .ok (.istore_n 3, 1) := bd01_80.1.1.1.1
theorem dX8_familyBits_4 : decode cX8_familyBits 4 = .ok (.iload_n 3, 1) := bd01_80.1.1.1.2
theorem dX8_familyBits_5 : decode cX8_familyBits 5 = .ok (.aload_n 0, 1) := bd01_80.1.1.2.1
theorem dX8_familyBits_6 : decode cX8_familyBits 6 = .ok (.getfield 34, 3) := bd01_80.1.1.2.2
theorem dX8_familyBits_9 : decode cX8_familyBits 9 = .ok (.if_icmp .ge 25, 3) := bd01_80.1.2.1.1
theorem dX8_familyBits_12 : decode cX8_familyBits 12 = .ok (.aload_n 0, 1) := bd01_80.1.2.1.2
theorem dX8_familyBits_13 : decode cX8_familyBits 13 = .ok (.getfield 24, 3) := bd01_80.1.2.2.1
theorem dX8_familyBits_16 : decode cX8_familyBits 16 = .ok (.iload_n 3, 1) := bd01_80.1.2.2.2
theorem dX8_familyBits_17 : decode cX8_familyBits 17 = .ok (.iaload, 1) := bd01_80.2.1.1.1
theorem dX8_familyBits_18 : decode cX8_familyBits 18 = .ok (.iload_n 1, 1) := bd01_80.2.1.1.2
theorem dX8_familyBits_19 : decode cX8_familyBits 19 = .ok (.if_icmp .ne 9, 3) := bd01_80.2.1.2.1
theorem dX8_familyBits_22 : decode cX8_familyBits 22 = .ok (.iload_n 2, 1) := bd01_80.2.1.2.2
theorem dX8_familyBits_23 : decode cX8_familyBits 23 = .ok (.iconst 1, 1) := bd01_80.2.2.1.1
theorem dX8_familyBits_24 : decode cX8_familyBits 24 = .ok (.iload_n 3, 1) := bd01_80.2.2.1.2
theorem dX8_familyBits_25 : decode cX8_familyBits 25 = .ok (.ishl, 1) := bd01_80.2.2.2.1
theorem dX8_familyBits_26 : decode cX8_familyBits 26 = .ok (.ior, 1) := bd01_80.2.2.2.2
theorem bd01_81 : ((decode cX8_familyBits 27 = .ok (.istore_n 2, 1) ∧ decode cX8_familyBits 28 = .ok (.iinc 3 1, 3)) ∧ (decode cX8_familyBits 31 = .ok (.goto (-27), 3) ∧ decode cX8_familyBits 34 = .ok (.iload_n 2, 1))) ∧ ((decode cX8_familyBits 35 = .ok (.ireturn, 1) ∧ decode cX8_homeBits 0 = .ok (.iconst 0, 1)) ∧ (decode cX8_homeBits 1 = .ok (.istore_n 1, 1) ∧ decode cX8_homeBits 2 = .ok (.iconst 0, 1))) := by decide +kernel
theorem dX8_familyBits_27 : decode cX8_familyBits 27 = .ok (.istore_n 2, 1) := bd01_81.1.1.1
theorem dX8_familyBits_28 : decode cX8_familyBits 28 = .ok (.iinc 3 1, 3) := bd01_81.1.1.2
theorem dX8_familyBits_31 : decode cX8_familyBits 31 = .ok (.goto (-27), 3) := bd01_81.1.2.1
theorem dX8_familyBits_34 : decode cX8_familyBits 34 = .ok (.iload_n 2, 1) := bd01_81.1.2.2
theorem dX8_familyBits_35 : decode cX8_familyBits 35 = .ok (.ireturn, 1) := bd01_81.2.1.1
theorem dX8_homeBits_0 : decode cX8_homeBits 0 = .ok (.iconst 0, 1) := bd01_81.2.1.2
theorem dX8_homeBits_1 : decode cX8_homeBits 1 = .ok (.istore_n 1, 1) := bd01_81.2.2.1
theorem dX8_homeBits_2 : decode cX8_homeBits 2 = .ok (.iconst 0, 1) := bd01_81.2.2.2
theorem bd01_82 : (((decode cX8_homeBits 3 = .ok (.istore_n 2, 1) ∧ decode cX8_homeBits 4 = .ok (.iload_n 2, 1)) ∧ (decode cX8_homeBits 5 = .ok (.aload_n 0, 1) ∧ decode cX8_homeBits 6 = .ok (.getfield 34, 3))) ∧ ((decode cX8_homeBits 9 = .ok (.if_icmp .ge 40, 3) ∧ decode cX8_homeBits 12 = .ok (.aload_n 0, 1)) ∧ (decode cX8_homeBits 13 = .ok (.getfield 27, 3) ∧ decode cX8_homeBits 16 = .ok (.iload_n 2, 1)))) ∧ (((decode cX8_homeBits 17 = .ok (.iaload, 1) ∧ decode cX8_homeBits 18 = .ok (.iconst (-1), 1)) ∧ (decode cX8_homeBits 19 = .ok (.if_icmp .eq 24, 3) ∧ decode cX8_homeBits 22 = .ok (.aload_n 0, 1))) ∧ ((decode cX8_homeBits 23 = .ok (.getfield 27, 3) ∧ decode cX8_homeBits 26 = .ok (.iload_n 2, 1)) ∧ (decode cX8_homeBits 27 = .ok (.iaload, 1) ∧ decode cX8_homeBits 28 = .ok (.aload_n 0, 1)))) := by decide +kernel
theorem dX8_homeBits_3 : decode cX8_homeBits 3 = .ok (.istore_n 2, 1) := bd01_82.1.1.1.1
theorem dX8_homeBits_4 : decode cX8_homeBits 4 = .ok (.iload_n 2, 1) := bd01_82.1.1.1.2
theorem dX8_homeBits_5 : decode cX8_homeBits 5 = .ok (.aload_n 0, 1) := bd01_82.1.1.2.1
theorem dX8_homeBits_6 : decode cX8_homeBits 6 = .ok (.getfield 34, 3) := bd01_82.1.1.2.2
theorem dX8_homeBits_9 : decode cX8_homeBits 9 = .ok (.if_icmp .ge 40, 3) := bd01_82.1.2.1.1
theorem dX8_homeBits_12 : decode cX8_homeBits 12 = .ok (.aload_n 0, 1) := bd01_82.1.2.1.2
theorem dX8_homeBits_13 : decode cX8_homeBits 13 = .ok (.getfield 27, 3) := bd01_82.1.2.2.1
theorem dX8_homeBits_16 : decode cX8_homeBits 16 = .ok (.iload_n 2, 1) := bd01_82.1.2.2.2
theorem dX8_homeBits_17 : decode cX8_homeBits 17 = .ok (.iaload, 1) := bd01_82.2.1.1.1
theorem dX8_homeBits_18 : decode cX8_homeBits 18 = .ok (.iconst (-1), 1) := bd01_82.2.1.1.2
theorem dX8_homeBits_19 : decode cX8_homeBits 19 = .ok (.if_icmp .eq 24, 3) := bd01_82.2.1.2.1
theorem dX8_homeBits_22 : decode cX8_homeBits 22 = .ok (.aload_n 0, 1) := bd01_82.2.1.2.2
theorem dX8_homeBits_23 : decode cX8_homeBits 23 = .ok (.getfield 27, 3) := bd01_82.2.2.1.1
theorem dX8_homeBits_26 : decode cX8_homeBits 26 = .ok (.iload_n 2, 1) := bd01_82.2.2.1.2
theorem dX8_homeBits_27 : decode cX8_homeBits 27 = .ok (.iaload, 1) := bd01_82.2.2.2.1
theorem dX8_homeBits_28 : decode cX8_homeBits 28 = .ok (.aload_n 0, 1) := bd01_82.2.2.2.2
theorem bd01_83 : (((decode cX8_homeBits 29 = .ok (.getfield 24, 3) ∧ decode cX8_homeBits 32 = .ok (.iload_n 2, 1)) ∧ (decode cX8_homeBits 33 = .ok (.iaload, 1) ∧ decode cX8_homeBits 34 = .ok (.if_icmp .ne 9, 3))) ∧ ((decode cX8_homeBits 37 = .ok (.iload_n 1, 1) ∧ decode cX8_homeBits 38 = .ok (.iconst 1, 1)) ∧ (decode cX8_homeBits 39 = .ok (.iload_n 2, 1)))) ∧ (((decode cX8_homeBits 40 = .ok (.ishl, 1) ∧ decode cX8_homeBits 41 = .ok (.ior, 1)) ∧ (decode cX8_homeBits 42 = .ok (.istore_n 1, 1) ∧ decode cX8_homeBits 43 = .ok (.iinc 2 1, 3))) ∧ ((decode cX8_homeBits 46 = .ok (.goto (-42), 3) ∧ decode cX8_homeBits 49 = .ok (.iload_n 1, 1)) ∧ (decode cX8_homeBits 50 = .ok (.ireturn, 1)))) := by decide +kernel
theorem dX8_homeBits_29 : decode cX8_homeBits 29 = .ok (.getfield 24, 3) := bd01_83.1.1.1.1
theorem dX8_homeBits_32 : decode cX8_homeBits 32 = .ok (.iload_n 2, 1) := bd01_83.1.1.1.2
theorem dX8_homeBits_33 : decode cX8_homeBits 33 = .ok (.iaload, 1) := bd01_83.1.1.2.1
theorem dX8_homeBits_34 : decode cX8_homeBits 34 = .ok (.if_icmp .ne 9, 3) := bd01_83.1.1.2.2
theorem dX8_homeBits_37 : decode cX8_homeBits 37 = .ok (.iload_n 1, 1) := bd01_83.1.2.1.1
theorem dX8_homeBits_38 : decode cX8_homeBits 38 = .ok (.iconst 1, 1) := bd01_83.1.2.1.2
theorem dX8_homeBits_39 : decode cX8_homeBits 39 = .ok (.iload_n 2, 1) := bd01_83.1.2.2
theorem dX8_homeBits_40 : decode cX8_homeBits 40 = .ok (.ishl, 1) := bd01_83.2.1.1.1
theorem dX8_homeBits_41 : decode cX8_homeBits 41 = .ok (.ior, 1) := bd01_83.2.1.1.2
theorem dX8_homeBits_42 : decode cX8_homeBits 42 = .ok (.istore_n 1, 1) := bd01_83.2.1.2.1
theorem dX8_homeBits_43 : decode cX8_homeBits 43 = .ok (.iinc 2 1, 3) := bd01_83.2.1.2.2
theorem dX8_homeBits_46 : decode cX8_homeBits 46 = .ok (.goto (-42), 3) := bd01_83.2.2.1.1
theorem dX8_homeBits_49 : decode cX8_homeBits 49 = .ok (.iload_n 1, 1) := bd01_83.2.2.1.2
theorem dX8_homeBits_50 : decode cX8_homeBits 50 = .ok (.ireturn, 1) := bd01_83.2.2.2
theorem bd01_84 : (((decode cX8_loafBits 0 = .ok (.iconst 0, 1) ∧ decode cX8_loafBits 1 = .ok (.istore_n 1, 1)) ∧ (decode cX8_loafBits 2 = .ok (.iconst 0, 1) ∧ decode cX8_loafBits 3 = .ok (.istore_n 2, 1))) ∧ ((decode cX8_loafBits 4 = .ok (.iload_n 2, 1) ∧ decode cX8_loafBits 5 = .ok (.aload_n 0, 1)) ∧ (decode cX8_loafBits 6 = .ok (.getfield 30, 3) ∧ decode cX8_loafBits 9 = .ok (.if_icmp .ge 24, 3)))) ∧ (((decode cX8_loafBits 12 = .ok (.aload_n 0, 1) ∧ decode cX8_loafBits 13 = .ok (.getfield 18, 3)) ∧ (decode cX8_loafBits 16 = .ok (.iload_n 2, 1) ∧ decode cX8_loafBits 17 = .ok (.iaload, 1))) ∧ ((decode cX8_loafBits 18 = .ok (.ifCond .ne 9, 3) ∧ decode cX8_loafBits 21 = .ok (.iload_n 1, 1)) ∧ (decode cX8_loafBits 22 = .ok (.iconst 1, 1) ∧ decode cX8_loafBits 23 = .ok (.iload_n 2, 1)))) := by decide +kernel
theorem dX8_loafBits_0 : decode cX8_loafBits 0 = .ok (.iconst 0, 1) := bd01_84.1.1.1.1
theorem dX8_loafBits_1 : decode cX8_loafBits 1 = .ok (.istore_n 1, 1) := bd01_84.1.1.1.2
theorem dX8_loafBits_2 : decode cX8_loafBits 2 = .ok (.iconst 0, 1) := bd01_84.1.1.2.1
theorem dX8_loafBits_3 : decode cX8_loafBits 3 = .ok (.istore_n 2, 1) := bd01_84.1.1.2.2
theorem dX8_loafBits_4 : decode cX8_loafBits 4 = .ok (.iload_n 2, 1) := bd01_84.1.2.1.1
theorem dX8_loafBits_5 : decode cX8_loafBits 5 = .ok (.aload_n 0, 1) := bd01_84.1.2.1.2
theorem dX8_loafBits_6 : decode cX8_loafBits 6 = .ok (.getfield 30, 3) := bd01_84.1.2.2.1
theorem dX8_loafBits_9 : decode cX8_loafBits 9 = .ok (.if_icmp .ge 24, 3) := bd01_84.1.2.2.2
theorem dX8_loafBits_12 : decode cX8_loafBits 12 = .ok (.aload_n 0, 1) := bd01_84.2.1.1.1
theorem dX8_loafBits_13 : decode cX8_loafBits 13 = .ok (.getfield 18, 3) := bd01_84.2.1.1.2
theorem dX8_loafBits_16 : decode cX8_loafBits 16 = .ok (.iload_n 2, 1) := bd01_84.2.1.2.1
theorem dX8_loafBits_17 : decode cX8_loafBits 17 = .ok (.iaload, 1) := bd01_84.2.1.2.2
theorem dX8_loafBits_18 : decode cX8_loafBits 18 = .ok (.ifCond .ne 9, 3) := bd01_84.2.2.1.1
theorem dX8_loafBits_21 : decode cX8_loafBits 21 = .ok (.iload_n 1, 1) := bd01_84.2.2.1.2
theorem dX8_loafBits_22 : decode cX8_loafBits 22 = .ok (.iconst 1, 1) := bd01_84.2.2.2.1
theorem dX8_loafBits_23 : decode cX8_loafBits 23 = .ok (.iload_n 2, 1) := bd01_84.2.2.2.2
theorem bd01_85 : ((decode cX8_loafBits 24 = .ok (.ishl, 1) ∧ decode cX8_loafBits 25 = .ok (.ior, 1)) ∧ (decode cX8_loafBits 26 = .ok (.istore_n 1, 1) ∧ decode cX8_loafBits 27 = .ok (.iinc 2 1, 3))) ∧ ((decode cX8_loafBits 30 = .ok (.goto (-26), 3) ∧ decode cX8_loafBits 33 = .ok (.iload_n 1, 1)) ∧ (decode cX8_loafBits 34 = .ok (.ireturn, 1) ∧ decode cX8_stoneOfAll 0 = .ok (.iconst 0, 1))) := by decide +kernel
theorem dX8_loafBits_24 : decode cX8_loafBits 24 = .ok (.ishl, 1) := bd01_85.1.1.1
theorem dX8_loafBits_25 : decode cX8_loafBits 25 = .ok (.ior, 1) := bd01_85.1.1.2
theorem dX8_loafBits_26 : decode cX8_loafBits 26 = .ok (.istore_n 1, 1) := bd01_85.1.2.1
theorem dX8_loafBits_27 : decode cX8_loafBits 27 = .ok (.iinc 2 1, 3) := bd01_85.1.2.2
theorem dX8_loafBits_30 : decode cX8_loafBits 30 = .ok (.goto (-26), 3) := bd01_85.2.1.1
theorem dX8_loafBits_33 : decode cX8_loafBits 33 = .ok (.iload_n 1, 1) := bd01_85.2.1.2
theorem dX8_loafBits_34 : decode cX8_loafBits 34 = .ok (.ireturn, 1) := bd01_85.2.2.1
theorem dX8_stoneOfAll_0 : decode cX8_stoneOfAll 0 = .ok (.iconst 0, 1) := bd01_85.2.2.2
theorem bd01_86 : (((decode cX8_stoneOfAll 1 = .ok (.istore_n 1, 1) ∧ decode cX8_stoneOfAll 2 = .ok (.iconst 0, 1)) ∧ (decode cX8_stoneOfAll 3 = .ok (.istore_n 2, 1) ∧ decode cX8_stoneOfAll 4 = .ok (.iload_n 2, 1))) ∧ ((decode cX8_stoneOfAll 5 = .ok (.aload_n 0, 1) ∧ decode cX8_stoneOfAll 6 = .ok (.getfield 30, 3)) ∧ (decode cX8_stoneOfAll 9 = .ok (.if_icmp .ge 18, 3) ∧ decode cX8_stoneOfAll 12 = .ok (.iload_n 1, 1)))) ∧ (((decode cX8_stoneOfAll 13 = .ok (.aload_n 0, 1) ∧ decode cX8_stoneOfAll 14 = .ok (.getfield 18, 3)) ∧ (decode cX8_stoneOfAll 17 = .ok (.iload_n 2, 1) ∧ decode cX8_stoneOfAll 18 = .ok (.iaload, 1))) ∧ ((decode cX8_stoneOfAll 19 = .ok (.iadd, 1) ∧ decode cX8_stoneOfAll 20 = .ok (.istore_n 1, 1)) ∧ (decode cX8_stoneOfAll 21 = .ok (.iinc 2 1, 3) ∧ decode cX8_stoneOfAll 24 = .ok (.goto (-20), 3)))) := by decide +kernel
theorem dX8_stoneOfAll_1 : decode cX8_stoneOfAll 1 = .ok (.istore_n 1, 1) := bd01_86.1.1.1.1
theorem dX8_stoneOfAll_2 : decode cX8_stoneOfAll 2 = .ok (.iconst 0, 1) := bd01_86.1.1.1.2
theorem dX8_stoneOfAll_3 : decode cX8_stoneOfAll 3 = .ok (.istore_n 2, 1) := bd01_86.1.1.2.1
theorem dX8_stoneOfAll_4 : decode cX8_stoneOfAll 4 = .ok (.iload_n 2, 1) := bd01_86.1.1.2.2
theorem dX8_stoneOfAll_5 : decode cX8_stoneOfAll 5 = .ok (.aload_n 0, 1) := bd01_86.1.2.1.1
theorem dX8_stoneOfAll_6 : decode cX8_stoneOfAll 6 = .ok (.getfield 30, 3) := bd01_86.1.2.1.2
theorem dX8_stoneOfAll_9 : decode cX8_stoneOfAll 9 = .ok (.if_icmp .ge 18, 3) := bd01_86.1.2.2.1
theorem dX8_stoneOfAll_12 : decode cX8_stoneOfAll 12 = .ok (.iload_n 1, 1) := bd01_86.1.2.2.2
theorem dX8_stoneOfAll_13 : decode cX8_stoneOfAll 13 = .ok (.aload_n 0, 1) := bd01_86.2.1.1.1
theorem dX8_stoneOfAll_14 : decode cX8_stoneOfAll 14 = .ok (.getfield 18, 3) := bd01_86.2.1.1.2
theorem dX8_stoneOfAll_17 : decode cX8_stoneOfAll 17 = .ok (.iload_n 2, 1) := bd01_86.2.1.2.1
theorem dX8_stoneOfAll_18 : decode cX8_stoneOfAll 18 = .ok (.iaload, 1) := bd01_86.2.1.2.2
theorem dX8_stoneOfAll_19 : decode cX8_stoneOfAll 19 = .ok (.iadd, 1) := bd01_86.2.2.1.1
theorem dX8_stoneOfAll_20 : decode cX8_stoneOfAll 20 = .ok (.istore_n 1, 1) := bd01_86.2.2.1.2
theorem dX8_stoneOfAll_21 : decode cX8_stoneOfAll 21 = .ok (.iinc 2 1, 3) := bd01_86.2.2.2.1
theorem dX8_stoneOfAll_24 : decode cX8_stoneOfAll 24 = .ok (.goto (-20), 3) := bd01_86.2.2.2.2
theorem bd01_87 : ((decode cX8_stoneOfAll 27 = .ok (.iload_n 1, 1) ∧ decode cX8_stoneOfAll 28 = .ok (.ireturn, 1)) ∧ (decode cX8_twins 0 = .ok (.iconst 0, 1) ∧ decode cX8_twins 1 = .ok (.istore_n 1, 1))) ∧ ((decode cX8_twins 2 = .ok (.iconst 0, 1) ∧ decode cX8_twins 3 = .ok (.istore_n 2, 1)) ∧ (decode cX8_twins 4 = .ok (.iload_n 2, 1) ∧ decode cX8_twins 5 = .ok (.aload_n 0, 1))) := by decide +kernel
theorem dX8_stoneOfAll_27 : decode cX8_stoneOfAll 27 = .ok (.iload_n 1, 1) := bd01_87.1.1.1
theorem dX8_stoneOfAll_28 : decode cX8_stoneOfAll 28 = .ok (.ireturn, 1) := bd01_87.1.1.2
theorem dX8_twins_0 : decode cX8_twins 0 = .ok (.iconst 0, 1) := bd01_87.1.2.1
theorem dX8_twins_1 : decode cX8_twins 1 = .ok (.istore_n 1, 1) := bd01_87.1.2.2
theorem dX8_twins_2 : decode cX8_twins 2 = .ok (.iconst 0, 1) := bd01_87.2.1.1
theorem dX8_twins_3 : decode cX8_twins 3 = .ok (.istore_n 2, 1) := bd01_87.2.1.2
theorem dX8_twins_4 : decode cX8_twins 4 = .ok (.iload_n 2, 1) := bd01_87.2.2.1
theorem dX8_twins_5 : decode cX8_twins 5 = .ok (.aload_n 0, 1) := bd01_87.2.2.2
theorem bd01_88 : (((decode cX8_twins 6 = .ok (.getfield 34, 3) ∧ decode cX8_twins 9 = .ok (.if_icmp .ge 45, 3)) ∧ (decode cX8_twins 12 = .ok (.iload_n 2, 1) ∧ decode cX8_twins 13 = .ok (.iconst 1, 1))) ∧ ((decode cX8_twins 14 = .ok (.iadd, 1) ∧ decode cX8_twins 15 = .ok (.istore_n 3, 1)) ∧ (decode cX8_twins 16 = .ok (.iload_n 3, 1) ∧ decode cX8_twins 17 = .ok (.aload_n 0, 1)))) ∧ (((decode cX8_twins 18 = .ok (.getfield 34, 3) ∧ decode cX8_twins 21 = .ok (.if_icmp .ge 27, 3)) ∧ (decode cX8_twins 24 = .ok (.aload_n 0, 1) ∧ decode cX8_twins 25 = .ok (.iload_n 2, 1))) ∧ ((decode cX8_twins 26 = .ok (.invokestatic 52, 3) ∧ decode cX8_twins 29 = .ok (.iload_n 3, 1)) ∧ (decode cX8_twins 30 = .ok (.invokestatic 52, 3) ∧ decode cX8_twins 33 = .ok (.invokevirtual 55, 3)))) := by decide +kernel
theorem dX8_twins_6 : decode cX8_twins 6 = .ok (.getfield 34, 3) := bd01_88.1.1.1.1
theorem dX8_twins_9 : decode cX8_twins 9 = .ok (.if_icmp .ge 45, 3) := bd01_88.1.1.1.2
theorem dX8_twins_12 : decode cX8_twins 12 = .ok (.iload_n 2, 1) := bd01_88.1.1.2.1
theorem dX8_twins_13 : decode cX8_twins 13 = .ok (.iconst 1, 1) := bd01_88.1.1.2.2
theorem dX8_twins_14 : decode cX8_twins 14 = .ok (.iadd, 1) := bd01_88.1.2.1.1
theorem dX8_twins_15 : decode cX8_twins 15 = .ok (.istore_n 3, 1) := bd01_88.1.2.1.2
theorem dX8_twins_16 : decode cX8_twins 16 = .ok (.iload_n 3, 1) := bd01_88.1.2.2.1
theorem dX8_twins_17 : decode cX8_twins 17 = .ok (.aload_n 0, 1) := bd01_88.1.2.2.2
theorem dX8_twins_18 : decode cX8_twins 18 = .ok (.getfield 34, 3) := bd01_88.2.1.1.1
theorem dX8_twins_21 : decode cX8_twins 21 = .ok (.if_icmp .ge 27, 3) := bd01_88.2.1.1.2
theorem dX8_twins_24 : decode cX8_twins 24 = .ok (.aload_n 0, 1) := bd01_88.2.1.2.1
theorem dX8_twins_25 : decode cX8_twins 25 = .ok (.iload_n 2, 1) := bd01_88.2.1.2.2
theorem dX8_twins_26 : decode cX8_twins 26 = .ok (.invokestatic 52, 3) := bd01_88.2.2.1.1
theorem dX8_twins_29 : decode cX8_twins 29 = .ok (.iload_n 3, 1) := bd01_88.2.2.1.2
theorem dX8_twins_30 : decode cX8_twins 30 = .ok (.invokestatic 52, 3) := bd01_88.2.2.2.1
theorem dX8_twins_33 : decode cX8_twins 33 = .ok (.invokevirtual 55, 3) := bd01_88.2.2.2.2
theorem bd01_89 : ((decode cX8_twins 36 = .ok (.ifCond .ne 6, 3) ∧ decode cX8_twins 39 = .ok (.iinc 1 1, 3)) ∧ (decode cX8_twins 42 = .ok (.iinc 3 1, 3) ∧ decode cX8_twins 45 = .ok (.goto (-29), 3))) ∧ ((decode cX8_twins 48 = .ok (.iinc 2 1, 3) ∧ decode cX8_twins 51 = .ok (.goto (-47), 3)) ∧ (decode cX8_twins 54 = .ok (.iload_n 1, 1) ∧ decode cX8_twins 55 = .ok (.ireturn, 1))) := by decide +kernel
theorem dX8_twins_36 : decode cX8_twins 36 = .ok (.ifCond .ne 6, 3) := bd01_89.1.1.1
theorem dX8_twins_39 : decode cX8_twins 39 = .ok (.iinc 1 1, 3) := bd01_89.1.1.2
theorem dX8_twins_42 : decode cX8_twins 42 = .ok (.iinc 3 1, 3) := bd01_89.1.2.1
theorem dX8_twins_45 : decode cX8_twins 45 = .ok (.goto (-29), 3) := bd01_89.1.2.2
theorem dX8_twins_48 : decode cX8_twins 48 = .ok (.iinc 2 1, 3) := bd01_89.2.1.1
theorem dX8_twins_51 : decode cX8_twins 51 = .ok (.goto (-47), 3) := bd01_89.2.1.2
theorem dX8_twins_54 : decode cX8_twins 54 = .ok (.iload_n 1, 1) := bd01_89.2.2.1
theorem dX8_twins_55 : decode cX8_twins 55 = .ok (.ireturn, 1) := bd01_89.2.2.2
theorem bd01_90 : (((decode cX8_longestRow 0 = .ok (.iconst 0, 1) ∧ decode cX8_longestRow 1 = .ok (.istore_n 1, 1)) ∧ (decode cX8_longestRow 2 = .ok (.iconst 0, 1) ∧ decode cX8_longestRow 3 = .ok (.istore_n 2, 1))) ∧ ((decode cX8_longestRow 4 = .ok (.iconst 0, 1) ∧ decode cX8_longestRow 5 = .ok (.istore_n 3, 1)) ∧ (decode cX8_longestRow 6 = .ok (.iload_n 3, 1) ∧ decode cX8_longestRow 7 = .ok (.iconst 2, 1)))) ∧ (((decode cX8_longestRow 8 = .ok (.aload_n 0, 1) ∧ decode cX8_longestRow 9 = .ok (.getfield 30, 3)) ∧ (decode cX8_longestRow 12 = .ok (.imul, 1) ∧ decode cX8_longestRow 13 = .ok (.if_icmp .ge 53, 3))) ∧ ((decode cX8_longestRow 16 = .ok (.iload_n 3, 1) ∧ decode cX8_longestRow 17 = .ok (.aload_n 0, 1)) ∧ (decode cX8_longestRow 18 = .ok (.getfield 30, 3) ∧ decode cX8_longestRow 21 = .ok (.if_icmp .ge 7, 3)))) := by decide +kernel
theorem dX8_longestRow_0 : decode cX8_longestRow 0 = .ok (.iconst 0, 1) := bd01_90.1.1.1.1
theorem dX8_longestRow_1 : decode cX8_longestRow 1 = .ok (.istore_n 1, 1) := bd01_90.1.1.1.2
theorem dX8_longestRow_2 : decode cX8_longestRow 2 = .ok (.iconst 0, 1) := bd01_90.1.1.2.1
theorem dX8_longestRow_3 : decode cX8_longestRow 3 = .ok (.istore_n 2, 1) := bd01_90.1.1.2.2
theorem dX8_longestRow_4 : decode cX8_longestRow 4 = .ok (.iconst 0, 1) := bd01_90.1.2.1.1
theorem dX8_longestRow_5 : decode cX8_longestRow 5 = .ok (.istore_n 3, 1) := bd01_90.1.2.1.2
theorem dX8_longestRow_6 : decode cX8_longestRow 6 = .ok (.iload_n 3, 1) := bd01_90.1.2.2.1
theorem dX8_longestRow_7 : decode cX8_longestRow 7 = .ok (.iconst 2, 1) := bd01_90.1.2.2.2
theorem dX8_longestRow_8 : decode cX8_longestRow 8 = .ok (.aload_n 0, 1) := bd01_90.2.1.1.1
theorem dX8_longestRow_9 : decode cX8_longestRow 9 = .ok (.getfield 30, 3) := bd01_90.2.1.1.2
theorem dX8_longestRow_12 : decode cX8_longestRow 12 = .ok (.imul, 1) := bd01_90.2.1.2.1
theorem dX8_longestRow_13 : decode cX8_longestRow 13 = .ok (.if_icmp .ge 53, 3) := bd01_90.2.1.2.2
theorem dX8_longestRow_16 : decode cX8_longestRow 16 = .ok (.iload_n 3, 1) := bd01_90.2.2.1.1
theorem dX8_longestRow_17 : decode cX8_longestRow 17 = .ok (.aload_n 0, 1) := bd01_90.2.2.1.2
theorem dX8_longestRow_18 : decode cX8_longestRow 18 = .ok (.getfield 30, 3) := bd01_90.2.2.2.1
theorem dX8_longestRow_21 : decode cX8_longestRow 21 = .ok (.if_icmp .ge 7, 3) := bd01_90.2.2.2.2
theorem bd01_91 : ((decode cX8_longestRow 24 = .ok (.iload_n 3, 1) ∧ decode cX8_longestRow 25 = .ok (.goto 9, 3)) ∧ (decode cX8_longestRow 28 = .ok (.iload_n 3, 1) ∧ decode cX8_longestRow 29 = .ok (.aload_n 0, 1))) ∧ ((decode cX8_longestRow 30 = .ok (.getfield 30, 3) ∧ decode cX8_longestRow 33 = .ok (.isub, 1)) ∧ (decode cX8_longestRow 34 = .ok (.istore 4, 2) ∧ decode cX8_longestRow 36 = .ok (.aload_n 0, 1))) := by decide +kernel
theorem dX8_longestRow_24 : decode cX8_longestRow 24 = .ok (.iload_n 3, 1) := bd01_91.1.1.1
theorem dX8_longestRow_25 : decode cX8_longestRow 25 = .ok (.goto 9, 3) := bd01_91.1.1.2
theorem dX8_longestRow_28 : decode cX8_longestRow 28 = .ok (.iload_n 3, 1) := bd01_91.1.2.1
theorem dX8_longestRow_29 : decode cX8_longestRow 29 = .ok (.aload_n 0, 1) := bd01_91.1.2.2
theorem dX8_longestRow_30 : decode cX8_longestRow 30 = .ok (.getfield 30, 3) := bd01_91.2.1.1
theorem dX8_longestRow_33 : decode cX8_longestRow 33 = .ok (.isub, 1) := bd01_91.2.1.2
theorem dX8_longestRow_34 : decode cX8_longestRow 34 = .ok (.istore 4, 2) := bd01_91.2.2.1
theorem dX8_longestRow_36 : decode cX8_longestRow 36 = .ok (.aload_n 0, 1) := bd01_91.2.2.2
set_option maxRecDepth 20000 in
theorem ggX4_advance_X4_endOfRow : GoodIn wsX4_advance wsX4_endOfRow := goodIn_r _ [12, 4, 6, 13, 14, 11, 15, 75, 76, 77, 78, 79, 80, 81, 82, 83, 84, 85] (by first | rfl | decide +kernel) (by decide +kernel)
set_option maxRecDepth 20000 in
theorem gX4_advance_X4_endOfRow : GoodIn wsX4_advance (wsV RX4 232 RX4 yX4_endOfRow wsX4_endOfRow) := goodIn_app (goodIn_of _ (by decide +kernel)) ggX4_advance_X4_endOfRow
set_option maxRecDepth 20000 in
theorem ggX4_advance_X4_kindOf : GoodIn wsX4_advance wsX4_kindOf := goodIn_r _ [15] (by first | rfl | decide +kernel) (by decide +kernel)
set_option maxRecDepth 20000 in
theorem gX4_advance_X4_kindOf : GoodIn wsX4_advance (va_wsS RX4 235 yX4_kindOf wsX4_kindOf) := goodIn_app (goodIn_of _ (by decide +kernel)) ggX4_advance_X4_kindOf
set_option maxRecDepth 20000 in
theorem ggX4_advance_X4_findWord : GoodIn wsX4_advance wsX4_findWord := goodIn_r _ [19, 20, 21, 2, 1, 6, 22, 23, 24, 25, 26, 27, 28, 29, 30, 31, 32, 33, 34, 35, 36, 37, 38, 39, 40, 41, 42, 43, 44, 45, 46, 47, 48, 49, 50, 51, 52, 53, 54, 55, 56, 57, 58, 59, 60, 61, 62, 63, 64, 65, 66, 67, 68, 69, 70, 75, 76, 77, 78, 79, 80, 81, 82, 83, 84, 85] (by first | rfl | decide +kernel) (by decide +kernel)
set_option maxRecDepth 20000 in
theorem gX4_advance_X4_findWord : GoodIn wsX4_advance (wsV RX4 238 RX4 yX4_findWord wsX4_findWord) := goodIn_app (goodIn_of _ (by decide +kernel)) ggX4_advance_X4_findWord
set_option maxRecDepth 20000 in
theorem ggX4_advance_X4_findNumber : GoodIn wsX4_advance wsX4_findNumber := goodIn_r _ [74, 1, 2, 6, 75, 76, 77, 78, 79, 80, 81, 82, 83, 84, 85] (by first | rfl | decide +kernel) (by decide +kernel)
set_option maxRecDepth 20000 in
theorem gX4_advance_X4_findNumber : GoodIn wsX4_advance (wsV RX4 242 RX4 yX4_findNumber wsX4_findNumber) := goodIn_app (goodIn_of _ (by decide +kernel)) ggX4_advance_X4_findNumber
set_option maxRecDepth 20000 in
theorem ggX4_endOfRow_X4_kindOf : GoodIn wsX4_endOfRow wsX4_kindOf := goodIn_r _ [6] (by first | rfl | decide +kernel) (by decide +kernel)
set_option maxRecDepth 20000 in
theorem gX4_endOfRow_X4_kindOf : GoodIn wsX4_endOfRow (va_wsS RX4 235 yX4_kindOf wsX4_kindOf) := goodIn_app (goodIn_of _ (by decide +kernel)) ggX4_endOfRow_X4_kindOf
set_option maxRecDepth 20000 in
theorem ggX4_findWord_J0_length_8abf5 : GoodIn wsX4_findWord wsJ0_length_8abf5 := goodIn_r _ [10, 11, 12, 13, 14, 9, 15, 16, 17] (by first | rfl | decide +kernel) (by decide +kernel)
set_option maxRecDepth 20000 in
theorem gX4_findWord_J0_length_8abf5 : GoodIn wsX4_findWord (wsV RX4 253 RJ0 yJ0_length_8abf5 wsJ0_length_8abf5) := goodIn_app (goodIn_of _ (by decide +kernel)) ggX4_findWord_J0_length_8abf5
set_option maxRecDepth 20000 in
theorem ggX4_findWord_J0_charAt_5068e : GoodIn wsX4_findWord wsJ0_charAt_5068e := goodIn_r _ [21, 11, 22, 23, 24, 9, 25, 16, 17, 26, 27, 28, 29, 30, 31, 32, 33, 34, 35, 36, 37, 38, 39, 40, 41, 42, 43, 44, 45, 46, 47, 48, 49, 50, 51, 52, 53, 54] (by first | rfl | decide +kernel) (by decide +kernel)
set_option maxRecDepth 20000 in
theorem gX4_findWord_J0_charAt_5068e : GoodIn wsX4_findWord (wsV RX4 257 RJ0 yJ0_charAt_5068e wsJ0_charAt_5068e) := goodIn_app (goodIn_of _ (by decide +kernel)) ggX4_findWord_J0_charAt_5068e
set_option maxRecDepth 20000 in
theorem ggX5_worth_X5_join : GoodIn wsX5_worth wsX5_join := goodIn_r _ [6] (by first | rfl | decide +kernel) (by decide +kernel)
set_option maxRecDepth 20000 in
theorem gX5_worth_X5_join : GoodIn wsX5_worth (va_wsS RX5 25 yX5_join wsX5_join) := goodIn_app (goodIn_of _ (by decide +kernel)) ggX5_worth_X5_join
set_option maxRecDepth 20000 in
theorem ggX6_find_J6_bitCount_0f7a4 : GoodIn wsX6_find wsJ6_bitCount_0f7a4 := goodIn_r _ [13, 14, 15, 16] (by first | rfl | decide +kernel) (by decide +kernel)
set_option maxRecDepth 20000 in
theorem gX6_find_J6_bitCount_0f7a4 : GoodIn wsX6_find (va_wsS RX6 34 yJ6_bitCount_0f7a4 wsJ6_bitCount_0f7a4) := goodIn_app (goodIn_of _ (by decide +kernel)) ggX6_find_J6_bitCount_0f7a4
set_option maxRecDepth 20000 in
theorem ggX6_find_X6_leastFrom : GoodIn wsX6_find wsX6_leastFrom := goodIn_r _ [21, 8, 1, 2, 4, 5, 6, 7, 22, 23, 24, 20, 25, 9, 26, 27, 28, 29, 30, 31, 32, 33, 34, 35, 36, 37, 38, 39, 40, 41, 42, 43, 44, 45, 46, 47, 48, 49] (by first | rfl | decide +kernel) (by decide +kernel)
set_option maxRecDepth 20000 in
theorem gX6_find_X6_leastFrom : GoodIn wsX6_find (wsV RX6 41 RX6 yX6_leastFrom wsX6_leastFrom) := goodIn_app (goodIn_of _ (by decide +kernel)) ggX6_find_X6_leastFrom
set_option maxRecDepth 20000 in
theorem ggX6_placeFor_X6_firstPlace : GoodIn wsX6_placeFor wsX6_firstPlace := goodIn_r _ [5, 6, 7, 8, 9, 10, 11, 4, 12, 13, 14, 15, 16, 17, 18, 19, 20, 21, 22, 23, 24, 25, 26, 27, 28, 29, 30, 31, 32, 33, 34, 35, 36, 37, 38, 39, 40, 41] (by first | rfl | decide +kernel) (by decide +kernel)
set_option maxRecDepth 20000 in
theorem gX6_placeFor_X6_firstPlace : GoodIn wsX6_placeFor (wsV RX6 44 RX6 yX6_firstPlace wsX6_firstPlace) := goodIn_app (goodIn_of _ (by decide +kernel)) ggX6_placeFor_X6_firstPlace
set_option maxRecDepth 20000 in
theorem ggX6_leastFrom_X6_differenceWith : GoodIn wsX6_leastFrom wsX6_differenceWith := goodIn_r _ [12, 13, 1, 2, 4, 5, 6, 7, 14, 15, 16, 17, 18, 19, 20, 21, 22, 23, 24, 25, 26, 27, 28, 29, 30, 31, 32, 33, 34, 35, 36, 37] (by first | rfl | decide +kernel) (by decide +kernel)
set_option maxRecDepth 20000 in
theorem gX6_leastFrom_X6_differenceWith : GoodIn wsX6_leastFrom (wsV RX6 47 RX6 yX6_differenceWith wsX6_differenceWith) := goodIn_app (goodIn_of _ (by decide +kernel)) ggX6_leastFrom_X6_differenceWith
set_option maxRecDepth 20000 in
theorem ggX6_firstPlace_X6_differenceWith : GoodIn wsX6_firstPlace wsX6_differenceWith := goodIn_r _ [8, 9, 3, 1, 10, 11, 12, 13, 14, 15, 16, 17, 18, 19, 20, 21, 22, 23, 24, 25, 26, 27, 28, 29, 30, 31, 32, 33, 34, 35, 36, 37] (by first | rfl | decide +kernel) (by decide +kernel)
set_option maxRecDepth 20000 in
theorem gX6_firstPlace_X6_differenceWith : GoodIn wsX6_firstPlace (wsV RX6 47 RX6 yX6_differenceWith wsX6_differenceWith) := goodIn_app (goodIn_of _ (by decide +kernel)) ggX6_firstPlace_X6_differenceWith
set_option maxRecDepth 20000 in
theorem ggX6_differenceWith_X8_faceOf : GoodIn wsX6_differenceWith wsX8_faceOf := goodIn_r _ [11] (by first | rfl | decide +kernel) (by decide +kernel)
set_option maxRecDepth 20000 in
theorem gX6_differenceWith_X8_faceOf : GoodIn wsX6_differenceWith (va_wsS RX6 51 yX8_faceOf wsX8_faceOf) := goodIn_app (goodIn_of _ (by decide +kernel)) ggX6_differenceWith_X8_faceOf
set_option maxRecDepth 20000 in
theorem ggX6_differenceWith_X8_unlikeness : GoodIn wsX6_differenceWith wsX8_unlikeness := goodIn_r _ [15, 16, 17, 18, 6, 19, 20, 23, 24, 25, 26, 27, 28, 29, 30, 31] (by first | rfl | decide +kernel) (by decide +kernel)
set_option maxRecDepth 20000 in
theorem gX6_differenceWith_X8_unlikeness : GoodIn wsX6_differenceWith (wsV RX6 54 RX8 yX8_unlikeness wsX8_unlikeness) := goodIn_app (goodIn_of _ (by decide +kernel)) ggX6_differenceWith_X8_unlikeness
set_option maxRecDepth 20000 in
theorem ggX7_isSo_X8_faceOf : GoodIn wsX7_isSo wsX8_faceOf := goodIn_r _ [9] (by first | rfl | decide +kernel) (by decide +kernel)
set_option maxRecDepth 20000 in
theorem gX7_isSo_X8_faceOf : GoodIn wsX7_isSo (va_wsS RX7 34 yX8_faceOf wsX8_faceOf) := goodIn_app (goodIn_of _ (by decide +kernel)) ggX7_isSo_X8_faceOf
set_option maxRecDepth 20000 in
theorem ggX8_closest_X8_faceOf : GoodIn wsX8_closest wsX8_faceOf := goodIn_r _ [5] (by first | rfl | decide +kernel) (by decide +kernel)
set_option maxRecDepth 20000 in
theorem gX8_closest_X8_faceOf : GoodIn wsX8_closest (va_wsS RX8 52 yX8_faceOf wsX8_faceOf) := goodIn_app (goodIn_of _ (by decide +kernel)) ggX8_closest_X8_faceOf
set_option maxRecDepth 20000 in
theorem ggX8_closest_X8_unlikeness : GoodIn wsX8_closest wsX8_unlikeness := goodIn_r _ [9, 10, 11, 12, 13, 14, 15, 16, 17, 18, 19, 20, 21, 22, 23, 24] (by first | rfl | decide +kernel) (by decide +kernel)
set_option maxRecDepth 20000 in
theorem gX8_closest_X8_unlikeness : GoodIn wsX8_closest (wsV RX8 55 RX8 yX8_unlikeness wsX8_unlikeness) := goodIn_app (goodIn_of _ (by decide +kernel)) ggX8_closest_X8_unlikeness
set_option maxRecDepth 20000 in
theorem ggX8_twins_X8_faceOf : GoodIn wsX8_twins wsX8_faceOf := goodIn_r _ [5] (by first | rfl | decide +kernel) (by decide +kernel)
set_option maxRecDepth 20000 in
theorem gX8_twins_X8_faceOf : GoodIn wsX8_twins (va_wsS RX8 52 yX8_faceOf wsX8_faceOf) := goodIn_app (goodIn_of _ (by decide +kernel)) ggX8_twins_X8_faceOf
set_option maxRecDepth 20000 in
theorem ggX8_twins_X8_unlikeness : GoodIn wsX8_twins wsX8_unlikeness := goodIn_r _ [9, 10, 11, 12, 13, 14, 15, 16, 17, 18, 19, 20, 21, 22, 23, 24] (by first | rfl | decide +kernel) (by decide +kernel)
set_option maxRecDepth 20000 in
theorem gX8_twins_X8_unlikeness : GoodIn wsX8_twins (wsV RX8 55 RX8 yX8_unlikeness wsX8_unlikeness) := goodIn_app (goodIn_of _ (by decide +kernel)) ggX8_twins_X8_unlikeness
