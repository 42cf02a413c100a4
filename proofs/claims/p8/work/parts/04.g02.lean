theorem bg02_0 : (((decode cX12_eldestSitting 5 = .ok (.aload_n 0, 1) ∧ decode cX12_eldestSitting 6 = .ok (.getfield 42, 3)) ∧ (decode cX12_eldestSitting 9 = .ok (.iconst 1, 1) ∧ decode cX12_eldestSitting 10 = .ok (.iaload, 1))) ∧ ((decode cX12_eldestSitting 11 = .ok (.if_icmp .ge 41, 3) ∧ decode cX12_eldestSitting 14 = .ok (.aload_n 0, 1)) ∧ (decode cX12_eldestSitting 15 = .ok (.getfield 106, 3) ∧ decode cX12_eldestSitting 18 = .ok (.iload_n 2, 1)))) ∧ (((decode cX12_eldestSitting 19 = .ok (.iaload, 1) ∧ decode cX12_eldestSitting 20 = .ok (.iconst (-1), 1)) ∧ (decode cX12_eldestSitting 21 = .ok (.if_icmp .eq 25, 3) ∧ decode cX12_eldestSitting 24 = .ok (.iload_n 1, 1))) ∧ ((decode cX12_eldestSitting 25 = .ok (.iconst (-1), 1) ∧ decode cX12_eldestSitting 26 = .ok (.if_icmp .eq 18, 3)) ∧ (decode cX12_eldestSitting 29 = .ok (.aload_n 0, 1) ∧ decode cX12_eldestSitting 30 = .ok (.getfield 102, 3)))) := by decide +kernel
theorem dX12_eldestSitting_5 : decode cX12_eldestSitting 5 = .ok (.aload_n 0, 1) := bg02_0.1.1.1.1
theorem dX12_eldestSitting_6 : decode cX12_eldestSitting 6 = .ok (.getfield 42, 3) := bg02_0.1.1.1.2
theorem dX12_eldestSitting_9 : decode cX12_eldestSitting 9 = .ok (.iconst 1, 1) := bg02_0.1.1.2.1
theorem dX12_eldestSitting_10 : decode cX12_eldestSitting 10 = .ok (.iaload, 1) := bg02_0.1.1.2.2
theorem dX12_eldestSitting_11 : decode cX12_eldestSitting 11 = .ok (.if_icmp .ge 41, 3) := bg02_0.1.2.1.1
theorem dX12_eldestSitting_14 : decode cX12_eldestSitting 14 = .ok (.aload_n 0, 1) := bg02_0.1.2.1.2
theorem dX12_eldestSitting_15 : decode cX12_eldestSitting 15 = .ok (.getfield 106, 3) := bg02_0.1.2.2.1
theorem dX12_eldestSitting_18 : decode cX12_eldestSitting 18 = .ok (.iload_n 2, 1) := bg02_0.1.2.2.2
theorem dX12_eldestSitting_19 : decode cX12_eldestSitting 19 = .ok (.iaload, 1) := bg02_0.2.1.1.1
theorem dX12_eldestSitting_20 : decode cX12_eldestSitting 20 = .ok (.iconst (-1), 1) := bg02_0.2.1.1.2
theorem dX12_eldestSitting_21 : decode cX12_eldestSitting 21 = .ok (.if_icmp .eq 25, 3) := bg02_0.2.1.2.1
theorem dX12_eldestSitting_24 : decode cX12_eldestSitting 24 = .ok (.iload_n 1, 1) := bg02_0.2.1.2.2
theorem dX12_eldestSitting_25 : decode cX12_eldestSitting 25 = .ok (.iconst (-1), 1) := bg02_0.2.2.1.1
theorem dX12_eldestSitting_26 : decode cX12_eldestSitting 26 = .ok (.if_icmp .eq 18, 3) := bg02_0.2.2.1.2
theorem dX12_eldestSitting_29 : decode cX12_eldestSitting 29 = .ok (.aload_n 0, 1) := bg02_0.2.2.2.1
theorem dX12_eldestSitting_30 : decode cX12_eldestSitting 30 = .ok (.getfield 102, 3) := bg02_0.2.2.2.2
theorem bg02_1 : (((decode cX12_eldestSitting 33 = .ok (.iload_n 2, 1) ∧ decode cX12_eldestSitting 34 = .ok (.iaload, 1)) ∧ (decode cX12_eldestSitting 35 = .ok (.aload_n 0, 1) ∧ decode cX12_eldestSitting 36 = .ok (.getfield 102, 3))) ∧ ((decode cX12_eldestSitting 39 = .ok (.iload_n 1, 1) ∧ decode cX12_eldestSitting 40 = .ok (.iaload, 1)) ∧ (decode cX12_eldestSitting 41 = .ok (.if_icmp .le 5, 3)))) ∧ (((decode cX12_eldestSitting 44 = .ok (.iload_n 2, 1) ∧ decode cX12_eldestSitting 45 = .ok (.istore_n 1, 1)) ∧ (decode cX12_eldestSitting 46 = .ok (.iinc 2 1, 3))) ∧ ((decode cX12_eldestSitting 49 = .ok (.goto (-45), 3) ∧ decode cX12_eldestSitting 52 = .ok (.iload_n 1, 1)) ∧ (decode cX12_eldestSitting 53 = .ok (.ireturn, 1)))) := by decide +kernel
theorem dX12_eldestSitting_33 : decode cX12_eldestSitting 33 = .ok (.iload_n 2, 1) := bg02_1.1.1.1.1
theorem dX12_eldestSitting_34 : decode cX12_eldestSitting 34 = .ok (.iaload, 1) := bg02_1.1.1.1.2
theorem dX12_eldestSitting_35 : decode cX12_eldestSitting 35 = .ok (.aload_n 0, 1) := bg02_1.1.1.2.1
theorem dX12_eldestSitting_36 : decode cX12_eldestSitting 36 = .ok (.getfield 102, 3) := bg02_1.1.1.2.2
theorem dX12_eldestSitting_39 : decode cX12_eldestSitting 39 = .ok (.iload_n 1, 1) := bg02_1.1.2.1.1
theorem dX12_eldestSitting_40 : decode cX12_eldestSitting 40 = .ok (.iaload, 1) := bg02_1.1.2.1.2
theorem dX12_eldestSitting_41 : decode cX12_eldestSitting 41 = .ok (.if_icmp .le 5, 3) := bg02_1.1.2.2
theorem dX12_eldestSitting_44 : decode cX12_eldestSitting 44 = .ok (.iload_n 2, 1) := bg02_1.2.1.1.1
theorem dX12_eldestSitting_45 : decode cX12_eldestSitting 45 = .ok (.istore_n 1, 1) := bg02_1.2.1.1.2
theorem dX12_eldestSitting_46 : decode cX12_eldestSitting 46 = .ok (.iinc 2 1, 3) := bg02_1.2.1.2
theorem dX12_eldestSitting_49 : decode cX12_eldestSitting 49 = .ok (.goto (-45), 3) := bg02_1.2.2.1.1
theorem dX12_eldestSitting_52 : decode cX12_eldestSitting 52 = .ok (.iload_n 1, 1) := bg02_1.2.2.1.2
theorem dX12_eldestSitting_53 : decode cX12_eldestSitting 53 = .ok (.ireturn, 1) := bg02_1.2.2.2
theorem bg02_2 : (((decode cX12_mostStone 0 = .ok (.iconst (-1), 1) ∧ decode cX12_mostStone 1 = .ok (.istore_n 1, 1)) ∧ (decode cX12_mostStone 2 = .ok (.iconst 0, 1) ∧ decode cX12_mostStone 3 = .ok (.istore_n 2, 1))) ∧ ((decode cX12_mostStone 4 = .ok (.iload_n 2, 1) ∧ decode cX12_mostStone 5 = .ok (.aload_n 0, 1)) ∧ (decode cX12_mostStone 6 = .ok (.getfield 42, 3) ∧ decode cX12_mostStone 9 = .ok (.iconst 0, 1)))) ∧ (((decode cX12_mostStone 10 = .ok (.iaload, 1) ∧ decode cX12_mostStone 11 = .ok (.if_icmp .ge 31, 3)) ∧ (decode cX12_mostStone 14 = .ok (.iload_n 1, 1) ∧ decode cX12_mostStone 15 = .ok (.iconst (-1), 1))) ∧ ((decode cX12_mostStone 16 = .ok (.if_icmp .eq 18, 3) ∧ decode cX12_mostStone 19 = .ok (.aload_n 0, 1)) ∧ (decode cX12_mostStone 20 = .ok (.getfield 94, 3) ∧ decode cX12_mostStone 23 = .ok (.iload_n 2, 1)))) := by decide +kernel
theorem dX12_mostStone_0 : decode cX12_mostStone 0 = .ok (.iconst (-1), 1) := bg02_2.1.1.1.1
theorem dX12_mostStone_1 : decode cX12_mostStone 1 = .ok (.istore_n 1, 1) := bg02_2.1.1.1.2
theorem dX12_mostStone_2 : decode cX12_mostStone 2 = .ok (.iconst 0, 1) := bg02_2.1.1.2.1
theorem dX12_mostStone_3 : decode cX12_mostStone 3 = .ok (.istore_n 2, 1) := bg02_2.1.1.2.2
theorem dX12_mostStone_4 : decode cX12_mostStone 4 = .ok (.iload_n 2, 1) := bg02_2.1.2.1.1
theorem dX12_mostStone_5 : decode cX12_mostStone 5 = .ok (.aload_n 0, 1) := bg02_2.1.2.1.2
theorem dX12_mostStone_6 : decode cX12_mostStone 6 = .ok (.getfield 42, 3) := bg02_2.1.2.2.1
theorem dX12_mostStone_9 : decode cX12_mostStone 9 = .ok (.iconst 0, 1) := bg02_2.1.2.2.2
theorem dX12_mostStone_10 : decode cX12_mostStone 10 = .ok (.iaload, 1) := bg02_2.2.1.1.1
theorem dX12_mostStone_11 : decode cX12_mostStone 11 = .ok (.if_icmp .ge 31, 3) := bg02_2.2.1.1.2
theorem dX12_mostStone_14 : decode cX12_mostStone 14 = .ok (.iload_n 1, 1) := bg02_2.2.1.2.1
theorem dX12_mostStone_15 : decode cX12_mostStone 15 = .ok (.iconst (-1), 1) := bg02_2.2.1.2.2
theorem dX12_mostStone_16 : decode cX12_mostStone 16 = .ok (.if_icmp .eq 18, 3) := bg02_2.2.2.1.1
theorem dX12_mostStone_19 : decode cX12_mostStone 19 = .ok (.aload_n 0, 1) := bg02_2.2.2.1.2
theorem dX12_mostStone_20 : decode cX12_mostStone 20 = .ok (.getfield 94, 3) := bg02_2.2.2.2.1
theorem dX12_mostStone_23 : decode cX12_mostStone 23 = .ok (.iload_n 2, 1) := bg02_2.2.2.2.2
theorem bg02_3 : (((decode cX12_mostStone 24 = .ok (.iaload, 1) ∧ decode cX12_mostStone 25 = .ok (.aload_n 0, 1)) ∧ (decode cX12_mostStone 26 = .ok (.getfield 94, 3))) ∧ ((decode cX12_mostStone 29 = .ok (.iload_n 1, 1) ∧ decode cX12_mostStone 30 = .ok (.iaload, 1)) ∧ (decode cX12_mostStone 31 = .ok (.if_icmp .le 5, 3)))) ∧ (((decode cX12_mostStone 34 = .ok (.iload_n 2, 1) ∧ decode cX12_mostStone 35 = .ok (.istore_n 1, 1)) ∧ (decode cX12_mostStone 36 = .ok (.iinc 2 1, 3))) ∧ ((decode cX12_mostStone 39 = .ok (.goto (-35), 3) ∧ decode cX12_mostStone 42 = .ok (.iload_n 1, 1)) ∧ (decode cX12_mostStone 43 = .ok (.ireturn, 1)))) := by decide +kernel
theorem dX12_mostStone_24 : decode cX12_mostStone 24 = .ok (.iaload, 1) := bg02_3.1.1.1.1
theorem dX12_mostStone_25 : decode cX12_mostStone 25 = .ok (.aload_n 0, 1) := bg02_3.1.1.1.2
theorem dX12_mostStone_26 : decode cX12_mostStone 26 = .ok (.getfield 94, 3) := bg02_3.1.1.2
theorem dX12_mostStone_29 : decode cX12_mostStone 29 = .ok (.iload_n 1, 1) := bg02_3.1.2.1.1
theorem dX12_mostStone_30 : decode cX12_mostStone 30 = .ok (.iaload, 1) := bg02_3.1.2.1.2
theorem dX12_mostStone_31 : decode cX12_mostStone 31 = .ok (.if_icmp .le 5, 3) := bg02_3.1.2.2
theorem dX12_mostStone_34 : decode cX12_mostStone 34 = .ok (.iload_n 2, 1) := bg02_3.2.1.1.1
theorem dX12_mostStone_35 : decode cX12_mostStone 35 = .ok (.istore_n 1, 1) := bg02_3.2.1.1.2
theorem dX12_mostStone_36 : decode cX12_mostStone 36 = .ok (.iinc 2 1, 3) := bg02_3.2.1.2
theorem dX12_mostStone_39 : decode cX12_mostStone 39 = .ok (.goto (-35), 3) := bg02_3.2.2.1.1
theorem dX12_mostStone_42 : decode cX12_mostStone 42 = .ok (.iload_n 1, 1) := bg02_3.2.2.1.2
theorem dX12_mostStone_43 : decode cX12_mostStone 43 = .ok (.ireturn, 1) := bg02_3.2.2.2
theorem bg02_4 : (((decode cX12_greatest 0 = .ok (.aload_n 0, 1) ∧ decode cX12_greatest 1 = .ok (.iconst 0, 1)) ∧ (decode cX12_greatest 2 = .ok (.putfield 163, 3) ∧ decode cX12_greatest 5 = .ok (.iload_n 2, 1))) ∧ ((decode cX12_greatest 6 = .ok (.i2l, 1) ∧ decode cX12_greatest 7 = .ok (.lconst 0, 1)) ∧ (decode cX12_greatest 8 = .ok (.lconst 1, 1) ∧ decode cX12_greatest 9 = .ok (.invokestatic 166, 3)))) ∧ (((decode cX12_greatest 12 = .ok (.ifCond .ne 9, 3) ∧ decode cX12_greatest 15 = .ok (.aload_n 0, 1)) ∧ (decode cX12_greatest 16 = .ok (.iconst 1, 1) ∧ decode cX12_greatest 17 = .ok (.invokevirtual 310, 3))) ∧ ((decode cX12_greatest 20 = .ok (.ireturn, 1) ∧ decode cX12_greatest 21 = .ok (.iload_n 1, 1)) ∧ (decode cX12_greatest 22 = .ok (.i2l, 1) ∧ decode cX12_greatest 23 = .ok (.lconst 0, 1)))) := by decide +kernel
theorem dX12_greatest_0 : decode cX12_greatest 0 = .ok (.aload_n 0, 1) := bg02_4.1.1.1.1
theorem dX12_greatest_1 : decode cX12_greatest 1 = .ok (.iconst 0, 1) := bg02_4.1.1.1.2
theorem dX12_greatest_2 : decode cX12_greatest 2 = .ok (.putfield 163, 3) := bg02_4.1.1.2.1
theorem dX12_greatest_5 : decode cX12_greatest 5 = .ok (.iload_n 2, 1) := bg02_4.1.1.2.2
theorem dX12_greatest_6 : decode cX12_greatest 6 = .ok (.i2l, 1) := bg02_4.1.2.1.1
theorem dX12_greatest_7 : decode cX12_greatest 7 = .ok (.lconst 0, 1) := bg02_4.1.2.1.2
theorem dX12_greatest_8 : decode cX12_greatest 8 = .ok (.lconst 1, 1) := bg02_4.1.2.2.1
theorem dX12_greatest_9 : decode cX12_greatest 9 = .ok (.invokestatic 166, 3) := bg02_4.1.2.2.2
theorem dX12_greatest_12 : decode cX12_greatest 12 = .ok (.ifCond .ne 9, 3) := bg02_4.2.1.1.1
theorem dX12_greatest_15 : decode cX12_greatest 15 = .ok (.aload_n 0, 1) := bg02_4.2.1.1.2
theorem dX12_greatest_16 : decode cX12_greatest 16 = .ok (.iconst 1, 1) := bg02_4.2.1.2.1
theorem dX12_greatest_17 : decode cX12_greatest 17 = .ok (.invokevirtual 310, 3) := bg02_4.2.1.2.2
theorem dX12_greatest_20 : decode cX12_greatest 20 = .ok (.ireturn, 1) := bg02_4.2.2.1.1
theorem dX12_greatest_21 : decode cX12_greatest 21 = .ok (.iload_n 1, 1) := bg02_4.2.2.1.2
theorem dX12_greatest_22 : decode cX12_greatest 22 = .ok (.i2l, 1) := bg02_4.2.2.2.1
theorem dX12_greatest_23 : decode cX12_greatest 23 = .ok (.lconst 0, 1) := bg02_4.2.2.2.2
theorem bg02_5 : (((decode cX12_greatest 24 = .ok (.ldc2_w 451, 3) ∧ decode cX12_greatest 27 = .ok (.invokestatic 166, 3)) ∧ (decode cX12_greatest 30 = .ok (.ifCond .ne 9, 3) ∧ decode cX12_greatest 33 = .ok (.aload_n 0, 1))) ∧ ((decode cX12_greatest 34 = .ok (.iconst 2, 1) ∧ decode cX12_greatest 35 = .ok (.invokevirtual 310, 3)) ∧ (decode cX12_greatest 38 = .ok (.ireturn, 1) ∧ decode cX12_greatest 39 = .ok (.aload_n 0, 1)))) ∧ (((decode cX12_greatest 40 = .ok (.aload_n 0, 1) ∧ decode cX12_greatest 41 = .ok (.getfield 118, 3)) ∧ (decode cX12_greatest 44 = .ok (.iconst 0, 1) ∧ decode cX12_greatest 45 = .ok (.invokevirtual 420, 3))) ∧ ((decode cX12_greatest 48 = .ok (.aload_n 0, 1) ∧ decode cX12_greatest 49 = .ok (.iload_n 1, 1)) ∧ (decode cX12_greatest 50 = .ok (.invokevirtual 432, 3) ∧ decode cX12_greatest 53 = .ok (.iload_n 2, 1)))) := by decide +kernel
theorem dX12_greatest_24 : decode cX12_greatest 24 = .ok (.ldc2_w 451, 3) := bg02_5.1.1.1.1
theorem dX12_greatest_27 : decode cX12_greatest 27 = .ok (.invokestatic 166, 3) := bg02_5.1.1.1.2
theorem dX12_greatest_30 : decode cX12_greatest 30 = .ok (.ifCond .ne 9, 3) := bg02_5.1.1.2.1
theorem dX12_greatest_33 : decode cX12_greatest 33 = .ok (.aload_n 0, 1) := bg02_5.1.1.2.2
theorem dX12_greatest_34 : decode cX12_greatest 34 = .ok (.iconst 2, 1) := bg02_5.1.2.1.1
theorem dX12_greatest_35 : decode cX12_greatest 35 = .ok (.invokevirtual 310, 3) := bg02_5.1.2.1.2
theorem dX12_greatest_38 : decode cX12_greatest 38 = .ok (.ireturn, 1) := bg02_5.1.2.2.1
theorem dX12_greatest_39 : decode cX12_greatest 39 = .ok (.aload_n 0, 1) := bg02_5.1.2.2.2
theorem dX12_greatest_40 : decode cX12_greatest 40 = .ok (.aload_n 0, 1) := bg02_5.2.1.1.1
theorem dX12_greatest_41 : decode cX12_greatest 41 = .ok (.getfield 118, 3) := bg02_5.2.1.1.2
theorem dX12_greatest_44 : decode cX12_greatest 44 = .ok (.iconst 0, 1) := bg02_5.2.1.2.1
theorem dX12_greatest_45 : decode cX12_greatest 45 = .ok (.invokevirtual 420, 3) := bg02_5.2.1.2.2
theorem dX12_greatest_48 : decode cX12_greatest 48 = .ok (.aload_n 0, 1) := bg02_5.2.2.1.1
theorem dX12_greatest_49 : decode cX12_greatest 49 = .ok (.iload_n 1, 1) := bg02_5.2.2.1.2
theorem dX12_greatest_50 : decode cX12_greatest 50 = .ok (.invokevirtual 432, 3) := bg02_5.2.2.2.1
theorem dX12_greatest_53 : decode cX12_greatest 53 = .ok (.iload_n 2, 1) := bg02_5.2.2.2.2
theorem bg02_6 : (((decode cX12_greatest 54 = .ok (.ifCond .ne 10, 3) ∧ decode cX12_greatest 57 = .ok (.aload_n 0, 1)) ∧ (decode cX12_greatest 58 = .ok (.invokevirtual 460, 3) ∧ decode cX12_greatest 61 = .ok (.goto 7, 3))) ∧ ((decode cX12_greatest 64 = .ok (.aload_n 0, 1) ∧ decode cX12_greatest 65 = .ok (.invokevirtual 463, 3)) ∧ (decode cX12_greatest 68 = .ok (.istore_n 3, 1)))) ∧ (((decode cX12_greatest 69 = .ok (.aload_n 0, 1) ∧ decode cX12_greatest 70 = .ok (.aload_n 0, 1)) ∧ (decode cX12_greatest 71 = .ok (.getfield 118, 3) ∧ decode cX12_greatest 74 = .ok (.iconst 0, 1))) ∧ ((decode cX12_greatest 75 = .ok (.invokevirtual 446, 3) ∧ decode cX12_greatest 78 = .ok (.iload_n 3, 1)) ∧ (decode cX12_greatest 79 = .ok (.ireturn, 1)))) := by decide +kernel
theorem dX12_greatest_54 : decode cX12_greatest 54 = .ok (.ifCond .ne 10, 3) := bg02_6.1.1.1.1
theorem dX12_greatest_57 : decode cX12_greatest 57 = .ok (.aload_n 0, 1) := bg02_6.1.1.1.2
theorem dX12_greatest_58 : decode cX12_greatest 58 = .ok (.invokevirtual 460, 3) := bg02_6.1.1.2.1
theorem dX12_greatest_61 : decode cX12_greatest 61 = .ok (.goto 7, 3) := bg02_6.1.1.2.2
theorem dX12_greatest_64 : decode cX12_greatest 64 = .ok (.aload_n 0, 1) := bg02_6.1.2.1.1
theorem dX12_greatest_65 : decode cX12_greatest 65 = .ok (.invokevirtual 463, 3) := bg02_6.1.2.1.2
theorem dX12_greatest_68 : decode cX12_greatest 68 = .ok (.istore_n 3, 1) := bg02_6.1.2.2
theorem dX12_greatest_69 : decode cX12_greatest 69 = .ok (.aload_n 0, 1) := bg02_6.2.1.1.1
theorem dX12_greatest_70 : decode cX12_greatest 70 = .ok (.aload_n 0, 1) := bg02_6.2.1.1.2
theorem dX12_greatest_71 : decode cX12_greatest 71 = .ok (.getfield 118, 3) := bg02_6.2.1.2.1
theorem dX12_greatest_74 : decode cX12_greatest 74 = .ok (.iconst 0, 1) := bg02_6.2.1.2.2
theorem dX12_greatest_75 : decode cX12_greatest 75 = .ok (.invokevirtual 446, 3) := bg02_6.2.2.1.1
theorem dX12_greatest_78 : decode cX12_greatest 78 = .ok (.iload_n 3, 1) := bg02_6.2.2.1.2
theorem dX12_greatest_79 : decode cX12_greatest 79 = .ok (.ireturn, 1) := bg02_6.2.2.2
theorem bg02_7 : (((decode cX12_empty 0 = .ok (.aload_n 0, 1) ∧ decode cX12_empty 1 = .ok (.iconst 0, 1)) ∧ (decode cX12_empty 2 = .ok (.putfield 163, 3) ∧ decode cX12_empty 5 = .ok (.iload_n 1, 1))) ∧ ((decode cX12_empty 6 = .ok (.i2l, 1) ∧ decode cX12_empty 7 = .ok (.lconst 1, 1)) ∧ (decode cX12_empty 8 = .ok (.ldc2_w 451, 3) ∧ decode cX12_empty 11 = .ok (.invokestatic 166, 3)))) ∧ (((decode cX12_empty 14 = .ok (.ifCond .ne 9, 3) ∧ decode cX12_empty 17 = .ok (.aload_n 0, 1)) ∧ (decode cX12_empty 18 = .ok (.iconst 1, 1) ∧ decode cX12_empty 19 = .ok (.invokevirtual 310, 3))) ∧ ((decode cX12_empty 22 = .ok (.ireturn, 1) ∧ decode cX12_empty 23 = .ok (.aload_n 0, 1)) ∧ (decode cX12_empty 24 = .ok (.aload_n 0, 1) ∧ decode cX12_empty 25 = .ok (.getfield 118, 3)))) := by decide +kernel
theorem dX12_empty_0 : decode cX12_empty 0 = .ok (.aload_n 0, 1) := bg02_7.1.1.1.1
theorem dX12_empty_1 : decode cX12_empty 1 = .ok (.iconst 0, 1) := bg02_7.1.1.1.2
theorem dX12_empty_2 : decode cX12_empty 2 = .ok (.putfield 163, 3) := bg02_7.1.1.2.1
theorem dX12_empty_5 : decode cX12_empty 5 = .ok (.iload_n 1, 1) := bg02_7.1.1.2.2
theorem dX12_empty_6 : decode cX12_empty 6 = .ok (.i2l, 1) := bg02_7.1.2.1.1
theorem dX12_empty_7 : decode cX12_empty 7 = .ok (.lconst 1, 1) := bg02_7.1.2.1.2
theorem dX12_empty_8 : decode cX12_empty 8 = .ok (.ldc2_w 451, 3) := bg02_7.1.2.2.1
theorem dX12_empty_11 : decode cX12_empty 11 = .ok (.invokestatic 166, 3) := bg02_7.1.2.2.2
theorem dX12_empty_14 : decode cX12_empty 14 = .ok (.ifCond .ne 9, 3) := bg02_7.2.1.1.1
theorem dX12_empty_17 : decode cX12_empty 17 = .ok (.aload_n 0, 1) := bg02_7.2.1.1.2
theorem dX12_empty_18 : decode cX12_empty 18 = .ok (.iconst 1, 1) := bg02_7.2.1.2.1
theorem dX12_empty_19 : decode cX12_empty 19 = .ok (.invokevirtual 310, 3) := bg02_7.2.1.2.2
theorem dX12_empty_22 : decode cX12_empty 22 = .ok (.ireturn, 1) := bg02_7.2.2.1.1
theorem dX12_empty_23 : decode cX12_empty 23 = .ok (.aload_n 0, 1) := bg02_7.2.2.1.2
theorem dX12_empty_24 : decode cX12_empty 24 = .ok (.aload_n 0, 1) := bg02_7.2.2.2.1
theorem dX12_empty_25 : decode cX12_empty 25 = .ok (.getfield 118, 3) := bg02_7.2.2.2.2
theorem bg02_8 : (((decode cX12_empty 28 = .ok (.iconst 0, 1) ∧ decode cX12_empty 29 = .ok (.invokevirtual 420, 3)) ∧ (decode cX12_empty 32 = .ok (.iconst 0, 1) ∧ decode cX12_empty 33 = .ok (.istore_n 2, 1))) ∧ ((decode cX12_empty 34 = .ok (.iconst 0, 1) ∧ decode cX12_empty 35 = .ok (.istore_n 3, 1)) ∧ (decode cX12_empty 36 = .ok (.iload_n 3, 1) ∧ decode cX12_empty 37 = .ok (.iload_n 1, 1)))) ∧ (((decode cX12_empty 38 = .ok (.if_icmp .ge 29, 3) ∧ decode cX12_empty 41 = .ok (.aload_n 0, 1)) ∧ (decode cX12_empty 42 = .ok (.iconst 1, 1) ∧ decode cX12_empty 43 = .ok (.invokevirtual 432, 3))) ∧ ((decode cX12_empty 46 = .ok (.iload_n 2, 1) ∧ decode cX12_empty 47 = .ok (.aload_n 0, 1)) ∧ (decode cX12_empty 48 = .ok (.invokevirtual 399, 3) ∧ decode cX12_empty 51 = .ok (.ifCond .ne 7, 3)))) := by decide +kernel
theorem dX12_empty_28 : decode cX12_empty 28 = .ok (.iconst 0, 1) := bg02_8.1.1.1.1
theorem dX12_empty_29 : decode cX12_empty 29 = .ok (.invokevirtual 420, 3) := bg02_8.1.1.1.2
theorem dX12_empty_32 : decode cX12_empty 32 = .ok (.iconst 0, 1) := bg02_8.1.1.2.1
theorem dX12_empty_33 : decode cX12_empty 33 = .ok (.istore_n 2, 1) := bg02_8.1.1.2.2
theorem dX12_empty_34 : decode cX12_empty 34 = .ok (.iconst 0, 1) := bg02_8.1.2.1.1
theorem dX12_empty_35 : decode cX12_empty 35 = .ok (.istore_n 3, 1) := bg02_8.1.2.1.2
theorem dX12_empty_36 : decode cX12_empty 36 = .ok (.iload_n 3, 1) := bg02_8.1.2.2.1
theorem dX12_empty_37 : decode cX12_empty 37 = .ok (.iload_n 1, 1) := bg02_8.1.2.2.2
theorem dX12_empty_38 : decode cX12_empty 38 = .ok (.if_icmp .ge 29, 3) := bg02_8.2.1.1.1
theorem dX12_empty_41 : decode cX12_empty 41 = .ok (.aload_n 0, 1) := bg02_8.2.1.1.2
theorem dX12_empty_42 : decode cX12_empty 42 = .ok (.iconst 1, 1) := bg02_8.2.1.2.1
theorem dX12_empty_43 : decode cX12_empty 43 = .ok (.invokevirtual 432, 3) := bg02_8.2.1.2.2
theorem dX12_empty_46 : decode cX12_empty 46 = .ok (.iload_n 2, 1) := bg02_8.2.2.1.1
theorem dX12_empty_47 : decode cX12_empty 47 = .ok (.aload_n 0, 1) := bg02_8.2.2.1.2
theorem dX12_empty_48 : decode cX12_empty 48 = .ok (.invokevirtual 399, 3) := bg02_8.2.2.2.1
theorem dX12_empty_51 : decode cX12_empty 51 = .ok (.ifCond .ne 7, 3) := bg02_8.2.2.2.2
theorem bg02_9 : (((decode cX12_empty 54 = .ok (.iconst 1, 1) ∧ decode cX12_empty 55 = .ok (.goto 4, 3)) ∧ (decode cX12_empty 58 = .ok (.iconst 0, 1) ∧ decode cX12_empty 59 = .ok (.iadd, 1))) ∧ ((decode cX12_empty 60 = .ok (.istore_n 2, 1) ∧ decode cX12_empty 61 = .ok (.iinc 3 1, 3)) ∧ (decode cX12_empty 64 = .ok (.goto (-28), 3)))) ∧ (((decode cX12_empty 67 = .ok (.aload_n 0, 1) ∧ decode cX12_empty 68 = .ok (.aload_n 0, 1)) ∧ (decode cX12_empty 69 = .ok (.getfield 118, 3) ∧ decode cX12_empty 72 = .ok (.iconst 0, 1))) ∧ ((decode cX12_empty 73 = .ok (.invokevirtual 446, 3) ∧ decode cX12_empty 76 = .ok (.iload_n 2, 1)) ∧ (decode cX12_empty 77 = .ok (.ireturn, 1)))) := by decide +kernel
theorem dX12_empty_54 : decode cX12_empty 54 = .ok (.iconst 1, 1) := bg02_9.1.1.1.1
theorem dX12_empty_55 : decode cX12_empty 55 = .ok (.goto 4, 3) := bg02_9.1.1.1.2
theorem dX12_empty_58 : decode cX12_empty 58 = .ok (.iconst 0, 1) := bg02_9.1.1.2.1
theorem dX12_empty_59 : decode cX12_empty 59 = .ok (.iadd, 1) := bg02_9.1.1.2.2
theorem dX12_empty_60 : decode cX12_empty 60 = .ok (.istore_n 2, 1) := bg02_9.1.2.1.1
theorem dX12_empty_61 : decode cX12_empty 61 = .ok (.iinc 3 1, 3) := bg02_9.1.2.1.2
theorem dX12_empty_64 : decode cX12_empty 64 = .ok (.goto (-28), 3) := bg02_9.1.2.2
theorem dX12_empty_67 : decode cX12_empty 67 = .ok (.aload_n 0, 1) := bg02_9.2.1.1.1
theorem dX12_empty_68 : decode cX12_empty 68 = .ok (.aload_n 0, 1) := bg02_9.2.1.1.2
theorem dX12_empty_69 : decode cX12_empty 69 = .ok (.getfield 118, 3) := bg02_9.2.1.2.1
theorem dX12_empty_72 : decode cX12_empty 72 = .ok (.iconst 0, 1) := bg02_9.2.1.2.2
theorem dX12_empty_73 : decode cX12_empty 73 = .ok (.invokevirtual 446, 3) := bg02_9.2.2.1.1
theorem dX12_empty_76 : decode cX12_empty 76 = .ok (.iload_n 2, 1) := bg02_9.2.2.1.2
theorem dX12_empty_77 : decode cX12_empty 77 = .ok (.ireturn, 1) := bg02_9.2.2.2
theorem bg02_10 : (((decode cX12_homes 0 = .ok (.aload_n 0, 1) ∧ decode cX12_homes 1 = .ok (.iconst 0, 1)) ∧ (decode cX12_homes 2 = .ok (.putfield 163, 3) ∧ decode cX12_homes 5 = .ok (.iconst 0, 1))) ∧ ((decode cX12_homes 6 = .ok (.istore_n 1, 1) ∧ decode cX12_homes 7 = .ok (.iconst 0, 1)) ∧ (decode cX12_homes 8 = .ok (.istore_n 2, 1) ∧ decode cX12_homes 9 = .ok (.iload_n 2, 1)))) ∧ (((decode cX12_homes 10 = .ok (.aload_n 0, 1) ∧ decode cX12_homes 11 = .ok (.getfield 42, 3)) ∧ (decode cX12_homes 14 = .ok (.iconst 1, 1) ∧ decode cX12_homes 15 = .ok (.iaload, 1))) ∧ ((decode cX12_homes 16 = .ok (.if_icmp .ge 44, 3) ∧ decode cX12_homes 19 = .ok (.iload_n 1, 1)) ∧ (decode cX12_homes 20 = .ok (.aload_n 0, 1) ∧ decode cX12_homes 21 = .ok (.getfield 106, 3)))) := by decide +kernel
theorem dX12_homes_0 : decode cX12_homes 0 = .ok (.aload_n 0, 1) := bg02_10.1.1.1.1
theorem dX12_homes_1 : decode cX12_homes 1 = .ok (.iconst 0, 1) := bg02_10.1.1.1.2
theorem dX12_homes_2 : decode cX12_homes 2 = .ok (.putfield 163, 3) := bg02_10.1.1.2.1
theorem dX12_homes_5 : decode cX12_homes 5 = .ok (.iconst 0, 1) := bg02_10.1.1.2.2
theorem dX12_homes_6 : decode cX12_homes 6 = .ok (.istore_n 1, 1) := bg02_10.1.2.1.1
theorem dX12_homes_7 : decode cX12_homes 7 = .ok (.iconst 0, 1) := bg02_10.1.2.1.2
theorem dX12_homes_8 : decode cX12_homes 8 = .ok (.istore_n 2, 1) := bg02_10.1.2.2.1
theorem dX12_homes_9 : decode cX12_homes 9 = .ok (.iload_n 2, 1) := bg02_10.1.2.2.2
theorem dX12_homes_10 : decode cX12_homes 10 = .ok (.aload_n 0, 1) := bg02_10.2.1.1.1
theorem dX12_homes_11 : decode cX12_homes 11 = .ok (.getfield 42, 3) := bg02_10.2.1.1.2
theorem dX12_homes_14 : decode cX12_homes 14 = .ok (.iconst 1, 1) := bg02_10.2.1.2.1
theorem dX12_homes_15 : decode cX12_homes 15 = .ok (.iaload, 1) := bg02_10.2.1.2.2
theorem dX12_homes_16 : decode cX12_homes 16 = .ok (.if_icmp .ge 44, 3) := bg02_10.2.2.1.1
theorem dX12_homes_19 : decode cX12_homes 19 = .ok (.iload_n 1, 1) := bg02_10.2.2.1.2
theorem dX12_homes_20 : decode cX12_homes 20 = .ok (.aload_n 0, 1) := bg02_10.2.2.2.1
theorem dX12_homes_21 : decode cX12_homes 21 = .ok (.getfield 106, 3) := bg02_10.2.2.2.2
theorem bg02_11 : (((decode cX12_homes 24 = .ok (.iload_n 2, 1) ∧ decode cX12_homes 25 = .ok (.iaload, 1)) ∧ (decode cX12_homes 26 = .ok (.iconst (-1), 1) ∧ decode cX12_homes 27 = .ok (.if_icmp .eq 24, 3))) ∧ ((decode cX12_homes 30 = .ok (.aload_n 0, 1) ∧ decode cX12_homes 31 = .ok (.getfield 106, 3)) ∧ (decode cX12_homes 34 = .ok (.iload_n 2, 1) ∧ decode cX12_homes 35 = .ok (.iaload, 1)))) ∧ (((decode cX12_homes 36 = .ok (.aload_n 0, 1) ∧ decode cX12_homes 37 = .ok (.getfield 104, 3)) ∧ (decode cX12_homes 40 = .ok (.iload_n 2, 1) ∧ decode cX12_homes 41 = .ok (.iaload, 1))) ∧ ((decode cX12_homes 42 = .ok (.if_icmp .ne 9, 3) ∧ decode cX12_homes 45 = .ok (.iconst 1, 1)) ∧ (decode cX12_homes 46 = .ok (.iload_n 2, 1) ∧ decode cX12_homes 47 = .ok (.ishl, 1)))) := by decide +kernel
theorem dX12_homes_24 : decode cX12_homes 24 = .ok (.iload_n 2, 1) := bg02_11.1.1.1.1
theorem dX12_homes_25 : decode cX12_homes 25 = .ok (.iaload, 1) := bg02_11.1.1.1.2
theorem dX12_homes_26 : decode cX12_homes 26 = .ok (.iconst (-1), 1) := bg02_11.1.1.2.1
theorem dX12_homes_27 : decode cX12_homes 27 = .ok (.if_icmp .eq 24, 3) := bg02_11.1.1.2.2
theorem dX12_homes_30 : decode cX12_homes 30 = .ok (.aload_n 0, 1) := bg02_11.1.2.1.1
theorem dX12_homes_31 : decode cX12_homes 31 = .ok (.getfield 106, 3) := bg02_11.1.2.1.2
theorem dX12_homes_34 : decode cX12_homes 34 = .ok (.iload_n 2, 1) := bg02_11.1.2.2.1
theorem dX12_homes_35 : decode cX12_homes 35 = .ok (.iaload, 1) := bg02_11.1.2.2.2
theorem dX12_homes_36 : decode cX12_homes 36 = .ok (.aload_n 0, 1) := bg02_11.2.1.1.1
theorem dX12_homes_37 : decode cX12_homes 37 = .ok (.getfield 104, 3) := bg02_11.2.1.1.2
theorem dX12_homes_40 : decode cX12_homes 40 = .ok (.iload_n 2, 1) := bg02_11.2.1.2.1
theorem dX12_homes_41 : decode cX12_homes 41 = .ok (.iaload, 1) := bg02_11.2.1.2.2
theorem dX12_homes_42 : decode cX12_homes 42 = .ok (.if_icmp .ne 9, 3) := bg02_11.2.2.1.1
theorem dX12_homes_45 : decode cX12_homes 45 = .ok (.iconst 1, 1) := bg02_11.2.2.1.2
theorem dX12_homes_46 : decode cX12_homes 46 = .ok (.iload_n 2, 1) := bg02_11.2.2.2.1
theorem dX12_homes_47 : decode cX12_homes 47 = .ok (.ishl, 1) := bg02_11.2.2.2.2
theorem bg02_12 : ((decode cX12_homes 48 = .ok (.goto 4, 3) ∧ decode cX12_homes 51 = .ok (.iconst 0, 1)) ∧ (decode cX12_homes 52 = .ok (.ior, 1) ∧ decode cX12_homes 53 = .ok (.istore_n 1, 1))) ∧ ((decode cX12_homes 54 = .ok (.iinc 2 1, 3) ∧ decode cX12_homes 57 = .ok (.goto (-48), 3)) ∧ (decode cX12_homes 60 = .ok (.iload_n 1, 1) ∧ decode cX12_homes 61 = .ok (.ireturn, 1))) := by decide +kernel
theorem dX12_homes_48 : decode cX12_homes 48 = .ok (.goto 4, 3) := bg02_12.1.1.1
theorem dX12_homes_51 : decode cX12_homes 51 = .ok (.iconst 0, 1) := bg02_12.1.1.2
theorem dX12_homes_52 : decode cX12_homes 52 = .ok (.ior, 1) := bg02_12.1.2.1
theorem dX12_homes_53 : decode cX12_homes 53 = .ok (.istore_n 1, 1) := bg02_12.1.2.2
theorem dX12_homes_54 : decode cX12_homes 54 = .ok (.iinc 2 1, 3) := bg02_12.2.1.1
theorem dX12_homes_57 : decode cX12_homes 57 = .ok (.goto (-48), 3) := bg02_12.2.1.2
theorem dX12_homes_60 : decode cX12_homes 60 = .ok (.iload_n 1, 1) := bg02_12.2.2.1
theorem dX12_homes_61 : decode cX12_homes 61 = .ok (.ireturn, 1) := bg02_12.2.2.2
theorem bg02_13 : (((decode cX12_unlike 0 = .ok (.aload_n 0, 1) ∧ decode cX12_unlike 1 = .ok (.iconst 0, 1)) ∧ (decode cX12_unlike 2 = .ok (.putfield 163, 3) ∧ decode cX12_unlike 5 = .ok (.iload_n 3, 1))) ∧ ((decode cX12_unlike 6 = .ok (.iconst 1, 1) ∧ decode cX12_unlike 7 = .ok (.if_icmp .ne 11, 3)) ∧ (decode cX12_unlike 10 = .ok (.aload_n 0, 1) ∧ decode cX12_unlike 11 = .ok (.iload_n 1, 1)))) ∧ (((decode cX12_unlike 12 = .ok (.invokevirtual 411, 3) ∧ decode cX12_unlike 15 = .ok (.goto 8, 3)) ∧ (decode cX12_unlike 18 = .ok (.aload_n 0, 1) ∧ decode cX12_unlike 19 = .ok (.iload_n 1, 1))) ∧ ((decode cX12_unlike 20 = .ok (.invokevirtual 417, 3) ∧ decode cX12_unlike 23 = .ok (.istore 4, 2)) ∧ (decode cX12_unlike 25 = .ok (.iload_n 3, 1) ∧ decode cX12_unlike 26 = .ok (.iconst 2, 1)))) := by decide +kernel
theorem dX12_unlike_0 : decode cX12_unlike 0 = .ok (.aload_n 0, 1) := bg02_13.1.1.1.1
theorem dX12_unlike_1 : decode cX12_unlike 1 = .ok (.iconst 0, 1) := bg02_13.1.1.1.2
theorem dX12_unlike_2 : decode cX12_unlike 2 = .ok (.putfield 163, 3) := bg02_13.1.1.2.1
theorem dX12_unlike_5 : decode cX12_unlike 5 = .ok (.iload_n 3, 1) := bg02_13.1.1.2.2
theorem dX12_unlike_6 : decode cX12_unlike 6 = .ok (.iconst 1, 1) := bg02_13.1.2.1.1
theorem dX12_unlike_7 : decode cX12_unlike 7 = .ok (.if_icmp .ne 11, 3) := bg02_13.1.2.1.2
theorem dX12_unlike_10 : decode cX12_unlike 10 = .ok (.aload_n 0, 1) := bg02_13.1.2.2.1
theorem dX12_unlike_11 : decode cX12_unlike 11 = .ok (.iload_n 1, 1) := bg02_13.1.2.2.2
theorem dX12_unlike_12 : decode cX12_unlike 12 = .ok (.invokevirtual 411, 3) := bg02_13.2.1.1.1
theorem dX12_unlike_15 : decode cX12_unlike 15 = .ok (.goto 8, 3) := bg02_13.2.1.1.2
theorem dX12_unlike_18 : decode cX12_unlike 18 = .ok (.aload_n 0, 1) := bg02_13.2.1.2.1
theorem dX12_unlike_19 : decode cX12_unlike 19 = .ok (.iload_n 1, 1) := bg02_13.2.1.2.2
theorem dX12_unlike_20 : decode cX12_unlike 20 = .ok (.invokevirtual 417, 3) := bg02_13.2.2.1.1
theorem dX12_unlike_23 : decode cX12_unlike 23 = .ok (.istore 4, 2) := bg02_13.2.2.1.2
theorem dX12_unlike_25 : decode cX12_unlike 25 = .ok (.iload_n 3, 1) := bg02_13.2.2.2.1
theorem dX12_unlike_26 : decode cX12_unlike 26 = .ok (.iconst 2, 1) := bg02_13.2.2.2.2
theorem bg02_14 : (((decode cX12_unlike 27 = .ok (.if_icmp .ne 11, 3) ∧ decode cX12_unlike 30 = .ok (.aload_n 0, 1)) ∧ (decode cX12_unlike 31 = .ok (.iload_n 2, 1) ∧ decode cX12_unlike 32 = .ok (.invokevirtual 417, 3))) ∧ ((decode cX12_unlike 35 = .ok (.goto 8, 3) ∧ decode cX12_unlike 38 = .ok (.aload_n 0, 1)) ∧ (decode cX12_unlike 39 = .ok (.iload_n 2, 1) ∧ decode cX12_unlike 40 = .ok (.invokevirtual 411, 3)))) ∧ (((decode cX12_unlike 43 = .ok (.istore 5, 2) ∧ decode cX12_unlike 45 = .ok (.iload_n 3, 1)) ∧ (decode cX12_unlike 46 = .ok (.i2l, 1) ∧ decode cX12_unlike 47 = .ok (.lconst 0, 1))) ∧ ((decode cX12_unlike 48 = .ok (.ldc2_w 458, 3) ∧ decode cX12_unlike 51 = .ok (.invokestatic 166, 3)) ∧ (decode cX12_unlike 54 = .ok (.ifCond .eq 13, 3) ∧ decode cX12_unlike 57 = .ok (.iload 4, 2)))) := by decide +kernel
theorem dX12_unlike_27 : decode cX12_unlike 27 = .ok (.if_icmp .ne 11, 3) := bg02_14.1.1.1.1
theorem dX12_unlike_30 : decode cX12_unlike 30 = .ok (.aload_n 0, 1) := bg02_14.1.1.1.2
theorem dX12_unlike_31 : decode cX12_unlike 31 = .ok (.iload_n 2, 1) := bg02_14.1.1.2.1
theorem dX12_unlike_32 : decode cX12_unlike 32 = .ok (.invokevirtual 417, 3) := bg02_14.1.1.2.2
theorem dX12_unlike_35 : decode cX12_unlike 35 = .ok (.goto 8, 3) := bg02_14.1.2.1.1
theorem dX12_unlike_38 : decode cX12_unlike 38 = .ok (.aload_n 0, 1) := bg02_14.1.2.1.2
theorem dX12_unlike_39 : decode cX12_unlike 39 = .ok (.iload_n 2, 1) := bg02_14.1.2.2.1
theorem dX12_unlike_40 : decode cX12_unlike 40 = .ok (.invokevirtual 411, 3) := bg02_14.1.2.2.2
theorem dX12_unlike_43 : decode cX12_unlike 43 = .ok (.istore 5, 2) := bg02_14.2.1.1.1
theorem dX12_unlike_45 : decode cX12_unlike 45 = .ok (.iload_n 3, 1) := bg02_14.2.1.1.2
theorem dX12_unlike_46 : decode cX12_unlike 46 = .ok (.i2l, 1) := bg02_14.2.1.2.1
theorem dX12_unlike_47 : decode cX12_unlike 47 = .ok (.lconst 0, 1) := bg02_14.2.1.2.2
theorem dX12_unlike_48 : decode cX12_unlike 48 = .ok (.ldc2_w 458, 3) := bg02_14.2.2.1.1
theorem dX12_unlike_51 : decode cX12_unlike 51 = .ok (.invokestatic 166, 3) := bg02_14.2.2.1.2
theorem dX12_unlike_54 : decode cX12_unlike 54 = .ok (.ifCond .eq 13, 3) := bg02_14.2.2.2.1
theorem dX12_unlike_57 : decode cX12_unlike 57 = .ok (.iload 4, 2) := bg02_14.2.2.2.2
theorem bg02_15 : (((decode cX12_unlike 59 = .ok (.ifCond .eq 8, 3) ∧ decode cX12_unlike 62 = .ok (.iload 5, 2)) ∧ (decode cX12_unlike 64 = .ok (.ifCond .ne 9, 3) ∧ decode cX12_unlike 67 = .ok (.aload_n 0, 1))) ∧ ((decode cX12_unlike 68 = .ok (.iconst 1, 1) ∧ decode cX12_unlike 69 = .ok (.invokevirtual 310, 3)) ∧ (decode cX12_unlike 72 = .ok (.ireturn, 1) ∧ decode cX12_unlike 73 = .ok (.iload_n 3, 1)))) ∧ (((decode cX12_unlike 74 = .ok (.ifCond .ne 12, 3) ∧ decode cX12_unlike 77 = .ok (.aload_n 0, 1)) ∧ (decode cX12_unlike 78 = .ok (.iload_n 1, 1) ∧ decode cX12_unlike 79 = .ok (.iload_n 2, 1))) ∧ ((decode cX12_unlike 80 = .ok (.invokevirtual 352, 3) ∧ decode cX12_unlike 83 = .ok (.goto 50, 3)) ∧ (decode cX12_unlike 86 = .ok (.iload_n 3, 1) ∧ decode cX12_unlike 87 = .ok (.iconst 2, 1)))) := by decide +kernel
theorem dX12_unlike_59 : decode cX12_unlike 59 = .ok (.ifCond .eq 8, 3) := bg02_15.1.1.1.1
theorem dX12_unlike_62 : decode cX12_unlike 62 = .ok (.iload 5, 2) := bg02_15.1.1.1.2
theorem dX12_unlike_64 : decode cX12_unlike 64 = .ok (.ifCond .ne 9, 3) := bg02_15.1.1.2.1
theorem dX12_unlike_67 : decode cX12_unlike 67 = .ok (.aload_n 0, 1) := bg02_15.1.1.2.2
theorem dX12_unlike_68 : decode cX12_unlike 68 = .ok (.iconst 1, 1) := bg02_15.1.2.1.1
theorem dX12_unlike_69 : decode cX12_unlike 69 = .ok (.invokevirtual 310, 3) := bg02_15.1.2.1.2
theorem dX12_unlike_72 : decode cX12_unlike 72 = .ok (.ireturn, 1) := bg02_15.1.2.2.1
theorem dX12_unlike_73 : decode cX12_unlike 73 = .ok (.iload_n 3, 1) := bg02_15.1.2.2.2
theorem dX12_unlike_74 : decode cX12_unlike 74 = .ok (.ifCond .ne 12, 3) := bg02_15.2.1.1.1
theorem dX12_unlike_77 : decode cX12_unlike 77 = .ok (.aload_n 0, 1) := bg02_15.2.1.1.2
theorem dX12_unlike_78 : decode cX12_unlike 78 = .ok (.iload_n 1, 1) := bg02_15.2.1.2.1
theorem dX12_unlike_79 : decode cX12_unlike 79 = .ok (.iload_n 2, 1) := bg02_15.2.1.2.2
theorem dX12_unlike_80 : decode cX12_unlike 80 = .ok (.invokevirtual 352, 3) := bg02_15.2.2.1.1
theorem dX12_unlike_83 : decode cX12_unlike 83 = .ok (.goto 50, 3) := bg02_15.2.2.1.2
theorem dX12_unlike_86 : decode cX12_unlike 86 = .ok (.iload_n 3, 1) := bg02_15.2.2.2.1
theorem dX12_unlike_87 : decode cX12_unlike 87 = .ok (.iconst 2, 1) := bg02_15.2.2.2.2
theorem bg02_16 : (((decode cX12_unlike 88 = .ok (.if_icmp .ne 12, 3) ∧ decode cX12_unlike 91 = .ok (.aload_n 0, 1)) ∧ (decode cX12_unlike 92 = .ok (.iload_n 1, 1) ∧ decode cX12_unlike 93 = .ok (.iload_n 2, 1))) ∧ ((decode cX12_unlike 94 = .ok (.invokevirtual 390, 3) ∧ decode cX12_unlike 97 = .ok (.goto 36, 3)) ∧ (decode cX12_unlike 100 = .ok (.aload_n 0, 1) ∧ decode cX12_unlike 101 = .ok (.getfield 88, 3)))) ∧ (((decode cX12_unlike 104 = .ok (.iload_n 1, 1) ∧ decode cX12_unlike 105 = .ok (.iaload, 1)) ∧ (decode cX12_unlike 106 = .ok (.aload_n 0, 1) ∧ decode cX12_unlike 107 = .ok (.getfield 88, 3))) ∧ ((decode cX12_unlike 110 = .ok (.iload_n 2, 1) ∧ decode cX12_unlike 111 = .ok (.iaload, 1)) ∧ (decode cX12_unlike 112 = .ok (.isub, 1) ∧ decode cX12_unlike 113 = .ok (.invokestatic 339, 3)))) := by decide +kernel
theorem dX12_unlike_88 : decode cX12_unlike 88 = .ok (.if_icmp .ne 12, 3) := bg02_16.1.1.1.1
theorem dX12_unlike_91 : decode cX12_unlike 91 = .ok (.aload_n 0, 1) := bg02_16.1.1.1.2
theorem dX12_unlike_92 : decode cX12_unlike 92 = .ok (.iload_n 1, 1) := bg02_16.1.1.2.1
theorem dX12_unlike_93 : decode cX12_unlike 93 = .ok (.iload_n 2, 1) := bg02_16.1.1.2.2
theorem dX12_unlike_94 : decode cX12_unlike 94 = .ok (.invokevirtual 390, 3) := bg02_16.1.2.1.1
theorem dX12_unlike_97 : decode cX12_unlike 97 = .ok (.goto 36, 3) := bg02_16.1.2.1.2
theorem dX12_unlike_100 : decode cX12_unlike 100 = .ok (.aload_n 0, 1) := bg02_16.1.2.2.1
theorem dX12_unlike_101 : decode cX12_unlike 101 = .ok (.getfield 88, 3) := bg02_16.1.2.2.2
theorem dX12_unlike_104 : decode cX12_unlike 104 = .ok (.iload_n 1, 1) := bg02_16.2.1.1.1
theorem dX12_unlike_105 : decode cX12_unlike 105 = .ok (.iaload, 1) := bg02_16.2.1.1.2
theorem dX12_unlike_106 : decode cX12_unlike 106 = .ok (.aload_n 0, 1) := bg02_16.2.1.2.1
theorem dX12_unlike_107 : decode cX12_unlike 107 = .ok (.getfield 88, 3) := bg02_16.2.1.2.2
theorem dX12_unlike_110 : decode cX12_unlike 110 = .ok (.iload_n 2, 1) := bg02_16.2.2.1.1
theorem dX12_unlike_111 : decode cX12_unlike 111 = .ok (.iaload, 1) := bg02_16.2.2.1.2
theorem dX12_unlike_112 : decode cX12_unlike 112 = .ok (.isub, 1) := bg02_16.2.2.2.1
theorem dX12_unlike_113 : decode cX12_unlike 113 = .ok (.invokestatic 339, 3) := bg02_16.2.2.2.2
theorem bg02_17 : (((decode cX12_unlike 116 = .ok (.aload_n 0, 1) ∧ decode cX12_unlike 117 = .ok (.getfield 91, 3)) ∧ (decode cX12_unlike 120 = .ok (.iload_n 1, 1))) ∧ ((decode cX12_unlike 121 = .ok (.iaload, 1) ∧ decode cX12_unlike 122 = .ok (.aload_n 0, 1)) ∧ (decode cX12_unlike 123 = .ok (.getfield 91, 3)))) ∧ (((decode cX12_unlike 126 = .ok (.iload_n 2, 1) ∧ decode cX12_unlike 127 = .ok (.iaload, 1)) ∧ (decode cX12_unlike 128 = .ok (.isub, 1))) ∧ ((decode cX12_unlike 129 = .ok (.invokestatic 339, 3) ∧ decode cX12_unlike 132 = .ok (.iadd, 1)) ∧ (decode cX12_unlike 133 = .ok (.ireturn, 1)))) := by decide +kernel
theorem dX12_unlike_116 : decode cX12_unlike 116 = .ok (.aload_n 0, 1) := bg02_17.1.1.1.1
theorem dX12_unlike_117 : decode cX12_unlike 117 = .ok (.getfield 91, 3) := bg02_17.1.1.1.2
theorem dX12_unlike_120 : decode cX12_unlike 120 = .ok (.iload_n 1, 1) := bg02_17.1.1.2
theorem dX12_unlike_121 : decode cX12_unlike 121 = .ok (.iaload, 1) := bg02_17.1.2.1.1
theorem dX12_unlike_122 : decode cX12_unlike 122 = .ok (.aload_n 0, 1) := bg02_17.1.2.1.2
theorem dX12_unlike_123 : decode cX12_unlike 123 = .ok (.getfield 91, 3) := bg02_17.1.2.2
theorem dX12_unlike_126 : decode cX12_unlike 126 = .ok (.iload_n 2, 1) := bg02_17.2.1.1.1
theorem dX12_unlike_127 : decode cX12_unlike 127 = .ok (.iaload, 1) := bg02_17.2.1.1.2
theorem dX12_unlike_128 : decode cX12_unlike 128 = .ok (.isub, 1) := bg02_17.2.1.2
theorem dX12_unlike_129 : decode cX12_unlike 129 = .ok (.invokestatic 339, 3) := bg02_17.2.2.1.1
theorem dX12_unlike_132 : decode cX12_unlike 132 = .ok (.iadd, 1) := bg02_17.2.2.1.2
theorem dX12_unlike_133 : decode cX12_unlike 133 = .ok (.ireturn, 1) := bg02_17.2.2.2
theorem bg02_18 : (((decode cX12_goesOn 0 = .ok (.aload_n 0, 1) ∧ decode cX12_goesOn 1 = .ok (.getfield 121, 3)) ∧ (decode cX12_goesOn 4 = .ok (.iload_n 1, 1))) ∧ ((decode cX12_goesOn 5 = .ok (.iconst 1, 1) ∧ decode cX12_goesOn 6 = .ok (.iadd, 1)) ∧ (decode cX12_goesOn 7 = .ok (.bipush 8, 2)))) ∧ (((decode cX12_goesOn 9 = .ok (.ishl, 1) ∧ decode cX12_goesOn 10 = .ok (.iload_n 2, 1)) ∧ (decode cX12_goesOn 11 = .ok (.iadd, 1))) ∧ (decode cX12_goesOn 12 = .ok (.iaload, 1) ∧ decode cX12_goesOn 13 = .ok (.ireturn, 1))) := by decide +kernel
theorem dX12_goesOn_0 : decode cX12_goesOn 0 = .ok (.aload_n 0, 1) := bg02_18.1.1.1.1
theorem dX12_goesOn_1 : decode cX12_goesOn 1 = .ok (.getfield 121, 3) := bg02_18.1.1.1.2
theorem dX12_goesOn_4 : decode cX12_goesOn 4 = .ok (.iload_n 1, 1) := bg02_18.1.1.2
theorem dX12_goesOn_5 : decode cX12_goesOn 5 = .ok (.iconst 1, 1) := bg02_18.1.2.1.1
theorem dX12_goesOn_6 : decode cX12_goesOn 6 = .ok (.iadd, 1) := bg02_18.1.2.1.2
theorem dX12_goesOn_7 : decode cX12_goesOn 7 = .ok (.bipush 8, 2) := bg02_18.1.2.2
theorem dX12_goesOn_9 : decode cX12_goesOn 9 = .ok (.ishl, 1) := bg02_18.2.1.1.1
theorem dX12_goesOn_10 : decode cX12_goesOn 10 = .ok (.iload_n 2, 1) := bg02_18.2.1.1.2
theorem dX12_goesOn_11 : decode cX12_goesOn 11 = .ok (.iadd, 1) := bg02_18.2.1.2
theorem dX12_goesOn_12 : decode cX12_goesOn 12 = .ok (.iaload, 1) := bg02_18.2.2.1
theorem dX12_goesOn_13 : decode cX12_goesOn 13 = .ok (.ireturn, 1) := bg02_18.2.2.2
theorem bg02_19 : (((decode cX12_tellSeats 0 = .ok (.iconst 0, 1) ∧ decode cX12_tellSeats 1 = .ok (.istore_n 1, 1)) ∧ (decode cX12_tellSeats 2 = .ok (.iload_n 1, 1) ∧ decode cX12_tellSeats 3 = .ok (.iconst 1, 1))) ∧ ((decode cX12_tellSeats 4 = .ok (.aload_n 0, 1) ∧ decode cX12_tellSeats 5 = .ok (.getfield 42, 3)) ∧ (decode cX12_tellSeats 8 = .ok (.iconst 0, 1) ∧ decode cX12_tellSeats 9 = .ok (.iaload, 1)))) ∧ (((decode cX12_tellSeats 10 = .ok (.ishl, 1) ∧ decode cX12_tellSeats 11 = .ok (.if_icmp .ge 26, 3)) ∧ (decode cX12_tellSeats 14 = .ok (.aload_n 0, 1) ∧ decode cX12_tellSeats 15 = .ok (.getfield 121, 3))) ∧ ((decode cX12_tellSeats 18 = .ok (.aload_n 0, 1) ∧ decode cX12_tellSeats 19 = .ok (.getfield 42, 3)) ∧ (decode cX12_tellSeats 22 = .ok (.iconst 1, 1) ∧ decode cX12_tellSeats 23 = .ok (.iaload, 1)))) := by decide +kernel
theorem dX12_tellSeats_0 : decode cX12_tellSeats 0 = .ok (.iconst 0, 1) := bg02_19.1.1.1.1
theorem dX12_tellSeats_1 : decode cX12_tellSeats 1 = .ok (.istore_n 1, 1) := bg02_19.1.1.1.2
theorem dX12_tellSeats_2 : decode cX12_tellSeats 2 = .ok (.iload_n 1, 1) := bg02_19.1.1.2.1
theorem dX12_tellSeats_3 : decode cX12_tellSeats 3 = .ok (.iconst 1, 1) := bg02_19.1.1.2.2
theorem dX12_tellSeats_4 : decode cX12_tellSeats 4 = .ok (.aload_n 0, 1) := bg02_19.1.2.1.1
theorem dX12_tellSeats_5 : decode cX12_tellSeats 5 = .ok (.getfield 42, 3) := bg02_19.1.2.1.2
theorem dX12_tellSeats_8 : decode cX12_tellSeats 8 = .ok (.iconst 0, 1) := bg02_19.1.2.2.1
theorem dX12_tellSeats_9 : decode cX12_tellSeats 9 = .ok (.iaload, 1) := bg02_19.1.2.2.2
theorem dX12_tellSeats_10 : decode cX12_tellSeats 10 = .ok (.ishl, 1) := bg02_19.2.1.1.1
theorem dX12_tellSeats_11 : decode cX12_tellSeats 11 = .ok (.if_icmp .ge 26, 3) := bg02_19.2.1.1.2
theorem dX12_tellSeats_14 : decode cX12_tellSeats 14 = .ok (.aload_n 0, 1) := bg02_19.2.1.2.1
theorem dX12_tellSeats_15 : decode cX12_tellSeats 15 = .ok (.getfield 121, 3) := bg02_19.2.1.2.2
theorem dX12_tellSeats_18 : decode cX12_tellSeats 18 = .ok (.aload_n 0, 1) := bg02_19.2.2.1.1
theorem dX12_tellSeats_19 : decode cX12_tellSeats 19 = .ok (.getfield 42, 3) := bg02_19.2.2.1.2
theorem dX12_tellSeats_22 : decode cX12_tellSeats 22 = .ok (.iconst 1, 1) := bg02_19.2.2.2.1
theorem dX12_tellSeats_23 : decode cX12_tellSeats 23 = .ok (.iaload, 1) := bg02_19.2.2.2.2
theorem bg02_20 : (((decode cX12_tellSeats 24 = .ok (.bipush 8, 2) ∧ decode cX12_tellSeats 26 = .ok (.ishl, 1)) ∧ (decode cX12_tellSeats 27 = .ok (.iload_n 1, 1) ∧ decode cX12_tellSeats 28 = .ok (.iadd, 1))) ∧ ((decode cX12_tellSeats 29 = .ok (.iconst 0, 1) ∧ decode cX12_tellSeats 30 = .ok (.iastore, 1)) ∧ (decode cX12_tellSeats 31 = .ok (.iinc 1 1, 3) ∧ decode cX12_tellSeats 34 = .ok (.goto (-32), 3)))) ∧ (((decode cX12_tellSeats 37 = .ok (.aload_n 0, 1) ∧ decode cX12_tellSeats 38 = .ok (.getfield 42, 3)) ∧ (decode cX12_tellSeats 41 = .ok (.iconst 1, 1) ∧ decode cX12_tellSeats 42 = .ok (.iaload, 1))) ∧ ((decode cX12_tellSeats 43 = .ok (.iconst 1, 1) ∧ decode cX12_tellSeats 44 = .ok (.isub, 1)) ∧ (decode cX12_tellSeats 45 = .ok (.istore_n 1, 1) ∧ decode cX12_tellSeats 46 = .ok (.iload_n 1, 1)))) := by decide +kernel
theorem dX12_tellSeats_24 : decode cX12_tellSeats 24 = .ok (.bipush 8, 2) := bg02_20.1.1.1.1
theorem dX12_tellSeats_26 : decode cX12_tellSeats 26 = .ok (.ishl, 1) := bg02_20.1.1.1.2
theorem dX12_tellSeats_27 : decode cX12_tellSeats 27 = .ok (.iload_n 1, 1) := bg02_20.1.1.2.1
theorem dX12_tellSeats_28 : decode cX12_tellSeats 28 = .ok (.iadd, 1) := bg02_20.1.1.2.2
theorem dX12_tellSeats_29 : decode cX12_tellSeats 29 = .ok (.iconst 0, 1) := bg02_20.1.2.1.1
theorem dX12_tellSeats_30 : decode cX12_tellSeats 30 = .ok (.iastore, 1) := bg02_20.1.2.1.2
theorem dX12_tellSeats_31 : decode cX12_tellSeats 31 = .ok (.iinc 1 1, 3) := bg02_20.1.2.2.1
theorem dX12_tellSeats_34 : decode cX12_tellSeats 34 = .ok (.goto (-32), 3) := bg02_20.1.2.2.2
theorem dX12_tellSeats_37 : decode cX12_tellSeats 37 = .ok (.aload_n 0, 1) := bg02_20.2.1.1.1
theorem dX12_tellSeats_38 : decode cX12_tellSeats 38 = .ok (.getfield 42, 3) := bg02_20.2.1.1.2
theorem dX12_tellSeats_41 : decode cX12_tellSeats 41 = .ok (.iconst 1, 1) := bg02_20.2.1.2.1
theorem dX12_tellSeats_42 : decode cX12_tellSeats 42 = .ok (.iaload, 1) := bg02_20.2.1.2.2
theorem dX12_tellSeats_43 : decode cX12_tellSeats 43 = .ok (.iconst 1, 1) := bg02_20.2.2.1.1
theorem dX12_tellSeats_44 : decode cX12_tellSeats 44 = .ok (.isub, 1) := bg02_20.2.2.1.2
theorem dX12_tellSeats_45 : decode cX12_tellSeats 45 = .ok (.istore_n 1, 1) := bg02_20.2.2.2.1
theorem dX12_tellSeats_46 : decode cX12_tellSeats 46 = .ok (.iload_n 1, 1) := bg02_20.2.2.2.2
theorem bg02_21 : (((decode cX12_tellSeats 47 = .ok (.ifCond .lt 105, 3) ∧ decode cX12_tellSeats 50 = .ok (.iconst 0, 1)) ∧ (decode cX12_tellSeats 51 = .ok (.istore_n 2, 1) ∧ decode cX12_tellSeats 52 = .ok (.iload_n 2, 1))) ∧ ((decode cX12_tellSeats 53 = .ok (.iconst 1, 1) ∧ decode cX12_tellSeats 54 = .ok (.aload_n 0, 1)) ∧ (decode cX12_tellSeats 55 = .ok (.getfield 42, 3) ∧ decode cX12_tellSeats 58 = .ok (.iconst 0, 1)))) ∧ (((decode cX12_tellSeats 59 = .ok (.iaload, 1) ∧ decode cX12_tellSeats 60 = .ok (.ishl, 1)) ∧ (decode cX12_tellSeats 61 = .ok (.if_icmp .ge 85, 3) ∧ decode cX12_tellSeats 64 = .ok (.sipush 1000, 3))) ∧ ((decode cX12_tellSeats 67 = .ok (.aload_n 0, 1) ∧ decode cX12_tellSeats 68 = .ok (.iload_n 1, 1)) ∧ (decode cX12_tellSeats 69 = .ok (.iload_n 2, 1) ∧ decode cX12_tellSeats 70 = .ok (.invokevirtual 466, 3)))) := by decide +kernel
theorem dX12_tellSeats_47 : decode cX12_tellSeats 47 = .ok (.ifCond .lt 105, 3) := bg02_21.1.1.1.1
theorem dX12_tellSeats_50 : decode cX12_tellSeats 50 = .ok (.iconst 0, 1) := bg02_21.1.1.1.2
theorem dX12_tellSeats_51 : decode cX12_tellSeats 51 = .ok (.istore_n 2, 1) := bg02_21.1.1.2.1
theorem dX12_tellSeats_52 : decode cX12_tellSeats 52 = .ok (.iload_n 2, 1) := bg02_21.1.1.2.2
theorem dX12_tellSeats_53 : decode cX12_tellSeats 53 = .ok (.iconst 1, 1) := bg02_21.1.2.1.1
theorem dX12_tellSeats_54 : decode cX12_tellSeats 54 = .ok (.aload_n 0, 1) := bg02_21.1.2.1.2
theorem dX12_tellSeats_55 : decode cX12_tellSeats 55 = .ok (.getfield 42, 3) := bg02_21.1.2.2.1
theorem dX12_tellSeats_58 : decode cX12_tellSeats 58 = .ok (.iconst 0, 1) := bg02_21.1.2.2.2
theorem dX12_tellSeats_59 : decode cX12_tellSeats 59 = .ok (.iaload, 1) := bg02_21.2.1.1.1
theorem dX12_tellSeats_60 : decode cX12_tellSeats 60 = .ok (.ishl, 1) := bg02_21.2.1.1.2
theorem dX12_tellSeats_61 : decode cX12_tellSeats 61 = .ok (.if_icmp .ge 85, 3) := bg02_21.2.1.2.1
theorem dX12_tellSeats_64 : decode cX12_tellSeats 64 = .ok (.sipush 1000, 3) := bg02_21.2.1.2.2
theorem dX12_tellSeats_67 : decode cX12_tellSeats 67 = .ok (.aload_n 0, 1) := bg02_21.2.2.1.1
theorem dX12_tellSeats_68 : decode cX12_tellSeats 68 = .ok (.iload_n 1, 1) := bg02_21.2.2.1.2
theorem dX12_tellSeats_69 : decode cX12_tellSeats 69 = .ok (.iload_n 2, 1) := bg02_21.2.2.2.1
theorem dX12_tellSeats_70 : decode cX12_tellSeats 70 = .ok (.invokevirtual 466, 3) := bg02_21.2.2.2.2
theorem bg02_22 : (((decode cX12_tellSeats 73 = .ok (.iadd, 1) ∧ decode cX12_tellSeats 74 = .ok (.istore_n 3, 1)) ∧ (decode cX12_tellSeats 75 = .ok (.iconst 0, 1) ∧ decode cX12_tellSeats 76 = .ok (.istore 4, 2))) ∧ ((decode cX12_tellSeats 78 = .ok (.iload 4, 2) ∧ decode cX12_tellSeats 80 = .ok (.aload_n 0, 1)) ∧ (decode cX12_tellSeats 81 = .ok (.getfield 42, 3) ∧ decode cX12_tellSeats 84 = .ok (.iconst 0, 1)))) ∧ (((decode cX12_tellSeats 85 = .ok (.iaload, 1) ∧ decode cX12_tellSeats 86 = .ok (.if_icmp .ge 42, 3)) ∧ (decode cX12_tellSeats 89 = .ok (.iload_n 2, 1) ∧ decode cX12_tellSeats 90 = .ok (.iload 4, 2))) ∧ ((decode cX12_tellSeats 92 = .ok (.invokestatic 396, 3) ∧ decode cX12_tellSeats 95 = .ok (.ifCond .ne 27, 3)) ∧ (decode cX12_tellSeats 98 = .ok (.iload_n 3, 1) ∧ decode cX12_tellSeats 99 = .ok (.aload_n 0, 1)))) := by decide +kernel
theorem dX12_tellSeats_73 : decode cX12_tellSeats 73 = .ok (.iadd, 1) := bg02_22.1.1.1.1
theorem dX12_tellSeats_74 : decode cX12_tellSeats 74 = .ok (.istore_n 3, 1) := bg02_22.1.1.1.2
theorem dX12_tellSeats_75 : decode cX12_tellSeats 75 = .ok (.iconst 0, 1) := bg02_22.1.1.2.1
theorem dX12_tellSeats_76 : decode cX12_tellSeats 76 = .ok (.istore 4, 2) := bg02_22.1.1.2.2
theorem dX12_tellSeats_78 : decode cX12_tellSeats 78 = .ok (.iload 4, 2) := bg02_22.1.2.1.1
theorem dX12_tellSeats_80 : decode cX12_tellSeats 80 = .ok (.aload_n 0, 1) := bg02_22.1.2.1.2
theorem dX12_tellSeats_81 : decode cX12_tellSeats 81 = .ok (.getfield 42, 3) := bg02_22.1.2.2.1
theorem dX12_tellSeats_84 : decode cX12_tellSeats 84 = .ok (.iconst 0, 1) := bg02_22.1.2.2.2
theorem dX12_tellSeats_85 : decode cX12_tellSeats 85 = .ok (.iaload, 1) := bg02_22.2.1.1.1
theorem dX12_tellSeats_86 : decode cX12_tellSeats 86 = .ok (.if_icmp .ge 42, 3) := bg02_22.2.1.1.2
theorem dX12_tellSeats_89 : decode cX12_tellSeats 89 = .ok (.iload_n 2, 1) := bg02_22.2.1.2.1
theorem dX12_tellSeats_90 : decode cX12_tellSeats 90 = .ok (.iload 4, 2) := bg02_22.2.1.2.2
theorem dX12_tellSeats_92 : decode cX12_tellSeats 92 = .ok (.invokestatic 396, 3) := bg02_22.2.2.1.1
theorem dX12_tellSeats_95 : decode cX12_tellSeats 95 = .ok (.ifCond .ne 27, 3) := bg02_22.2.2.1.2
theorem dX12_tellSeats_98 : decode cX12_tellSeats 98 = .ok (.iload_n 3, 1) := bg02_22.2.2.2.1
theorem dX12_tellSeats_99 : decode cX12_tellSeats 99 = .ok (.aload_n 0, 1) := bg02_22.2.2.2.2
theorem bg02_23 : (((decode cX12_tellSeats 100 = .ok (.iload_n 1, 1) ∧ decode cX12_tellSeats 101 = .ok (.iload 4, 2)) ∧ (decode cX12_tellSeats 103 = .ok (.invokevirtual 352, 3) ∧ decode cX12_tellSeats 106 = .ok (.aload_n 0, 1))) ∧ ((decode cX12_tellSeats 107 = .ok (.iload_n 1, 1) ∧ decode cX12_tellSeats 108 = .ok (.iload_n 2, 1)) ∧ (decode cX12_tellSeats 109 = .ok (.iconst 1, 1) ∧ decode cX12_tellSeats 110 = .ok (.iload 4, 2)))) ∧ (((decode cX12_tellSeats 112 = .ok (.ishl, 1) ∧ decode cX12_tellSeats 113 = .ok (.ior, 1)) ∧ (decode cX12_tellSeats 114 = .ok (.invokevirtual 466, 3) ∧ decode cX12_tellSeats 117 = .ok (.iadd, 1))) ∧ ((decode cX12_tellSeats 118 = .ok (.invokestatic 200, 3) ∧ decode cX12_tellSeats 121 = .ok (.istore_n 3, 1)) ∧ (decode cX12_tellSeats 122 = .ok (.iinc 4 1, 3) ∧ decode cX12_tellSeats 125 = .ok (.goto (-47), 3)))) := by decide +kernel
theorem dX12_tellSeats_100 : decode cX12_tellSeats 100 = .ok (.iload_n 1, 1) := bg02_23.1.1.1.1
theorem dX12_tellSeats_101 : decode cX12_tellSeats 101 = .ok (.iload 4, 2) := bg02_23.1.1.1.2
theorem dX12_tellSeats_103 : decode cX12_tellSeats 103 = .ok (.invokevirtual 352, 3) := bg02_23.1.1.2.1
theorem dX12_tellSeats_106 : decode cX12_tellSeats 106 = .ok (.aload_n 0, 1) := bg02_23.1.1.2.2
theorem dX12_tellSeats_107 : decode cX12_tellSeats 107 = .ok (.iload_n 1, 1) := bg02_23.1.2.1.1
theorem dX12_tellSeats_108 : decode cX12_tellSeats 108 = .ok (.iload_n 2, 1) := bg02_23.1.2.1.2
theorem dX12_tellSeats_109 : decode cX12_tellSeats 109 = .ok (.iconst 1, 1) := bg02_23.1.2.2.1
theorem dX12_tellSeats_110 : decode cX12_tellSeats 110 = .ok (.iload 4, 2) := bg02_23.1.2.2.2
theorem dX12_tellSeats_112 : decode cX12_tellSeats 112 = .ok (.ishl, 1) := bg02_23.2.1.1.1
theorem dX12_tellSeats_113 : decode cX12_tellSeats 113 = .ok (.ior, 1) := bg02_23.2.1.1.2
theorem dX12_tellSeats_114 : decode cX12_tellSeats 114 = .ok (.invokevirtual 466, 3) := bg02_23.2.1.2.1
theorem dX12_tellSeats_117 : decode cX12_tellSeats 117 = .ok (.iadd, 1) := bg02_23.2.1.2.2
theorem dX12_tellSeats_118 : decode cX12_tellSeats 118 = .ok (.invokestatic 200, 3) := bg02_23.2.2.1.1
theorem dX12_tellSeats_121 : decode cX12_tellSeats 121 = .ok (.istore_n 3, 1) := bg02_23.2.2.1.2
theorem dX12_tellSeats_122 : decode cX12_tellSeats 122 = .ok (.iinc 4 1, 3) := bg02_23.2.2.2.1
theorem dX12_tellSeats_125 : decode cX12_tellSeats 125 = .ok (.goto (-47), 3) := bg02_23.2.2.2.2
theorem bg02_24 : (((decode cX12_tellSeats 128 = .ok (.aload_n 0, 1) ∧ decode cX12_tellSeats 129 = .ok (.getfield 121, 3)) ∧ (decode cX12_tellSeats 132 = .ok (.iload_n 1, 1) ∧ decode cX12_tellSeats 133 = .ok (.bipush 8, 2))) ∧ ((decode cX12_tellSeats 135 = .ok (.ishl, 1) ∧ decode cX12_tellSeats 136 = .ok (.iload_n 2, 1)) ∧ (decode cX12_tellSeats 137 = .ok (.iadd, 1)))) ∧ (((decode cX12_tellSeats 138 = .ok (.iload_n 3, 1) ∧ decode cX12_tellSeats 139 = .ok (.iastore, 1)) ∧ (decode cX12_tellSeats 140 = .ok (.iinc 2 1, 3) ∧ decode cX12_tellSeats 143 = .ok (.goto (-91), 3))) ∧ ((decode cX12_tellSeats 146 = .ok (.iinc 1 (-1), 3) ∧ decode cX12_tellSeats 149 = .ok (.goto (-103), 3)) ∧ (decode cX12_tellSeats 152 = .ok (.return_, 1)))) := by decide +kernel
theorem dX12_tellSeats_128 : decode cX12_tellSeats 128 = .ok (.aload_n 0, 1) := bg02_24.1.1.1.1
theorem dX12_tellSeats_129 : decode cX12_tellSeats 129 = .ok (.getfield 121, 3) := bg02_24.1.1.1.2
theorem dX12_tellSeats_132 : decode cX12_tellSeats 132 = .ok (.iload_n 1, 1) := bg02_24.1.1.2.1
theorem dX12_tellSeats_133 : decode cX12_tellSeats 133 = .ok (.bipush 8, 2) := bg02_24.1.1.2.2
theorem dX12_tellSeats_135 : decode cX12_tellSeats 135 = .ok (.ishl, 1) := bg02_24.1.2.1.1
theorem dX12_tellSeats_136 : decode cX12_tellSeats 136 = .ok (.iload_n 2, 1) := bg02_24.1.2.1.2
theorem dX12_tellSeats_137 : decode cX12_tellSeats 137 = .ok (.iadd, 1) := bg02_24.1.2.2
theorem dX12_tellSeats_138 : decode cX12_tellSeats 138 = .ok (.iload_n 3, 1) := bg02_24.2.1.1.1
theorem dX12_tellSeats_139 : decode cX12_tellSeats 139 = .ok (.iastore, 1) := bg02_24.2.1.1.2
theorem dX12_tellSeats_140 : decode cX12_tellSeats 140 = .ok (.iinc 2 1, 3) := bg02_24.2.1.2.1
theorem dX12_tellSeats_143 : decode cX12_tellSeats 143 = .ok (.goto (-91), 3) := bg02_24.2.1.2.2
theorem dX12_tellSeats_146 : decode cX12_tellSeats 146 = .ok (.iinc 1 (-1), 3) := bg02_24.2.2.1.1
theorem dX12_tellSeats_149 : decode cX12_tellSeats 149 = .ok (.goto (-103), 3) := bg02_24.2.2.1.2
theorem dX12_tellSeats_152 : decode cX12_tellSeats 152 = .ok (.return_, 1) := bg02_24.2.2.2
theorem bg02_25 : (((decode cX12_seats 0 = .ok (.aload_n 0, 1) ∧ decode cX12_seats 1 = .ok (.iconst 0, 1)) ∧ (decode cX12_seats 2 = .ok (.putfield 163, 3) ∧ decode cX12_seats 5 = .ok (.iload_n 1, 1))) ∧ ((decode cX12_seats 6 = .ok (.i2l, 1) ∧ decode cX12_seats 7 = .ok (.ldc2_w 444, 3)) ∧ (decode cX12_seats 10 = .ok (.aload_n 0, 1) ∧ decode cX12_seats 11 = .ok (.getfield 42, 3)))) ∧ (((decode cX12_seats 14 = .ok (.iconst 1, 1) ∧ decode cX12_seats 15 = .ok (.iaload, 1)) ∧ (decode cX12_seats 16 = .ok (.iconst 1, 1) ∧ decode cX12_seats 17 = .ok (.isub, 1))) ∧ ((decode cX12_seats 18 = .ok (.i2l, 1) ∧ decode cX12_seats 19 = .ok (.invokestatic 166, 3)) ∧ (decode cX12_seats 22 = .ok (.ifCond .ne 9, 3) ∧ decode cX12_seats 25 = .ok (.aload_n 0, 1)))) := by decide +kernel
theorem dX12_seats_0 : decode cX12_seats 0 = .ok (.aload_n 0, 1) := bg02_25.1.1.1.1
theorem dX12_seats_1 : decode cX12_seats 1 = .ok (.iconst 0, 1) := bg02_25.1.1.1.2
theorem dX12_seats_2 : decode cX12_seats 2 = .ok (.putfield 163, 3) := bg02_25.1.1.2.1
theorem dX12_seats_5 : decode cX12_seats 5 = .ok (.iload_n 1, 1) := bg02_25.1.1.2.2
theorem dX12_seats_6 : decode cX12_seats 6 = .ok (.i2l, 1) := bg02_25.1.2.1.1
theorem dX12_seats_7 : decode cX12_seats 7 = .ok (.ldc2_w 444, 3) := bg02_25.1.2.1.2
theorem dX12_seats_10 : decode cX12_seats 10 = .ok (.aload_n 0, 1) := bg02_25.1.2.2.1
theorem dX12_seats_11 : decode cX12_seats 11 = .ok (.getfield 42, 3) := bg02_25.1.2.2.2
theorem dX12_seats_14 : decode cX12_seats 14 = .ok (.iconst 1, 1) := bg02_25.2.1.1.1
theorem dX12_seats_15 : decode cX12_seats 15 = .ok (.iaload, 1) := bg02_25.2.1.1.2
theorem dX12_seats_16 : decode cX12_seats 16 = .ok (.iconst 1, 1) := bg02_25.2.1.2.1
theorem dX12_seats_17 : decode cX12_seats 17 = .ok (.isub, 1) := bg02_25.2.1.2.2
theorem dX12_seats_18 : decode cX12_seats 18 = .ok (.i2l, 1) := bg02_25.2.2.1.1
theorem dX12_seats_19 : decode cX12_seats 19 = .ok (.invokestatic 166, 3) := bg02_25.2.2.1.2
theorem dX12_seats_22 : decode cX12_seats 22 = .ok (.ifCond .ne 9, 3) := bg02_25.2.2.2.1
theorem dX12_seats_25 : decode cX12_seats 25 = .ok (.aload_n 0, 1) := bg02_25.2.2.2.2
theorem bg02_26 : (((decode cX12_seats 26 = .ok (.iconst 1, 1) ∧ decode cX12_seats 27 = .ok (.invokevirtual 310, 3)) ∧ (decode cX12_seats 30 = .ok (.ireturn, 1) ∧ decode cX12_seats 31 = .ok (.aload_n 0, 1))) ∧ ((decode cX12_seats 32 = .ok (.invokevirtual 469, 3) ∧ decode cX12_seats 35 = .ok (.iload_n 1, 1)) ∧ (decode cX12_seats 36 = .ok (.iconst (-1), 1) ∧ decode cX12_seats 37 = .ok (.if_icmp .ne 14, 3)))) ∧ (((decode cX12_seats 40 = .ok (.aload_n 0, 1) ∧ decode cX12_seats 41 = .ok (.getfield 121, 3)) ∧ (decode cX12_seats 44 = .ok (.iconst 0, 1) ∧ decode cX12_seats 45 = .ok (.iaload, 1))) ∧ ((decode cX12_seats 46 = .ok (.sipush 1000, 3) ∧ decode cX12_seats 49 = .ok (.irem, 1)) ∧ (decode cX12_seats 50 = .ok (.ireturn, 1) ∧ decode cX12_seats 51 = .ok (.iconst 0, 1)))) := by decide +kernel
theorem dX12_seats_26 : decode cX12_seats 26 = .ok (.iconst 1, 1) := bg02_26.1.1.1.1
theorem dX12_seats_27 : decode cX12_seats 27 = .ok (.invokevirtual 310, 3) := bg02_26.1.1.1.2
theorem dX12_seats_30 : decode cX12_seats 30 = .ok (.ireturn, 1) := bg02_26.1.1.2.1
theorem dX12_seats_31 : decode cX12_seats 31 = .ok (.aload_n 0, 1) := bg02_26.1.1.2.2
theorem dX12_seats_32 : decode cX12_seats 32 = .ok (.invokevirtual 469, 3) := bg02_26.1.2.1.1
theorem dX12_seats_35 : decode cX12_seats 35 = .ok (.iload_n 1, 1) := bg02_26.1.2.1.2
theorem dX12_seats_36 : decode cX12_seats 36 = .ok (.iconst (-1), 1) := bg02_26.1.2.2.1
theorem dX12_seats_37 : decode cX12_seats 37 = .ok (.if_icmp .ne 14, 3) := bg02_26.1.2.2.2
theorem dX12_seats_40 : decode cX12_seats 40 = .ok (.aload_n 0, 1) := bg02_26.2.1.1.1
theorem dX12_seats_41 : decode cX12_seats 41 = .ok (.getfield 121, 3) := bg02_26.2.1.1.2
theorem dX12_seats_44 : decode cX12_seats 44 = .ok (.iconst 0, 1) := bg02_26.2.1.2.1
theorem dX12_seats_45 : decode cX12_seats 45 = .ok (.iaload, 1) := bg02_26.2.1.2.2
theorem dX12_seats_46 : decode cX12_seats 46 = .ok (.sipush 1000, 3) := bg02_26.2.2.1.1
theorem dX12_seats_49 : decode cX12_seats 49 = .ok (.irem, 1) := bg02_26.2.2.1.2
theorem dX12_seats_50 : decode cX12_seats 50 = .ok (.ireturn, 1) := bg02_26.2.2.2.1
theorem dX12_seats_51 : decode cX12_seats 51 = .ok (.iconst 0, 1) := bg02_26.2.2.2.2
theorem bg02_27 : (((decode cX12_seats 52 = .ok (.istore_n 2, 1) ∧ decode cX12_seats 53 = .ok (.iconst (-1), 1)) ∧ (decode cX12_seats 54 = .ok (.istore_n 3, 1) ∧ decode cX12_seats 55 = .ok (.iconst 0, 1))) ∧ ((decode cX12_seats 56 = .ok (.istore 4, 2) ∧ decode cX12_seats 58 = .ok (.iload 4, 2)) ∧ (decode cX12_seats 60 = .ok (.iload_n 1, 1) ∧ decode cX12_seats 61 = .ok (.if_icmp .gt 95, 3)))) ∧ (((decode cX12_seats 64 = .ok (.iconst (-1), 1) ∧ decode cX12_seats 65 = .ok (.istore_n 3, 1)) ∧ (decode cX12_seats 66 = .ok (.aload_n 0, 1) ∧ decode cX12_seats 67 = .ok (.getfield 42, 3))) ∧ ((decode cX12_seats 70 = .ok (.iconst 0, 1) ∧ decode cX12_seats 71 = .ok (.iaload, 1)) ∧ (decode cX12_seats 72 = .ok (.iconst 1, 1) ∧ decode cX12_seats 73 = .ok (.isub, 1)))) := by decide +kernel
theorem dX12_seats_52 : decode cX12_seats 52 = .ok (.istore_n 2, 1) := bg02_27.1.1.1.1
theorem dX12_seats_53 : decode cX12_seats 53 = .ok (.iconst (-1), 1) := bg02_27.1.1.1.2
theorem dX12_seats_54 : decode cX12_seats 54 = .ok (.istore_n 3, 1) := bg02_27.1.1.2.1
theorem dX12_seats_55 : decode cX12_seats 55 = .ok (.iconst 0, 1) := bg02_27.1.1.2.2
theorem dX12_seats_56 : decode cX12_seats 56 = .ok (.istore 4, 2) := bg02_27.1.2.1.1
theorem dX12_seats_58 : decode cX12_seats 58 = .ok (.iload 4, 2) := bg02_27.1.2.1.2
theorem dX12_seats_60 : decode cX12_seats 60 = .ok (.iload_n 1, 1) := bg02_27.1.2.2.1
theorem dX12_seats_61 : decode cX12_seats 61 = .ok (.if_icmp .gt 95, 3) := bg02_27.1.2.2.2
theorem dX12_seats_64 : decode cX12_seats 64 = .ok (.iconst (-1), 1) := bg02_27.2.1.1.1
theorem dX12_seats_65 : decode cX12_seats 65 = .ok (.istore_n 3, 1) := bg02_27.2.1.1.2
theorem dX12_seats_66 : decode cX12_seats 66 = .ok (.aload_n 0, 1) := bg02_27.2.1.2.1
theorem dX12_seats_67 : decode cX12_seats 67 = .ok (.getfield 42, 3) := bg02_27.2.1.2.2
theorem dX12_seats_70 : decode cX12_seats 70 = .ok (.iconst 0, 1) := bg02_27.2.2.1.1
theorem dX12_seats_71 : decode cX12_seats 71 = .ok (.iaload, 1) := bg02_27.2.2.1.2
theorem dX12_seats_72 : decode cX12_seats 72 = .ok (.iconst 1, 1) := bg02_27.2.2.2.1
theorem dX12_seats_73 : decode cX12_seats 73 = .ok (.isub, 1) := bg02_27.2.2.2.2
theorem bg02_28 : (((decode cX12_seats 74 = .ok (.istore 5, 2) ∧ decode cX12_seats 76 = .ok (.iload 5, 2)) ∧ (decode cX12_seats 78 = .ok (.ifCond .lt 57, 3) ∧ decode cX12_seats 81 = .ok (.iload_n 2, 1))) ∧ ((decode cX12_seats 82 = .ok (.iload 5, 2) ∧ decode cX12_seats 84 = .ok (.invokestatic 396, 3)) ∧ (decode cX12_seats 87 = .ok (.ifCond .ne 42, 3) ∧ decode cX12_seats 90 = .ok (.aload_n 0, 1)))) ∧ (((decode cX12_seats 91 = .ok (.iload 4, 2) ∧ decode cX12_seats 93 = .ok (.iload 5, 2)) ∧ (decode cX12_seats 95 = .ok (.invokevirtual 352, 3) ∧ decode cX12_seats 98 = .ok (.aload_n 0, 1))) ∧ ((decode cX12_seats 99 = .ok (.iload 4, 2) ∧ decode cX12_seats 101 = .ok (.iload_n 2, 1)) ∧ (decode cX12_seats 102 = .ok (.iconst 1, 1) ∧ decode cX12_seats 103 = .ok (.iload 5, 2)))) := by decide +kernel
theorem dX12_seats_74 : decode cX12_seats 74 = .ok (.istore 5, 2) := bg02_28.1.1.1.1
theorem dX12_seats_76 : decode cX12_seats 76 = .ok (.iload 5, 2) := bg02_28.1.1.1.2
theorem dX12_seats_78 : decode cX12_seats 78 = .ok (.ifCond .lt 57, 3) := bg02_28.1.1.2.1
theorem dX12_seats_81 : decode cX12_seats 81 = .ok (.iload_n 2, 1) := bg02_28.1.1.2.2
theorem dX12_seats_82 : decode cX12_seats 82 = .ok (.iload 5, 2) := bg02_28.1.2.1.1
theorem dX12_seats_84 : decode cX12_seats 84 = .ok (.invokestatic 396, 3) := bg02_28.1.2.1.2
theorem dX12_seats_87 : decode cX12_seats 87 = .ok (.ifCond .ne 42, 3) := bg02_28.1.2.2.1
theorem dX12_seats_90 : decode cX12_seats 90 = .ok (.aload_n 0, 1) := bg02_28.1.2.2.2
theorem dX12_seats_91 : decode cX12_seats 91 = .ok (.iload 4, 2) := bg02_28.2.1.1.1
theorem dX12_seats_93 : decode cX12_seats 93 = .ok (.iload 5, 2) := bg02_28.2.1.1.2
theorem dX12_seats_95 : decode cX12_seats 95 = .ok (.invokevirtual 352, 3) := bg02_28.2.1.2.1
theorem dX12_seats_98 : decode cX12_seats 98 = .ok (.aload_n 0, 1) := bg02_28.2.1.2.2
theorem dX12_seats_99 : decode cX12_seats 99 = .ok (.iload 4, 2) := bg02_28.2.2.1.1
theorem dX12_seats_101 : decode cX12_seats 101 = .ok (.iload_n 2, 1) := bg02_28.2.2.1.2
theorem dX12_seats_102 : decode cX12_seats 102 = .ok (.iconst 1, 1) := bg02_28.2.2.2.1
theorem dX12_seats_103 : decode cX12_seats 103 = .ok (.iload 5, 2) := bg02_28.2.2.2.2
theorem bg02_29 : (((decode cX12_seats 105 = .ok (.ishl, 1) ∧ decode cX12_seats 106 = .ok (.ior, 1)) ∧ (decode cX12_seats 107 = .ok (.invokevirtual 466, 3) ∧ decode cX12_seats 110 = .ok (.iadd, 1))) ∧ ((decode cX12_seats 111 = .ok (.aload_n 0, 1) ∧ decode cX12_seats 112 = .ok (.getfield 121, 3)) ∧ (decode cX12_seats 115 = .ok (.iload 4, 2) ∧ decode cX12_seats 117 = .ok (.bipush 8, 2)))) ∧ (((decode cX12_seats 119 = .ok (.ishl, 1) ∧ decode cX12_seats 120 = .ok (.iload_n 2, 1)) ∧ (decode cX12_seats 121 = .ok (.iadd, 1) ∧ decode cX12_seats 122 = .ok (.iaload, 1))) ∧ ((decode cX12_seats 123 = .ok (.if_icmp .ne 6, 3) ∧ decode cX12_seats 126 = .ok (.iload 5, 2)) ∧ (decode cX12_seats 128 = .ok (.istore_n 3, 1) ∧ decode cX12_seats 129 = .ok (.iinc 5 (-1), 3)))) := by decide +kernel
theorem dX12_seats_105 : decode cX12_seats 105 = .ok (.ishl, 1) := bg02_29.1.1.1.1
theorem dX12_seats_106 : decode cX12_seats 106 = .ok (.ior, 1) := bg02_29.1.1.1.2
theorem dX12_seats_107 : decode cX12_seats 107 = .ok (.invokevirtual 466, 3) := bg02_29.1.1.2.1
theorem dX12_seats_110 : decode cX12_seats 110 = .ok (.iadd, 1) := bg02_29.1.1.2.2
theorem dX12_seats_111 : decode cX12_seats 111 = .ok (.aload_n 0, 1) := bg02_29.1.2.1.1
theorem dX12_seats_112 : decode cX12_seats 112 = .ok (.getfield 121, 3) := bg02_29.1.2.1.2
theorem dX12_seats_115 : decode cX12_seats 115 = .ok (.iload 4, 2) := bg02_29.1.2.2.1
theorem dX12_seats_117 : decode cX12_seats 117 = .ok (.bipush 8, 2) := bg02_29.1.2.2.2
theorem dX12_seats_119 : decode cX12_seats 119 = .ok (.ishl, 1) := bg02_29.2.1.1.1
theorem dX12_seats_120 : decode cX12_seats 120 = .ok (.iload_n 2, 1) := bg02_29.2.1.1.2
theorem dX12_seats_121 : decode cX12_seats 121 = .ok (.iadd, 1) := bg02_29.2.1.2.1
theorem dX12_seats_122 : decode cX12_seats 122 = .ok (.iaload, 1) := bg02_29.2.1.2.2
theorem dX12_seats_123 : decode cX12_seats 123 = .ok (.if_icmp .ne 6, 3) := bg02_29.2.2.1.1
theorem dX12_seats_126 : decode cX12_seats 126 = .ok (.iload 5, 2) := bg02_29.2.2.1.2
theorem dX12_seats_128 : decode cX12_seats 128 = .ok (.istore_n 3, 1) := bg02_29.2.2.2.1
theorem dX12_seats_129 : decode cX12_seats 129 = .ok (.iinc 5 (-1), 3) := bg02_29.2.2.2.2
theorem bg02_30 : (((decode cX12_seats 132 = .ok (.goto (-56), 3) ∧ decode cX12_seats 135 = .ok (.iload_n 2, 1)) ∧ (decode cX12_seats 136 = .ok (.iload_n 3, 1) ∧ decode cX12_seats 137 = .ok (.iconst (-1), 1))) ∧ ((decode cX12_seats 138 = .ok (.if_icmp .ne 7, 3) ∧ decode cX12_seats 141 = .ok (.iconst 0, 1)) ∧ (decode cX12_seats 142 = .ok (.goto 6, 3) ∧ decode cX12_seats 145 = .ok (.iconst 1, 1)))) ∧ (((decode cX12_seats 146 = .ok (.iload_n 3, 1) ∧ decode cX12_seats 147 = .ok (.ishl, 1)) ∧ (decode cX12_seats 148 = .ok (.ior, 1) ∧ decode cX12_seats 149 = .ok (.istore_n 2, 1))) ∧ ((decode cX12_seats 150 = .ok (.iinc 4 1, 3) ∧ decode cX12_seats 153 = .ok (.goto (-95), 3)) ∧ (decode cX12_seats 156 = .ok (.iload_n 3, 1) ∧ decode cX12_seats 157 = .ok (.ireturn, 1)))) := by decide +kernel
theorem dX12_seats_132 : decode cX12_seats 132 = .ok (.goto (-56), 3) := bg02_30.1.1.1.1
theorem dX12_seats_135 : decode cX12_seats 135 = .ok (.iload_n 2, 1) := bg02_30.1.1.1.2
theorem dX12_seats_136 : decode cX12_seats 136 = .ok (.iload_n 3, 1) := bg02_30.1.1.2.1
theorem dX12_seats_137 : decode cX12_seats 137 = .ok (.iconst (-1), 1) := bg02_30.1.1.2.2
theorem dX12_seats_138 : decode cX12_seats 138 = .ok (.if_icmp .ne 7, 3) := bg02_30.1.2.1.1
theorem dX12_seats_141 : decode cX12_seats 141 = .ok (.iconst 0, 1) := bg02_30.1.2.1.2
theorem dX12_seats_142 : decode cX12_seats 142 = .ok (.goto 6, 3) := bg02_30.1.2.2.1
theorem dX12_seats_145 : decode cX12_seats 145 = .ok (.iconst 1, 1) := bg02_30.1.2.2.2
theorem dX12_seats_146 : decode cX12_seats 146 = .ok (.iload_n 3, 1) := bg02_30.2.1.1.1
theorem dX12_seats_147 : decode cX12_seats 147 = .ok (.ishl, 1) := bg02_30.2.1.1.2
theorem dX12_seats_148 : decode cX12_seats 148 = .ok (.ior, 1) := bg02_30.2.1.2.1
theorem dX12_seats_149 : decode cX12_seats 149 = .ok (.istore_n 2, 1) := bg02_30.2.1.2.2
theorem dX12_seats_150 : decode cX12_seats 150 = .ok (.iinc 4 1, 3) := bg02_30.2.2.1.1
theorem dX12_seats_153 : decode cX12_seats 153 = .ok (.goto (-95), 3) := bg02_30.2.2.1.2
theorem dX12_seats_156 : decode cX12_seats 156 = .ok (.iload_n 3, 1) := bg02_30.2.2.2.1
theorem dX12_seats_157 : decode cX12_seats 157 = .ok (.ireturn, 1) := bg02_30.2.2.2.2
theorem bg02_31 : (((decode cX12_turn 0 = .ok (.aload_n 0, 1) ∧ decode cX12_turn 1 = .ok (.iconst 0, 1)) ∧ (decode cX12_turn 2 = .ok (.putfield 163, 3) ∧ decode cX12_turn 5 = .ok (.iload_n 1, 1))) ∧ ((decode cX12_turn 6 = .ok (.i2l, 1) ∧ decode cX12_turn 7 = .ok (.lconst 0, 1)) ∧ (decode cX12_turn 8 = .ok (.lconst 1, 1) ∧ decode cX12_turn 9 = .ok (.invokestatic 166, 3)))) ∧ (((decode cX12_turn 12 = .ok (.ifCond .ne 9, 3) ∧ decode cX12_turn 15 = .ok (.aload_n 0, 1)) ∧ (decode cX12_turn 16 = .ok (.iconst 1, 1) ∧ decode cX12_turn 17 = .ok (.invokevirtual 310, 3))) ∧ ((decode cX12_turn 20 = .ok (.ireturn, 1) ∧ decode cX12_turn 21 = .ok (.iconst (-1), 1)) ∧ (decode cX12_turn 22 = .ok (.istore_n 2, 1) ∧ decode cX12_turn 23 = .ok (.ldc_w 472, 3)))) := by decide +kernel
theorem dX12_turn_0 : decode cX12_turn 0 = .ok (.aload_n 0, 1) := bg02_31.1.1.1.1
theorem dX12_turn_1 : decode cX12_turn 1 = .ok (.iconst 0, 1) := bg02_31.1.1.1.2
theorem dX12_turn_2 : decode cX12_turn 2 = .ok (.putfield 163, 3) := bg02_31.1.1.2.1
theorem dX12_turn_5 : decode cX12_turn 5 = .ok (.iload_n 1, 1) := bg02_31.1.1.2.2
theorem dX12_turn_6 : decode cX12_turn 6 = .ok (.i2l, 1) := bg02_31.1.2.1.1
theorem dX12_turn_7 : decode cX12_turn 7 = .ok (.lconst 0, 1) := bg02_31.1.2.1.2
theorem dX12_turn_8 : decode cX12_turn 8 = .ok (.lconst 1, 1) := bg02_31.1.2.2.1
theorem dX12_turn_9 : decode cX12_turn 9 = .ok (.invokestatic 166, 3) := bg02_31.1.2.2.2
theorem dX12_turn_12 : decode cX12_turn 12 = .ok (.ifCond .ne 9, 3) := bg02_31.2.1.1.1
theorem dX12_turn_15 : decode cX12_turn 15 = .ok (.aload_n 0, 1) := bg02_31.2.1.1.2
theorem dX12_turn_16 : decode cX12_turn 16 = .ok (.iconst 1, 1) := bg02_31.2.1.2.1
theorem dX12_turn_17 : decode cX12_turn 17 = .ok (.invokevirtual 310, 3) := bg02_31.2.1.2.2
theorem dX12_turn_20 : decode cX12_turn 20 = .ok (.ireturn, 1) := bg02_31.2.2.1.1
theorem dX12_turn_21 : decode cX12_turn 21 = .ok (.iconst (-1), 1) := bg02_31.2.2.1.2
theorem dX12_turn_22 : decode cX12_turn 22 = .ok (.istore_n 2, 1) := bg02_31.2.2.2.1
theorem dX12_turn_23 : decode cX12_turn 23 = .ok (.ldc_w 472, 3) := bg02_31.2.2.2.2
theorem bg02_32 : (((decode cX12_turn 26 = .ok (.istore_n 3, 1) ∧ decode cX12_turn 27 = .ok (.iconst 0, 1)) ∧ (decode cX12_turn 28 = .ok (.istore 4, 2) ∧ decode cX12_turn 30 = .ok (.iload 4, 2))) ∧ ((decode cX12_turn 32 = .ok (.aload_n 0, 1) ∧ decode cX12_turn 33 = .ok (.getfield 42, 3)) ∧ (decode cX12_turn 36 = .ok (.iconst 0, 1) ∧ decode cX12_turn 37 = .ok (.iaload, 1)))) ∧ (((decode cX12_turn 38 = .ok (.if_icmp .ge 70, 3) ∧ decode cX12_turn 41 = .ok (.iconst 0, 1)) ∧ (decode cX12_turn 42 = .ok (.istore 5, 2) ∧ decode cX12_turn 44 = .ok (.iconst 0, 1))) ∧ ((decode cX12_turn 45 = .ok (.istore 6, 2) ∧ decode cX12_turn 47 = .ok (.iload 6, 2)) ∧ (decode cX12_turn 49 = .ok (.aload_n 0, 1) ∧ decode cX12_turn 50 = .ok (.getfield 42, 3)))) := by decide +kernel
theorem dX12_turn_26 : decode cX12_turn 26 = .ok (.istore_n 3, 1) := bg02_32.1.1.1.1
theorem dX12_turn_27 : decode cX12_turn 27 = .ok (.iconst 0, 1) := bg02_32.1.1.1.2
theorem dX12_turn_28 : decode cX12_turn 28 = .ok (.istore 4, 2) := bg02_32.1.1.2.1
theorem dX12_turn_30 : decode cX12_turn 30 = .ok (.iload 4, 2) := bg02_32.1.1.2.2
theorem dX12_turn_32 : decode cX12_turn 32 = .ok (.aload_n 0, 1) := bg02_32.1.2.1.1
theorem dX12_turn_33 : decode cX12_turn 33 = .ok (.getfield 42, 3) := bg02_32.1.2.1.2
theorem dX12_turn_36 : decode cX12_turn 36 = .ok (.iconst 0, 1) := bg02_32.1.2.2.1
theorem dX12_turn_37 : decode cX12_turn 37 = .ok (.iaload, 1) := bg02_32.1.2.2.2
theorem dX12_turn_38 : decode cX12_turn 38 = .ok (.if_icmp .ge 70, 3) := bg02_32.2.1.1.1
theorem dX12_turn_41 : decode cX12_turn 41 = .ok (.iconst 0, 1) := bg02_32.2.1.1.2
theorem dX12_turn_42 : decode cX12_turn 42 = .ok (.istore 5, 2) := bg02_32.2.1.2.1
theorem dX12_turn_44 : decode cX12_turn 44 = .ok (.iconst 0, 1) := bg02_32.2.1.2.2
theorem dX12_turn_45 : decode cX12_turn 45 = .ok (.istore 6, 2) := bg02_32.2.2.1.1
theorem dX12_turn_47 : decode cX12_turn 47 = .ok (.iload 6, 2) := bg02_32.2.2.1.2
theorem dX12_turn_49 : decode cX12_turn 49 = .ok (.aload_n 0, 1) := bg02_32.2.2.2.1
theorem dX12_turn_50 : decode cX12_turn 50 = .ok (.getfield 42, 3) := bg02_32.2.2.2.2
theorem bg02_33 : (((decode cX12_turn 53 = .ok (.iconst 1, 1) ∧ decode cX12_turn 54 = .ok (.iaload, 1)) ∧ (decode cX12_turn 55 = .ok (.if_icmp .ge 32, 3) ∧ decode cX12_turn 58 = .ok (.iload 5, 2))) ∧ ((decode cX12_turn 60 = .ok (.aload_n 0, 1) ∧ decode cX12_turn 61 = .ok (.iload 6, 2)) ∧ (decode cX12_turn 63 = .ok (.iload 6, 2) ∧ decode cX12_turn 65 = .ok (.iload 4, 2)))) ∧ (((decode cX12_turn 67 = .ok (.iadd, 1) ∧ decode cX12_turn 68 = .ok (.aload_n 0, 1)) ∧ (decode cX12_turn 69 = .ok (.getfield 42, 3) ∧ decode cX12_turn 72 = .ok (.iconst 0, 1))) ∧ ((decode cX12_turn 73 = .ok (.iaload, 1) ∧ decode cX12_turn 74 = .ok (.irem, 1)) ∧ (decode cX12_turn 75 = .ok (.invokevirtual 352, 3) ∧ decode cX12_turn 78 = .ok (.iadd, 1)))) := by decide +kernel
theorem dX12_turn_53 : decode cX12_turn 53 = .ok (.iconst 1, 1) := bg02_33.1.1.1.1
theorem dX12_turn_54 : decode cX12_turn 54 = .ok (.iaload, 1) := bg02_33.1.1.1.2
theorem dX12_turn_55 : decode cX12_turn 55 = .ok (.if_icmp .ge 32, 3) := bg02_33.1.1.2.1
theorem dX12_turn_58 : decode cX12_turn 58 = .ok (.iload 5, 2) := bg02_33.1.1.2.2
theorem dX12_turn_60 : decode cX12_turn 60 = .ok (.aload_n 0, 1) := bg02_33.1.2.1.1
theorem dX12_turn_61 : decode cX12_turn 61 = .ok (.iload 6, 2) := bg02_33.1.2.1.2
theorem dX12_turn_63 : decode cX12_turn 63 = .ok (.iload 6, 2) := bg02_33.1.2.2.1
theorem dX12_turn_65 : decode cX12_turn 65 = .ok (.iload 4, 2) := bg02_33.1.2.2.2
theorem dX12_turn_67 : decode cX12_turn 67 = .ok (.iadd, 1) := bg02_33.2.1.1.1
theorem dX12_turn_68 : decode cX12_turn 68 = .ok (.aload_n 0, 1) := bg02_33.2.1.1.2
theorem dX12_turn_69 : decode cX12_turn 69 = .ok (.getfield 42, 3) := bg02_33.2.1.2.1
theorem dX12_turn_72 : decode cX12_turn 72 = .ok (.iconst 0, 1) := bg02_33.2.1.2.2
theorem dX12_turn_73 : decode cX12_turn 73 = .ok (.iaload, 1) := bg02_33.2.2.1.1
theorem dX12_turn_74 : decode cX12_turn 74 = .ok (.irem, 1) := bg02_33.2.2.1.2
theorem dX12_turn_75 : decode cX12_turn 75 = .ok (.invokevirtual 352, 3) := bg02_33.2.2.2.1
theorem dX12_turn_78 : decode cX12_turn 78 = .ok (.iadd, 1) := bg02_33.2.2.2.2
theorem bg02_34 : (((decode cX12_turn 79 = .ok (.istore 5, 2) ∧ decode cX12_turn 81 = .ok (.iinc 6 1, 3)) ∧ (decode cX12_turn 84 = .ok (.goto (-37), 3) ∧ decode cX12_turn 87 = .ok (.iload 5, 2))) ∧ ((decode cX12_turn 89 = .ok (.iload_n 3, 1) ∧ decode cX12_turn 90 = .ok (.if_icmp .lt 6, 3)) ∧ (decode cX12_turn 93 = .ok (.goto 9, 3) ∧ decode cX12_turn 96 = .ok (.iload 4, 2)))) ∧ (((decode cX12_turn 98 = .ok (.istore_n 2, 1) ∧ decode cX12_turn 99 = .ok (.iload 5, 2)) ∧ (decode cX12_turn 101 = .ok (.istore_n 3, 1) ∧ decode cX12_turn 102 = .ok (.iinc 4 1, 3))) ∧ ((decode cX12_turn 105 = .ok (.goto (-75), 3) ∧ decode cX12_turn 108 = .ok (.iload_n 1, 1)) ∧ (decode cX12_turn 109 = .ok (.ifCond .eq 8, 3) ∧ decode cX12_turn 112 = .ok (.iload_n 2, 1)))) := by decide +kernel
theorem dX12_turn_79 : decode cX12_turn 79 = .ok (.istore 5, 2) := bg02_34.1.1.1.1
theorem dX12_turn_81 : decode cX12_turn 81 = .ok (.iinc 6 1, 3) := bg02_34.1.1.1.2
theorem dX12_turn_84 : decode cX12_turn 84 = .ok (.goto (-37), 3) := bg02_34.1.1.2.1
theorem dX12_turn_87 : decode cX12_turn 87 = .ok (.iload 5, 2) := bg02_34.1.1.2.2
theorem dX12_turn_89 : decode cX12_turn 89 = .ok (.iload_n 3, 1) := bg02_34.1.2.1.1
theorem dX12_turn_90 : decode cX12_turn 90 = .ok (.if_icmp .lt 6, 3) := bg02_34.1.2.1.2
theorem dX12_turn_93 : decode cX12_turn 93 = .ok (.goto 9, 3) := bg02_34.1.2.2.1
theorem dX12_turn_96 : decode cX12_turn 96 = .ok (.iload 4, 2) := bg02_34.1.2.2.2
theorem dX12_turn_98 : decode cX12_turn 98 = .ok (.istore_n 2, 1) := bg02_34.2.1.1.1
theorem dX12_turn_99 : decode cX12_turn 99 = .ok (.iload 5, 2) := bg02_34.2.1.1.2
theorem dX12_turn_101 : decode cX12_turn 101 = .ok (.istore_n 3, 1) := bg02_34.2.1.2.1
theorem dX12_turn_102 : decode cX12_turn 102 = .ok (.iinc 4 1, 3) := bg02_34.2.1.2.2
theorem dX12_turn_105 : decode cX12_turn 105 = .ok (.goto (-75), 3) := bg02_34.2.2.1.1
theorem dX12_turn_108 : decode cX12_turn 108 = .ok (.iload_n 1, 1) := bg02_34.2.2.1.2
theorem dX12_turn_109 : decode cX12_turn 109 = .ok (.ifCond .eq 8, 3) := bg02_34.2.2.2.1
theorem dX12_turn_112 : decode cX12_turn 112 = .ok (.iload_n 2, 1) := bg02_34.2.2.2.2
theorem bg02_35 : ((decode cX12_turn 113 = .ok (.iconst (-1), 1) ∧ decode cX12_turn 114 = .ok (.if_icmp .ne 7, 3)) ∧ (decode cX12_turn 117 = .ok (.iload_n 2, 1) ∧ decode cX12_turn 118 = .ok (.goto 4, 3))) ∧ ((decode cX12_turn 121 = .ok (.iload_n 3, 1) ∧ decode cX12_turn 122 = .ok (.ireturn, 1)) ∧ (decode cX12_seatAt 0 = .ok (.aload_n 0, 1) ∧ decode cX12_seatAt 1 = .ok (.iload_n 2, 1))) := by decide +kernel
theorem dX12_turn_113 : decode cX12_turn 113 = .ok (.iconst (-1), 1) := bg02_35.1.1.1
theorem dX12_turn_114 : decode cX12_turn 114 = .ok (.if_icmp .ne 7, 3) := bg02_35.1.1.2
theorem dX12_turn_117 : decode cX12_turn 117 = .ok (.iload_n 2, 1) := bg02_35.1.2.1
theorem dX12_turn_118 : decode cX12_turn 118 = .ok (.goto 4, 3) := bg02_35.1.2.2
theorem dX12_turn_121 : decode cX12_turn 121 = .ok (.iload_n 3, 1) := bg02_35.2.1.1
theorem dX12_turn_122 : decode cX12_turn 122 = .ok (.ireturn, 1) := bg02_35.2.1.2
theorem dX12_seatAt_0 : decode cX12_seatAt 0 = .ok (.aload_n 0, 1) := bg02_35.2.2.1
theorem dX12_seatAt_1 : decode cX12_seatAt 1 = .ok (.iload_n 2, 1) := bg02_35.2.2.2
theorem bg02_36 : (((decode cX12_seatAt 2 = .ok (.invokevirtual 355, 3) ∧ decode cX12_seatAt 5 = .ok (.istore_n 3, 1)) ∧ (decode cX12_seatAt 6 = .ok (.iload_n 3, 1) ∧ decode cX12_seatAt 7 = .ok (.iconst (-1), 1))) ∧ ((decode cX12_seatAt 8 = .ok (.if_icmp .eq 10, 3) ∧ decode cX12_seatAt 11 = .ok (.aload_n 0, 1)) ∧ (decode cX12_seatAt 12 = .ok (.getfield 106, 3) ∧ decode cX12_seatAt 15 = .ok (.iload_n 3, 1)))) ∧ (((decode cX12_seatAt 16 = .ok (.iconst (-1), 1) ∧ decode cX12_seatAt 17 = .ok (.iastore, 1)) ∧ (decode cX12_seatAt 18 = .ok (.aload_n 0, 1) ∧ decode cX12_seatAt 19 = .ok (.getfield 106, 3))) ∧ ((decode cX12_seatAt 22 = .ok (.iload_n 1, 1) ∧ decode cX12_seatAt 23 = .ok (.iload_n 2, 1)) ∧ (decode cX12_seatAt 24 = .ok (.iastore, 1) ∧ decode cX12_seatAt 25 = .ok (.return_, 1)))) := by decide +kernel
theorem dX12_seatAt_2 : decode cX12_seatAt 2 = .ok (.invokevirtual 355, 3) := bg02_36.1.1.1.1
theorem dX12_seatAt_5 : decode cX12_seatAt 5 = .ok (.istore_n 3, 1) := bg02_36.1.1.1.2
theorem dX12_seatAt_6 : decode cX12_seatAt 6 = .ok (.iload_n 3, 1) := bg02_36.1.1.2.1
theorem dX12_seatAt_7 : decode cX12_seatAt 7 = .ok (.iconst (-1), 1) := bg02_36.1.1.2.2
theorem dX12_seatAt_8 : decode cX12_seatAt 8 = .ok (.if_icmp .eq 10, 3) := bg02_36.1.2.1.1
theorem dX12_seatAt_11 : decode cX12_seatAt 11 = .ok (.aload_n 0, 1) := bg02_36.1.2.1.2
theorem dX12_seatAt_12 : decode cX12_seatAt 12 = .ok (.getfield 106, 3) := bg02_36.1.2.2.1
theorem dX12_seatAt_15 : decode cX12_seatAt 15 = .ok (.iload_n 3, 1) := bg02_36.1.2.2.2
theorem dX12_seatAt_16 : decode cX12_seatAt 16 = .ok (.iconst (-1), 1) := bg02_36.2.1.1.1
theorem dX12_seatAt_17 : decode cX12_seatAt 17 = .ok (.iastore, 1) := bg02_36.2.1.1.2
theorem dX12_seatAt_18 : decode cX12_seatAt 18 = .ok (.aload_n 0, 1) := bg02_36.2.1.2.1
theorem dX12_seatAt_19 : decode cX12_seatAt 19 = .ok (.getfield 106, 3) := bg02_36.2.1.2.2
theorem dX12_seatAt_22 : decode cX12_seatAt 22 = .ok (.iload_n 1, 1) := bg02_36.2.2.1.1
theorem dX12_seatAt_23 : decode cX12_seatAt 23 = .ok (.iload_n 2, 1) := bg02_36.2.2.1.2
theorem dX12_seatAt_24 : decode cX12_seatAt 24 = .ok (.iastore, 1) := bg02_36.2.2.2.1
theorem dX12_seatAt_25 : decode cX12_seatAt 25 = .ok (.return_, 1) := bg02_36.2.2.2.2
theorem bg02_37 : (((decode cX12_lasts 0 = .ok (.aload_n 0, 1) ∧ decode cX12_lasts 1 = .ok (.iconst 0, 1)) ∧ (decode cX12_lasts 2 = .ok (.putfield 163, 3) ∧ decode cX12_lasts 5 = .ok (.aload_n 0, 1))) ∧ ((decode cX12_lasts 6 = .ok (.iload_n 1, 1) ∧ decode cX12_lasts 7 = .ok (.invokevirtual 417, 3)) ∧ (decode cX12_lasts 10 = .ok (.ifCond .eq 11, 3) ∧ decode cX12_lasts 13 = .ok (.aload_n 0, 1)))) ∧ (((decode cX12_lasts 14 = .ok (.iload_n 2, 1) ∧ decode cX12_lasts 15 = .ok (.invokevirtual 411, 3)) ∧ (decode cX12_lasts 18 = .ok (.ifCond .ne 9, 3) ∧ decode cX12_lasts 21 = .ok (.aload_n 0, 1))) ∧ ((decode cX12_lasts 22 = .ok (.iconst 1, 1) ∧ decode cX12_lasts 23 = .ok (.invokevirtual 310, 3)) ∧ (decode cX12_lasts 26 = .ok (.ireturn, 1) ∧ decode cX12_lasts 27 = .ok (.aload_n 0, 1)))) := by decide +kernel
theorem dX12_lasts_0 : decode cX12_lasts 0 = .ok (.aload_n 0, 1) := bg02_37.1.1.1.1
theorem dX12_lasts_1 : decode cX12_lasts 1 = .ok (.iconst 0, 1) := bg02_37.1.1.1.2
theorem dX12_lasts_2 : decode cX12_lasts 2 = .ok (.putfield 163, 3) := bg02_37.1.1.2.1
theorem dX12_lasts_5 : decode cX12_lasts 5 = .ok (.aload_n 0, 1) := bg02_37.1.1.2.2
theorem dX12_lasts_6 : decode cX12_lasts 6 = .ok (.iload_n 1, 1) := bg02_37.1.2.1.1
theorem dX12_lasts_7 : decode cX12_lasts 7 = .ok (.invokevirtual 417, 3) := bg02_37.1.2.1.2
theorem dX12_lasts_10 : decode cX12_lasts 10 = .ok (.ifCond .eq 11, 3) := bg02_37.1.2.2.1
theorem dX12_lasts_13 : decode cX12_lasts 13 = .ok (.aload_n 0, 1) := bg02_37.1.2.2.2
theorem dX12_lasts_14 : decode cX12_lasts 14 = .ok (.iload_n 2, 1) := bg02_37.2.1.1.1
theorem dX12_lasts_15 : decode cX12_lasts 15 = .ok (.invokevirtual 411, 3) := bg02_37.2.1.1.2
theorem dX12_lasts_18 : decode cX12_lasts 18 = .ok (.ifCond .ne 9, 3) := bg02_37.2.1.2.1
theorem dX12_lasts_21 : decode cX12_lasts 21 = .ok (.aload_n 0, 1) := bg02_37.2.1.2.2
theorem dX12_lasts_22 : decode cX12_lasts 22 = .ok (.iconst 1, 1) := bg02_37.2.2.1.1
theorem dX12_lasts_23 : decode cX12_lasts 23 = .ok (.invokevirtual 310, 3) := bg02_37.2.2.1.2
theorem dX12_lasts_26 : decode cX12_lasts 26 = .ok (.ireturn, 1) := bg02_37.2.2.2.1
theorem dX12_lasts_27 : decode cX12_lasts 27 = .ok (.aload_n 0, 1) := bg02_37.2.2.2.2
theorem bg02_38 : (((decode cX12_lasts 28 = .ok (.aload_n 0, 1) ∧ decode cX12_lasts 29 = .ok (.getfield 118, 3)) ∧ (decode cX12_lasts 32 = .ok (.iconst 0, 1))) ∧ ((decode cX12_lasts 33 = .ok (.invokevirtual 420, 3) ∧ decode cX12_lasts 36 = .ok (.aload_n 0, 1)) ∧ (decode cX12_lasts 37 = .ok (.iload_n 1, 1)))) ∧ (((decode cX12_lasts 38 = .ok (.iload_n 2, 1) ∧ decode cX12_lasts 39 = .ok (.invokevirtual 473, 3)) ∧ (decode cX12_lasts 42 = .ok (.aload_n 0, 1))) ∧ ((decode cX12_lasts 43 = .ok (.iload_n 2, 1) ∧ decode cX12_lasts 44 = .ok (.invokevirtual 455, 3)) ∧ (decode cX12_lasts 47 = .ok (.ireturn, 1)))) := by decide +kernel
theorem dX12_lasts_28 : decode cX12_lasts 28 = .ok (.aload_n 0, 1) := bg02_38.1.1.1.1
theorem dX12_lasts_29 : decode cX12_lasts 29 = .ok (.getfield 118, 3) := bg02_38.1.1.1.2
theorem dX12_lasts_32 : decode cX12_lasts 32 = .ok (.iconst 0, 1) := bg02_38.1.1.2
theorem dX12_lasts_33 : decode cX12_lasts 33 = .ok (.invokevirtual 420, 3) := bg02_38.1.2.1.1
theorem dX12_lasts_36 : decode cX12_lasts 36 = .ok (.aload_n 0, 1) := bg02_38.1.2.1.2
theorem dX12_lasts_37 : decode cX12_lasts 37 = .ok (.iload_n 1, 1) := bg02_38.1.2.2
theorem dX12_lasts_38 : decode cX12_lasts 38 = .ok (.iload_n 2, 1) := bg02_38.2.1.1.1
theorem dX12_lasts_39 : decode cX12_lasts 39 = .ok (.invokevirtual 473, 3) := bg02_38.2.1.1.2
theorem dX12_lasts_42 : decode cX12_lasts 42 = .ok (.aload_n 0, 1) := bg02_38.2.1.2
theorem dX12_lasts_43 : decode cX12_lasts 43 = .ok (.iload_n 2, 1) := bg02_38.2.2.1.1
theorem dX12_lasts_44 : decode cX12_lasts 44 = .ok (.invokevirtual 455, 3) := bg02_38.2.2.1.2
theorem dX12_lasts_47 : decode cX12_lasts 47 = .ok (.ireturn, 1) := bg02_38.2.2.2
theorem bg02_39 : (((decode cX12_best 0 = .ok (.aload_n 0, 1) ∧ decode cX12_best 1 = .ok (.iconst 0, 1)) ∧ (decode cX12_best 2 = .ok (.putfield 163, 3) ∧ decode cX12_best 5 = .ok (.aload_n 0, 1))) ∧ ((decode cX12_best 6 = .ok (.iload_n 1, 1) ∧ decode cX12_best 7 = .ok (.invokevirtual 417, 3)) ∧ (decode cX12_best 10 = .ok (.ifCond .eq 13, 3) ∧ decode cX12_best 13 = .ok (.iload_n 3, 1)))) ∧ (((decode cX12_best 14 = .ok (.i2l, 1) ∧ decode cX12_best 15 = .ok (.lconst 0, 1)) ∧ (decode cX12_best 16 = .ok (.lconst 1, 1) ∧ decode cX12_best 17 = .ok (.invokestatic 166, 3))) ∧ ((decode cX12_best 20 = .ok (.ifCond .ne 9, 3) ∧ decode cX12_best 23 = .ok (.aload_n 0, 1)) ∧ (decode cX12_best 24 = .ok (.iconst 1, 1) ∧ decode cX12_best 25 = .ok (.invokevirtual 310, 3)))) := by decide +kernel
theorem dX12_best_0 : decode cX12_best 0 = .ok (.aload_n 0, 1) := bg02_39.1.1.1.1
theorem dX12_best_1 : decode cX12_best 1 = .ok (.iconst 0, 1) := bg02_39.1.1.1.2
theorem dX12_best_2 : decode cX12_best 2 = .ok (.putfield 163, 3) := bg02_39.1.1.2.1
theorem dX12_best_5 : decode cX12_best 5 = .ok (.aload_n 0, 1) := bg02_39.1.1.2.2
theorem dX12_best_6 : decode cX12_best 6 = .ok (.iload_n 1, 1) := bg02_39.1.2.1.1
theorem dX12_best_7 : decode cX12_best 7 = .ok (.invokevirtual 417, 3) := bg02_39.1.2.1.2
theorem dX12_best_10 : decode cX12_best 10 = .ok (.ifCond .eq 13, 3) := bg02_39.1.2.2.1
theorem dX12_best_13 : decode cX12_best 13 = .ok (.iload_n 3, 1) := bg02_39.1.2.2.2
theorem dX12_best_14 : decode cX12_best 14 = .ok (.i2l, 1) := bg02_39.2.1.1.1
theorem dX12_best_15 : decode cX12_best 15 = .ok (.lconst 0, 1) := bg02_39.2.1.1.2
theorem dX12_best_16 : decode cX12_best 16 = .ok (.lconst 1, 1) := bg02_39.2.1.2.1
theorem dX12_best_17 : decode cX12_best 17 = .ok (.invokestatic 166, 3) := bg02_39.2.1.2.2
theorem dX12_best_20 : decode cX12_best 20 = .ok (.ifCond .ne 9, 3) := bg02_39.2.2.1.1
theorem dX12_best_23 : decode cX12_best 23 = .ok (.aload_n 0, 1) := bg02_39.2.2.1.2
theorem dX12_best_24 : decode cX12_best 24 = .ok (.iconst 1, 1) := bg02_39.2.2.2.1
theorem dX12_best_25 : decode cX12_best 25 = .ok (.invokevirtual 310, 3) := bg02_39.2.2.2.2
theorem bg02_40 : (((decode cX12_best 28 = .ok (.ireturn, 1) ∧ decode cX12_best 29 = .ok (.iload_n 2, 1)) ∧ (decode cX12_best 30 = .ok (.i2l, 1) ∧ decode cX12_best 31 = .ok (.lconst 1, 1))) ∧ ((decode cX12_best 32 = .ok (.ldc2_w 451, 3) ∧ decode cX12_best 35 = .ok (.invokestatic 166, 3)) ∧ (decode cX12_best 38 = .ok (.ifCond .ne 9, 3) ∧ decode cX12_best 41 = .ok (.aload_n 0, 1)))) ∧ (((decode cX12_best 42 = .ok (.iconst 2, 1) ∧ decode cX12_best 43 = .ok (.invokevirtual 310, 3)) ∧ (decode cX12_best 46 = .ok (.ireturn, 1) ∧ decode cX12_best 47 = .ok (.aload_n 0, 1))) ∧ ((decode cX12_best 48 = .ok (.aload_n 0, 1) ∧ decode cX12_best 49 = .ok (.getfield 118, 3)) ∧ (decode cX12_best 52 = .ok (.iconst 0, 1) ∧ decode cX12_best 53 = .ok (.invokevirtual 420, 3)))) := by decide +kernel
theorem dX12_best_28 : decode cX12_best 28 = .ok (.ireturn, 1) := bg02_40.1.1.1.1
theorem dX12_best_29 : decode cX12_best 29 = .ok (.iload_n 2, 1) := bg02_40.1.1.1.2
theorem dX12_best_30 : decode cX12_best 30 = .ok (.i2l, 1) := bg02_40.1.1.2.1
theorem dX12_best_31 : decode cX12_best 31 = .ok (.lconst 1, 1) := bg02_40.1.1.2.2
theorem dX12_best_32 : decode cX12_best 32 = .ok (.ldc2_w 451, 3) := bg02_40.1.2.1.1
theorem dX12_best_35 : decode cX12_best 35 = .ok (.invokestatic 166, 3) := bg02_40.1.2.1.2
theorem dX12_best_38 : decode cX12_best 38 = .ok (.ifCond .ne 9, 3) := bg02_40.1.2.2.1
theorem dX12_best_41 : decode cX12_best 41 = .ok (.aload_n 0, 1) := bg02_40.1.2.2.2
theorem dX12_best_42 : decode cX12_best 42 = .ok (.iconst 2, 1) := bg02_40.2.1.1.1
theorem dX12_best_43 : decode cX12_best 43 = .ok (.invokevirtual 310, 3) := bg02_40.2.1.1.2
theorem dX12_best_46 : decode cX12_best 46 = .ok (.ireturn, 1) := bg02_40.2.1.2.1
theorem dX12_best_47 : decode cX12_best 47 = .ok (.aload_n 0, 1) := bg02_40.2.1.2.2
theorem dX12_best_48 : decode cX12_best 48 = .ok (.aload_n 0, 1) := bg02_40.2.2.1.1
theorem dX12_best_49 : decode cX12_best 49 = .ok (.getfield 118, 3) := bg02_40.2.2.1.2
theorem dX12_best_52 : decode cX12_best 52 = .ok (.iconst 0, 1) := bg02_40.2.2.2.1
theorem dX12_best_53 : decode cX12_best 53 = .ok (.invokevirtual 420, 3) := bg02_40.2.2.2.2
theorem bg02_41 : (((decode cX12_best 56 = .ok (.iconst (-1), 1) ∧ decode cX12_best 57 = .ok (.istore 4, 2)) ∧ (decode cX12_best 59 = .ok (.iconst (-1), 1) ∧ decode cX12_best 60 = .ok (.istore 5, 2))) ∧ ((decode cX12_best 62 = .ok (.iconst 0, 1) ∧ decode cX12_best 63 = .ok (.istore 6, 2)) ∧ (decode cX12_best 65 = .ok (.iload 6, 2) ∧ decode cX12_best 67 = .ok (.aload_n 0, 1)))) ∧ (((decode cX12_best 68 = .ok (.getfield 42, 3) ∧ decode cX12_best 71 = .ok (.iconst 0, 1)) ∧ (decode cX12_best 72 = .ok (.iaload, 1) ∧ decode cX12_best 73 = .ok (.if_icmp .ge 54, 3))) ∧ ((decode cX12_best 76 = .ok (.aload_n 0, 1) ∧ decode cX12_best 77 = .ok (.iload_n 1, 1)) ∧ (decode cX12_best 78 = .ok (.iload 6, 2) ∧ decode cX12_best 80 = .ok (.invokevirtual 473, 3)))) := by decide +kernel
theorem dX12_best_56 : decode cX12_best 56 = .ok (.iconst (-1), 1) := bg02_41.1.1.1.1
theorem dX12_best_57 : decode cX12_best 57 = .ok (.istore 4, 2) := bg02_41.1.1.1.2
theorem dX12_best_59 : decode cX12_best 59 = .ok (.iconst (-1), 1) := bg02_41.1.1.2.1
theorem dX12_best_60 : decode cX12_best 60 = .ok (.istore 5, 2) := bg02_41.1.1.2.2
theorem dX12_best_62 : decode cX12_best 62 = .ok (.iconst 0, 1) := bg02_41.1.2.1.1
theorem dX12_best_63 : decode cX12_best 63 = .ok (.istore 6, 2) := bg02_41.1.2.1.2
theorem dX12_best_65 : decode cX12_best 65 = .ok (.iload 6, 2) := bg02_41.1.2.2.1
theorem dX12_best_67 : decode cX12_best 67 = .ok (.aload_n 0, 1) := bg02_41.1.2.2.2
theorem dX12_best_68 : decode cX12_best 68 = .ok (.getfield 42, 3) := bg02_41.2.1.1.1
theorem dX12_best_71 : decode cX12_best 71 = .ok (.iconst 0, 1) := bg02_41.2.1.1.2
theorem dX12_best_72 : decode cX12_best 72 = .ok (.iaload, 1) := bg02_41.2.1.2.1
theorem dX12_best_73 : decode cX12_best 73 = .ok (.if_icmp .ge 54, 3) := bg02_41.2.1.2.2
theorem dX12_best_76 : decode cX12_best 76 = .ok (.aload_n 0, 1) := bg02_41.2.2.1.1
theorem dX12_best_77 : decode cX12_best 77 = .ok (.iload_n 1, 1) := bg02_41.2.2.1.2
theorem dX12_best_78 : decode cX12_best 78 = .ok (.iload 6, 2) := bg02_41.2.2.2.1
theorem dX12_best_80 : decode cX12_best 80 = .ok (.invokevirtual 473, 3) := bg02_41.2.2.2.2
theorem bg02_42 : (((decode cX12_best 83 = .ok (.aload_n 0, 1) ∧ decode cX12_best 84 = .ok (.iload_n 2, 1)) ∧ (decode cX12_best 85 = .ok (.invokevirtual 432, 3) ∧ decode cX12_best 88 = .ok (.aload_n 0, 1))) ∧ ((decode cX12_best 89 = .ok (.invokevirtual 402, 3) ∧ decode cX12_best 92 = .ok (.istore 7, 2)) ∧ (decode cX12_best 94 = .ok (.aload_n 0, 1) ∧ decode cX12_best 95 = .ok (.aload_n 0, 1)))) ∧ (((decode cX12_best 96 = .ok (.getfield 118, 3) ∧ decode cX12_best 99 = .ok (.iconst 0, 1)) ∧ (decode cX12_best 100 = .ok (.invokevirtual 446, 3) ∧ decode cX12_best 103 = .ok (.iload 7, 2))) ∧ ((decode cX12_best 105 = .ok (.iload 5, 2) ∧ decode cX12_best 107 = .ok (.if_icmp .gt 6, 3)) ∧ (decode cX12_best 110 = .ok (.goto 11, 3) ∧ decode cX12_best 113 = .ok (.iload 6, 2)))) := by decide +kernel
theorem dX12_best_83 : decode cX12_best 83 = .ok (.aload_n 0, 1) := bg02_42.1.1.1.1
theorem dX12_best_84 : decode cX12_best 84 = .ok (.iload_n 2, 1) := bg02_42.1.1.1.2
theorem dX12_best_85 : decode cX12_best 85 = .ok (.invokevirtual 432, 3) := bg02_42.1.1.2.1
theorem dX12_best_88 : decode cX12_best 88 = .ok (.aload_n 0, 1) := bg02_42.1.1.2.2
theorem dX12_best_89 : decode cX12_best 89 = .ok (.invokevirtual 402, 3) := bg02_42.1.2.1.1
theorem dX12_best_92 : decode cX12_best 92 = .ok (.istore 7, 2) := bg02_42.1.2.1.2
theorem dX12_best_94 : decode cX12_best 94 = .ok (.aload_n 0, 1) := bg02_42.1.2.2.1
theorem dX12_best_95 : decode cX12_best 95 = .ok (.aload_n 0, 1) := bg02_42.1.2.2.2
theorem dX12_best_96 : decode cX12_best 96 = .ok (.getfield 118, 3) := bg02_42.2.1.1.1
theorem dX12_best_99 : decode cX12_best 99 = .ok (.iconst 0, 1) := bg02_42.2.1.1.2
theorem dX12_best_100 : decode cX12_best 100 = .ok (.invokevirtual 446, 3) := bg02_42.2.1.2.1
theorem dX12_best_103 : decode cX12_best 103 = .ok (.iload 7, 2) := bg02_42.2.1.2.2
theorem dX12_best_105 : decode cX12_best 105 = .ok (.iload 5, 2) := bg02_42.2.2.1.1
theorem dX12_best_107 : decode cX12_best 107 = .ok (.if_icmp .gt 6, 3) := bg02_42.2.2.1.2
theorem dX12_best_110 : decode cX12_best 110 = .ok (.goto 11, 3) := bg02_42.2.2.2.1
theorem dX12_best_113 : decode cX12_best 113 = .ok (.iload 6, 2) := bg02_42.2.2.2.2
theorem bg02_43 : (((decode cX12_best 115 = .ok (.istore 4, 2) ∧ decode cX12_best 117 = .ok (.iload 7, 2)) ∧ (decode cX12_best 119 = .ok (.istore 5, 2))) ∧ ((decode cX12_best 121 = .ok (.iinc 6 1, 3) ∧ decode cX12_best 124 = .ok (.goto (-59), 3)) ∧ (decode cX12_best 127 = .ok (.iload_n 3, 1)))) ∧ (((decode cX12_best 128 = .ok (.ifCond .ne 8, 3) ∧ decode cX12_best 131 = .ok (.iload 4, 2)) ∧ (decode cX12_best 133 = .ok (.goto 5, 3))) ∧ (decode cX12_best 136 = .ok (.iload 5, 2) ∧ decode cX12_best 138 = .ok (.ireturn, 1))) := by decide +kernel
theorem dX12_best_115 : decode cX12_best 115 = .ok (.istore 4, 2) := bg02_43.1.1.1.1
theorem dX12_best_117 : decode cX12_best 117 = .ok (.iload 7, 2) := bg02_43.1.1.1.2
theorem dX12_best_119 : decode cX12_best 119 = .ok (.istore 5, 2) := bg02_43.1.1.2
theorem dX12_best_121 : decode cX12_best 121 = .ok (.iinc 6 1, 3) := bg02_43.1.2.1.1
theorem dX12_best_124 : decode cX12_best 124 = .ok (.goto (-59), 3) := bg02_43.1.2.1.2
theorem dX12_best_127 : decode cX12_best 127 = .ok (.iload_n 3, 1) := bg02_43.1.2.2
theorem dX12_best_128 : decode cX12_best 128 = .ok (.ifCond .ne 8, 3) := bg02_43.2.1.1.1
theorem dX12_best_131 : decode cX12_best 131 = .ok (.iload 4, 2) := bg02_43.2.1.1.2
theorem dX12_best_133 : decode cX12_best 133 = .ok (.goto 5, 3) := bg02_43.2.1.2
theorem dX12_best_136 : decode cX12_best 136 = .ok (.iload 5, 2) := bg02_43.2.2.1
theorem dX12_best_138 : decode cX12_best 138 = .ok (.ireturn, 1) := bg02_43.2.2.2
theorem bg02_44 : (((decode cX12_see 0 = .ok (.aload_n 0, 1) ∧ decode cX12_see 1 = .ok (.iconst 0, 1)) ∧ (decode cX12_see 2 = .ok (.putfield 163, 3) ∧ decode cX12_see 5 = .ok (.aload_n 0, 1))) ∧ ((decode cX12_see 6 = .ok (.iload_n 1, 1) ∧ decode cX12_see 7 = .ok (.invokevirtual 417, 3)) ∧ (decode cX12_see 10 = .ok (.ifCond .ne 9, 3) ∧ decode cX12_see 13 = .ok (.aload_n 0, 1)))) ∧ (((decode cX12_see 14 = .ok (.iconst 1, 1) ∧ decode cX12_see 15 = .ok (.invokevirtual 310, 3)) ∧ (decode cX12_see 18 = .ok (.ireturn, 1) ∧ decode cX12_see 19 = .ok (.aload_n 0, 1))) ∧ ((decode cX12_see 20 = .ok (.getfield 329, 3) ∧ decode cX12_see 23 = .ok (.bipush 8, 2)) ∧ (decode cX12_see 25 = .ok (.if_icmp .eq 27, 3) ∧ decode cX12_see 28 = .ok (.iload_n 2, 1)))) := by decide +kernel
theorem dX12_see_0 : decode cX12_see 0 = .ok (.aload_n 0, 1) := bg02_44.1.1.1.1
theorem dX12_see_1 : decode cX12_see 1 = .ok (.iconst 0, 1) := bg02_44.1.1.1.2
theorem dX12_see_2 : decode cX12_see 2 = .ok (.putfield 163, 3) := bg02_44.1.1.2.1
theorem dX12_see_5 : decode cX12_see 5 = .ok (.aload_n 0, 1) := bg02_44.1.1.2.2
theorem dX12_see_6 : decode cX12_see 6 = .ok (.iload_n 1, 1) := bg02_44.1.2.1.1
theorem dX12_see_7 : decode cX12_see 7 = .ok (.invokevirtual 417, 3) := bg02_44.1.2.1.2
theorem dX12_see_10 : decode cX12_see 10 = .ok (.ifCond .ne 9, 3) := bg02_44.1.2.2.1
theorem dX12_see_13 : decode cX12_see 13 = .ok (.aload_n 0, 1) := bg02_44.1.2.2.2
theorem dX12_see_14 : decode cX12_see 14 = .ok (.iconst 1, 1) := bg02_44.2.1.1.1
theorem dX12_see_15 : decode cX12_see 15 = .ok (.invokevirtual 310, 3) := bg02_44.2.1.1.2
theorem dX12_see_18 : decode cX12_see 18 = .ok (.ireturn, 1) := bg02_44.2.1.2.1
theorem dX12_see_19 : decode cX12_see 19 = .ok (.aload_n 0, 1) := bg02_44.2.1.2.2
theorem dX12_see_20 : decode cX12_see 20 = .ok (.getfield 329, 3) := bg02_44.2.2.1.1
theorem dX12_see_23 : decode cX12_see 23 = .ok (.bipush 8, 2) := bg02_44.2.2.1.2
theorem dX12_see_25 : decode cX12_see 25 = .ok (.if_icmp .eq 27, 3) := bg02_44.2.2.2.1
theorem dX12_see_28 : decode cX12_see 28 = .ok (.iload_n 2, 1) := bg02_44.2.2.2.2
theorem bg02_45 : (((decode cX12_see 29 = .ok (.i2l, 1) ∧ decode cX12_see 30 = .ok (.lconst 0, 1)) ∧ (decode cX12_see 31 = .ok (.ldc2_w 424, 3) ∧ decode cX12_see 34 = .ok (.invokestatic 166, 3))) ∧ ((decode cX12_see 37 = .ok (.ifCond .eq 15, 3) ∧ decode cX12_see 40 = .ok (.iload_n 3, 1)) ∧ (decode cX12_see 41 = .ok (.i2l, 1) ∧ decode cX12_see 42 = .ok (.lconst 0, 1)))) ∧ (((decode cX12_see 43 = .ok (.ldc2_w 435, 3) ∧ decode cX12_see 46 = .ok (.invokestatic 166, 3)) ∧ (decode cX12_see 49 = .ok (.ifCond .ne 9, 3) ∧ decode cX12_see 52 = .ok (.aload_n 0, 1))) ∧ ((decode cX12_see 53 = .ok (.iconst 2, 1) ∧ decode cX12_see 54 = .ok (.invokevirtual 426, 3)) ∧ (decode cX12_see 57 = .ok (.ireturn, 1) ∧ decode cX12_see 58 = .ok (.aload_n 0, 1)))) := by decide +kernel
theorem dX12_see_29 : decode cX12_see 29 = .ok (.i2l, 1) := bg02_45.1.1.1.1
theorem dX12_see_30 : decode cX12_see 30 = .ok (.lconst 0, 1) := bg02_45.1.1.1.2
theorem dX12_see_31 : decode cX12_see 31 = .ok (.ldc2_w 424, 3) := bg02_45.1.1.2.1
theorem dX12_see_34 : decode cX12_see 34 = .ok (.invokestatic 166, 3) := bg02_45.1.1.2.2
theorem dX12_see_37 : decode cX12_see 37 = .ok (.ifCond .eq 15, 3) := bg02_45.1.2.1.1
theorem dX12_see_40 : decode cX12_see 40 = .ok (.iload_n 3, 1) := bg02_45.1.2.1.2
theorem dX12_see_41 : decode cX12_see 41 = .ok (.i2l, 1) := bg02_45.1.2.2.1
theorem dX12_see_42 : decode cX12_see 42 = .ok (.lconst 0, 1) := bg02_45.1.2.2.2
theorem dX12_see_43 : decode cX12_see 43 = .ok (.ldc2_w 435, 3) := bg02_45.2.1.1.1
theorem dX12_see_46 : decode cX12_see 46 = .ok (.invokestatic 166, 3) := bg02_45.2.1.1.2
theorem dX12_see_49 : decode cX12_see 49 = .ok (.ifCond .ne 9, 3) := bg02_45.2.1.2.1
theorem dX12_see_52 : decode cX12_see 52 = .ok (.aload_n 0, 1) := bg02_45.2.1.2.2
theorem dX12_see_53 : decode cX12_see 53 = .ok (.iconst 2, 1) := bg02_45.2.2.1.1
theorem dX12_see_54 : decode cX12_see 54 = .ok (.invokevirtual 426, 3) := bg02_45.2.2.1.2
theorem dX12_see_57 : decode cX12_see 57 = .ok (.ireturn, 1) := bg02_45.2.2.2.1
theorem dX12_see_58 : decode cX12_see 58 = .ok (.aload_n 0, 1) := bg02_45.2.2.2.2
theorem bg02_46 : (((decode cX12_see 59 = .ok (.getfield 124, 3) ∧ decode cX12_see 62 = .ok (.aload_n 0, 1)) ∧ (decode cX12_see 63 = .ok (.getfield 329, 3) ∧ decode cX12_see 66 = .ok (.iload_n 1, 1))) ∧ ((decode cX12_see 67 = .ok (.iastore, 1) ∧ decode cX12_see 68 = .ok (.aload_n 0, 1)) ∧ (decode cX12_see 69 = .ok (.getfield 127, 3) ∧ decode cX12_see 72 = .ok (.aload_n 0, 1)))) ∧ (((decode cX12_see 73 = .ok (.getfield 329, 3) ∧ decode cX12_see 76 = .ok (.iload_n 2, 1)) ∧ (decode cX12_see 77 = .ok (.iastore, 1) ∧ decode cX12_see 78 = .ok (.aload_n 0, 1))) ∧ ((decode cX12_see 79 = .ok (.getfield 130, 3) ∧ decode cX12_see 82 = .ok (.aload_n 0, 1)) ∧ (decode cX12_see 83 = .ok (.getfield 329, 3) ∧ decode cX12_see 86 = .ok (.iload_n 3, 1)))) := by decide +kernel
theorem dX12_see_59 : decode cX12_see 59 = .ok (.getfield 124, 3) := bg02_46.1.1.1.1
theorem dX12_see_62 : decode cX12_see 62 = .ok (.aload_n 0, 1) := bg02_46.1.1.1.2
theorem dX12_see_63 : decode cX12_see 63 = .ok (.getfield 329, 3) := bg02_46.1.1.2.1
theorem dX12_see_66 : decode cX12_see 66 = .ok (.iload_n 1, 1) := bg02_46.1.1.2.2
theorem dX12_see_67 : decode cX12_see 67 = .ok (.iastore, 1) := bg02_46.1.2.1.1
theorem dX12_see_68 : decode cX12_see 68 = .ok (.aload_n 0, 1) := bg02_46.1.2.1.2
theorem dX12_see_69 : decode cX12_see 69 = .ok (.getfield 127, 3) := bg02_46.1.2.2.1
theorem dX12_see_72 : decode cX12_see 72 = .ok (.aload_n 0, 1) := bg02_46.1.2.2.2
theorem dX12_see_73 : decode cX12_see 73 = .ok (.getfield 329, 3) := bg02_46.2.1.1.1
theorem dX12_see_76 : decode cX12_see 76 = .ok (.iload_n 2, 1) := bg02_46.2.1.1.2
theorem dX12_see_77 : decode cX12_see 77 = .ok (.iastore, 1) := bg02_46.2.1.2.1
theorem dX12_see_78 : decode cX12_see 78 = .ok (.aload_n 0, 1) := bg02_46.2.1.2.2
theorem dX12_see_79 : decode cX12_see 79 = .ok (.getfield 130, 3) := bg02_46.2.2.1.1
theorem dX12_see_82 : decode cX12_see 82 = .ok (.aload_n 0, 1) := bg02_46.2.2.1.2
theorem dX12_see_83 : decode cX12_see 83 = .ok (.getfield 329, 3) := bg02_46.2.2.2.1
theorem dX12_see_86 : decode cX12_see 86 = .ok (.iload_n 3, 1) := bg02_46.2.2.2.2
theorem bg02_47 : (((decode cX12_see 87 = .ok (.iastore, 1) ∧ decode cX12_see 88 = .ok (.aload_n 0, 1)) ∧ (decode cX12_see 89 = .ok (.dup, 1))) ∧ (decode cX12_see 90 = .ok (.getfield 329, 3) ∧ decode cX12_see 93 = .ok (.iconst 1, 1))) ∧ (((decode cX12_see 94 = .ok (.iadd, 1) ∧ decode cX12_see 95 = .ok (.putfield 329, 3)) ∧ (decode cX12_see 98 = .ok (.aload_n 0, 1))) ∧ (decode cX12_see 99 = .ok (.getfield 329, 3) ∧ decode cX12_see 102 = .ok (.ireturn, 1))) := by decide +kernel
theorem dX12_see_87 : decode cX12_see 87 = .ok (.iastore, 1) := bg02_47.1.1.1.1
theorem dX12_see_88 : decode cX12_see 88 = .ok (.aload_n 0, 1) := bg02_47.1.1.1.2
theorem dX12_see_89 : decode cX12_see 89 = .ok (.dup, 1) := bg02_47.1.1.2
theorem dX12_see_90 : decode cX12_see 90 = .ok (.getfield 329, 3) := bg02_47.1.2.1
theorem dX12_see_93 : decode cX12_see 93 = .ok (.iconst 1, 1) := bg02_47.1.2.2
theorem dX12_see_94 : decode cX12_see 94 = .ok (.iadd, 1) := bg02_47.2.1.1.1
theorem dX12_see_95 : decode cX12_see 95 = .ok (.putfield 329, 3) := bg02_47.2.1.1.2
theorem dX12_see_98 : decode cX12_see 98 = .ok (.aload_n 0, 1) := bg02_47.2.1.2
theorem dX12_see_99 : decode cX12_see 99 = .ok (.getfield 329, 3) := bg02_47.2.2.1
theorem dX12_see_102 : decode cX12_see 102 = .ok (.ireturn, 1) := bg02_47.2.2.2
theorem bg02_48 : (((decode cX12_isAsSeen 0 = .ok (.aload_n 0, 1) ∧ decode cX12_isAsSeen 1 = .ok (.aload_n 0, 1)) ∧ (decode cX12_isAsSeen 2 = .ok (.getfield 133, 3) ∧ decode cX12_isAsSeen 5 = .ok (.iconst 0, 1))) ∧ ((decode cX12_isAsSeen 6 = .ok (.invokevirtual 420, 3) ∧ decode cX12_isAsSeen 9 = .ok (.iconst 0, 1)) ∧ (decode cX12_isAsSeen 10 = .ok (.istore_n 1, 1) ∧ decode cX12_isAsSeen 11 = .ok (.iconst 0, 1)))) ∧ (((decode cX12_isAsSeen 12 = .ok (.istore_n 2, 1) ∧ decode cX12_isAsSeen 13 = .ok (.iload_n 2, 1)) ∧ (decode cX12_isAsSeen 14 = .ok (.aload_n 0, 1) ∧ decode cX12_isAsSeen 15 = .ok (.getfield 329, 3))) ∧ ((decode cX12_isAsSeen 18 = .ok (.if_icmp .ge 20, 3) ∧ decode cX12_isAsSeen 21 = .ok (.iload_n 1, 1)) ∧ (decode cX12_isAsSeen 22 = .ok (.aload_n 0, 1) ∧ decode cX12_isAsSeen 23 = .ok (.getfield 127, 3)))) := by decide +kernel
theorem dX12_isAsSeen_0 : decode cX12_isAsSeen 0 = .ok (.aload_n 0, 1) := bg02_48.1.1.1.1
theorem dX12_isAsSeen_1 : decode cX12_isAsSeen 1 = .ok (.aload_n 0, 1) := bg02_48.1.1.1.2
theorem dX12_isAsSeen_2 : decode cX12_isAsSeen 2 = .ok (.getfield 133, 3) := bg02_48.1.1.2.1
theorem dX12_isAsSeen_5 : decode cX12_isAsSeen 5 = .ok (.iconst 0, 1) := bg02_48.1.1.2.2
theorem dX12_isAsSeen_6 : decode cX12_isAsSeen 6 = .ok (.invokevirtual 420, 3) := bg02_48.1.2.1.1
theorem dX12_isAsSeen_9 : decode cX12_isAsSeen 9 = .ok (.iconst 0, 1) := bg02_48.1.2.1.2
theorem dX12_isAsSeen_10 : decode cX12_isAsSeen 10 = .ok (.istore_n 1, 1) := bg02_48.1.2.2.1
theorem dX12_isAsSeen_11 : decode cX12_isAsSeen 11 = .ok (.iconst 0, 1) := bg02_48.1.2.2.2
theorem dX12_isAsSeen_12 : decode cX12_isAsSeen 12 = .ok (.istore_n 2, 1) := bg02_48.2.1.1.1
theorem dX12_isAsSeen_13 : decode cX12_isAsSeen 13 = .ok (.iload_n 2, 1) := bg02_48.2.1.1.2
theorem dX12_isAsSeen_14 : decode cX12_isAsSeen 14 = .ok (.aload_n 0, 1) := bg02_48.2.1.2.1
theorem dX12_isAsSeen_15 : decode cX12_isAsSeen 15 = .ok (.getfield 329, 3) := bg02_48.2.1.2.2
theorem dX12_isAsSeen_18 : decode cX12_isAsSeen 18 = .ok (.if_icmp .ge 20, 3) := bg02_48.2.2.1.1
theorem dX12_isAsSeen_21 : decode cX12_isAsSeen 21 = .ok (.iload_n 1, 1) := bg02_48.2.2.1.2
theorem dX12_isAsSeen_22 : decode cX12_isAsSeen 22 = .ok (.aload_n 0, 1) := bg02_48.2.2.2.1
theorem dX12_isAsSeen_23 : decode cX12_isAsSeen 23 = .ok (.getfield 127, 3) := bg02_48.2.2.2.2
theorem bg02_49 : (((decode cX12_isAsSeen 26 = .ok (.iload_n 2, 1) ∧ decode cX12_isAsSeen 27 = .ok (.iaload, 1)) ∧ (decode cX12_isAsSeen 28 = .ok (.invokestatic 349, 3) ∧ decode cX12_isAsSeen 31 = .ok (.istore_n 1, 1))) ∧ ((decode cX12_isAsSeen 32 = .ok (.iinc 2 1, 3) ∧ decode cX12_isAsSeen 35 = .ok (.goto (-22), 3)) ∧ (decode cX12_isAsSeen 38 = .ok (.iconst 1, 1) ∧ decode cX12_isAsSeen 39 = .ok (.istore_n 2, 1)))) ∧ (((decode cX12_isAsSeen 40 = .ok (.iconst 0, 1) ∧ decode cX12_isAsSeen 41 = .ok (.istore_n 3, 1)) ∧ (decode cX12_isAsSeen 42 = .ok (.iload_n 3, 1) ∧ decode cX12_isAsSeen 43 = .ok (.iload_n 1, 1))) ∧ ((decode cX12_isAsSeen 44 = .ok (.if_icmp .gt 79, 3) ∧ decode cX12_isAsSeen 47 = .ok (.iload_n 2, 1)) ∧ (decode cX12_isAsSeen 48 = .ok (.ifCond .eq 75, 3) ∧ decode cX12_isAsSeen 51 = .ok (.iconst 0, 1)))) := by decide +kernel
theorem dX12_isAsSeen_26 : decode cX12_isAsSeen 26 = .ok (.iload_n 2, 1) := bg02_49.1.1.1.1
theorem dX12_isAsSeen_27 : decode cX12_isAsSeen 27 = .ok (.iaload, 1) := bg02_49.1.1.1.2
theorem dX12_isAsSeen_28 : decode cX12_isAsSeen 28 = .ok (.invokestatic 349, 3) := bg02_49.1.1.2.1
theorem dX12_isAsSeen_31 : decode cX12_isAsSeen 31 = .ok (.istore_n 1, 1) := bg02_49.1.1.2.2
theorem dX12_isAsSeen_32 : decode cX12_isAsSeen 32 = .ok (.iinc 2 1, 3) := bg02_49.1.2.1.1
theorem dX12_isAsSeen_35 : decode cX12_isAsSeen 35 = .ok (.goto (-22), 3) := bg02_49.1.2.1.2
theorem dX12_isAsSeen_38 : decode cX12_isAsSeen 38 = .ok (.iconst 1, 1) := bg02_49.1.2.2.1
theorem dX12_isAsSeen_39 : decode cX12_isAsSeen 39 = .ok (.istore_n 2, 1) := bg02_49.1.2.2.2
theorem dX12_isAsSeen_40 : decode cX12_isAsSeen 40 = .ok (.iconst 0, 1) := bg02_49.2.1.1.1
theorem dX12_isAsSeen_41 : decode cX12_isAsSeen 41 = .ok (.istore_n 3, 1) := bg02_49.2.1.1.2
theorem dX12_isAsSeen_42 : decode cX12_isAsSeen 42 = .ok (.iload_n 3, 1) := bg02_49.2.1.2.1
theorem dX12_isAsSeen_43 : decode cX12_isAsSeen 43 = .ok (.iload_n 1, 1) := bg02_49.2.1.2.2
theorem dX12_isAsSeen_44 : decode cX12_isAsSeen 44 = .ok (.if_icmp .gt 79, 3) := bg02_49.2.2.1.1
theorem dX12_isAsSeen_47 : decode cX12_isAsSeen 47 = .ok (.iload_n 2, 1) := bg02_49.2.2.1.2
theorem dX12_isAsSeen_48 : decode cX12_isAsSeen 48 = .ok (.ifCond .eq 75, 3) := bg02_49.2.2.2.1
theorem dX12_isAsSeen_51 : decode cX12_isAsSeen 51 = .ok (.iconst 0, 1) := bg02_49.2.2.2.2
theorem bg02_50 : (((decode cX12_isAsSeen 52 = .ok (.istore 4, 2) ∧ decode cX12_isAsSeen 54 = .ok (.iload 4, 2)) ∧ (decode cX12_isAsSeen 56 = .ok (.aload_n 0, 1) ∧ decode cX12_isAsSeen 57 = .ok (.getfield 329, 3))) ∧ ((decode cX12_isAsSeen 60 = .ok (.if_icmp .ge 52, 3) ∧ decode cX12_isAsSeen 63 = .ok (.iload_n 2, 1)) ∧ (decode cX12_isAsSeen 64 = .ok (.ifCond .eq 40, 3) ∧ decode cX12_isAsSeen 67 = .ok (.aload_n 0, 1)))) ∧ (((decode cX12_isAsSeen 68 = .ok (.getfield 127, 3) ∧ decode cX12_isAsSeen 71 = .ok (.iload 4, 2)) ∧ (decode cX12_isAsSeen 73 = .ok (.iaload, 1) ∧ decode cX12_isAsSeen 74 = .ok (.iload_n 3, 1))) ∧ ((decode cX12_isAsSeen 75 = .ok (.if_icmp .ne 25, 3) ∧ decode cX12_isAsSeen 78 = .ok (.aload_n 0, 1)) ∧ (decode cX12_isAsSeen 79 = .ok (.getfield 96, 3) ∧ decode cX12_isAsSeen 82 = .ok (.aload_n 0, 1)))) := by decide +kernel
theorem dX12_isAsSeen_52 : decode cX12_isAsSeen 52 = .ok (.istore 4, 2) := bg02_50.1.1.1.1
theorem dX12_isAsSeen_54 : decode cX12_isAsSeen 54 = .ok (.iload 4, 2) := bg02_50.1.1.1.2
theorem dX12_isAsSeen_56 : decode cX12_isAsSeen 56 = .ok (.aload_n 0, 1) := bg02_50.1.1.2.1
theorem dX12_isAsSeen_57 : decode cX12_isAsSeen 57 = .ok (.getfield 329, 3) := bg02_50.1.1.2.2
theorem dX12_isAsSeen_60 : decode cX12_isAsSeen 60 = .ok (.if_icmp .ge 52, 3) := bg02_50.1.2.1.1
theorem dX12_isAsSeen_63 : decode cX12_isAsSeen 63 = .ok (.iload_n 2, 1) := bg02_50.1.2.1.2
theorem dX12_isAsSeen_64 : decode cX12_isAsSeen 64 = .ok (.ifCond .eq 40, 3) := bg02_50.1.2.2.1
theorem dX12_isAsSeen_67 : decode cX12_isAsSeen 67 = .ok (.aload_n 0, 1) := bg02_50.1.2.2.2
theorem dX12_isAsSeen_68 : decode cX12_isAsSeen 68 = .ok (.getfield 127, 3) := bg02_50.2.1.1.1
theorem dX12_isAsSeen_71 : decode cX12_isAsSeen 71 = .ok (.iload 4, 2) := bg02_50.2.1.1.2
theorem dX12_isAsSeen_73 : decode cX12_isAsSeen 73 = .ok (.iaload, 1) := bg02_50.2.1.2.1
theorem dX12_isAsSeen_74 : decode cX12_isAsSeen 74 = .ok (.iload_n 3, 1) := bg02_50.2.1.2.2
theorem dX12_isAsSeen_75 : decode cX12_isAsSeen 75 = .ok (.if_icmp .ne 25, 3) := bg02_50.2.2.1.1
theorem dX12_isAsSeen_78 : decode cX12_isAsSeen 78 = .ok (.aload_n 0, 1) := bg02_50.2.2.1.2
theorem dX12_isAsSeen_79 : decode cX12_isAsSeen 79 = .ok (.getfield 96, 3) := bg02_50.2.2.2.1
theorem dX12_isAsSeen_82 : decode cX12_isAsSeen 82 = .ok (.aload_n 0, 1) := bg02_50.2.2.2.2
theorem bg02_51 : (((decode cX12_isAsSeen 83 = .ok (.getfield 124, 3) ∧ decode cX12_isAsSeen 86 = .ok (.iload 4, 2)) ∧ (decode cX12_isAsSeen 88 = .ok (.iaload, 1) ∧ decode cX12_isAsSeen 89 = .ok (.iaload, 1))) ∧ ((decode cX12_isAsSeen 90 = .ok (.aload_n 0, 1) ∧ decode cX12_isAsSeen 91 = .ok (.getfield 130, 3)) ∧ (decode cX12_isAsSeen 94 = .ok (.iload 4, 2) ∧ decode cX12_isAsSeen 96 = .ok (.iaload, 1)))) ∧ (((decode cX12_isAsSeen 97 = .ok (.if_icmp .ne 7, 3) ∧ decode cX12_isAsSeen 100 = .ok (.iconst 1, 1)) ∧ (decode cX12_isAsSeen 101 = .ok (.goto 4, 3) ∧ decode cX12_isAsSeen 104 = .ok (.iconst 0, 1))) ∧ ((decode cX12_isAsSeen 105 = .ok (.istore_n 2, 1) ∧ decode cX12_isAsSeen 106 = .ok (.iinc 4 1, 3)) ∧ (decode cX12_isAsSeen 109 = .ok (.goto (-55), 3) ∧ decode cX12_isAsSeen 112 = .ok (.aload_n 0, 1)))) := by decide +kernel
theorem dX12_isAsSeen_83 : decode cX12_isAsSeen 83 = .ok (.getfield 124, 3) := bg02_51.1.1.1.1
theorem dX12_isAsSeen_86 : decode cX12_isAsSeen 86 = .ok (.iload 4, 2) := bg02_51.1.1.1.2
theorem dX12_isAsSeen_88 : decode cX12_isAsSeen 88 = .ok (.iaload, 1) := bg02_51.1.1.2.1
theorem dX12_isAsSeen_89 : decode cX12_isAsSeen 89 = .ok (.iaload, 1) := bg02_51.1.1.2.2
theorem dX12_isAsSeen_90 : decode cX12_isAsSeen 90 = .ok (.aload_n 0, 1) := bg02_51.1.2.1.1
theorem dX12_isAsSeen_91 : decode cX12_isAsSeen 91 = .ok (.getfield 130, 3) := bg02_51.1.2.1.2
theorem dX12_isAsSeen_94 : decode cX12_isAsSeen 94 = .ok (.iload 4, 2) := bg02_51.1.2.2.1
theorem dX12_isAsSeen_96 : decode cX12_isAsSeen 96 = .ok (.iaload, 1) := bg02_51.1.2.2.2
theorem dX12_isAsSeen_97 : decode cX12_isAsSeen 97 = .ok (.if_icmp .ne 7, 3) := bg02_51.2.1.1.1
theorem dX12_isAsSeen_100 : decode cX12_isAsSeen 100 = .ok (.iconst 1, 1) := bg02_51.2.1.1.2
theorem dX12_isAsSeen_101 : decode cX12_isAsSeen 101 = .ok (.goto 4, 3) := bg02_51.2.1.2.1
theorem dX12_isAsSeen_104 : decode cX12_isAsSeen 104 = .ok (.iconst 0, 1) := bg02_51.2.1.2.2
theorem dX12_isAsSeen_105 : decode cX12_isAsSeen 105 = .ok (.istore_n 2, 1) := bg02_51.2.2.1.1
theorem dX12_isAsSeen_106 : decode cX12_isAsSeen 106 = .ok (.iinc 4 1, 3) := bg02_51.2.2.1.2
theorem dX12_isAsSeen_109 : decode cX12_isAsSeen 109 = .ok (.goto (-55), 3) := bg02_51.2.2.2.1
theorem dX12_isAsSeen_112 : decode cX12_isAsSeen 112 = .ok (.aload_n 0, 1) := bg02_51.2.2.2.2
theorem bg02_52 : (((decode cX12_isAsSeen 113 = .ok (.iconst 1, 1) ∧ decode cX12_isAsSeen 114 = .ok (.invokevirtual 432, 3)) ∧ (decode cX12_isAsSeen 117 = .ok (.iinc 3 1, 3))) ∧ ((decode cX12_isAsSeen 120 = .ok (.goto (-78), 3) ∧ decode cX12_isAsSeen 123 = .ok (.aload_n 0, 1)) ∧ (decode cX12_isAsSeen 124 = .ok (.aload_n 0, 1)))) ∧ (((decode cX12_isAsSeen 125 = .ok (.getfield 133, 3) ∧ decode cX12_isAsSeen 128 = .ok (.iconst 0, 1)) ∧ (decode cX12_isAsSeen 129 = .ok (.invokevirtual 446, 3))) ∧ (decode cX12_isAsSeen 132 = .ok (.iload_n 2, 1) ∧ decode cX12_isAsSeen 133 = .ok (.ireturn, 1))) := by decide +kernel
theorem dX12_isAsSeen_113 : decode cX12_isAsSeen 113 = .ok (.iconst 1, 1) := bg02_52.1.1.1.1
theorem dX12_isAsSeen_114 : decode cX12_isAsSeen 114 = .ok (.invokevirtual 432, 3) := bg02_52.1.1.1.2
theorem dX12_isAsSeen_117 : decode cX12_isAsSeen 117 = .ok (.iinc 3 1, 3) := bg02_52.1.1.2
theorem dX12_isAsSeen_120 : decode cX12_isAsSeen 120 = .ok (.goto (-78), 3) := bg02_52.1.2.1.1
theorem dX12_isAsSeen_123 : decode cX12_isAsSeen 123 = .ok (.aload_n 0, 1) := bg02_52.1.2.1.2
theorem dX12_isAsSeen_124 : decode cX12_isAsSeen 124 = .ok (.aload_n 0, 1) := bg02_52.1.2.2
theorem dX12_isAsSeen_125 : decode cX12_isAsSeen 125 = .ok (.getfield 133, 3) := bg02_52.2.1.1.1
theorem dX12_isAsSeen_128 : decode cX12_isAsSeen 128 = .ok (.iconst 0, 1) := bg02_52.2.1.1.2
theorem dX12_isAsSeen_129 : decode cX12_isAsSeen 129 = .ok (.invokevirtual 446, 3) := bg02_52.2.1.2
theorem dX12_isAsSeen_132 : decode cX12_isAsSeen 132 = .ok (.iload_n 2, 1) := bg02_52.2.2.1
theorem dX12_isAsSeen_133 : decode cX12_isAsSeen 133 = .ok (.ireturn, 1) := bg02_52.2.2.2
theorem bg02_53 : (((decode cX12_tellFits 0 = .ok (.aload_n 0, 1) ∧ decode cX12_tellFits 1 = .ok (.iconst 0, 1)) ∧ (decode cX12_tellFits 2 = .ok (.putfield 476, 3) ∧ decode cX12_tellFits 5 = .ok (.iconst 0, 1))) ∧ ((decode cX12_tellFits 6 = .ok (.istore_n 1, 1) ∧ decode cX12_tellFits 7 = .ok (.iload_n 1, 1)) ∧ (decode cX12_tellFits 8 = .ok (.aload_n 0, 1) ∧ decode cX12_tellFits 9 = .ok (.getfield 42, 3)))) ∧ (((decode cX12_tellFits 12 = .ok (.iconst 1, 1) ∧ decode cX12_tellFits 13 = .ok (.iaload, 1)) ∧ (decode cX12_tellFits 14 = .ok (.if_icmp .ge 84, 3) ∧ decode cX12_tellFits 17 = .ok (.aload_n 0, 1))) ∧ ((decode cX12_tellFits 18 = .ok (.getfield 102, 3) ∧ decode cX12_tellFits 21 = .ok (.iload_n 1, 1)) ∧ (decode cX12_tellFits 22 = .ok (.iaload, 1) ∧ decode cX12_tellFits 23 = .ok (.istore_n 2, 1)))) := by decide +kernel
theorem dX12_tellFits_0 : decode cX12_tellFits 0 = .ok (.aload_n 0, 1) := bg02_53.1.1.1.1
theorem dX12_tellFits_1 : decode cX12_tellFits 1 = .ok (.iconst 0, 1) := bg02_53.1.1.1.2
theorem dX12_tellFits_2 : decode cX12_tellFits 2 = .ok (.putfield 476, 3) := bg02_53.1.1.2.1
theorem dX12_tellFits_5 : decode cX12_tellFits 5 = .ok (.iconst 0, 1) := bg02_53.1.1.2.2
theorem dX12_tellFits_6 : decode cX12_tellFits 6 = .ok (.istore_n 1, 1) := bg02_53.1.2.1.1
theorem dX12_tellFits_7 : decode cX12_tellFits 7 = .ok (.iload_n 1, 1) := bg02_53.1.2.1.2
theorem dX12_tellFits_8 : decode cX12_tellFits 8 = .ok (.aload_n 0, 1) := bg02_53.1.2.2.1
theorem dX12_tellFits_9 : decode cX12_tellFits 9 = .ok (.getfield 42, 3) := bg02_53.1.2.2.2
theorem dX12_tellFits_12 : decode cX12_tellFits 12 = .ok (.iconst 1, 1) := bg02_53.2.1.1.1
theorem dX12_tellFits_13 : decode cX12_tellFits 13 = .ok (.iaload, 1) := bg02_53.2.1.1.2
theorem dX12_tellFits_14 : decode cX12_tellFits 14 = .ok (.if_icmp .ge 84, 3) := bg02_53.2.1.2.1
theorem dX12_tellFits_17 : decode cX12_tellFits 17 = .ok (.aload_n 0, 1) := bg02_53.2.1.2.2
theorem dX12_tellFits_18 : decode cX12_tellFits 18 = .ok (.getfield 102, 3) := bg02_53.2.2.1.1
theorem dX12_tellFits_21 : decode cX12_tellFits 21 = .ok (.iload_n 1, 1) := bg02_53.2.2.1.2
theorem dX12_tellFits_22 : decode cX12_tellFits 22 = .ok (.iaload, 1) := bg02_53.2.2.2.1
theorem dX12_tellFits_23 : decode cX12_tellFits 23 = .ok (.istore_n 2, 1) := bg02_53.2.2.2.2
theorem bg02_54 : (((decode cX12_tellFits 24 = .ok (.iconst 0, 1) ∧ decode cX12_tellFits 25 = .ok (.istore_n 3, 1)) ∧ (decode cX12_tellFits 26 = .ok (.iload_n 3, 1) ∧ decode cX12_tellFits 27 = .ok (.bipush 99, 2))) ∧ ((decode cX12_tellFits 29 = .ok (.if_icmp .gt 56, 3) ∧ decode cX12_tellFits 32 = .ok (.aload_n 0, 1)) ∧ (decode cX12_tellFits 33 = .ok (.getfield 102, 3) ∧ decode cX12_tellFits 36 = .ok (.iload_n 1, 1)))) ∧ (((decode cX12_tellFits 37 = .ok (.iload_n 3, 1) ∧ decode cX12_tellFits 38 = .ok (.iastore, 1)) ∧ (decode cX12_tellFits 39 = .ok (.iload_n 3, 1) ∧ decode cX12_tellFits 40 = .ok (.iload_n 2, 1))) ∧ ((decode cX12_tellFits 41 = .ok (.if_icmp .eq 38, 3) ∧ decode cX12_tellFits 44 = .ok (.aload_n 0, 1)) ∧ (decode cX12_tellFits 45 = .ok (.invokevirtual 479, 3) ∧ decode cX12_tellFits 48 = .ok (.ifCond .ne 6, 3)))) := by decide +kernel
theorem dX12_tellFits_24 : decode cX12_tellFits 24 = .ok (.iconst 0, 1) := bg02_54.1.1.1.1
theorem dX12_tellFits_25 : decode cX12_tellFits 25 = .ok (.istore_n 3, 1) := bg02_54.1.1.1.2
theorem dX12_tellFits_26 : decode cX12_tellFits 26 = .ok (.iload_n 3, 1) := bg02_54.1.1.2.1
theorem dX12_tellFits_27 : decode cX12_tellFits 27 = .ok (.bipush 99, 2) := bg02_54.1.1.2.2
theorem dX12_tellFits_29 : decode cX12_tellFits 29 = .ok (.if_icmp .gt 56, 3) := bg02_54.1.2.1.1
theorem dX12_tellFits_32 : decode cX12_tellFits 32 = .ok (.aload_n 0, 1) := bg02_54.1.2.1.2
theorem dX12_tellFits_33 : decode cX12_tellFits 33 = .ok (.getfield 102, 3) := bg02_54.1.2.2.1
theorem dX12_tellFits_36 : decode cX12_tellFits 36 = .ok (.iload_n 1, 1) := bg02_54.1.2.2.2
theorem dX12_tellFits_37 : decode cX12_tellFits 37 = .ok (.iload_n 3, 1) := bg02_54.2.1.1.1
theorem dX12_tellFits_38 : decode cX12_tellFits 38 = .ok (.iastore, 1) := bg02_54.2.1.1.2
theorem dX12_tellFits_39 : decode cX12_tellFits 39 = .ok (.iload_n 3, 1) := bg02_54.2.1.2.1
theorem dX12_tellFits_40 : decode cX12_tellFits 40 = .ok (.iload_n 2, 1) := bg02_54.2.1.2.2
theorem dX12_tellFits_41 : decode cX12_tellFits 41 = .ok (.if_icmp .eq 38, 3) := bg02_54.2.2.1.1
theorem dX12_tellFits_44 : decode cX12_tellFits 44 = .ok (.aload_n 0, 1) := bg02_54.2.2.1.2
theorem dX12_tellFits_45 : decode cX12_tellFits 45 = .ok (.invokevirtual 479, 3) := bg02_54.2.2.2.1
theorem dX12_tellFits_48 : decode cX12_tellFits 48 = .ok (.ifCond .ne 6, 3) := bg02_54.2.2.2.2
theorem bg02_55 : (((decode cX12_tellFits 51 = .ok (.goto 28, 3) ∧ decode cX12_tellFits 54 = .ok (.aload_n 0, 1)) ∧ (decode cX12_tellFits 55 = .ok (.getfield 136, 3) ∧ decode cX12_tellFits 58 = .ok (.aload_n 0, 1))) ∧ ((decode cX12_tellFits 59 = .ok (.getfield 476, 3) ∧ decode cX12_tellFits 62 = .ok (.bipush 100, 2)) ∧ (decode cX12_tellFits 64 = .ok (.iload_n 1, 1) ∧ decode cX12_tellFits 65 = .ok (.imul, 1)))) ∧ (((decode cX12_tellFits 66 = .ok (.iload_n 3, 1) ∧ decode cX12_tellFits 67 = .ok (.iadd, 1)) ∧ (decode cX12_tellFits 68 = .ok (.iastore, 1) ∧ decode cX12_tellFits 69 = .ok (.aload_n 0, 1))) ∧ ((decode cX12_tellFits 70 = .ok (.dup, 1) ∧ decode cX12_tellFits 71 = .ok (.getfield 476, 3)) ∧ (decode cX12_tellFits 74 = .ok (.iconst 1, 1) ∧ decode cX12_tellFits 75 = .ok (.iadd, 1)))) := by decide +kernel
theorem dX12_tellFits_51 : decode cX12_tellFits 51 = .ok (.goto 28, 3) := bg02_55.1.1.1.1
theorem dX12_tellFits_54 : decode cX12_tellFits 54 = .ok (.aload_n 0, 1) := bg02_55.1.1.1.2
theorem dX12_tellFits_55 : decode cX12_tellFits 55 = .ok (.getfield 136, 3) := bg02_55.1.1.2.1
theorem dX12_tellFits_58 : decode cX12_tellFits 58 = .ok (.aload_n 0, 1) := bg02_55.1.1.2.2
theorem dX12_tellFits_59 : decode cX12_tellFits 59 = .ok (.getfield 476, 3) := bg02_55.1.2.1.1
theorem dX12_tellFits_62 : decode cX12_tellFits 62 = .ok (.bipush 100, 2) := bg02_55.1.2.1.2
theorem dX12_tellFits_64 : decode cX12_tellFits 64 = .ok (.iload_n 1, 1) := bg02_55.1.2.2.1
theorem dX12_tellFits_65 : decode cX12_tellFits 65 = .ok (.imul, 1) := bg02_55.1.2.2.2
theorem dX12_tellFits_66 : decode cX12_tellFits 66 = .ok (.iload_n 3, 1) := bg02_55.2.1.1.1
theorem dX12_tellFits_67 : decode cX12_tellFits 67 = .ok (.iadd, 1) := bg02_55.2.1.1.2
theorem dX12_tellFits_68 : decode cX12_tellFits 68 = .ok (.iastore, 1) := bg02_55.2.1.2.1
theorem dX12_tellFits_69 : decode cX12_tellFits 69 = .ok (.aload_n 0, 1) := bg02_55.2.1.2.2
theorem dX12_tellFits_70 : decode cX12_tellFits 70 = .ok (.dup, 1) := bg02_55.2.2.1.1
theorem dX12_tellFits_71 : decode cX12_tellFits 71 = .ok (.getfield 476, 3) := bg02_55.2.2.1.2
theorem dX12_tellFits_74 : decode cX12_tellFits 74 = .ok (.iconst 1, 1) := bg02_55.2.2.2.1
theorem dX12_tellFits_75 : decode cX12_tellFits 75 = .ok (.iadd, 1) := bg02_55.2.2.2.2
theorem bg02_56 : (((decode cX12_tellFits 76 = .ok (.putfield 476, 3) ∧ decode cX12_tellFits 79 = .ok (.iinc 3 1, 3)) ∧ (decode cX12_tellFits 82 = .ok (.goto (-56), 3))) ∧ ((decode cX12_tellFits 85 = .ok (.aload_n 0, 1) ∧ decode cX12_tellFits 86 = .ok (.getfield 102, 3)) ∧ (decode cX12_tellFits 89 = .ok (.iload_n 1, 1)))) ∧ (((decode cX12_tellFits 90 = .ok (.iload_n 2, 1) ∧ decode cX12_tellFits 91 = .ok (.iastore, 1)) ∧ (decode cX12_tellFits 92 = .ok (.iinc 1 1, 3))) ∧ (decode cX12_tellFits 95 = .ok (.goto (-88), 3) ∧ decode cX12_tellFits 98 = .ok (.return_, 1))) := by decide +kernel
theorem dX12_tellFits_76 : decode cX12_tellFits 76 = .ok (.putfield 476, 3) := bg02_56.1.1.1.1
theorem dX12_tellFits_79 : decode cX12_tellFits 79 = .ok (.iinc 3 1, 3) := bg02_56.1.1.1.2
theorem dX12_tellFits_82 : decode cX12_tellFits 82 = .ok (.goto (-56), 3) := bg02_56.1.1.2
theorem dX12_tellFits_85 : decode cX12_tellFits 85 = .ok (.aload_n 0, 1) := bg02_56.1.2.1.1
theorem dX12_tellFits_86 : decode cX12_tellFits 86 = .ok (.getfield 102, 3) := bg02_56.1.2.1.2
theorem dX12_tellFits_89 : decode cX12_tellFits 89 = .ok (.iload_n 1, 1) := bg02_56.1.2.2
theorem dX12_tellFits_90 : decode cX12_tellFits 90 = .ok (.iload_n 2, 1) := bg02_56.2.1.1.1
theorem dX12_tellFits_91 : decode cX12_tellFits 91 = .ok (.iastore, 1) := bg02_56.2.1.1.2
theorem dX12_tellFits_92 : decode cX12_tellFits 92 = .ok (.iinc 1 1, 3) := bg02_56.2.1.2
theorem dX12_tellFits_95 : decode cX12_tellFits 95 = .ok (.goto (-88), 3) := bg02_56.2.2.1
theorem dX12_tellFits_98 : decode cX12_tellFits 98 = .ok (.return_, 1) := bg02_56.2.2.2
theorem bg02_57 : (((decode cX12_old 0 = .ok (.aload_n 0, 1) ∧ decode cX12_old 1 = .ok (.iconst 0, 1)) ∧ (decode cX12_old 2 = .ok (.putfield 163, 3) ∧ decode cX12_old 5 = .ok (.iload_n 1, 1))) ∧ ((decode cX12_old 6 = .ok (.i2l, 1) ∧ decode cX12_old 7 = .ok (.lconst 0, 1)) ∧ (decode cX12_old 8 = .ok (.ldc2_w 458, 3) ∧ decode cX12_old 11 = .ok (.invokestatic 166, 3)))) ∧ (((decode cX12_old 14 = .ok (.ifCond .ne 9, 3) ∧ decode cX12_old 17 = .ok (.aload_n 0, 1)) ∧ (decode cX12_old 18 = .ok (.iconst 1, 1) ∧ decode cX12_old 19 = .ok (.invokevirtual 310, 3))) ∧ ((decode cX12_old 22 = .ok (.ireturn, 1) ∧ decode cX12_old 23 = .ok (.iload_n 1, 1)) ∧ (decode cX12_old 24 = .ok (.iconst 2, 1) ∧ decode cX12_old 25 = .ok (.if_icmp .ne 16, 3)))) := by decide +kernel
theorem dX12_old_0 : decode cX12_old 0 = .ok (.aload_n 0, 1) := bg02_57.1.1.1.1
theorem dX12_old_1 : decode cX12_old 1 = .ok (.iconst 0, 1) := bg02_57.1.1.1.2
theorem dX12_old_2 : decode cX12_old 2 = .ok (.putfield 163, 3) := bg02_57.1.1.2.1
theorem dX12_old_5 : decode cX12_old 5 = .ok (.iload_n 1, 1) := bg02_57.1.1.2.2
theorem dX12_old_6 : decode cX12_old 6 = .ok (.i2l, 1) := bg02_57.1.2.1.1
theorem dX12_old_7 : decode cX12_old 7 = .ok (.lconst 0, 1) := bg02_57.1.2.1.2
theorem dX12_old_8 : decode cX12_old 8 = .ok (.ldc2_w 458, 3) := bg02_57.1.2.2.1
theorem dX12_old_11 : decode cX12_old 11 = .ok (.invokestatic 166, 3) := bg02_57.1.2.2.2
theorem dX12_old_14 : decode cX12_old 14 = .ok (.ifCond .ne 9, 3) := bg02_57.2.1.1.1
theorem dX12_old_17 : decode cX12_old 17 = .ok (.aload_n 0, 1) := bg02_57.2.1.1.2
theorem dX12_old_18 : decode cX12_old 18 = .ok (.iconst 1, 1) := bg02_57.2.1.2.1
theorem dX12_old_19 : decode cX12_old 19 = .ok (.invokevirtual 310, 3) := bg02_57.2.1.2.2
theorem dX12_old_22 : decode cX12_old 22 = .ok (.ireturn, 1) := bg02_57.2.2.1.1
theorem dX12_old_23 : decode cX12_old 23 = .ok (.iload_n 1, 1) := bg02_57.2.2.1.2
theorem dX12_old_24 : decode cX12_old 24 = .ok (.iconst 2, 1) := bg02_57.2.2.2.1
theorem dX12_old_25 : decode cX12_old 25 = .ok (.if_icmp .ne 16, 3) := bg02_57.2.2.2.2
theorem bg02_58 : (((decode cX12_old 28 = .ok (.aload_n 0, 1) ∧ decode cX12_old 29 = .ok (.invokevirtual 479, 3)) ∧ (decode cX12_old 32 = .ok (.ifCond .eq 7, 3) ∧ decode cX12_old 35 = .ok (.iconst 1, 1))) ∧ ((decode cX12_old 36 = .ok (.goto 4, 3) ∧ decode cX12_old 39 = .ok (.iconst 0, 1)) ∧ (decode cX12_old 40 = .ok (.ireturn, 1) ∧ decode cX12_old 41 = .ok (.aload_n 0, 1)))) ∧ (((decode cX12_old 42 = .ok (.invokevirtual 483, 3) ∧ decode cX12_old 45 = .ok (.iload_n 1, 1)) ∧ (decode cX12_old 46 = .ok (.ifCond .ne 10, 3) ∧ decode cX12_old 49 = .ok (.aload_n 0, 1))) ∧ ((decode cX12_old 50 = .ok (.getfield 476, 3) ∧ decode cX12_old 53 = .ok (.goto 20, 3)) ∧ (decode cX12_old 56 = .ok (.aload_n 0, 1) ∧ decode cX12_old 57 = .ok (.getfield 476, 3)))) := by decide +kernel
theorem dX12_old_28 : decode cX12_old 28 = .ok (.aload_n 0, 1) := bg02_58.1.1.1.1
theorem dX12_old_29 : decode cX12_old 29 = .ok (.invokevirtual 479, 3) := bg02_58.1.1.1.2
theorem dX12_old_32 : decode cX12_old 32 = .ok (.ifCond .eq 7, 3) := bg02_58.1.1.2.1
theorem dX12_old_35 : decode cX12_old 35 = .ok (.iconst 1, 1) := bg02_58.1.1.2.2
theorem dX12_old_36 : decode cX12_old 36 = .ok (.goto 4, 3) := bg02_58.1.2.1.1
theorem dX12_old_39 : decode cX12_old 39 = .ok (.iconst 0, 1) := bg02_58.1.2.1.2
theorem dX12_old_40 : decode cX12_old 40 = .ok (.ireturn, 1) := bg02_58.1.2.2.1
theorem dX12_old_41 : decode cX12_old 41 = .ok (.aload_n 0, 1) := bg02_58.1.2.2.2
theorem dX12_old_42 : decode cX12_old 42 = .ok (.invokevirtual 483, 3) := bg02_58.2.1.1.1
theorem dX12_old_45 : decode cX12_old 45 = .ok (.iload_n 1, 1) := bg02_58.2.1.1.2
theorem dX12_old_46 : decode cX12_old 46 = .ok (.ifCond .ne 10, 3) := bg02_58.2.1.2.1
theorem dX12_old_49 : decode cX12_old 49 = .ok (.aload_n 0, 1) := bg02_58.2.1.2.2
theorem dX12_old_50 : decode cX12_old 50 = .ok (.getfield 476, 3) := bg02_58.2.2.1.1
theorem dX12_old_53 : decode cX12_old 53 = .ok (.goto 20, 3) := bg02_58.2.2.1.2
theorem dX12_old_56 : decode cX12_old 56 = .ok (.aload_n 0, 1) := bg02_58.2.2.2.1
theorem dX12_old_57 : decode cX12_old 57 = .ok (.getfield 476, 3) := bg02_58.2.2.2.2
theorem bg02_59 : ((decode cX12_old 60 = .ok (.ifCond .ne 7, 3) ∧ decode cX12_old 63 = .ok (.iconst (-1), 1)) ∧ (decode cX12_old 64 = .ok (.goto 9, 3) ∧ decode cX12_old 67 = .ok (.aload_n 0, 1))) ∧ ((decode cX12_old 68 = .ok (.getfield 136, 3) ∧ decode cX12_old 71 = .ok (.iconst 0, 1)) ∧ (decode cX12_old 72 = .ok (.iaload, 1) ∧ decode cX12_old 73 = .ok (.ireturn, 1))) := by decide +kernel
theorem dX12_old_60 : decode cX12_old 60 = .ok (.ifCond .ne 7, 3) := bg02_59.1.1.1
theorem dX12_old_63 : decode cX12_old 63 = .ok (.iconst (-1), 1) := bg02_59.1.1.2
theorem dX12_old_64 : decode cX12_old 64 = .ok (.goto 9, 3) := bg02_59.1.2.1
theorem dX12_old_67 : decode cX12_old 67 = .ok (.aload_n 0, 1) := bg02_59.1.2.2
theorem dX12_old_68 : decode cX12_old 68 = .ok (.getfield 136, 3) := bg02_59.2.1.1
theorem dX12_old_71 : decode cX12_old 71 = .ok (.iconst 0, 1) := bg02_59.2.1.2
theorem dX12_old_72 : decode cX12_old 72 = .ok (.iaload, 1) := bg02_59.2.2.1
theorem dX12_old_73 : decode cX12_old 73 = .ok (.ireturn, 1) := bg02_59.2.2.2
theorem bg02_60 : (((decode cX12_look 0 = .ok (.aload_n 0, 1) ∧ decode cX12_look 1 = .ok (.iconst 0, 1)) ∧ (decode cX12_look 2 = .ok (.putfield 163, 3) ∧ decode cX12_look 5 = .ok (.iload_n 1, 1))) ∧ ((decode cX12_look 6 = .ok (.i2l, 1) ∧ decode cX12_look 7 = .ok (.lconst 0, 1)) ∧ (decode cX12_look 8 = .ok (.lconst 1, 1) ∧ decode cX12_look 9 = .ok (.invokestatic 166, 3)))) ∧ (((decode cX12_look 12 = .ok (.ifCond .ne 9, 3) ∧ decode cX12_look 15 = .ok (.aload_n 0, 1)) ∧ (decode cX12_look 16 = .ok (.iconst 1, 1) ∧ decode cX12_look 17 = .ok (.invokevirtual 310, 3))) ∧ ((decode cX12_look 20 = .ok (.ireturn, 1) ∧ decode cX12_look 21 = .ok (.aload_n 0, 1)) ∧ (decode cX12_look 22 = .ok (.invokevirtual 483, 3) ∧ decode cX12_look 25 = .ok (.aload_n 0, 1)))) := by decide +kernel
theorem dX12_look_0 : decode cX12_look 0 = .ok (.aload_n 0, 1) := bg02_60.1.1.1.1
theorem dX12_look_1 : decode cX12_look 1 = .ok (.iconst 0, 1) := bg02_60.1.1.1.2
theorem dX12_look_2 : decode cX12_look 2 = .ok (.putfield 163, 3) := bg02_60.1.1.2.1
theorem dX12_look_5 : decode cX12_look 5 = .ok (.iload_n 1, 1) := bg02_60.1.1.2.2
theorem dX12_look_6 : decode cX12_look 6 = .ok (.i2l, 1) := bg02_60.1.2.1.1
theorem dX12_look_7 : decode cX12_look 7 = .ok (.lconst 0, 1) := bg02_60.1.2.1.2
theorem dX12_look_8 : decode cX12_look 8 = .ok (.lconst 1, 1) := bg02_60.1.2.2.1
theorem dX12_look_9 : decode cX12_look 9 = .ok (.invokestatic 166, 3) := bg02_60.1.2.2.2
theorem dX12_look_12 : decode cX12_look 12 = .ok (.ifCond .ne 9, 3) := bg02_60.2.1.1.1
theorem dX12_look_15 : decode cX12_look 15 = .ok (.aload_n 0, 1) := bg02_60.2.1.1.2
theorem dX12_look_16 : decode cX12_look 16 = .ok (.iconst 1, 1) := bg02_60.2.1.2.1
theorem dX12_look_17 : decode cX12_look 17 = .ok (.invokevirtual 310, 3) := bg02_60.2.1.2.2
theorem dX12_look_20 : decode cX12_look 20 = .ok (.ireturn, 1) := bg02_60.2.2.1.1
theorem dX12_look_21 : decode cX12_look 21 = .ok (.aload_n 0, 1) := bg02_60.2.2.1.2
theorem dX12_look_22 : decode cX12_look 22 = .ok (.invokevirtual 483, 3) := bg02_60.2.2.2.1
theorem dX12_look_25 : decode cX12_look 25 = .ok (.aload_n 0, 1) := bg02_60.2.2.2.2
theorem bg02_61 : (((decode cX12_look 26 = .ok (.aload_n 0, 1) ∧ decode cX12_look 27 = .ok (.getfield 118, 3)) ∧ (decode cX12_look 30 = .ok (.iconst 0, 1) ∧ decode cX12_look 31 = .ok (.invokevirtual 420, 3))) ∧ ((decode cX12_look 34 = .ok (.iconst 0, 1) ∧ decode cX12_look 35 = .ok (.istore_n 2, 1)) ∧ (decode cX12_look 36 = .ok (.iload_n 2, 1) ∧ decode cX12_look 37 = .ok (.bipush 8, 2)))) ∧ (((decode cX12_look 39 = .ok (.if_icmp .ge 16, 3) ∧ decode cX12_look 42 = .ok (.aload_n 0, 1)) ∧ (decode cX12_look 43 = .ok (.getfield 139, 3) ∧ decode cX12_look 46 = .ok (.iload_n 2, 1))) ∧ ((decode cX12_look 47 = .ok (.iconst 0, 1) ∧ decode cX12_look 48 = .ok (.iastore, 1)) ∧ (decode cX12_look 49 = .ok (.iinc 2 1, 3) ∧ decode cX12_look 52 = .ok (.goto (-16), 3)))) := by decide +kernel
theorem dX12_look_26 : decode cX12_look 26 = .ok (.aload_n 0, 1) := bg02_61.1.1.1.1
theorem dX12_look_27 : decode cX12_look 27 = .ok (.getfield 118, 3) := bg02_61.1.1.1.2
theorem dX12_look_30 : decode cX12_look 30 = .ok (.iconst 0, 1) := bg02_61.1.1.2.1
theorem dX12_look_31 : decode cX12_look 31 = .ok (.invokevirtual 420, 3) := bg02_61.1.1.2.2
theorem dX12_look_34 : decode cX12_look 34 = .ok (.iconst 0, 1) := bg02_61.1.2.1.1
theorem dX12_look_35 : decode cX12_look 35 = .ok (.istore_n 2, 1) := bg02_61.1.2.1.2
theorem dX12_look_36 : decode cX12_look 36 = .ok (.iload_n 2, 1) := bg02_61.1.2.2.1
theorem dX12_look_37 : decode cX12_look 37 = .ok (.bipush 8, 2) := bg02_61.1.2.2.2
theorem dX12_look_39 : decode cX12_look 39 = .ok (.if_icmp .ge 16, 3) := bg02_61.2.1.1.1
theorem dX12_look_42 : decode cX12_look 42 = .ok (.aload_n 0, 1) := bg02_61.2.1.1.2
theorem dX12_look_43 : decode cX12_look 43 = .ok (.getfield 139, 3) := bg02_61.2.1.2.1
theorem dX12_look_46 : decode cX12_look 46 = .ok (.iload_n 2, 1) := bg02_61.2.1.2.2
theorem dX12_look_47 : decode cX12_look 47 = .ok (.iconst 0, 1) := bg02_61.2.2.1.1
theorem dX12_look_48 : decode cX12_look 48 = .ok (.iastore, 1) := bg02_61.2.2.1.2
theorem dX12_look_49 : decode cX12_look 49 = .ok (.iinc 2 1, 3) := bg02_61.2.2.2.1
theorem dX12_look_52 : decode cX12_look 52 = .ok (.goto (-16), 3) := bg02_61.2.2.2.2
theorem bg02_62 : (((decode cX12_look 55 = .ok (.iconst 0, 1) ∧ decode cX12_look 56 = .ok (.istore_n 2, 1)) ∧ (decode cX12_look 57 = .ok (.iload_n 2, 1) ∧ decode cX12_look 58 = .ok (.aload_n 0, 1))) ∧ ((decode cX12_look 59 = .ok (.getfield 476, 3) ∧ decode cX12_look 62 = .ok (.if_icmp .ge 84, 3)) ∧ (decode cX12_look 65 = .ok (.aload_n 0, 1) ∧ decode cX12_look 66 = .ok (.getfield 102, 3)))) ∧ (((decode cX12_look 69 = .ok (.aload_n 0, 1) ∧ decode cX12_look 70 = .ok (.getfield 136, 3)) ∧ (decode cX12_look 73 = .ok (.iload_n 2, 1) ∧ decode cX12_look 74 = .ok (.iaload, 1))) ∧ ((decode cX12_look 75 = .ok (.bipush 100, 2) ∧ decode cX12_look 77 = .ok (.idiv, 1)) ∧ (decode cX12_look 78 = .ok (.aload_n 0, 1) ∧ decode cX12_look 79 = .ok (.getfield 136, 3)))) := by decide +kernel
theorem dX12_look_55 : decode cX12_look 55 = .ok (.iconst 0, 1) := bg02_62.1.1.1.1
theorem dX12_look_56 : decode cX12_look 56 = .ok (.istore_n 2, 1) := bg02_62.1.1.1.2
theorem dX12_look_57 : decode cX12_look 57 = .ok (.iload_n 2, 1) := bg02_62.1.1.2.1
theorem dX12_look_58 : decode cX12_look 58 = .ok (.aload_n 0, 1) := bg02_62.1.1.2.2
theorem dX12_look_59 : decode cX12_look 59 = .ok (.getfield 476, 3) := bg02_62.1.2.1.1
theorem dX12_look_62 : decode cX12_look 62 = .ok (.if_icmp .ge 84, 3) := bg02_62.1.2.1.2
theorem dX12_look_65 : decode cX12_look 65 = .ok (.aload_n 0, 1) := bg02_62.1.2.2.1
theorem dX12_look_66 : decode cX12_look 66 = .ok (.getfield 102, 3) := bg02_62.1.2.2.2
theorem dX12_look_69 : decode cX12_look 69 = .ok (.aload_n 0, 1) := bg02_62.2.1.1.1
theorem dX12_look_70 : decode cX12_look 70 = .ok (.getfield 136, 3) := bg02_62.2.1.1.2
theorem dX12_look_73 : decode cX12_look 73 = .ok (.iload_n 2, 1) := bg02_62.2.1.2.1
theorem dX12_look_74 : decode cX12_look 74 = .ok (.iaload, 1) := bg02_62.2.1.2.2
theorem dX12_look_75 : decode cX12_look 75 = .ok (.bipush 100, 2) := bg02_62.2.2.1.1
theorem dX12_look_77 : decode cX12_look 77 = .ok (.idiv, 1) := bg02_62.2.2.1.2
theorem dX12_look_78 : decode cX12_look 78 = .ok (.aload_n 0, 1) := bg02_62.2.2.2.1
theorem dX12_look_79 : decode cX12_look 79 = .ok (.getfield 136, 3) := bg02_62.2.2.2.2
theorem bg02_63 : (((decode cX12_look 82 = .ok (.iload_n 2, 1) ∧ decode cX12_look 83 = .ok (.iaload, 1)) ∧ (decode cX12_look 84 = .ok (.bipush 100, 2) ∧ decode cX12_look 86 = .ok (.irem, 1))) ∧ ((decode cX12_look 87 = .ok (.iastore, 1) ∧ decode cX12_look 88 = .ok (.aload_n 0, 1)) ∧ (decode cX12_look 89 = .ok (.bipush 6, 2) ∧ decode cX12_look 91 = .ok (.invokevirtual 432, 3)))) ∧ (((decode cX12_look 94 = .ok (.iconst 0, 1) ∧ decode cX12_look 95 = .ok (.istore_n 3, 1)) ∧ (decode cX12_look 96 = .ok (.iload_n 3, 1) ∧ decode cX12_look 97 = .ok (.aload_n 0, 1))) ∧ ((decode cX12_look 98 = .ok (.getfield 42, 3) ∧ decode cX12_look 101 = .ok (.iconst 1, 1)) ∧ (decode cX12_look 102 = .ok (.iaload, 1) ∧ decode cX12_look 103 = .ok (.if_icmp .ge 28, 3)))) := by decide +kernel
theorem dX12_look_82 : decode cX12_look 82 = .ok (.iload_n 2, 1) := bg02_63.1.1.1.1
theorem dX12_look_83 : decode cX12_look 83 = .ok (.iaload, 1) := bg02_63.1.1.1.2
theorem dX12_look_84 : decode cX12_look 84 = .ok (.bipush 100, 2) := bg02_63.1.1.2.1
theorem dX12_look_86 : decode cX12_look 86 = .ok (.irem, 1) := bg02_63.1.1.2.2
theorem dX12_look_87 : decode cX12_look 87 = .ok (.iastore, 1) := bg02_63.1.2.1.1
theorem dX12_look_88 : decode cX12_look 88 = .ok (.aload_n 0, 1) := bg02_63.1.2.1.2
theorem dX12_look_89 : decode cX12_look 89 = .ok (.bipush 6, 2) := bg02_63.1.2.2.1
theorem dX12_look_91 : decode cX12_look 91 = .ok (.invokevirtual 432, 3) := bg02_63.1.2.2.2
theorem dX12_look_94 : decode cX12_look 94 = .ok (.iconst 0, 1) := bg02_63.2.1.1.1
theorem dX12_look_95 : decode cX12_look 95 = .ok (.istore_n 3, 1) := bg02_63.2.1.1.2
theorem dX12_look_96 : decode cX12_look 96 = .ok (.iload_n 3, 1) := bg02_63.2.1.2.1
theorem dX12_look_97 : decode cX12_look 97 = .ok (.aload_n 0, 1) := bg02_63.2.1.2.2
theorem dX12_look_98 : decode cX12_look 98 = .ok (.getfield 42, 3) := bg02_63.2.2.1.1
theorem dX12_look_101 : decode cX12_look 101 = .ok (.iconst 1, 1) := bg02_63.2.2.1.2
theorem dX12_look_102 : decode cX12_look 102 = .ok (.iaload, 1) := bg02_63.2.2.2.1
theorem dX12_look_103 : decode cX12_look 103 = .ok (.if_icmp .ge 28, 3) := bg02_63.2.2.2.2
theorem bg02_64 : (((decode cX12_look 106 = .ok (.aload_n 0, 1) ∧ decode cX12_look 107 = .ok (.getfield 139, 3)) ∧ (decode cX12_look 110 = .ok (.iload_n 3, 1) ∧ decode cX12_look 111 = .ok (.dup2, 1))) ∧ ((decode cX12_look 112 = .ok (.iaload, 1) ∧ decode cX12_look 113 = .ok (.iconst 1, 1)) ∧ (decode cX12_look 114 = .ok (.aload_n 0, 1) ∧ decode cX12_look 115 = .ok (.getfield 106, 3)))) ∧ (((decode cX12_look 118 = .ok (.iload_n 3, 1) ∧ decode cX12_look 119 = .ok (.iaload, 1)) ∧ (decode cX12_look 120 = .ok (.iconst 1, 1) ∧ decode cX12_look 121 = .ok (.iadd, 1))) ∧ ((decode cX12_look 122 = .ok (.ishl, 1) ∧ decode cX12_look 123 = .ok (.ior, 1)) ∧ (decode cX12_look 124 = .ok (.iastore, 1) ∧ decode cX12_look 125 = .ok (.iinc 3 1, 3)))) := by decide +kernel
theorem dX12_look_106 : decode cX12_look 106 = .ok (.aload_n 0, 1) := bg02_64.1.1.1.1
theorem dX12_look_107 : decode cX12_look 107 = .ok (.getfield 139, 3) := bg02_64.1.1.1.2
theorem dX12_look_110 : decode cX12_look 110 = .ok (.iload_n 3, 1) := bg02_64.1.1.2.1
theorem dX12_look_111 : decode cX12_look 111 = .ok (.dup2, 1) := bg02_64.1.1.2.2
theorem dX12_look_112 : decode cX12_look 112 = .ok (.iaload, 1) := bg02_64.1.2.1.1
theorem dX12_look_113 : decode cX12_look 113 = .ok (.iconst 1, 1) := bg02_64.1.2.1.2
theorem dX12_look_114 : decode cX12_look 114 = .ok (.aload_n 0, 1) := bg02_64.1.2.2.1
theorem dX12_look_115 : decode cX12_look 115 = .ok (.getfield 106, 3) := bg02_64.1.2.2.2
theorem dX12_look_118 : decode cX12_look 118 = .ok (.iload_n 3, 1) := bg02_64.2.1.1.1
theorem dX12_look_119 : decode cX12_look 119 = .ok (.iaload, 1) := bg02_64.2.1.1.2
theorem dX12_look_120 : decode cX12_look 120 = .ok (.iconst 1, 1) := bg02_64.2.1.2.1
theorem dX12_look_121 : decode cX12_look 121 = .ok (.iadd, 1) := bg02_64.2.1.2.2
theorem dX12_look_122 : decode cX12_look 122 = .ok (.ishl, 1) := bg02_64.2.2.1.1
theorem dX12_look_123 : decode cX12_look 123 = .ok (.ior, 1) := bg02_64.2.2.1.2
theorem dX12_look_124 : decode cX12_look 124 = .ok (.iastore, 1) := bg02_64.2.2.2.1
theorem dX12_look_125 : decode cX12_look 125 = .ok (.iinc 3 1, 3) := bg02_64.2.2.2.2
theorem bg02_65 : (((decode cX12_look 128 = .ok (.goto (-32), 3) ∧ decode cX12_look 131 = .ok (.aload_n 0, 1)) ∧ (decode cX12_look 132 = .ok (.aload_n 0, 1) ∧ decode cX12_look 133 = .ok (.getfield 118, 3))) ∧ ((decode cX12_look 136 = .ok (.iconst 0, 1) ∧ decode cX12_look 137 = .ok (.invokevirtual 446, 3)) ∧ (decode cX12_look 140 = .ok (.iinc 2 1, 3) ∧ decode cX12_look 143 = .ok (.goto (-86), 3)))) ∧ (((decode cX12_look 146 = .ok (.iconst (-1), 1) ∧ decode cX12_look 147 = .ok (.istore_n 2, 1)) ∧ (decode cX12_look 148 = .ok (.iconst 0, 1) ∧ decode cX12_look 149 = .ok (.istore_n 3, 1))) ∧ ((decode cX12_look 150 = .ok (.iconst 0, 1) ∧ decode cX12_look 151 = .ok (.istore 4, 2)) ∧ (decode cX12_look 153 = .ok (.iload 4, 2) ∧ decode cX12_look 155 = .ok (.aload_n 0, 1)))) := by decide +kernel
theorem dX12_look_128 : decode cX12_look 128 = .ok (.goto (-32), 3) := bg02_65.1.1.1.1
theorem dX12_look_131 : decode cX12_look 131 = .ok (.aload_n 0, 1) := bg02_65.1.1.1.2
theorem dX12_look_132 : decode cX12_look 132 = .ok (.aload_n 0, 1) := bg02_65.1.1.2.1
theorem dX12_look_133 : decode cX12_look 133 = .ok (.getfield 118, 3) := bg02_65.1.1.2.2
theorem dX12_look_136 : decode cX12_look 136 = .ok (.iconst 0, 1) := bg02_65.1.2.1.1
theorem dX12_look_137 : decode cX12_look 137 = .ok (.invokevirtual 446, 3) := bg02_65.1.2.1.2
theorem dX12_look_140 : decode cX12_look 140 = .ok (.iinc 2 1, 3) := bg02_65.1.2.2.1
theorem dX12_look_143 : decode cX12_look 143 = .ok (.goto (-86), 3) := bg02_65.1.2.2.2
theorem dX12_look_146 : decode cX12_look 146 = .ok (.iconst (-1), 1) := bg02_65.2.1.1.1
theorem dX12_look_147 : decode cX12_look 147 = .ok (.istore_n 2, 1) := bg02_65.2.1.1.2
theorem dX12_look_148 : decode cX12_look 148 = .ok (.iconst 0, 1) := bg02_65.2.1.2.1
theorem dX12_look_149 : decode cX12_look 149 = .ok (.istore_n 3, 1) := bg02_65.2.1.2.2
theorem dX12_look_150 : decode cX12_look 150 = .ok (.iconst 0, 1) := bg02_65.2.2.1.1
theorem dX12_look_151 : decode cX12_look 151 = .ok (.istore 4, 2) := bg02_65.2.2.1.2
theorem dX12_look_153 : decode cX12_look 153 = .ok (.iload 4, 2) := bg02_65.2.2.2.1
theorem dX12_look_155 : decode cX12_look 155 = .ok (.aload_n 0, 1) := bg02_65.2.2.2.2
theorem bg02_66 : (((decode cX12_look 156 = .ok (.getfield 42, 3) ∧ decode cX12_look 159 = .ok (.iconst 1, 1)) ∧ (decode cX12_look 160 = .ok (.iaload, 1) ∧ decode cX12_look 161 = .ok (.if_icmp .ge 40, 3))) ∧ ((decode cX12_look 164 = .ok (.aload_n 0, 1) ∧ decode cX12_look 165 = .ok (.getfield 139, 3)) ∧ (decode cX12_look 168 = .ok (.iload 4, 2) ∧ decode cX12_look 170 = .ok (.iaload, 1)))) ∧ (((decode cX12_look 171 = .ok (.invokestatic 486, 3) ∧ decode cX12_look 174 = .ok (.iload_n 3, 1)) ∧ (decode cX12_look 175 = .ok (.if_icmp .gt 6, 3) ∧ decode cX12_look 178 = .ok (.goto 17, 3))) ∧ ((decode cX12_look 181 = .ok (.iload 4, 2) ∧ decode cX12_look 183 = .ok (.istore_n 2, 1)) ∧ (decode cX12_look 184 = .ok (.aload_n 0, 1) ∧ decode cX12_look 185 = .ok (.getfield 139, 3)))) := by decide +kernel
theorem dX12_look_156 : decode cX12_look 156 = .ok (.getfield 42, 3) := bg02_66.1.1.1.1
theorem dX12_look_159 : decode cX12_look 159 = .ok (.iconst 1, 1) := bg02_66.1.1.1.2
theorem dX12_look_160 : decode cX12_look 160 = .ok (.iaload, 1) := bg02_66.1.1.2.1
theorem dX12_look_161 : decode cX12_look 161 = .ok (.if_icmp .ge 40, 3) := bg02_66.1.1.2.2
theorem dX12_look_164 : decode cX12_look 164 = .ok (.aload_n 0, 1) := bg02_66.1.2.1.1
theorem dX12_look_165 : decode cX12_look 165 = .ok (.getfield 139, 3) := bg02_66.1.2.1.2
theorem dX12_look_168 : decode cX12_look 168 = .ok (.iload 4, 2) := bg02_66.1.2.2.1
theorem dX12_look_170 : decode cX12_look 170 = .ok (.iaload, 1) := bg02_66.1.2.2.2
theorem dX12_look_171 : decode cX12_look 171 = .ok (.invokestatic 486, 3) := bg02_66.2.1.1.1
theorem dX12_look_174 : decode cX12_look 174 = .ok (.iload_n 3, 1) := bg02_66.2.1.1.2
theorem dX12_look_175 : decode cX12_look 175 = .ok (.if_icmp .gt 6, 3) := bg02_66.2.1.2.1
theorem dX12_look_178 : decode cX12_look 178 = .ok (.goto 17, 3) := bg02_66.2.1.2.2
theorem dX12_look_181 : decode cX12_look 181 = .ok (.iload 4, 2) := bg02_66.2.2.1.1
theorem dX12_look_183 : decode cX12_look 183 = .ok (.istore_n 2, 1) := bg02_66.2.2.1.2
theorem dX12_look_184 : decode cX12_look 184 = .ok (.aload_n 0, 1) := bg02_66.2.2.2.1
theorem dX12_look_185 : decode cX12_look 185 = .ok (.getfield 139, 3) := bg02_66.2.2.2.2
theorem bg02_67 : (((decode cX12_look 188 = .ok (.iload 4, 2) ∧ decode cX12_look 190 = .ok (.iaload, 1)) ∧ (decode cX12_look 191 = .ok (.invokestatic 486, 3))) ∧ ((decode cX12_look 194 = .ok (.istore_n 3, 1) ∧ decode cX12_look 195 = .ok (.iinc 4 1, 3)) ∧ (decode cX12_look 198 = .ok (.goto (-45), 3)))) ∧ (((decode cX12_look 201 = .ok (.iload_n 1, 1) ∧ decode cX12_look 202 = .ok (.ifCond .ne 7, 3)) ∧ (decode cX12_look 205 = .ok (.iload_n 2, 1))) ∧ ((decode cX12_look 206 = .ok (.goto 4, 3) ∧ decode cX12_look 209 = .ok (.iload_n 3, 1)) ∧ (decode cX12_look 210 = .ok (.ireturn, 1)))) := by decide +kernel
theorem dX12_look_188 : decode cX12_look 188 = .ok (.iload 4, 2) := bg02_67.1.1.1.1
theorem dX12_look_190 : decode cX12_look 190 = .ok (.iaload, 1) := bg02_67.1.1.1.2
theorem dX12_look_191 : decode cX12_look 191 = .ok (.invokestatic 486, 3) := bg02_67.1.1.2
theorem dX12_look_194 : decode cX12_look 194 = .ok (.istore_n 3, 1) := bg02_67.1.2.1.1
theorem dX12_look_195 : decode cX12_look 195 = .ok (.iinc 4 1, 3) := bg02_67.1.2.1.2
theorem dX12_look_198 : decode cX12_look 198 = .ok (.goto (-45), 3) := bg02_67.1.2.2
theorem dX12_look_201 : decode cX12_look 201 = .ok (.iload_n 1, 1) := bg02_67.2.1.1.1
theorem dX12_look_202 : decode cX12_look 202 = .ok (.ifCond .ne 7, 3) := bg02_67.2.1.1.2
theorem dX12_look_205 : decode cX12_look 205 = .ok (.iload_n 2, 1) := bg02_67.2.1.2
theorem dX12_look_206 : decode cX12_look 206 = .ok (.goto 4, 3) := bg02_67.2.2.1.1
theorem dX12_look_209 : decode cX12_look 209 = .ok (.iload_n 3, 1) := bg02_67.2.2.1.2
theorem dX12_look_210 : decode cX12_look 210 = .ok (.ireturn, 1) := bg02_67.2.2.2
theorem bg02_68 : ((decode cX12_forget 0 = .ok (.aload_n 0, 1) ∧ decode cX12_forget 1 = .ok (.iconst 0, 1)) ∧ (decode cX12_forget 2 = .ok (.putfield 163, 3) ∧ decode cX12_forget 5 = .ok (.aload_n 0, 1))) ∧ ((decode cX12_forget 6 = .ok (.iconst 0, 1) ∧ decode cX12_forget 7 = .ok (.putfield 329, 3)) ∧ (decode cX12_forget 10 = .ok (.return_, 1) ∧ decode cX12_wet 0 = .ok (.aload_n 0, 1))) := by decide +kernel
theorem dX12_forget_0 : decode cX12_forget 0 = .ok (.aload_n 0, 1) := bg02_68.1.1.1
theorem dX12_forget_1 : decode cX12_forget 1 = .ok (.iconst 0, 1) := bg02_68.1.1.2
theorem dX12_forget_2 : decode cX12_forget 2 = .ok (.putfield 163, 3) := bg02_68.1.2.1
theorem dX12_forget_5 : decode cX12_forget 5 = .ok (.aload_n 0, 1) := bg02_68.1.2.2
theorem dX12_forget_6 : decode cX12_forget 6 = .ok (.iconst 0, 1) := bg02_68.2.1.1
theorem dX12_forget_7 : decode cX12_forget 7 = .ok (.putfield 329, 3) := bg02_68.2.1.2
theorem dX12_forget_10 : decode cX12_forget 10 = .ok (.return_, 1) := bg02_68.2.2.1
theorem dX12_wet_0 : decode cX12_wet 0 = .ok (.aload_n 0, 1) := bg02_68.2.2.2
theorem bg02_69 : (((decode cX12_wet 1 = .ok (.iconst 0, 1) ∧ decode cX12_wet 2 = .ok (.putfield 163, 3)) ∧ (decode cX12_wet 5 = .ok (.aload_n 0, 1) ∧ decode cX12_wet 6 = .ok (.iload_n 1, 1))) ∧ ((decode cX12_wet 7 = .ok (.invokevirtual 411, 3) ∧ decode cX12_wet 10 = .ok (.ifCond .ne 9, 3)) ∧ (decode cX12_wet 13 = .ok (.aload_n 0, 1) ∧ decode cX12_wet 14 = .ok (.iconst 1, 1)))) ∧ (((decode cX12_wet 15 = .ok (.invokevirtual 310, 3) ∧ decode cX12_wet 18 = .ok (.ireturn, 1)) ∧ (decode cX12_wet 19 = .ok (.iload_n 2, 1) ∧ decode cX12_wet 20 = .ok (.i2l, 1))) ∧ ((decode cX12_wet 21 = .ok (.lconst 1, 1) ∧ decode cX12_wet 22 = .ok (.ldc2_w 453, 3)) ∧ (decode cX12_wet 25 = .ok (.invokestatic 166, 3) ∧ decode cX12_wet 28 = .ok (.ifCond .eq 15, 3)))) := by decide +kernel
theorem dX12_wet_1 : decode cX12_wet 1 = .ok (.iconst 0, 1) := bg02_69.1.1.1.1
theorem dX12_wet_2 : decode cX12_wet 2 = .ok (.putfield 163, 3) := bg02_69.1.1.1.2
theorem dX12_wet_5 : decode cX12_wet 5 = .ok (.aload_n 0, 1) := bg02_69.1.1.2.1
theorem dX12_wet_6 : decode cX12_wet 6 = .ok (.iload_n 1, 1) := bg02_69.1.1.2.2
theorem dX12_wet_7 : decode cX12_wet 7 = .ok (.invokevirtual 411, 3) := bg02_69.1.2.1.1
theorem dX12_wet_10 : decode cX12_wet 10 = .ok (.ifCond .ne 9, 3) := bg02_69.1.2.1.2
theorem dX12_wet_13 : decode cX12_wet 13 = .ok (.aload_n 0, 1) := bg02_69.1.2.2.1
theorem dX12_wet_14 : decode cX12_wet 14 = .ok (.iconst 1, 1) := bg02_69.1.2.2.2
theorem dX12_wet_15 : decode cX12_wet 15 = .ok (.invokevirtual 310, 3) := bg02_69.2.1.1.1
theorem dX12_wet_18 : decode cX12_wet 18 = .ok (.ireturn, 1) := bg02_69.2.1.1.2
theorem dX12_wet_19 : decode cX12_wet 19 = .ok (.iload_n 2, 1) := bg02_69.2.1.2.1
theorem dX12_wet_20 : decode cX12_wet 20 = .ok (.i2l, 1) := bg02_69.2.1.2.2
theorem dX12_wet_21 : decode cX12_wet 21 = .ok (.lconst 1, 1) := bg02_69.2.2.1.1
theorem dX12_wet_22 : decode cX12_wet 22 = .ok (.ldc2_w 453, 3) := bg02_69.2.2.1.2
theorem dX12_wet_25 : decode cX12_wet 25 = .ok (.invokestatic 166, 3) := bg02_69.2.2.2.1
theorem dX12_wet_28 : decode cX12_wet 28 = .ok (.ifCond .eq 15, 3) := bg02_69.2.2.2.2
theorem bg02_70 : (((decode cX12_wet 31 = .ok (.iload_n 3, 1) ∧ decode cX12_wet 32 = .ok (.i2l, 1)) ∧ (decode cX12_wet 33 = .ok (.lconst 0, 1) ∧ decode cX12_wet 34 = .ok (.ldc2_w 489, 3))) ∧ ((decode cX12_wet 37 = .ok (.invokestatic 166, 3) ∧ decode cX12_wet 40 = .ok (.ifCond .ne 9, 3)) ∧ (decode cX12_wet 43 = .ok (.aload_n 0, 1) ∧ decode cX12_wet 44 = .ok (.iconst 2, 1)))) ∧ (((decode cX12_wet 45 = .ok (.invokevirtual 310, 3) ∧ decode cX12_wet 48 = .ok (.ireturn, 1)) ∧ (decode cX12_wet 49 = .ok (.iconst 0, 1) ∧ decode cX12_wet 50 = .ok (.istore 4, 2))) ∧ ((decode cX12_wet 52 = .ok (.aload_n 0, 1) ∧ decode cX12_wet 53 = .ok (.aload_n 0, 1)) ∧ (decode cX12_wet 54 = .ok (.getfield 118, 3) ∧ decode cX12_wet 57 = .ok (.iconst 0, 1)))) := by decide +kernel
theorem dX12_wet_31 : decode cX12_wet 31 = .ok (.iload_n 3, 1) := bg02_70.1.1.1.1
theorem dX12_wet_32 : decode cX12_wet 32 = .ok (.i2l, 1) := bg02_70.1.1.1.2
theorem dX12_wet_33 : decode cX12_wet 33 = .ok (.lconst 0, 1) := bg02_70.1.1.2.1
theorem dX12_wet_34 : decode cX12_wet 34 = .ok (.ldc2_w 489, 3) := bg02_70.1.1.2.2
theorem dX12_wet_37 : decode cX12_wet 37 = .ok (.invokestatic 166, 3) := bg02_70.1.2.1.1
theorem dX12_wet_40 : decode cX12_wet 40 = .ok (.ifCond .ne 9, 3) := bg02_70.1.2.1.2
theorem dX12_wet_43 : decode cX12_wet 43 = .ok (.aload_n 0, 1) := bg02_70.1.2.2.1
theorem dX12_wet_44 : decode cX12_wet 44 = .ok (.iconst 2, 1) := bg02_70.1.2.2.2
theorem dX12_wet_45 : decode cX12_wet 45 = .ok (.invokevirtual 310, 3) := bg02_70.2.1.1.1
theorem dX12_wet_48 : decode cX12_wet 48 = .ok (.ireturn, 1) := bg02_70.2.1.1.2
theorem dX12_wet_49 : decode cX12_wet 49 = .ok (.iconst 0, 1) := bg02_70.2.1.2.1
theorem dX12_wet_50 : decode cX12_wet 50 = .ok (.istore 4, 2) := bg02_70.2.1.2.2
theorem dX12_wet_52 : decode cX12_wet 52 = .ok (.aload_n 0, 1) := bg02_70.2.2.1.1
theorem dX12_wet_53 : decode cX12_wet 53 = .ok (.aload_n 0, 1) := bg02_70.2.2.1.2
theorem dX12_wet_54 : decode cX12_wet 54 = .ok (.getfield 118, 3) := bg02_70.2.2.2.1
theorem dX12_wet_57 : decode cX12_wet 57 = .ok (.iconst 0, 1) := bg02_70.2.2.2.2
theorem bg02_71 : (((decode cX12_wet 58 = .ok (.invokevirtual 420, 3) ∧ decode cX12_wet 61 = .ok (.iconst 0, 1)) ∧ (decode cX12_wet 62 = .ok (.istore 5, 2) ∧ decode cX12_wet 64 = .ok (.iload 5, 2))) ∧ ((decode cX12_wet 66 = .ok (.iconst 1, 1) ∧ decode cX12_wet 67 = .ok (.iload_n 2, 1)) ∧ (decode cX12_wet 68 = .ok (.ishl, 1) ∧ decode cX12_wet 69 = .ok (.if_icmp .ge 99, 3)))) ∧ (((decode cX12_wet 72 = .ok (.iconst 1, 1) ∧ decode cX12_wet 73 = .ok (.istore 6, 2)) ∧ (decode cX12_wet 75 = .ok (.iconst 0, 1) ∧ decode cX12_wet 76 = .ok (.istore 7, 2))) ∧ ((decode cX12_wet 78 = .ok (.iload 7, 2) ∧ decode cX12_wet 80 = .ok (.iload_n 2, 1)) ∧ (decode cX12_wet 81 = .ok (.if_icmp .ge 52, 3) ∧ decode cX12_wet 84 = .ok (.iload 6, 2)))) := by decide +kernel
theorem dX12_wet_58 : decode cX12_wet 58 = .ok (.invokevirtual 420, 3) := bg02_71.1.1.1.1
theorem dX12_wet_61 : decode cX12_wet 61 = .ok (.iconst 0, 1) := bg02_71.1.1.1.2
theorem dX12_wet_62 : decode cX12_wet 62 = .ok (.istore 5, 2) := bg02_71.1.1.2.1
theorem dX12_wet_64 : decode cX12_wet 64 = .ok (.iload 5, 2) := bg02_71.1.1.2.2
theorem dX12_wet_66 : decode cX12_wet 66 = .ok (.iconst 1, 1) := bg02_71.1.2.1.1
theorem dX12_wet_67 : decode cX12_wet 67 = .ok (.iload_n 2, 1) := bg02_71.1.2.1.2
theorem dX12_wet_68 : decode cX12_wet 68 = .ok (.ishl, 1) := bg02_71.1.2.2.1
theorem dX12_wet_69 : decode cX12_wet 69 = .ok (.if_icmp .ge 99, 3) := bg02_71.1.2.2.2
theorem dX12_wet_72 : decode cX12_wet 72 = .ok (.iconst 1, 1) := bg02_71.2.1.1.1
theorem dX12_wet_73 : decode cX12_wet 73 = .ok (.istore 6, 2) := bg02_71.2.1.1.2
theorem dX12_wet_75 : decode cX12_wet 75 = .ok (.iconst 0, 1) := bg02_71.2.1.2.1
theorem dX12_wet_76 : decode cX12_wet 76 = .ok (.istore 7, 2) := bg02_71.2.1.2.2
theorem dX12_wet_78 : decode cX12_wet 78 = .ok (.iload 7, 2) := bg02_71.2.2.1.1
theorem dX12_wet_80 : decode cX12_wet 80 = .ok (.iload_n 2, 1) := bg02_71.2.2.1.2
theorem dX12_wet_81 : decode cX12_wet 81 = .ok (.if_icmp .ge 52, 3) := bg02_71.2.2.2.1
theorem dX12_wet_84 : decode cX12_wet 84 = .ok (.iload 6, 2) := bg02_71.2.2.2.2
theorem bg02_72 : (((decode cX12_wet 86 = .ok (.iload 5, 2) ∧ decode cX12_wet 88 = .ok (.iload 7, 2)) ∧ (decode cX12_wet 90 = .ok (.invokestatic 396, 3) ∧ decode cX12_wet 93 = .ok (.ifCond .eq 7, 3))) ∧ ((decode cX12_wet 96 = .ok (.iload_n 3, 1) ∧ decode cX12_wet 97 = .ok (.goto 7, 3)) ∧ (decode cX12_wet 100 = .ok (.bipush 10, 2) ∧ decode cX12_wet 102 = .ok (.iload_n 3, 1)))) ∧ (((decode cX12_wet 103 = .ok (.isub, 1) ∧ decode cX12_wet 104 = .ok (.imul, 1)) ∧ (decode cX12_wet 105 = .ok (.istore 6, 2) ∧ decode cX12_wet 107 = .ok (.aload_n 0, 1))) ∧ ((decode cX12_wet 108 = .ok (.iload 5, 2) ∧ decode cX12_wet 110 = .ok (.iload 7, 2)) ∧ (decode cX12_wet 112 = .ok (.invokestatic 396, 3) ∧ decode cX12_wet 115 = .ok (.ifCond .eq 8, 3)))) := by decide +kernel
theorem dX12_wet_86 : decode cX12_wet 86 = .ok (.iload 5, 2) := bg02_72.1.1.1.1
theorem dX12_wet_88 : decode cX12_wet 88 = .ok (.iload 7, 2) := bg02_72.1.1.1.2
theorem dX12_wet_90 : decode cX12_wet 90 = .ok (.invokestatic 396, 3) := bg02_72.1.1.2.1
theorem dX12_wet_93 : decode cX12_wet 93 = .ok (.ifCond .eq 7, 3) := bg02_72.1.1.2.2
theorem dX12_wet_96 : decode cX12_wet 96 = .ok (.iload_n 3, 1) := bg02_72.1.2.1.1
theorem dX12_wet_97 : decode cX12_wet 97 = .ok (.goto 7, 3) := bg02_72.1.2.1.2
theorem dX12_wet_100 : decode cX12_wet 100 = .ok (.bipush 10, 2) := bg02_72.1.2.2.1
theorem dX12_wet_102 : decode cX12_wet 102 = .ok (.iload_n 3, 1) := bg02_72.1.2.2.2
theorem dX12_wet_103 : decode cX12_wet 103 = .ok (.isub, 1) := bg02_72.2.1.1.1
theorem dX12_wet_104 : decode cX12_wet 104 = .ok (.imul, 1) := bg02_72.2.1.1.2
theorem dX12_wet_105 : decode cX12_wet 105 = .ok (.istore 6, 2) := bg02_72.2.1.2.1
theorem dX12_wet_107 : decode cX12_wet 107 = .ok (.aload_n 0, 1) := bg02_72.2.1.2.2
theorem dX12_wet_108 : decode cX12_wet 108 = .ok (.iload 5, 2) := bg02_72.2.2.1.1
theorem dX12_wet_110 : decode cX12_wet 110 = .ok (.iload 7, 2) := bg02_72.2.2.1.2
theorem dX12_wet_112 : decode cX12_wet 112 = .ok (.invokestatic 396, 3) := bg02_72.2.2.2.1
theorem dX12_wet_115 : decode cX12_wet 115 = .ok (.ifCond .eq 8, 3) := bg02_72.2.2.2.2
theorem bg02_73 : (((decode cX12_wet 118 = .ok (.bipush 9, 2) ∧ decode cX12_wet 120 = .ok (.goto 4, 3)) ∧ (decode cX12_wet 123 = .ok (.iconst 0, 1) ∧ decode cX12_wet 124 = .ok (.invokevirtual 387, 3))) ∧ ((decode cX12_wet 127 = .ok (.iinc 7 1, 3) ∧ decode cX12_wet 130 = .ok (.goto (-52), 3)) ∧ (decode cX12_wet 133 = .ok (.iload 4, 2) ∧ decode cX12_wet 135 = .ok (.aload_n 0, 1)))) ∧ (((decode cX12_wet 136 = .ok (.getfield 94, 3) ∧ decode cX12_wet 139 = .ok (.iload_n 1, 1)) ∧ (decode cX12_wet 140 = .ok (.iaload, 1) ∧ decode cX12_wet 141 = .ok (.ifCond .ne 8, 3))) ∧ ((decode cX12_wet 144 = .ok (.iload 6, 2) ∧ decode cX12_wet 146 = .ok (.goto 4, 3)) ∧ (decode cX12_wet 149 = .ok (.iconst 0, 1) ∧ decode cX12_wet 150 = .ok (.iadd, 1)))) := by decide +kernel
theorem dX12_wet_118 : decode cX12_wet 118 = .ok (.bipush 9, 2) := bg02_73.1.1.1.1
theorem dX12_wet_120 : decode cX12_wet 120 = .ok (.goto 4, 3) := bg02_73.1.1.1.2
theorem dX12_wet_123 : decode cX12_wet 123 = .ok (.iconst 0, 1) := bg02_73.1.1.2.1
theorem dX12_wet_124 : decode cX12_wet 124 = .ok (.invokevirtual 387, 3) := bg02_73.1.1.2.2
theorem dX12_wet_127 : decode cX12_wet 127 = .ok (.iinc 7 1, 3) := bg02_73.1.2.1.1
theorem dX12_wet_130 : decode cX12_wet 130 = .ok (.goto (-52), 3) := bg02_73.1.2.1.2
theorem dX12_wet_133 : decode cX12_wet 133 = .ok (.iload 4, 2) := bg02_73.1.2.2.1
theorem dX12_wet_135 : decode cX12_wet 135 = .ok (.aload_n 0, 1) := bg02_73.1.2.2.2
theorem dX12_wet_136 : decode cX12_wet 136 = .ok (.getfield 94, 3) := bg02_73.2.1.1.1
theorem dX12_wet_139 : decode cX12_wet 139 = .ok (.iload_n 1, 1) := bg02_73.2.1.1.2
theorem dX12_wet_140 : decode cX12_wet 140 = .ok (.iaload, 1) := bg02_73.2.1.2.1
theorem dX12_wet_141 : decode cX12_wet 141 = .ok (.ifCond .ne 8, 3) := bg02_73.2.1.2.2
theorem dX12_wet_144 : decode cX12_wet 144 = .ok (.iload 6, 2) := bg02_73.2.2.1.1
theorem dX12_wet_146 : decode cX12_wet 146 = .ok (.goto 4, 3) := bg02_73.2.2.1.2
theorem dX12_wet_149 : decode cX12_wet 149 = .ok (.iconst 0, 1) := bg02_73.2.2.2.1
theorem dX12_wet_150 : decode cX12_wet 150 = .ok (.iadd, 1) := bg02_73.2.2.2.2
theorem bg02_74 : (((decode cX12_wet 151 = .ok (.istore 4, 2) ∧ decode cX12_wet 153 = .ok (.aload_n 0, 1)) ∧ (decode cX12_wet 154 = .ok (.aload_n 0, 1))) ∧ (decode cX12_wet 155 = .ok (.getfield 118, 3) ∧ decode cX12_wet 158 = .ok (.iconst 0, 1))) ∧ (((decode cX12_wet 159 = .ok (.invokevirtual 446, 3) ∧ decode cX12_wet 162 = .ok (.iinc 5 1, 3)) ∧ (decode cX12_wet 165 = .ok (.goto (-101), 3))) ∧ (decode cX12_wet 168 = .ok (.iload 4, 2) ∧ decode cX12_wet 170 = .ok (.ireturn, 1))) := by decide +kernel
theorem dX12_wet_151 : decode cX12_wet 151 = .ok (.istore 4, 2) := bg02_74.1.1.1.1
theorem dX12_wet_153 : decode cX12_wet 153 = .ok (.aload_n 0, 1) := bg02_74.1.1.1.2
theorem dX12_wet_154 : decode cX12_wet 154 = .ok (.aload_n 0, 1) := bg02_74.1.1.2
theorem dX12_wet_155 : decode cX12_wet 155 = .ok (.getfield 118, 3) := bg02_74.1.2.1
theorem dX12_wet_158 : decode cX12_wet 158 = .ok (.iconst 0, 1) := bg02_74.1.2.2
theorem dX12_wet_159 : decode cX12_wet 159 = .ok (.invokevirtual 446, 3) := bg02_74.2.1.1.1
theorem dX12_wet_162 : decode cX12_wet 162 = .ok (.iinc 5 1, 3) := bg02_74.2.1.1.2
theorem dX12_wet_165 : decode cX12_wet 165 = .ok (.goto (-101), 3) := bg02_74.2.1.2
theorem dX12_wet_168 : decode cX12_wet 168 = .ok (.iload 4, 2) := bg02_74.2.2.1
theorem dX12_wet_170 : decode cX12_wet 170 = .ok (.ireturn, 1) := bg02_74.2.2.2
theorem bg02_75 : (((decode cX12_gainOf 0 = .ok (.aload_n 0, 1) ∧ decode cX12_gainOf 1 = .ok (.getfield 94, 3)) ∧ (decode cX12_gainOf 4 = .ok (.iload_n 1, 1) ∧ decode cX12_gainOf 5 = .ok (.iaload, 1))) ∧ ((decode cX12_gainOf 6 = .ok (.bipush 10, 2) ∧ decode cX12_gainOf 8 = .ok (.idiv, 1)) ∧ (decode cX12_gainOf 9 = .ok (.iconst 2, 1) ∧ decode cX12_gainOf 10 = .ok (.aload_n 0, 1)))) ∧ (((decode cX12_gainOf 11 = .ok (.iload_n 1, 1) ∧ decode cX12_gainOf 12 = .ok (.invokevirtual 414, 3)) ∧ (decode cX12_gainOf 15 = .ok (.aload_n 0, 1) ∧ decode cX12_gainOf 16 = .ok (.invokevirtual 399, 3))) ∧ ((decode cX12_gainOf 19 = .ok (.iand, 1) ∧ decode cX12_gainOf 20 = .ok (.invokestatic 486, 3)) ∧ (decode cX12_gainOf 23 = .ok (.imul, 1) ∧ decode cX12_gainOf 24 = .ok (.iadd, 1)))) := by decide +kernel
theorem dX12_gainOf_0 : decode cX12_gainOf 0 = .ok (.aload_n 0, 1) := bg02_75.1.1.1.1
theorem dX12_gainOf_1 : decode cX12_gainOf 1 = .ok (.getfield 94, 3) := bg02_75.1.1.1.2
theorem dX12_gainOf_4 : decode cX12_gainOf 4 = .ok (.iload_n 1, 1) := bg02_75.1.1.2.1
theorem dX12_gainOf_5 : decode cX12_gainOf 5 = .ok (.iaload, 1) := bg02_75.1.1.2.2
theorem dX12_gainOf_6 : decode cX12_gainOf 6 = .ok (.bipush 10, 2) := bg02_75.1.2.1.1
theorem dX12_gainOf_8 : decode cX12_gainOf 8 = .ok (.idiv, 1) := bg02_75.1.2.1.2
theorem dX12_gainOf_9 : decode cX12_gainOf 9 = .ok (.iconst 2, 1) := bg02_75.1.2.2.1
theorem dX12_gainOf_10 : decode cX12_gainOf 10 = .ok (.aload_n 0, 1) := bg02_75.1.2.2.2
theorem dX12_gainOf_11 : decode cX12_gainOf 11 = .ok (.iload_n 1, 1) := bg02_75.2.1.1.1
theorem dX12_gainOf_12 : decode cX12_gainOf 12 = .ok (.invokevirtual 414, 3) := bg02_75.2.1.1.2
theorem dX12_gainOf_15 : decode cX12_gainOf 15 = .ok (.aload_n 0, 1) := bg02_75.2.1.2.1
theorem dX12_gainOf_16 : decode cX12_gainOf 16 = .ok (.invokevirtual 399, 3) := bg02_75.2.1.2.2
theorem dX12_gainOf_19 : decode cX12_gainOf 19 = .ok (.iand, 1) := bg02_75.2.2.1.1
theorem dX12_gainOf_20 : decode cX12_gainOf 20 = .ok (.invokestatic 486, 3) := bg02_75.2.2.1.2
theorem dX12_gainOf_23 : decode cX12_gainOf 23 = .ok (.imul, 1) := bg02_75.2.2.2.1
theorem dX12_gainOf_24 : decode cX12_gainOf 24 = .ok (.iadd, 1) := bg02_75.2.2.2.2
theorem bg02_76 : ((decode cX12_gainOf 25 = .ok (.iconst 3, 1) ∧ decode cX12_gainOf 26 = .ok (.iload_n 2, 1)) ∧ (decode cX12_gainOf 27 = .ok (.imul, 1) ∧ decode cX12_gainOf 28 = .ok (.isub, 1))) ∧ ((decode cX12_gainOf 29 = .ok (.ireturn, 1) ∧ decode cX12_tellGains 0 = .ok (.aload_n 0, 1)) ∧ (decode cX12_tellGains 1 = .ok (.aload_n 0, 1) ∧ decode cX12_tellGains 2 = .ok (.getfield 118, 3))) := by decide +kernel
theorem dX12_gainOf_25 : decode cX12_gainOf 25 = .ok (.iconst 3, 1) := bg02_76.1.1.1
theorem dX12_gainOf_26 : decode cX12_gainOf 26 = .ok (.iload_n 2, 1) := bg02_76.1.1.2
theorem dX12_gainOf_27 : decode cX12_gainOf 27 = .ok (.imul, 1) := bg02_76.1.2.1
theorem dX12_gainOf_28 : decode cX12_gainOf 28 = .ok (.isub, 1) := bg02_76.1.2.2
theorem dX12_gainOf_29 : decode cX12_gainOf 29 = .ok (.ireturn, 1) := bg02_76.2.1.1
theorem dX12_tellGains_0 : decode cX12_tellGains 0 = .ok (.aload_n 0, 1) := bg02_76.2.1.2
theorem dX12_tellGains_1 : decode cX12_tellGains 1 = .ok (.aload_n 0, 1) := bg02_76.2.2.1
theorem dX12_tellGains_2 : decode cX12_tellGains 2 = .ok (.getfield 118, 3) := bg02_76.2.2.2
theorem bg02_77 : (((decode cX12_tellGains 5 = .ok (.iconst 0, 1) ∧ decode cX12_tellGains 6 = .ok (.invokevirtual 420, 3)) ∧ (decode cX12_tellGains 9 = .ok (.iconst 0, 1) ∧ decode cX12_tellGains 10 = .ok (.istore_n 3, 1))) ∧ ((decode cX12_tellGains 11 = .ok (.iload_n 3, 1) ∧ decode cX12_tellGains 12 = .ok (.iconst 4, 1)) ∧ (decode cX12_tellGains 13 = .ok (.if_icmp .ge 106, 3) ∧ decode cX12_tellGains 16 = .ok (.iload_n 3, 1)))) ∧ (((decode cX12_tellGains 17 = .ok (.iconst 2, 1) ∧ decode cX12_tellGains 18 = .ok (.idiv, 1)) ∧ (decode cX12_tellGains 19 = .ok (.iconst 1, 1) ∧ decode cX12_tellGains 20 = .ok (.if_icmp .ne 20, 3))) ∧ ((decode cX12_tellGains 23 = .ok (.aload_n 0, 1) ∧ decode cX12_tellGains 24 = .ok (.iload_n 1, 1)) ∧ (decode cX12_tellGains 25 = .ok (.aload_n 0, 1) ∧ decode cX12_tellGains 26 = .ok (.getfield 88, 3)))) := by decide +kernel
theorem dX12_tellGains_5 : decode cX12_tellGains 5 = .ok (.iconst 0, 1) := bg02_77.1.1.1.1
theorem dX12_tellGains_6 : decode cX12_tellGains 6 = .ok (.invokevirtual 420, 3) := bg02_77.1.1.1.2
theorem dX12_tellGains_9 : decode cX12_tellGains 9 = .ok (.iconst 0, 1) := bg02_77.1.1.2.1
theorem dX12_tellGains_10 : decode cX12_tellGains 10 = .ok (.istore_n 3, 1) := bg02_77.1.1.2.2
theorem dX12_tellGains_11 : decode cX12_tellGains 11 = .ok (.iload_n 3, 1) := bg02_77.1.2.1.1
theorem dX12_tellGains_12 : decode cX12_tellGains 12 = .ok (.iconst 4, 1) := bg02_77.1.2.1.2
theorem dX12_tellGains_13 : decode cX12_tellGains 13 = .ok (.if_icmp .ge 106, 3) := bg02_77.1.2.2.1
theorem dX12_tellGains_16 : decode cX12_tellGains 16 = .ok (.iload_n 3, 1) := bg02_77.1.2.2.2
theorem dX12_tellGains_17 : decode cX12_tellGains 17 = .ok (.iconst 2, 1) := bg02_77.2.1.1.1
theorem dX12_tellGains_18 : decode cX12_tellGains 18 = .ok (.idiv, 1) := bg02_77.2.1.1.2
theorem dX12_tellGains_19 : decode cX12_tellGains 19 = .ok (.iconst 1, 1) := bg02_77.2.1.2.1
theorem dX12_tellGains_20 : decode cX12_tellGains 20 = .ok (.if_icmp .ne 20, 3) := bg02_77.2.1.2.2
theorem dX12_tellGains_23 : decode cX12_tellGains 23 = .ok (.aload_n 0, 1) := bg02_77.2.2.1.1
theorem dX12_tellGains_24 : decode cX12_tellGains 24 = .ok (.iload_n 1, 1) := bg02_77.2.2.1.2
theorem dX12_tellGains_25 : decode cX12_tellGains 25 = .ok (.aload_n 0, 1) := bg02_77.2.2.2.1
theorem dX12_tellGains_26 : decode cX12_tellGains 26 = .ok (.getfield 88, 3) := bg02_77.2.2.2.2
theorem bg02_78 : (((decode cX12_tellGains 29 = .ok (.iload_n 1, 1) ∧ decode cX12_tellGains 30 = .ok (.iaload, 1)) ∧ (decode cX12_tellGains 31 = .ok (.aload_n 0, 1) ∧ decode cX12_tellGains 32 = .ok (.getfield 91, 3))) ∧ ((decode cX12_tellGains 35 = .ok (.iload_n 1, 1) ∧ decode cX12_tellGains 36 = .ok (.iaload, 1)) ∧ (decode cX12_tellGains 37 = .ok (.invokevirtual 437, 3) ∧ decode cX12_tellGains 40 = .ok (.iload_n 3, 1)))) ∧ (((decode cX12_tellGains 41 = .ok (.iconst 2, 1) ∧ decode cX12_tellGains 42 = .ok (.irem, 1)) ∧ (decode cX12_tellGains 43 = .ok (.iconst 1, 1) ∧ decode cX12_tellGains 44 = .ok (.if_icmp .ne 20, 3))) ∧ ((decode cX12_tellGains 47 = .ok (.aload_n 0, 1) ∧ decode cX12_tellGains 48 = .ok (.iload_n 2, 1)) ∧ (decode cX12_tellGains 49 = .ok (.aload_n 0, 1) ∧ decode cX12_tellGains 50 = .ok (.getfield 88, 3)))) := by decide +kernel
theorem dX12_tellGains_29 : decode cX12_tellGains 29 = .ok (.iload_n 1, 1) := bg02_78.1.1.1.1
theorem dX12_tellGains_30 : decode cX12_tellGains 30 = .ok (.iaload, 1) := bg02_78.1.1.1.2
theorem dX12_tellGains_31 : decode cX12_tellGains 31 = .ok (.aload_n 0, 1) := bg02_78.1.1.2.1
theorem dX12_tellGains_32 : decode cX12_tellGains 32 = .ok (.getfield 91, 3) := bg02_78.1.1.2.2
theorem dX12_tellGains_35 : decode cX12_tellGains 35 = .ok (.iload_n 1, 1) := bg02_78.1.2.1.1
theorem dX12_tellGains_36 : decode cX12_tellGains 36 = .ok (.iaload, 1) := bg02_78.1.2.1.2
theorem dX12_tellGains_37 : decode cX12_tellGains 37 = .ok (.invokevirtual 437, 3) := bg02_78.1.2.2.1
theorem dX12_tellGains_40 : decode cX12_tellGains 40 = .ok (.iload_n 3, 1) := bg02_78.1.2.2.2
theorem dX12_tellGains_41 : decode cX12_tellGains 41 = .ok (.iconst 2, 1) := bg02_78.2.1.1.1
theorem dX12_tellGains_42 : decode cX12_tellGains 42 = .ok (.irem, 1) := bg02_78.2.1.1.2
theorem dX12_tellGains_43 : decode cX12_tellGains 43 = .ok (.iconst 1, 1) := bg02_78.2.1.2.1
theorem dX12_tellGains_44 : decode cX12_tellGains 44 = .ok (.if_icmp .ne 20, 3) := bg02_78.2.1.2.2
theorem dX12_tellGains_47 : decode cX12_tellGains 47 = .ok (.aload_n 0, 1) := bg02_78.2.2.1.1
theorem dX12_tellGains_48 : decode cX12_tellGains 48 = .ok (.iload_n 2, 1) := bg02_78.2.2.1.2
theorem dX12_tellGains_49 : decode cX12_tellGains 49 = .ok (.aload_n 0, 1) := bg02_78.2.2.2.1
theorem dX12_tellGains_50 : decode cX12_tellGains 50 = .ok (.getfield 88, 3) := bg02_78.2.2.2.2
theorem bg02_79 : (((decode cX12_tellGains 53 = .ok (.iload_n 2, 1) ∧ decode cX12_tellGains 54 = .ok (.iaload, 1)) ∧ (decode cX12_tellGains 55 = .ok (.aload_n 0, 1) ∧ decode cX12_tellGains 56 = .ok (.getfield 91, 3))) ∧ ((decode cX12_tellGains 59 = .ok (.iload_n 2, 1) ∧ decode cX12_tellGains 60 = .ok (.iaload, 1)) ∧ (decode cX12_tellGains 61 = .ok (.invokevirtual 437, 3) ∧ decode cX12_tellGains 64 = .ok (.aload_n 0, 1)))) ∧ (((decode cX12_tellGains 65 = .ok (.bipush 6, 2) ∧ decode cX12_tellGains 67 = .ok (.invokevirtual 432, 3)) ∧ (decode cX12_tellGains 70 = .ok (.aload_n 0, 1) ∧ decode cX12_tellGains 71 = .ok (.getfield 142, 3))) ∧ ((decode cX12_tellGains 74 = .ok (.iconst 2, 1) ∧ decode cX12_tellGains 75 = .ok (.iload_n 3, 1)) ∧ (decode cX12_tellGains 76 = .ok (.imul, 1) ∧ decode cX12_tellGains 77 = .ok (.aload_n 0, 1)))) := by decide +kernel
theorem dX12_tellGains_53 : decode cX12_tellGains 53 = .ok (.iload_n 2, 1) := bg02_79.1.1.1.1
theorem dX12_tellGains_54 : decode cX12_tellGains 54 = .ok (.iaload, 1) := bg02_79.1.1.1.2
theorem dX12_tellGains_55 : decode cX12_tellGains 55 = .ok (.aload_n 0, 1) := bg02_79.1.1.2.1
theorem dX12_tellGains_56 : decode cX12_tellGains 56 = .ok (.getfield 91, 3) := bg02_79.1.1.2.2
theorem dX12_tellGains_59 : decode cX12_tellGains 59 = .ok (.iload_n 2, 1) := bg02_79.1.2.1.1
theorem dX12_tellGains_60 : decode cX12_tellGains 60 = .ok (.iaload, 1) := bg02_79.1.2.1.2
theorem dX12_tellGains_61 : decode cX12_tellGains 61 = .ok (.invokevirtual 437, 3) := bg02_79.1.2.2.1
theorem dX12_tellGains_64 : decode cX12_tellGains 64 = .ok (.aload_n 0, 1) := bg02_79.1.2.2.2
theorem dX12_tellGains_65 : decode cX12_tellGains 65 = .ok (.bipush 6, 2) := bg02_79.2.1.1.1
theorem dX12_tellGains_67 : decode cX12_tellGains 67 = .ok (.invokevirtual 432, 3) := bg02_79.2.1.1.2
theorem dX12_tellGains_70 : decode cX12_tellGains 70 = .ok (.aload_n 0, 1) := bg02_79.2.1.2.1
theorem dX12_tellGains_71 : decode cX12_tellGains 71 = .ok (.getfield 142, 3) := bg02_79.2.1.2.2
theorem dX12_tellGains_74 : decode cX12_tellGains 74 = .ok (.iconst 2, 1) := bg02_79.2.2.1.1
theorem dX12_tellGains_75 : decode cX12_tellGains 75 = .ok (.iload_n 3, 1) := bg02_79.2.2.1.2
theorem dX12_tellGains_76 : decode cX12_tellGains 76 = .ok (.imul, 1) := bg02_79.2.2.2.1
theorem dX12_tellGains_77 : decode cX12_tellGains 77 = .ok (.aload_n 0, 1) := bg02_79.2.2.2.2
theorem bg02_80 : (((decode cX12_tellGains 78 = .ok (.iload_n 1, 1) ∧ decode cX12_tellGains 79 = .ok (.iload_n 3, 1)) ∧ (decode cX12_tellGains 80 = .ok (.iconst 2, 1) ∧ decode cX12_tellGains 81 = .ok (.idiv, 1))) ∧ ((decode cX12_tellGains 82 = .ok (.invokevirtual 491, 3) ∧ decode cX12_tellGains 85 = .ok (.iastore, 1)) ∧ (decode cX12_tellGains 86 = .ok (.aload_n 0, 1) ∧ decode cX12_tellGains 87 = .ok (.getfield 142, 3)))) ∧ (((decode cX12_tellGains 90 = .ok (.iconst 2, 1) ∧ decode cX12_tellGains 91 = .ok (.iload_n 3, 1)) ∧ (decode cX12_tellGains 92 = .ok (.imul, 1) ∧ decode cX12_tellGains 93 = .ok (.iconst 1, 1))) ∧ ((decode cX12_tellGains 94 = .ok (.iadd, 1) ∧ decode cX12_tellGains 95 = .ok (.aload_n 0, 1)) ∧ (decode cX12_tellGains 96 = .ok (.iload_n 2, 1) ∧ decode cX12_tellGains 97 = .ok (.iload_n 3, 1)))) := by decide +kernel
theorem dX12_tellGains_78 : decode cX12_tellGains 78 = .ok (.iload_n 1, 1) := bg02_80.1.1.1.1
theorem dX12_tellGains_79 : decode cX12_tellGains 79 = .ok (.iload_n 3, 1) := bg02_80.1.1.1.2
theorem dX12_tellGains_80 : decode cX12_tellGains 80 = .ok (.iconst 2, 1) := bg02_80.1.1.2.1
theorem dX12_tellGains_81 : decode cX12_tellGains 81 = .ok (.idiv, 1) := bg02_80.1.1.2.2
theorem dX12_tellGains_82 : decode cX12_tellGains 82 = .ok (.invokevirtual 491, 3) := bg02_80.1.2.1.1
theorem dX12_tellGains_85 : decode cX12_tellGains 85 = .ok (.iastore, 1) := bg02_80.1.2.1.2
theorem dX12_tellGains_86 : decode cX12_tellGains 86 = .ok (.aload_n 0, 1) := bg02_80.1.2.2.1
theorem dX12_tellGains_87 : decode cX12_tellGains 87 = .ok (.getfield 142, 3) := bg02_80.1.2.2.2
theorem dX12_tellGains_90 : decode cX12_tellGains 90 = .ok (.iconst 2, 1) := bg02_80.2.1.1.1
theorem dX12_tellGains_91 : decode cX12_tellGains 91 = .ok (.iload_n 3, 1) := bg02_80.2.1.1.2
theorem dX12_tellGains_92 : decode cX12_tellGains 92 = .ok (.imul, 1) := bg02_80.2.1.2.1
theorem dX12_tellGains_93 : decode cX12_tellGains 93 = .ok (.iconst 1, 1) := bg02_80.2.1.2.2
theorem dX12_tellGains_94 : decode cX12_tellGains 94 = .ok (.iadd, 1) := bg02_80.2.2.1.1
theorem dX12_tellGains_95 : decode cX12_tellGains 95 = .ok (.aload_n 0, 1) := bg02_80.2.2.1.2
theorem dX12_tellGains_96 : decode cX12_tellGains 96 = .ok (.iload_n 2, 1) := bg02_80.2.2.2.1
theorem dX12_tellGains_97 : decode cX12_tellGains 97 = .ok (.iload_n 3, 1) := bg02_80.2.2.2.2
theorem bg02_81 : (((decode cX12_tellGains 98 = .ok (.iconst 2, 1) ∧ decode cX12_tellGains 99 = .ok (.irem, 1)) ∧ (decode cX12_tellGains 100 = .ok (.invokevirtual 491, 3))) ∧ ((decode cX12_tellGains 103 = .ok (.iastore, 1) ∧ decode cX12_tellGains 104 = .ok (.aload_n 0, 1)) ∧ (decode cX12_tellGains 105 = .ok (.aload_n 0, 1)))) ∧ (((decode cX12_tellGains 106 = .ok (.getfield 118, 3) ∧ decode cX12_tellGains 109 = .ok (.iconst 0, 1)) ∧ (decode cX12_tellGains 110 = .ok (.invokevirtual 446, 3))) ∧ ((decode cX12_tellGains 113 = .ok (.iinc 3 1, 3) ∧ decode cX12_tellGains 116 = .ok (.goto (-105), 3)) ∧ (decode cX12_tellGains 119 = .ok (.return_, 1)))) := by decide +kernel
theorem dX12_tellGains_98 : decode cX12_tellGains 98 = .ok (.iconst 2, 1) := bg02_81.1.1.1.1
theorem dX12_tellGains_99 : decode cX12_tellGains 99 = .ok (.irem, 1) := bg02_81.1.1.1.2
theorem dX12_tellGains_100 : decode cX12_tellGains 100 = .ok (.invokevirtual 491, 3) := bg02_81.1.1.2
theorem dX12_tellGains_103 : decode cX12_tellGains 103 = .ok (.iastore, 1) := bg02_81.1.2.1.1
theorem dX12_tellGains_104 : decode cX12_tellGains 104 = .ok (.aload_n 0, 1) := bg02_81.1.2.1.2
theorem dX12_tellGains_105 : decode cX12_tellGains 105 = .ok (.aload_n 0, 1) := bg02_81.1.2.2
theorem dX12_tellGains_106 : decode cX12_tellGains 106 = .ok (.getfield 118, 3) := bg02_81.2.1.1.1
theorem dX12_tellGains_109 : decode cX12_tellGains 109 = .ok (.iconst 0, 1) := bg02_81.2.1.1.2
theorem dX12_tellGains_110 : decode cX12_tellGains 110 = .ok (.invokevirtual 446, 3) := bg02_81.2.1.2
theorem dX12_tellGains_113 : decode cX12_tellGains 113 = .ok (.iinc 3 1, 3) := bg02_81.2.2.1.1
theorem dX12_tellGains_116 : decode cX12_tellGains 116 = .ok (.goto (-105), 3) := bg02_81.2.2.1.2
theorem dX12_tellGains_119 : decode cX12_tellGains 119 = .ok (.return_, 1) := bg02_81.2.2.2
theorem bg02_82 : (((decode cX12_game 0 = .ok (.aload_n 0, 1) ∧ decode cX12_game 1 = .ok (.iconst 0, 1)) ∧ (decode cX12_game 2 = .ok (.putfield 163, 3) ∧ decode cX12_game 5 = .ok (.aload_n 0, 1))) ∧ ((decode cX12_game 6 = .ok (.iload_n 1, 1) ∧ decode cX12_game 7 = .ok (.invokevirtual 411, 3)) ∧ (decode cX12_game 10 = .ok (.ifCond .eq 21, 3) ∧ decode cX12_game 13 = .ok (.aload_n 0, 1)))) ∧ (((decode cX12_game 14 = .ok (.iload_n 2, 1) ∧ decode cX12_game 15 = .ok (.invokevirtual 411, 3)) ∧ (decode cX12_game 18 = .ok (.ifCond .eq 13, 3) ∧ decode cX12_game 21 = .ok (.iload_n 3, 1))) ∧ ((decode cX12_game 22 = .ok (.i2l, 1) ∧ decode cX12_game 23 = .ok (.lconst 0, 1)) ∧ (decode cX12_game 24 = .ok (.lconst 1, 1) ∧ decode cX12_game 25 = .ok (.invokestatic 166, 3)))) := by decide +kernel
theorem dX12_game_0 : decode cX12_game 0 = .ok (.aload_n 0, 1) := bg02_82.1.1.1.1
theorem dX12_game_1 : decode cX12_game 1 = .ok (.iconst 0, 1) := bg02_82.1.1.1.2
theorem dX12_game_2 : decode cX12_game 2 = .ok (.putfield 163, 3) := bg02_82.1.1.2.1
theorem dX12_game_5 : decode cX12_game 5 = .ok (.aload_n 0, 1) := bg02_82.1.1.2.2
theorem dX12_game_6 : decode cX12_game 6 = .ok (.iload_n 1, 1) := bg02_82.1.2.1.1
theorem dX12_game_7 : decode cX12_game 7 = .ok (.invokevirtual 411, 3) := bg02_82.1.2.1.2
theorem dX12_game_10 : decode cX12_game 10 = .ok (.ifCond .eq 21, 3) := bg02_82.1.2.2.1
theorem dX12_game_13 : decode cX12_game 13 = .ok (.aload_n 0, 1) := bg02_82.1.2.2.2
theorem dX12_game_14 : decode cX12_game 14 = .ok (.iload_n 2, 1) := bg02_82.2.1.1.1
theorem dX12_game_15 : decode cX12_game 15 = .ok (.invokevirtual 411, 3) := bg02_82.2.1.1.2
theorem dX12_game_18 : decode cX12_game 18 = .ok (.ifCond .eq 13, 3) := bg02_82.2.1.2.1
theorem dX12_game_21 : decode cX12_game 21 = .ok (.iload_n 3, 1) := bg02_82.2.1.2.2
theorem dX12_game_22 : decode cX12_game 22 = .ok (.i2l, 1) := bg02_82.2.2.1.1
theorem dX12_game_23 : decode cX12_game 23 = .ok (.lconst 0, 1) := bg02_82.2.2.1.2
theorem dX12_game_24 : decode cX12_game 24 = .ok (.lconst 1, 1) := bg02_82.2.2.2.1
theorem dX12_game_25 : decode cX12_game 25 = .ok (.invokestatic 166, 3) := bg02_82.2.2.2.2
theorem bg02_83 : (((decode cX12_game 28 = .ok (.ifCond .ne 9, 3) ∧ decode cX12_game 31 = .ok (.aload_n 0, 1)) ∧ (decode cX12_game 32 = .ok (.iconst 1, 1) ∧ decode cX12_game 33 = .ok (.invokevirtual 310, 3))) ∧ ((decode cX12_game 36 = .ok (.ireturn, 1) ∧ decode cX12_game 37 = .ok (.iload_n 1, 1)) ∧ (decode cX12_game 38 = .ok (.iload_n 2, 1) ∧ decode cX12_game 39 = .ok (.if_icmp .ne 9, 3)))) ∧ (((decode cX12_game 42 = .ok (.aload_n 0, 1) ∧ decode cX12_game 43 = .ok (.iconst 2, 1)) ∧ (decode cX12_game 44 = .ok (.invokevirtual 310, 3) ∧ decode cX12_game 47 = .ok (.ireturn, 1))) ∧ ((decode cX12_game 48 = .ok (.aload_n 0, 1) ∧ decode cX12_game 49 = .ok (.iload_n 1, 1)) ∧ (decode cX12_game 50 = .ok (.iload_n 2, 1) ∧ decode cX12_game 51 = .ok (.invokevirtual 494, 3)))) := by decide +kernel
theorem dX12_game_28 : decode cX12_game 28 = .ok (.ifCond .ne 9, 3) := bg02_83.1.1.1.1
theorem dX12_game_31 : decode cX12_game 31 = .ok (.aload_n 0, 1) := bg02_83.1.1.1.2
theorem dX12_game_32 : decode cX12_game 32 = .ok (.iconst 1, 1) := bg02_83.1.1.2.1
theorem dX12_game_33 : decode cX12_game 33 = .ok (.invokevirtual 310, 3) := bg02_83.1.1.2.2
theorem dX12_game_36 : decode cX12_game 36 = .ok (.ireturn, 1) := bg02_83.1.2.1.1
theorem dX12_game_37 : decode cX12_game 37 = .ok (.iload_n 1, 1) := bg02_83.1.2.1.2
theorem dX12_game_38 : decode cX12_game 38 = .ok (.iload_n 2, 1) := bg02_83.1.2.2.1
theorem dX12_game_39 : decode cX12_game 39 = .ok (.if_icmp .ne 9, 3) := bg02_83.1.2.2.2
theorem dX12_game_42 : decode cX12_game 42 = .ok (.aload_n 0, 1) := bg02_83.2.1.1.1
theorem dX12_game_43 : decode cX12_game 43 = .ok (.iconst 2, 1) := bg02_83.2.1.1.2
theorem dX12_game_44 : decode cX12_game 44 = .ok (.invokevirtual 310, 3) := bg02_83.2.1.2.1
theorem dX12_game_47 : decode cX12_game 47 = .ok (.ireturn, 1) := bg02_83.2.1.2.2
theorem dX12_game_48 : decode cX12_game 48 = .ok (.aload_n 0, 1) := bg02_83.2.2.1.1
theorem dX12_game_49 : decode cX12_game 49 = .ok (.iload_n 1, 1) := bg02_83.2.2.1.2
theorem dX12_game_50 : decode cX12_game 50 = .ok (.iload_n 2, 1) := bg02_83.2.2.2.1
theorem dX12_game_51 : decode cX12_game 51 = .ok (.invokevirtual 494, 3) := bg02_83.2.2.2.2
theorem bg02_84 : (((decode cX12_game 54 = .ok (.iconst 0, 1) ∧ decode cX12_game 55 = .ok (.istore 4, 2)) ∧ (decode cX12_game 57 = .ok (.iconst (-1), 1) ∧ decode cX12_game 58 = .ok (.istore 5, 2))) ∧ ((decode cX12_game 60 = .ok (.iconst 0, 1) ∧ decode cX12_game 61 = .ok (.istore 6, 2)) ∧ (decode cX12_game 63 = .ok (.iload 6, 2) ∧ decode cX12_game 65 = .ok (.iconst 4, 1)))) ∧ (((decode cX12_game 66 = .ok (.if_icmp .ge 90, 3) ∧ decode cX12_game 69 = .ok (.aload_n 0, 1)) ∧ (decode cX12_game 70 = .ok (.getfield 142, 3) ∧ decode cX12_game 73 = .ok (.iconst 2, 1))) ∧ ((decode cX12_game 74 = .ok (.iload 6, 2) ∧ decode cX12_game 76 = .ok (.iconst 2, 1)) ∧ (decode cX12_game 77 = .ok (.ixor, 1) ∧ decode cX12_game 78 = .ok (.imul, 1)))) := by decide +kernel
theorem dX12_game_54 : decode cX12_game 54 = .ok (.iconst 0, 1) := bg02_84.1.1.1.1
theorem dX12_game_55 : decode cX12_game 55 = .ok (.istore 4, 2) := bg02_84.1.1.1.2
theorem dX12_game_57 : decode cX12_game 57 = .ok (.iconst (-1), 1) := bg02_84.1.1.2.1
theorem dX12_game_58 : decode cX12_game 58 = .ok (.istore 5, 2) := bg02_84.1.1.2.2
theorem dX12_game_60 : decode cX12_game 60 = .ok (.iconst 0, 1) := bg02_84.1.2.1.1
theorem dX12_game_61 : decode cX12_game 61 = .ok (.istore 6, 2) := bg02_84.1.2.1.2
theorem dX12_game_63 : decode cX12_game 63 = .ok (.iload 6, 2) := bg02_84.1.2.2.1
theorem dX12_game_65 : decode cX12_game 65 = .ok (.iconst 4, 1) := bg02_84.1.2.2.2
theorem dX12_game_66 : decode cX12_game 66 = .ok (.if_icmp .ge 90, 3) := bg02_84.2.1.1.1
theorem dX12_game_69 : decode cX12_game 69 = .ok (.aload_n 0, 1) := bg02_84.2.1.1.2
theorem dX12_game_70 : decode cX12_game 70 = .ok (.getfield 142, 3) := bg02_84.2.1.2.1
theorem dX12_game_73 : decode cX12_game 73 = .ok (.iconst 2, 1) := bg02_84.2.1.2.2
theorem dX12_game_74 : decode cX12_game 74 = .ok (.iload 6, 2) := bg02_84.2.2.1.1
theorem dX12_game_76 : decode cX12_game 76 = .ok (.iconst 2, 1) := bg02_84.2.2.1.2
theorem dX12_game_77 : decode cX12_game 77 = .ok (.ixor, 1) := bg02_84.2.2.2.1
theorem dX12_game_78 : decode cX12_game 78 = .ok (.imul, 1) := bg02_84.2.2.2.2
theorem bg02_85 : (((decode cX12_game 79 = .ok (.iaload, 1) ∧ decode cX12_game 80 = .ok (.aload_n 0, 1)) ∧ (decode cX12_game 81 = .ok (.getfield 142, 3) ∧ decode cX12_game 84 = .ok (.iconst 2, 1))) ∧ ((decode cX12_game 85 = .ok (.iload 6, 2) ∧ decode cX12_game 87 = .ok (.imul, 1)) ∧ (decode cX12_game 88 = .ok (.iaload, 1) ∧ decode cX12_game 89 = .ok (.if_icmp .gt 61, 3)))) ∧ (((decode cX12_game 92 = .ok (.aload_n 0, 1) ∧ decode cX12_game 93 = .ok (.getfield 142, 3)) ∧ (decode cX12_game 96 = .ok (.iconst 2, 1) ∧ decode cX12_game 97 = .ok (.iload 6, 2))) ∧ ((decode cX12_game 99 = .ok (.iconst 1, 1) ∧ decode cX12_game 100 = .ok (.ixor, 1)) ∧ (decode cX12_game 101 = .ok (.imul, 1) ∧ decode cX12_game 102 = .ok (.iconst 1, 1)))) := by decide +kernel
theorem dX12_game_79 : decode cX12_game 79 = .ok (.iaload, 1) := bg02_85.1.1.1.1
theorem dX12_game_80 : decode cX12_game 80 = .ok (.aload_n 0, 1) := bg02_85.1.1.1.2
theorem dX12_game_81 : decode cX12_game 81 = .ok (.getfield 142, 3) := bg02_85.1.1.2.1
theorem dX12_game_84 : decode cX12_game 84 = .ok (.iconst 2, 1) := bg02_85.1.1.2.2
theorem dX12_game_85 : decode cX12_game 85 = .ok (.iload 6, 2) := bg02_85.1.2.1.1
theorem dX12_game_87 : decode cX12_game 87 = .ok (.imul, 1) := bg02_85.1.2.1.2
theorem dX12_game_88 : decode cX12_game 88 = .ok (.iaload, 1) := bg02_85.1.2.2.1
theorem dX12_game_89 : decode cX12_game 89 = .ok (.if_icmp .gt 61, 3) := bg02_85.1.2.2.2
theorem dX12_game_92 : decode cX12_game 92 = .ok (.aload_n 0, 1) := bg02_85.2.1.1.1
theorem dX12_game_93 : decode cX12_game 93 = .ok (.getfield 142, 3) := bg02_85.2.1.1.2
theorem dX12_game_96 : decode cX12_game 96 = .ok (.iconst 2, 1) := bg02_85.2.1.2.1
theorem dX12_game_97 : decode cX12_game 97 = .ok (.iload 6, 2) := bg02_85.2.1.2.2
theorem dX12_game_99 : decode cX12_game 99 = .ok (.iconst 1, 1) := bg02_85.2.2.1.1
theorem dX12_game_100 : decode cX12_game 100 = .ok (.ixor, 1) := bg02_85.2.2.1.2
theorem dX12_game_101 : decode cX12_game 101 = .ok (.imul, 1) := bg02_85.2.2.2.1
theorem dX12_game_102 : decode cX12_game 102 = .ok (.iconst 1, 1) := bg02_85.2.2.2.2
theorem bg02_86 : (((decode cX12_game 103 = .ok (.iadd, 1) ∧ decode cX12_game 104 = .ok (.iaload, 1)) ∧ (decode cX12_game 105 = .ok (.aload_n 0, 1) ∧ decode cX12_game 106 = .ok (.getfield 142, 3))) ∧ ((decode cX12_game 109 = .ok (.iconst 2, 1) ∧ decode cX12_game 110 = .ok (.iload 6, 2)) ∧ (decode cX12_game 112 = .ok (.imul, 1) ∧ decode cX12_game 113 = .ok (.iconst 1, 1)))) ∧ (((decode cX12_game 114 = .ok (.iadd, 1) ∧ decode cX12_game 115 = .ok (.iaload, 1)) ∧ (decode cX12_game 116 = .ok (.if_icmp .le 6, 3) ∧ decode cX12_game 119 = .ok (.goto 31, 3))) ∧ ((decode cX12_game 122 = .ok (.iinc 4 1, 3) ∧ decode cX12_game 125 = .ok (.iload 5, 2)) ∧ (decode cX12_game 127 = .ok (.iconst (-1), 1) ∧ decode cX12_game 128 = .ok (.if_icmp .ne 18, 3)))) := by decide +kernel
theorem dX12_game_103 : decode cX12_game 103 = .ok (.iadd, 1) := bg02_86.1.1.1.1
theorem dX12_game_104 : decode cX12_game 104 = .ok (.iaload, 1) := bg02_86.1.1.1.2
theorem dX12_game_105 : decode cX12_game 105 = .ok (.aload_n 0, 1) := bg02_86.1.1.2.1
theorem dX12_game_106 : decode cX12_game 106 = .ok (.getfield 142, 3) := bg02_86.1.1.2.2
theorem dX12_game_109 : decode cX12_game 109 = .ok (.iconst 2, 1) := bg02_86.1.2.1.1
theorem dX12_game_110 : decode cX12_game 110 = .ok (.iload 6, 2) := bg02_86.1.2.1.2
theorem dX12_game_112 : decode cX12_game 112 = .ok (.imul, 1) := bg02_86.1.2.2.1
theorem dX12_game_113 : decode cX12_game 113 = .ok (.iconst 1, 1) := bg02_86.1.2.2.2
theorem dX12_game_114 : decode cX12_game 114 = .ok (.iadd, 1) := bg02_86.2.1.1.1
theorem dX12_game_115 : decode cX12_game 115 = .ok (.iaload, 1) := bg02_86.2.1.1.2
theorem dX12_game_116 : decode cX12_game 116 = .ok (.if_icmp .le 6, 3) := bg02_86.2.1.2.1
theorem dX12_game_119 : decode cX12_game 119 = .ok (.goto 31, 3) := bg02_86.2.1.2.2
theorem dX12_game_122 : decode cX12_game 122 = .ok (.iinc 4 1, 3) := bg02_86.2.2.1.1
theorem dX12_game_125 : decode cX12_game 125 = .ok (.iload 5, 2) := bg02_86.2.2.1.2
theorem dX12_game_127 : decode cX12_game 127 = .ok (.iconst (-1), 1) := bg02_86.2.2.2.1
theorem dX12_game_128 : decode cX12_game 128 = .ok (.if_icmp .ne 18, 3) := bg02_86.2.2.2.2
theorem bg02_87 : (((decode cX12_game 131 = .ok (.bipush 10, 2) ∧ decode cX12_game 133 = .ok (.iload 6, 2)) ∧ (decode cX12_game 135 = .ok (.iconst 2, 1) ∧ decode cX12_game 136 = .ok (.idiv, 1))) ∧ ((decode cX12_game 137 = .ok (.imul, 1) ∧ decode cX12_game 138 = .ok (.iload 6, 2)) ∧ (decode cX12_game 140 = .ok (.iconst 2, 1) ∧ decode cX12_game 141 = .ok (.irem, 1)))) ∧ (((decode cX12_game 142 = .ok (.iadd, 1) ∧ decode cX12_game 143 = .ok (.goto 5, 3)) ∧ (decode cX12_game 146 = .ok (.iload 5, 2) ∧ decode cX12_game 148 = .ok (.istore 5, 2))) ∧ ((decode cX12_game 150 = .ok (.iinc 6 1, 3) ∧ decode cX12_game 153 = .ok (.goto (-90), 3)) ∧ (decode cX12_game 156 = .ok (.iload_n 3, 1) ∧ decode cX12_game 157 = .ok (.ifCond .ne 8, 3)))) := by decide +kernel
theorem dX12_game_131 : decode cX12_game 131 = .ok (.bipush 10, 2) := bg02_87.1.1.1.1
theorem dX12_game_133 : decode cX12_game 133 = .ok (.iload 6, 2) := bg02_87.1.1.1.2
theorem dX12_game_135 : decode cX12_game 135 = .ok (.iconst 2, 1) := bg02_87.1.1.2.1
theorem dX12_game_136 : decode cX12_game 136 = .ok (.idiv, 1) := bg02_87.1.1.2.2
theorem dX12_game_137 : decode cX12_game 137 = .ok (.imul, 1) := bg02_87.1.2.1.1
theorem dX12_game_138 : decode cX12_game 138 = .ok (.iload 6, 2) := bg02_87.1.2.1.2
theorem dX12_game_140 : decode cX12_game 140 = .ok (.iconst 2, 1) := bg02_87.1.2.2.1
theorem dX12_game_141 : decode cX12_game 141 = .ok (.irem, 1) := bg02_87.1.2.2.2
theorem dX12_game_142 : decode cX12_game 142 = .ok (.iadd, 1) := bg02_87.2.1.1.1
theorem dX12_game_143 : decode cX12_game 143 = .ok (.goto 5, 3) := bg02_87.2.1.1.2
theorem dX12_game_146 : decode cX12_game 146 = .ok (.iload 5, 2) := bg02_87.2.1.2.1
theorem dX12_game_148 : decode cX12_game 148 = .ok (.istore 5, 2) := bg02_87.2.1.2.2
theorem dX12_game_150 : decode cX12_game 150 = .ok (.iinc 6 1, 3) := bg02_87.2.2.1.1
theorem dX12_game_153 : decode cX12_game 153 = .ok (.goto (-90), 3) := bg02_87.2.2.1.2
theorem dX12_game_156 : decode cX12_game 156 = .ok (.iload_n 3, 1) := bg02_87.2.2.2.1
theorem dX12_game_157 : decode cX12_game 157 = .ok (.ifCond .ne 8, 3) := bg02_87.2.2.2.2
theorem bg02_88 : ((decode cX12_game 160 = .ok (.iload 4, 2) ∧ decode cX12_game 162 = .ok (.goto 5, 3)) ∧ (decode cX12_game 165 = .ok (.iload 5, 2) ∧ decode cX12_game 167 = .ok (.ireturn, 1))) ∧ ((decode cX12_drawOf 0 = .ok (.aload_n 0, 1) ∧ decode cX12_drawOf 1 = .ok (.aload_n 0, 1)) ∧ (decode cX12_drawOf 2 = .ok (.getfield 497, 3) ∧ decode cX12_drawOf 5 = .ok (.ldc_w 500, 3))) := by decide +kernel
theorem dX12_game_160 : decode cX12_game 160 = .ok (.iload 4, 2) := bg02_88.1.1.1
theorem dX12_game_162 : decode cX12_game 162 = .ok (.goto 5, 3) := bg02_88.1.1.2
theorem dX12_game_165 : decode cX12_game 165 = .ok (.iload 5, 2) := bg02_88.1.2.1
theorem dX12_game_167 : decode cX12_game 167 = .ok (.ireturn, 1) := bg02_88.1.2.2
theorem dX12_drawOf_0 : decode cX12_drawOf 0 = .ok (.aload_n 0, 1) := bg02_88.2.1.1
theorem dX12_drawOf_1 : decode cX12_drawOf 1 = .ok (.aload_n 0, 1) := bg02_88.2.1.2
theorem dX12_drawOf_2 : decode cX12_drawOf 2 = .ok (.getfield 497, 3) := bg02_88.2.2.1
theorem dX12_drawOf_5 : decode cX12_drawOf 5 = .ok (.ldc_w 500, 3) := bg02_88.2.2.2
theorem bg02_89 : (((decode cX12_drawOf 8 = .ok (.imul, 1) ∧ decode cX12_drawOf 9 = .ok (.sipush 12345, 3)) ∧ (decode cX12_drawOf 12 = .ok (.iadd, 1) ∧ decode cX12_drawOf 13 = .ok (.putfield 497, 3))) ∧ ((decode cX12_drawOf 16 = .ok (.aload_n 0, 1) ∧ decode cX12_drawOf 17 = .ok (.getfield 497, 3)) ∧ (decode cX12_drawOf 20 = .ok (.bipush 16, 2)))) ∧ (((decode cX12_drawOf 22 = .ok (.ishr, 1) ∧ decode cX12_drawOf 23 = .ok (.sipush 32767, 3)) ∧ (decode cX12_drawOf 26 = .ok (.iand, 1))) ∧ ((decode cX12_drawOf 27 = .ok (.iload_n 1, 1) ∧ decode cX12_drawOf 28 = .ok (.irem, 1)) ∧ (decode cX12_drawOf 29 = .ok (.ireturn, 1)))) := by decide +kernel
theorem dX12_drawOf_8 : decode cX12_drawOf 8 = .ok (.imul, 1) := bg02_89.1.1.1.1
theorem dX12_drawOf_9 : decode cX12_drawOf 9 = .ok (.sipush 12345, 3) := bg02_89.1.1.1.2
theorem dX12_drawOf_12 : decode cX12_drawOf 12 = .ok (.iadd, 1) := bg02_89.1.1.2.1
theorem dX12_drawOf_13 : decode cX12_drawOf 13 = .ok (.putfield 497, 3) := bg02_89.1.1.2.2
theorem dX12_drawOf_16 : decode cX12_drawOf 16 = .ok (.aload_n 0, 1) := bg02_89.1.2.1.1
theorem dX12_drawOf_17 : decode cX12_drawOf 17 = .ok (.getfield 497, 3) := bg02_89.1.2.1.2
theorem dX12_drawOf_20 : decode cX12_drawOf 20 = .ok (.bipush 16, 2) := bg02_89.1.2.2
theorem dX12_drawOf_22 : decode cX12_drawOf 22 = .ok (.ishr, 1) := bg02_89.2.1.1.1
theorem dX12_drawOf_23 : decode cX12_drawOf 23 = .ok (.sipush 32767, 3) := bg02_89.2.1.1.2
theorem dX12_drawOf_26 : decode cX12_drawOf 26 = .ok (.iand, 1) := bg02_89.2.1.2
theorem dX12_drawOf_27 : decode cX12_drawOf 27 = .ok (.iload_n 1, 1) := bg02_89.2.2.1.1
theorem dX12_drawOf_28 : decode cX12_drawOf 28 = .ok (.irem, 1) := bg02_89.2.2.1.2
theorem dX12_drawOf_29 : decode cX12_drawOf 29 = .ok (.ireturn, 1) := bg02_89.2.2.2
theorem bg02_90 : (((decode cX12_something 0 = .ok (.aload_n 0, 1) ∧ decode cX12_something 1 = .ok (.bipush 6, 2)) ∧ (decode cX12_something 3 = .ok (.invokevirtual 501, 3) ∧ decode cX12_something 6 = .ok (.istore_n 1, 1))) ∧ ((decode cX12_something 7 = .ok (.iload_n 1, 1) ∧ decode cX12_something 8 = .ok (.ifCond .ne 40, 3)) ∧ (decode cX12_something 11 = .ok (.aload_n 0, 1) ∧ decode cX12_something 12 = .ok (.getfield 42, 3)))) ∧ (((decode cX12_something 15 = .ok (.iconst 0, 1) ∧ decode cX12_something 16 = .ok (.iaload, 1)) ∧ (decode cX12_something 17 = .ok (.ifCond .le 31, 3) ∧ decode cX12_something 20 = .ok (.aload_n 0, 1))) ∧ ((decode cX12_something 21 = .ok (.aload_n 0, 1) ∧ decode cX12_something 22 = .ok (.getfield 42, 3)) ∧ (decode cX12_something 25 = .ok (.iconst 0, 1) ∧ decode cX12_something 26 = .ok (.iaload, 1)))) := by decide +kernel
theorem dX12_something_0 : decode cX12_something 0 = .ok (.aload_n 0, 1) := bg02_90.1.1.1.1
theorem dX12_something_1 : decode cX12_something 1 = .ok (.bipush 6, 2) := bg02_90.1.1.1.2
theorem dX12_something_3 : decode cX12_something 3 = .ok (.invokevirtual 501, 3) := bg02_90.1.1.2.1
theorem dX12_something_6 : decode cX12_something 6 = .ok (.istore_n 1, 1) := bg02_90.1.1.2.2
theorem dX12_something_7 : decode cX12_something 7 = .ok (.iload_n 1, 1) := bg02_90.1.2.1.1
theorem dX12_something_8 : decode cX12_something 8 = .ok (.ifCond .ne 40, 3) := bg02_90.1.2.1.2
theorem dX12_something_11 : decode cX12_something 11 = .ok (.aload_n 0, 1) := bg02_90.1.2.2.1
theorem dX12_something_12 : decode cX12_something 12 = .ok (.getfield 42, 3) := bg02_90.1.2.2.2
theorem dX12_something_15 : decode cX12_something 15 = .ok (.iconst 0, 1) := bg02_90.2.1.1.1
theorem dX12_something_16 : decode cX12_something 16 = .ok (.iaload, 1) := bg02_90.2.1.1.2
theorem dX12_something_17 : decode cX12_something 17 = .ok (.ifCond .le 31, 3) := bg02_90.2.1.2.1
theorem dX12_something_20 : decode cX12_something 20 = .ok (.aload_n 0, 1) := bg02_90.2.1.2.2
theorem dX12_something_21 : decode cX12_something 21 = .ok (.aload_n 0, 1) := bg02_90.2.2.1.1
theorem dX12_something_22 : decode cX12_something 22 = .ok (.getfield 42, 3) := bg02_90.2.2.1.2
theorem dX12_something_25 : decode cX12_something 25 = .ok (.iconst 0, 1) := bg02_90.2.2.2.1
theorem dX12_something_26 : decode cX12_something 26 = .ok (.iaload, 1) := bg02_90.2.2.2.2
theorem bg02_91 : (((decode cX12_something 27 = .ok (.invokevirtual 501, 3) ∧ decode cX12_something 30 = .ok (.istore_n 2, 1)) ∧ (decode cX12_something 31 = .ok (.aload_n 0, 1) ∧ decode cX12_something 32 = .ok (.iload_n 2, 1))) ∧ ((decode cX12_something 33 = .ok (.aload_n 0, 1) ∧ decode cX12_something 34 = .ok (.getfield 88, 3)) ∧ (decode cX12_something 37 = .ok (.iload_n 2, 1) ∧ decode cX12_something 38 = .ok (.iaload, 1)))) ∧ (((decode cX12_something 39 = .ok (.aload_n 0, 1) ∧ decode cX12_something 40 = .ok (.getfield 91, 3)) ∧ (decode cX12_something 43 = .ok (.iload_n 2, 1) ∧ decode cX12_something 44 = .ok (.iaload, 1))) ∧ ((decode cX12_something 45 = .ok (.invokevirtual 437, 3) ∧ decode cX12_something 48 = .ok (.iload_n 1, 1)) ∧ (decode cX12_something 49 = .ok (.iconst 1, 1) ∧ decode cX12_something 50 = .ok (.if_icmp .ne 28, 3)))) := by decide +kernel
theorem dX12_something_27 : decode cX12_something 27 = .ok (.invokevirtual 501, 3) := bg02_91.1.1.1.1
theorem dX12_something_30 : decode cX12_something 30 = .ok (.istore_n 2, 1) := bg02_91.1.1.1.2
theorem dX12_something_31 : decode cX12_something 31 = .ok (.aload_n 0, 1) := bg02_91.1.1.2.1
theorem dX12_something_32 : decode cX12_something 32 = .ok (.iload_n 2, 1) := bg02_91.1.1.2.2
theorem dX12_something_33 : decode cX12_something 33 = .ok (.aload_n 0, 1) := bg02_91.1.2.1.1
theorem dX12_something_34 : decode cX12_something 34 = .ok (.getfield 88, 3) := bg02_91.1.2.1.2
theorem dX12_something_37 : decode cX12_something 37 = .ok (.iload_n 2, 1) := bg02_91.1.2.2.1
theorem dX12_something_38 : decode cX12_something 38 = .ok (.iaload, 1) := bg02_91.1.2.2.2
theorem dX12_something_39 : decode cX12_something 39 = .ok (.aload_n 0, 1) := bg02_91.2.1.1.1
theorem dX12_something_40 : decode cX12_something 40 = .ok (.getfield 91, 3) := bg02_91.2.1.1.2
theorem dX12_something_43 : decode cX12_something 43 = .ok (.iload_n 2, 1) := bg02_91.2.1.2.1
theorem dX12_something_44 : decode cX12_something 44 = .ok (.iaload, 1) := bg02_91.2.1.2.2
theorem dX12_something_45 : decode cX12_something 45 = .ok (.invokevirtual 437, 3) := bg02_91.2.2.1.1
theorem dX12_something_48 : decode cX12_something 48 = .ok (.iload_n 1, 1) := bg02_91.2.2.1.2
theorem dX12_something_49 : decode cX12_something 49 = .ok (.iconst 1, 1) := bg02_91.2.2.2.1
theorem dX12_something_50 : decode cX12_something 50 = .ok (.if_icmp .ne 28, 3) := bg02_91.2.2.2.2
theorem bg02_92 : (((decode cX12_something 53 = .ok (.aload_n 0, 1) ∧ decode cX12_something 54 = .ok (.getfield 42, 3)) ∧ (decode cX12_something 57 = .ok (.iconst 1, 1) ∧ decode cX12_something 58 = .ok (.iaload, 1))) ∧ ((decode cX12_something 59 = .ok (.ifCond .le 19, 3) ∧ decode cX12_something 62 = .ok (.aload_n 0, 1)) ∧ (decode cX12_something 63 = .ok (.getfield 106, 3) ∧ decode cX12_something 66 = .ok (.aload_n 0, 1)))) ∧ (((decode cX12_something 67 = .ok (.aload_n 0, 1) ∧ decode cX12_something 68 = .ok (.getfield 42, 3)) ∧ (decode cX12_something 71 = .ok (.iconst 1, 1) ∧ decode cX12_something 72 = .ok (.iaload, 1))) ∧ ((decode cX12_something 73 = .ok (.invokevirtual 501, 3) ∧ decode cX12_something 76 = .ok (.iconst (-1), 1)) ∧ (decode cX12_something 77 = .ok (.iastore, 1) ∧ decode cX12_something 78 = .ok (.iload_n 1, 1)))) := by decide +kernel
theorem dX12_something_53 : decode cX12_something 53 = .ok (.aload_n 0, 1) := bg02_92.1.1.1.1
theorem dX12_something_54 : decode cX12_something 54 = .ok (.getfield 42, 3) := bg02_92.1.1.1.2
theorem dX12_something_57 : decode cX12_something 57 = .ok (.iconst 1, 1) := bg02_92.1.1.2.1
theorem dX12_something_58 : decode cX12_something 58 = .ok (.iaload, 1) := bg02_92.1.1.2.2
theorem dX12_something_59 : decode cX12_something 59 = .ok (.ifCond .le 19, 3) := bg02_92.1.2.1.1
theorem dX12_something_62 : decode cX12_something 62 = .ok (.aload_n 0, 1) := bg02_92.1.2.1.2
theorem dX12_something_63 : decode cX12_something 63 = .ok (.getfield 106, 3) := bg02_92.1.2.2.1
theorem dX12_something_66 : decode cX12_something 66 = .ok (.aload_n 0, 1) := bg02_92.1.2.2.2
theorem dX12_something_67 : decode cX12_something 67 = .ok (.aload_n 0, 1) := bg02_92.2.1.1.1
theorem dX12_something_68 : decode cX12_something 68 = .ok (.getfield 42, 3) := bg02_92.2.1.1.2
theorem dX12_something_71 : decode cX12_something 71 = .ok (.iconst 1, 1) := bg02_92.2.1.2.1
theorem dX12_something_72 : decode cX12_something 72 = .ok (.iaload, 1) := bg02_92.2.1.2.2
theorem dX12_something_73 : decode cX12_something 73 = .ok (.invokevirtual 501, 3) := bg02_92.2.2.1.1
theorem dX12_something_76 : decode cX12_something 76 = .ok (.iconst (-1), 1) := bg02_92.2.2.1.2
theorem dX12_something_77 : decode cX12_something 77 = .ok (.iastore, 1) := bg02_92.2.2.2.1
theorem dX12_something_78 : decode cX12_something 78 = .ok (.iload_n 1, 1) := bg02_92.2.2.2.2
theorem bg02_93 : (((decode cX12_something 79 = .ok (.iconst 2, 1) ∧ decode cX12_something 80 = .ok (.if_icmp .ne 12, 3)) ∧ (decode cX12_something 83 = .ok (.aload_n 0, 1))) ∧ ((decode cX12_something 84 = .ok (.bipush 10, 2) ∧ decode cX12_something 86 = .ok (.invokevirtual 501, 3)) ∧ (decode cX12_something 89 = .ok (.goto 11, 3)))) ∧ (((decode cX12_something 92 = .ok (.aload_n 0, 1) ∧ decode cX12_something 93 = .ok (.aload_n 0, 1)) ∧ (decode cX12_something 94 = .ok (.getfield 323, 3))) ∧ (decode cX12_something 97 = .ok (.invokevirtual 384, 3) ∧ decode cX12_something 100 = .ok (.ireturn, 1))) := by decide +kernel
theorem dX12_something_79 : decode cX12_something 79 = .ok (.iconst 2, 1) := bg02_93.1.1.1.1
theorem dX12_something_80 : decode cX12_something 80 = .ok (.if_icmp .ne 12, 3) := bg02_93.1.1.1.2
theorem dX12_something_83 : decode cX12_something 83 = .ok (.aload_n 0, 1) := bg02_93.1.1.2
theorem dX12_something_84 : decode cX12_something 84 = .ok (.bipush 10, 2) := bg02_93.1.2.1.1
theorem dX12_something_86 : decode cX12_something 86 = .ok (.invokevirtual 501, 3) := bg02_93.1.2.1.2
theorem dX12_something_89 : decode cX12_something 89 = .ok (.goto 11, 3) := bg02_93.1.2.2
theorem dX12_something_92 : decode cX12_something 92 = .ok (.aload_n 0, 1) := bg02_93.2.1.1.1
theorem dX12_something_93 : decode cX12_something 93 = .ok (.aload_n 0, 1) := bg02_93.2.1.1.2
theorem dX12_something_94 : decode cX12_something 94 = .ok (.getfield 323, 3) := bg02_93.2.1.2
theorem dX12_something_97 : decode cX12_something 97 = .ok (.invokevirtual 384, 3) := bg02_93.2.2.1
theorem dX12_something_100 : decode cX12_something 100 = .ok (.ireturn, 1) := bg02_93.2.2.2
theorem bg02_94 : (((decode cX12_ages 0 = .ok (.aload_n 0, 1) ∧ decode cX12_ages 1 = .ok (.iconst 0, 1)) ∧ (decode cX12_ages 2 = .ok (.putfield 163, 3) ∧ decode cX12_ages 5 = .ok (.iload_n 3, 1))) ∧ ((decode cX12_ages 6 = .ok (.i2l, 1) ∧ decode cX12_ages 7 = .ok (.lconst 0, 1)) ∧ (decode cX12_ages 8 = .ok (.ldc2_w 458, 3) ∧ decode cX12_ages 11 = .ok (.invokestatic 166, 3)))) ∧ (((decode cX12_ages 14 = .ok (.ifCond .ne 9, 3) ∧ decode cX12_ages 17 = .ok (.aload_n 0, 1)) ∧ (decode cX12_ages 18 = .ok (.iconst 1, 1) ∧ decode cX12_ages 19 = .ok (.invokevirtual 310, 3))) ∧ ((decode cX12_ages 22 = .ok (.ireturn, 1) ∧ decode cX12_ages 23 = .ok (.iload_n 2, 1)) ∧ (decode cX12_ages 24 = .ok (.i2l, 1) ∧ decode cX12_ages 25 = .ok (.lconst 0, 1)))) := by decide +kernel
theorem dX12_ages_0 : decode cX12_ages 0 = .ok (.aload_n 0, 1) := bg02_94.1.1.1.1
theorem dX12_ages_1 : decode cX12_ages 1 = .ok (.iconst 0, 1) := bg02_94.1.1.1.2
theorem dX12_ages_2 : decode cX12_ages 2 = .ok (.putfield 163, 3) := bg02_94.1.1.2.1
theorem dX12_ages_5 : decode cX12_ages 5 = .ok (.iload_n 3, 1) := bg02_94.1.1.2.2
theorem dX12_ages_6 : decode cX12_ages 6 = .ok (.i2l, 1) := bg02_94.1.2.1.1
theorem dX12_ages_7 : decode cX12_ages 7 = .ok (.lconst 0, 1) := bg02_94.1.2.1.2
theorem dX12_ages_8 : decode cX12_ages 8 = .ok (.ldc2_w 458, 3) := bg02_94.1.2.2.1
theorem dX12_ages_11 : decode cX12_ages 11 = .ok (.invokestatic 166, 3) := bg02_94.1.2.2.2
theorem dX12_ages_14 : decode cX12_ages 14 = .ok (.ifCond .ne 9, 3) := bg02_94.2.1.1.1
theorem dX12_ages_17 : decode cX12_ages 17 = .ok (.aload_n 0, 1) := bg02_94.2.1.1.2
theorem dX12_ages_18 : decode cX12_ages 18 = .ok (.iconst 1, 1) := bg02_94.2.1.2.1
theorem dX12_ages_19 : decode cX12_ages 19 = .ok (.invokevirtual 310, 3) := bg02_94.2.1.2.2
theorem dX12_ages_22 : decode cX12_ages 22 = .ok (.ireturn, 1) := bg02_94.2.2.1.1
theorem dX12_ages_23 : decode cX12_ages 23 = .ok (.iload_n 2, 1) := bg02_94.2.2.1.2
theorem dX12_ages_24 : decode cX12_ages 24 = .ok (.i2l, 1) := bg02_94.2.2.2.1
theorem dX12_ages_25 : decode cX12_ages 25 = .ok (.lconst 0, 1) := bg02_94.2.2.2.2
theorem bg02_95 : (((decode cX12_ages 26 = .ok (.ldc2_w 451, 3) ∧ decode cX12_ages 29 = .ok (.invokestatic 166, 3)) ∧ (decode cX12_ages 32 = .ok (.ifCond .ne 9, 3) ∧ decode cX12_ages 35 = .ok (.aload_n 0, 1))) ∧ ((decode cX12_ages 36 = .ok (.iconst 2, 1) ∧ decode cX12_ages 37 = .ok (.invokevirtual 310, 3)) ∧ (decode cX12_ages 40 = .ok (.ireturn, 1) ∧ decode cX12_ages 41 = .ok (.aload_n 0, 1)))) ∧ (((decode cX12_ages 42 = .ok (.aload_n 0, 1) ∧ decode cX12_ages 43 = .ok (.getfield 118, 3)) ∧ (decode cX12_ages 46 = .ok (.iconst 0, 1) ∧ decode cX12_ages 47 = .ok (.invokevirtual 420, 3))) ∧ ((decode cX12_ages 50 = .ok (.aload_n 0, 1) ∧ decode cX12_ages 51 = .ok (.iload_n 1, 1)) ∧ (decode cX12_ages 52 = .ok (.putfield 497, 3) ∧ decode cX12_ages 55 = .ok (.aload_n 0, 1)))) := by decide +kernel
theorem dX12_ages_26 : decode cX12_ages 26 = .ok (.ldc2_w 451, 3) := bg02_95.1.1.1.1
theorem dX12_ages_29 : decode cX12_ages 29 = .ok (.invokestatic 166, 3) := bg02_95.1.1.1.2
theorem dX12_ages_32 : decode cX12_ages 32 = .ok (.ifCond .ne 9, 3) := bg02_95.1.1.2.1
theorem dX12_ages_35 : decode cX12_ages 35 = .ok (.aload_n 0, 1) := bg02_95.1.1.2.2
theorem dX12_ages_36 : decode cX12_ages 36 = .ok (.iconst 2, 1) := bg02_95.1.2.1.1
theorem dX12_ages_37 : decode cX12_ages 37 = .ok (.invokevirtual 310, 3) := bg02_95.1.2.1.2
theorem dX12_ages_40 : decode cX12_ages 40 = .ok (.ireturn, 1) := bg02_95.1.2.2.1
theorem dX12_ages_41 : decode cX12_ages 41 = .ok (.aload_n 0, 1) := bg02_95.1.2.2.2
theorem dX12_ages_42 : decode cX12_ages 42 = .ok (.aload_n 0, 1) := bg02_95.2.1.1.1
theorem dX12_ages_43 : decode cX12_ages 43 = .ok (.getfield 118, 3) := bg02_95.2.1.1.2
theorem dX12_ages_46 : decode cX12_ages 46 = .ok (.iconst 0, 1) := bg02_95.2.1.2.1
theorem dX12_ages_47 : decode cX12_ages 47 = .ok (.invokevirtual 420, 3) := bg02_95.2.1.2.2
theorem dX12_ages_50 : decode cX12_ages 50 = .ok (.aload_n 0, 1) := bg02_95.2.2.1.1
theorem dX12_ages_51 : decode cX12_ages 51 = .ok (.iload_n 1, 1) := bg02_95.2.2.1.2
theorem dX12_ages_52 : decode cX12_ages 52 = .ok (.putfield 497, 3) := bg02_95.2.2.2.1
theorem dX12_ages_55 : decode cX12_ages 55 = .ok (.aload_n 0, 1) := bg02_95.2.2.2.2
theorem bg02_96 : (((decode cX12_ages 56 = .ok (.iconst 0, 1) ∧ decode cX12_ages 57 = .ok (.putfield 371, 3)) ∧ (decode cX12_ages 60 = .ok (.iconst 0, 1) ∧ decode cX12_ages 61 = .ok (.istore 4, 2))) ∧ ((decode cX12_ages 63 = .ok (.iload 4, 2) ∧ decode cX12_ages 65 = .ok (.iload_n 2, 1)) ∧ (decode cX12_ages 66 = .ok (.if_icmp .ge 17, 3) ∧ decode cX12_ages 69 = .ok (.aload_n 0, 1)))) ∧ (((decode cX12_ages 70 = .ok (.aload_n 0, 1) ∧ decode cX12_ages 71 = .ok (.invokevirtual 504, 3)) ∧ (decode cX12_ages 74 = .ok (.invokevirtual 387, 3) ∧ decode cX12_ages 77 = .ok (.iinc 4 1, 3))) ∧ ((decode cX12_ages 80 = .ok (.goto (-17), 3) ∧ decode cX12_ages 83 = .ok (.iload_n 3, 1)) ∧ (decode cX12_ages 84 = .ok (.ifCond .ne 13, 3) ∧ decode cX12_ages 87 = .ok (.aload_n 0, 1)))) := by decide +kernel
theorem dX12_ages_56 : decode cX12_ages 56 = .ok (.iconst 0, 1) := bg02_96.1.1.1.1
theorem dX12_ages_57 : decode cX12_ages 57 = .ok (.putfield 371, 3) := bg02_96.1.1.1.2
theorem dX12_ages_60 : decode cX12_ages 60 = .ok (.iconst 0, 1) := bg02_96.1.1.2.1
theorem dX12_ages_61 : decode cX12_ages 61 = .ok (.istore 4, 2) := bg02_96.1.1.2.2
theorem dX12_ages_63 : decode cX12_ages 63 = .ok (.iload 4, 2) := bg02_96.1.2.1.1
theorem dX12_ages_65 : decode cX12_ages 65 = .ok (.iload_n 2, 1) := bg02_96.1.2.1.2
theorem dX12_ages_66 : decode cX12_ages 66 = .ok (.if_icmp .ge 17, 3) := bg02_96.1.2.2.1
theorem dX12_ages_69 : decode cX12_ages 69 = .ok (.aload_n 0, 1) := bg02_96.1.2.2.2
theorem dX12_ages_70 : decode cX12_ages 70 = .ok (.aload_n 0, 1) := bg02_96.2.1.1.1
theorem dX12_ages_71 : decode cX12_ages 71 = .ok (.invokevirtual 504, 3) := bg02_96.2.1.1.2
theorem dX12_ages_74 : decode cX12_ages 74 = .ok (.invokevirtual 387, 3) := bg02_96.2.1.2.1
theorem dX12_ages_77 : decode cX12_ages 77 = .ok (.iinc 4 1, 3) := bg02_96.2.1.2.2
theorem dX12_ages_80 : decode cX12_ages 80 = .ok (.goto (-17), 3) := bg02_96.2.2.1.1
theorem dX12_ages_83 : decode cX12_ages 83 = .ok (.iload_n 3, 1) := bg02_96.2.2.1.2
theorem dX12_ages_84 : decode cX12_ages 84 = .ok (.ifCond .ne 13, 3) := bg02_96.2.2.2.1
theorem dX12_ages_87 : decode cX12_ages 87 = .ok (.aload_n 0, 1) := bg02_96.2.2.2.2
theorem bg02_97 : (((decode cX12_ages 88 = .ok (.invokevirtual 393, 3) ∧ decode cX12_ages 91 = .ok (.invokestatic 486, 3)) ∧ (decode cX12_ages 94 = .ok (.goto 19, 3) ∧ decode cX12_ages 97 = .ok (.iload_n 3, 1))) ∧ ((decode cX12_ages 98 = .ok (.iconst 1, 1) ∧ decode cX12_ages 99 = .ok (.if_icmp .ne 10, 3)) ∧ (decode cX12_ages 102 = .ok (.aload_n 0, 1) ∧ decode cX12_ages 103 = .ok (.getfield 371, 3)))) ∧ (((decode cX12_ages 106 = .ok (.goto 7, 3) ∧ decode cX12_ages 109 = .ok (.aload_n 0, 1)) ∧ (decode cX12_ages 110 = .ok (.invokevirtual 402, 3) ∧ decode cX12_ages 113 = .ok (.istore 4, 2))) ∧ ((decode cX12_ages 115 = .ok (.aload_n 0, 1) ∧ decode cX12_ages 116 = .ok (.aload_n 0, 1)) ∧ (decode cX12_ages 117 = .ok (.getfield 118, 3) ∧ decode cX12_ages 120 = .ok (.iconst 0, 1)))) := by decide +kernel
theorem dX12_ages_88 : decode cX12_ages 88 = .ok (.invokevirtual 393, 3) := bg02_97.1.1.1.1
theorem dX12_ages_91 : decode cX12_ages 91 = .ok (.invokestatic 486, 3) := bg02_97.1.1.1.2
theorem dX12_ages_94 : decode cX12_ages 94 = .ok (.goto 19, 3) := bg02_97.1.1.2.1
theorem dX12_ages_97 : decode cX12_ages 97 = .ok (.iload_n 3, 1) := bg02_97.1.1.2.2
theorem dX12_ages_98 : decode cX12_ages 98 = .ok (.iconst 1, 1) := bg02_97.1.2.1.1
theorem dX12_ages_99 : decode cX12_ages 99 = .ok (.if_icmp .ne 10, 3) := bg02_97.1.2.1.2
theorem dX12_ages_102 : decode cX12_ages 102 = .ok (.aload_n 0, 1) := bg02_97.1.2.2.1
theorem dX12_ages_103 : decode cX12_ages 103 = .ok (.getfield 371, 3) := bg02_97.1.2.2.2
theorem dX12_ages_106 : decode cX12_ages 106 = .ok (.goto 7, 3) := bg02_97.2.1.1.1
theorem dX12_ages_109 : decode cX12_ages 109 = .ok (.aload_n 0, 1) := bg02_97.2.1.1.2
theorem dX12_ages_110 : decode cX12_ages 110 = .ok (.invokevirtual 402, 3) := bg02_97.2.1.2.1
theorem dX12_ages_113 : decode cX12_ages 113 = .ok (.istore 4, 2) := bg02_97.2.1.2.2
theorem dX12_ages_115 : decode cX12_ages 115 = .ok (.aload_n 0, 1) := bg02_97.2.2.1.1
theorem dX12_ages_116 : decode cX12_ages 116 = .ok (.aload_n 0, 1) := bg02_97.2.2.1.2
theorem dX12_ages_117 : decode cX12_ages 117 = .ok (.getfield 118, 3) := bg02_97.2.2.2.1
theorem dX12_ages_120 : decode cX12_ages 120 = .ok (.iconst 0, 1) := bg02_97.2.2.2.2
theorem bg02_98 : ((decode cX12_ages 121 = .ok (.invokevirtual 446, 3) ∧ decode cX12_ages 124 = .ok (.iload 4, 2)) ∧ (decode cX12_ages 126 = .ok (.ireturn, 1) ∧ decode cX12_copyTo 0 = .ok (.iconst 0, 1))) ∧ ((decode cX12_copyTo 1 = .ok (.istore_n 2, 1) ∧ decode cX12_copyTo 2 = .ok (.iload_n 2, 1)) ∧ (decode cX12_copyTo 3 = .ok (.aload_n 0, 1) ∧ decode cX12_copyTo 4 = .ok (.arraylength, 1))) := by decide +kernel
theorem dX12_ages_121 : decode cX12_ages 121 = .ok (.invokevirtual 446, 3) := bg02_98.1.1.1
theorem dX12_ages_124 : decode cX12_ages 124 = .ok (.iload 4, 2) := bg02_98.1.1.2
theorem dX12_ages_126 : decode cX12_ages 126 = .ok (.ireturn, 1) := bg02_98.1.2.1
theorem dX12_copyTo_0 : decode cX12_copyTo 0 = .ok (.iconst 0, 1) := bg02_98.1.2.2
theorem dX12_copyTo_1 : decode cX12_copyTo 1 = .ok (.istore_n 2, 1) := bg02_98.2.1.1
theorem dX12_copyTo_2 : decode cX12_copyTo 2 = .ok (.iload_n 2, 1) := bg02_98.2.1.2
theorem dX12_copyTo_3 : decode cX12_copyTo 3 = .ok (.aload_n 0, 1) := bg02_98.2.2.1
theorem dX12_copyTo_4 : decode cX12_copyTo 4 = .ok (.arraylength, 1) := bg02_98.2.2.2
theorem bg02_99 : (((decode cX12_copyTo 5 = .ok (.if_icmp .ge 15, 3) ∧ decode cX12_copyTo 8 = .ok (.aload_n 0, 1)) ∧ (decode cX12_copyTo 9 = .ok (.iload_n 2, 1))) ∧ (decode cX12_copyTo 10 = .ok (.aload_n 1, 1) ∧ decode cX12_copyTo 11 = .ok (.iload_n 2, 1))) ∧ (((decode cX12_copyTo 12 = .ok (.iaload, 1) ∧ decode cX12_copyTo 13 = .ok (.iastore, 1)) ∧ (decode cX12_copyTo 14 = .ok (.iinc 2 1, 3))) ∧ (decode cX12_copyTo 17 = .ok (.goto (-15), 3) ∧ decode cX12_copyTo 20 = .ok (.return_, 1))) := by decide +kernel
theorem dX12_copyTo_5 : decode cX12_copyTo 5 = .ok (.if_icmp .ge 15, 3) := bg02_99.1.1.1.1
theorem dX12_copyTo_8 : decode cX12_copyTo 8 = .ok (.aload_n 0, 1) := bg02_99.1.1.1.2
theorem dX12_copyTo_9 : decode cX12_copyTo 9 = .ok (.iload_n 2, 1) := bg02_99.1.1.2
theorem dX12_copyTo_10 : decode cX12_copyTo 10 = .ok (.aload_n 1, 1) := bg02_99.1.2.1
theorem dX12_copyTo_11 : decode cX12_copyTo 11 = .ok (.iload_n 2, 1) := bg02_99.1.2.2
theorem dX12_copyTo_12 : decode cX12_copyTo 12 = .ok (.iaload, 1) := bg02_99.2.1.1.1
theorem dX12_copyTo_13 : decode cX12_copyTo 13 = .ok (.iastore, 1) := bg02_99.2.1.1.2
theorem dX12_copyTo_14 : decode cX12_copyTo 14 = .ok (.iinc 2 1, 3) := bg02_99.2.1.2
theorem dX12_copyTo_17 : decode cX12_copyTo 17 = .ok (.goto (-15), 3) := bg02_99.2.2.1
theorem dX12_copyTo_20 : decode cX12_copyTo 20 = .ok (.return_, 1) := bg02_99.2.2.2
theorem bg02_100 : (((decode cX12_image 0 = .ok (.aload_n 0, 1) ∧ decode cX12_image 1 = .ok (.iconst 0, 1)) ∧ (decode cX12_image 2 = .ok (.putfield 163, 3) ∧ decode cX12_image 5 = .ok (.aload_n 0, 1))) ∧ ((decode cX12_image 6 = .ok (.iconst 1, 1) ∧ decode cX12_image 7 = .ok (.putfield 332, 3)) ∧ (decode cX12_image 10 = .ok (.aload_n 0, 1) ∧ decode cX12_image 11 = .ok (.aload_n 0, 1)))) ∧ (((decode cX12_image 12 = .ok (.getfield 326, 3) ∧ decode cX12_image 15 = .ok (.putfield 507, 3)) ∧ (decode cX12_image 18 = .ok (.aload_n 0, 1) ∧ decode cX12_image 19 = .ok (.aload_n 0, 1))) ∧ ((decode cX12_image 20 = .ok (.getfield 329, 3) ∧ decode cX12_image 23 = .ok (.putfield 510, 3)) ∧ (decode cX12_image 26 = .ok (.aload_n 0, 1) ∧ decode cX12_image 27 = .ok (.aload_n 0, 1)))) := by decide +kernel
theorem dX12_image_0 : decode cX12_image 0 = .ok (.aload_n 0, 1) := bg02_100.1.1.1.1
theorem dX12_image_1 : decode cX12_image 1 = .ok (.iconst 0, 1) := bg02_100.1.1.1.2
theorem dX12_image_2 : decode cX12_image 2 = .ok (.putfield 163, 3) := bg02_100.1.1.2.1
theorem dX12_image_5 : decode cX12_image 5 = .ok (.aload_n 0, 1) := bg02_100.1.1.2.2
theorem dX12_image_6 : decode cX12_image 6 = .ok (.iconst 1, 1) := bg02_100.1.2.1.1
theorem dX12_image_7 : decode cX12_image 7 = .ok (.putfield 332, 3) := bg02_100.1.2.1.2
theorem dX12_image_10 : decode cX12_image 10 = .ok (.aload_n 0, 1) := bg02_100.1.2.2.1
theorem dX12_image_11 : decode cX12_image 11 = .ok (.aload_n 0, 1) := bg02_100.1.2.2.2
theorem dX12_image_12 : decode cX12_image 12 = .ok (.getfield 326, 3) := bg02_100.2.1.1.1
theorem dX12_image_15 : decode cX12_image 15 = .ok (.putfield 507, 3) := bg02_100.2.1.1.2
theorem dX12_image_18 : decode cX12_image 18 = .ok (.aload_n 0, 1) := bg02_100.2.1.2.1
theorem dX12_image_19 : decode cX12_image 19 = .ok (.aload_n 0, 1) := bg02_100.2.1.2.2
theorem dX12_image_20 : decode cX12_image 20 = .ok (.getfield 329, 3) := bg02_100.2.2.1.1
theorem dX12_image_23 : decode cX12_image 23 = .ok (.putfield 510, 3) := bg02_100.2.2.1.2
theorem dX12_image_26 : decode cX12_image 26 = .ok (.aload_n 0, 1) := bg02_100.2.2.2.1
theorem dX12_image_27 : decode cX12_image 27 = .ok (.aload_n 0, 1) := bg02_100.2.2.2.2
theorem bg02_101 : (((decode cX12_image 28 = .ok (.getfield 145, 3) ∧ decode cX12_image 31 = .ok (.iconst 0, 1)) ∧ (decode cX12_image 32 = .ok (.invokevirtual 420, 3) ∧ decode cX12_image 35 = .ok (.aload_n 0, 1))) ∧ ((decode cX12_image 36 = .ok (.getfield 148, 3) ∧ decode cX12_image 39 = .ok (.aload_n 0, 1)) ∧ (decode cX12_image 40 = .ok (.getfield 109, 3) ∧ decode cX12_image 43 = .ok (.invokestatic 513, 3)))) ∧ (((decode cX12_image 46 = .ok (.aload_n 0, 1) ∧ decode cX12_image 47 = .ok (.getfield 151, 3)) ∧ (decode cX12_image 50 = .ok (.aload_n 0, 1) ∧ decode cX12_image 51 = .ok (.getfield 124, 3))) ∧ ((decode cX12_image 54 = .ok (.invokestatic 513, 3) ∧ decode cX12_image 57 = .ok (.aload_n 0, 1)) ∧ (decode cX12_image 58 = .ok (.getfield 154, 3) ∧ decode cX12_image 61 = .ok (.aload_n 0, 1)))) := by decide +kernel
theorem dX12_image_28 : decode cX12_image 28 = .ok (.getfield 145, 3) := bg02_101.1.1.1.1
theorem dX12_image_31 : decode cX12_image 31 = .ok (.iconst 0, 1) := bg02_101.1.1.1.2
theorem dX12_image_32 : decode cX12_image 32 = .ok (.invokevirtual 420, 3) := bg02_101.1.1.2.1
theorem dX12_image_35 : decode cX12_image 35 = .ok (.aload_n 0, 1) := bg02_101.1.1.2.2
theorem dX12_image_36 : decode cX12_image 36 = .ok (.getfield 148, 3) := bg02_101.1.2.1.1
theorem dX12_image_39 : decode cX12_image 39 = .ok (.aload_n 0, 1) := bg02_101.1.2.1.2
theorem dX12_image_40 : decode cX12_image 40 = .ok (.getfield 109, 3) := bg02_101.1.2.2.1
theorem dX12_image_43 : decode cX12_image 43 = .ok (.invokestatic 513, 3) := bg02_101.1.2.2.2
theorem dX12_image_46 : decode cX12_image 46 = .ok (.aload_n 0, 1) := bg02_101.2.1.1.1
theorem dX12_image_47 : decode cX12_image 47 = .ok (.getfield 151, 3) := bg02_101.2.1.1.2
theorem dX12_image_50 : decode cX12_image 50 = .ok (.aload_n 0, 1) := bg02_101.2.1.2.1
theorem dX12_image_51 : decode cX12_image 51 = .ok (.getfield 124, 3) := bg02_101.2.1.2.2
theorem dX12_image_54 : decode cX12_image 54 = .ok (.invokestatic 513, 3) := bg02_101.2.2.1.1
theorem dX12_image_57 : decode cX12_image 57 = .ok (.aload_n 0, 1) := bg02_101.2.2.1.2
theorem dX12_image_58 : decode cX12_image 58 = .ok (.getfield 154, 3) := bg02_101.2.2.2.1
theorem dX12_image_61 : decode cX12_image 61 = .ok (.aload_n 0, 1) := bg02_101.2.2.2.2
theorem bg02_102 : (((decode cX12_image 62 = .ok (.getfield 127, 3) ∧ decode cX12_image 65 = .ok (.invokestatic 513, 3)) ∧ (decode cX12_image 68 = .ok (.aload_n 0, 1) ∧ decode cX12_image 69 = .ok (.getfield 157, 3))) ∧ ((decode cX12_image 72 = .ok (.aload_n 0, 1) ∧ decode cX12_image 73 = .ok (.getfield 130, 3)) ∧ (decode cX12_image 76 = .ok (.invokestatic 513, 3)))) ∧ (((decode cX12_image 79 = .ok (.aload_n 0, 1) ∧ decode cX12_image 80 = .ok (.getfield 160, 3)) ∧ (decode cX12_image 83 = .ok (.aload_n 0, 1))) ∧ ((decode cX12_image 84 = .ok (.getfield 78, 3) ∧ decode cX12_image 87 = .ok (.invokestatic 513, 3)) ∧ (decode cX12_image 90 = .ok (.return_, 1)))) := by decide +kernel
theorem dX12_image_62 : decode cX12_image 62 = .ok (.getfield 127, 3) := bg02_102.1.1.1.1
theorem dX12_image_65 : decode cX12_image 65 = .ok (.invokestatic 513, 3) := bg02_102.1.1.1.2
theorem dX12_image_68 : decode cX12_image 68 = .ok (.aload_n 0, 1) := bg02_102.1.1.2.1
theorem dX12_image_69 : decode cX12_image 69 = .ok (.getfield 157, 3) := bg02_102.1.1.2.2
theorem dX12_image_72 : decode cX12_image 72 = .ok (.aload_n 0, 1) := bg02_102.1.2.1.1
theorem dX12_image_73 : decode cX12_image 73 = .ok (.getfield 130, 3) := bg02_102.1.2.1.2
theorem dX12_image_76 : decode cX12_image 76 = .ok (.invokestatic 513, 3) := bg02_102.1.2.2
theorem dX12_image_79 : decode cX12_image 79 = .ok (.aload_n 0, 1) := bg02_102.2.1.1.1
theorem dX12_image_80 : decode cX12_image 80 = .ok (.getfield 160, 3) := bg02_102.2.1.1.2
theorem dX12_image_83 : decode cX12_image 83 = .ok (.aload_n 0, 1) := bg02_102.2.1.2
theorem dX12_image_84 : decode cX12_image 84 = .ok (.getfield 78, 3) := bg02_102.2.2.1.1
theorem dX12_image_87 : decode cX12_image 87 = .ok (.invokestatic 513, 3) := bg02_102.2.2.1.2
theorem dX12_image_90 : decode cX12_image 90 = .ok (.return_, 1) := bg02_102.2.2.2
theorem bg02_103 : (((decode cX12_restore 0 = .ok (.aload_n 0, 1) ∧ decode cX12_restore 1 = .ok (.iconst 0, 1)) ∧ (decode cX12_restore 2 = .ok (.putfield 163, 3) ∧ decode cX12_restore 5 = .ok (.aload_n 0, 1))) ∧ ((decode cX12_restore 6 = .ok (.getfield 332, 3) ∧ decode cX12_restore 9 = .ok (.ifCond .ne 5, 3)) ∧ (decode cX12_restore 12 = .ok (.iconst 0, 1) ∧ decode cX12_restore 13 = .ok (.ireturn, 1)))) ∧ (((decode cX12_restore 14 = .ok (.aload_n 0, 1) ∧ decode cX12_restore 15 = .ok (.aload_n 0, 1)) ∧ (decode cX12_restore 16 = .ok (.getfield 507, 3) ∧ decode cX12_restore 19 = .ok (.putfield 326, 3))) ∧ ((decode cX12_restore 22 = .ok (.aload_n 0, 1) ∧ decode cX12_restore 23 = .ok (.aload_n 0, 1)) ∧ (decode cX12_restore 24 = .ok (.getfield 510, 3) ∧ decode cX12_restore 27 = .ok (.putfield 329, 3)))) := by decide +kernel
theorem dX12_restore_0 : decode cX12_restore 0 = .ok (.aload_n 0, 1) := bg02_103.1.1.1.1
theorem dX12_restore_1 : decode cX12_restore 1 = .ok (.iconst 0, 1) := bg02_103.1.1.1.2
theorem dX12_restore_2 : decode cX12_restore 2 = .ok (.putfield 163, 3) := bg02_103.1.1.2.1
theorem dX12_restore_5 : decode cX12_restore 5 = .ok (.aload_n 0, 1) := bg02_103.1.1.2.2
theorem dX12_restore_6 : decode cX12_restore 6 = .ok (.getfield 332, 3) := bg02_103.1.2.1.1
theorem dX12_restore_9 : decode cX12_restore 9 = .ok (.ifCond .ne 5, 3) := bg02_103.1.2.1.2
theorem dX12_restore_12 : decode cX12_restore 12 = .ok (.iconst 0, 1) := bg02_103.1.2.2.1
theorem dX12_restore_13 : decode cX12_restore 13 = .ok (.ireturn, 1) := bg02_103.1.2.2.2
theorem dX12_restore_14 : decode cX12_restore 14 = .ok (.aload_n 0, 1) := bg02_103.2.1.1.1
theorem dX12_restore_15 : decode cX12_restore 15 = .ok (.aload_n 0, 1) := bg02_103.2.1.1.2
theorem dX12_restore_16 : decode cX12_restore 16 = .ok (.getfield 507, 3) := bg02_103.2.1.2.1
theorem dX12_restore_19 : decode cX12_restore 19 = .ok (.putfield 326, 3) := bg02_103.2.1.2.2
theorem dX12_restore_22 : decode cX12_restore 22 = .ok (.aload_n 0, 1) := bg02_103.2.2.1.1
theorem dX12_restore_23 : decode cX12_restore 23 = .ok (.aload_n 0, 1) := bg02_103.2.2.1.2
theorem dX12_restore_24 : decode cX12_restore 24 = .ok (.getfield 510, 3) := bg02_103.2.2.2.1
theorem dX12_restore_27 : decode cX12_restore 27 = .ok (.putfield 329, 3) := bg02_103.2.2.2.2
theorem bg02_104 : (((decode cX12_restore 30 = .ok (.aload_n 0, 1) ∧ decode cX12_restore 31 = .ok (.aload_n 0, 1)) ∧ (decode cX12_restore 32 = .ok (.getfield 145, 3) ∧ decode cX12_restore 35 = .ok (.iconst 0, 1))) ∧ ((decode cX12_restore 36 = .ok (.invokevirtual 446, 3) ∧ decode cX12_restore 39 = .ok (.aload_n 0, 1)) ∧ (decode cX12_restore 40 = .ok (.getfield 109, 3) ∧ decode cX12_restore 43 = .ok (.aload_n 0, 1)))) ∧ (((decode cX12_restore 44 = .ok (.getfield 148, 3) ∧ decode cX12_restore 47 = .ok (.invokestatic 513, 3)) ∧ (decode cX12_restore 50 = .ok (.aload_n 0, 1) ∧ decode cX12_restore 51 = .ok (.getfield 124, 3))) ∧ ((decode cX12_restore 54 = .ok (.aload_n 0, 1) ∧ decode cX12_restore 55 = .ok (.getfield 151, 3)) ∧ (decode cX12_restore 58 = .ok (.invokestatic 513, 3) ∧ decode cX12_restore 61 = .ok (.aload_n 0, 1)))) := by decide +kernel
theorem dX12_restore_30 : decode cX12_restore 30 = .ok (.aload_n 0, 1) := bg02_104.1.1.1.1
theorem dX12_restore_31 : decode cX12_restore 31 = .ok (.aload_n 0, 1) := bg02_104.1.1.1.2
theorem dX12_restore_32 : decode cX12_restore 32 = .ok (.getfield 145, 3) := bg02_104.1.1.2.1
theorem dX12_restore_35 : decode cX12_restore 35 = .ok (.iconst 0, 1) := bg02_104.1.1.2.2
theorem dX12_restore_36 : decode cX12_restore 36 = .ok (.invokevirtual 446, 3) := bg02_104.1.2.1.1
theorem dX12_restore_39 : decode cX12_restore 39 = .ok (.aload_n 0, 1) := bg02_104.1.2.1.2
theorem dX12_restore_40 : decode cX12_restore 40 = .ok (.getfield 109, 3) := bg02_104.1.2.2.1
theorem dX12_restore_43 : decode cX12_restore 43 = .ok (.aload_n 0, 1) := bg02_104.1.2.2.2
theorem dX12_restore_44 : decode cX12_restore 44 = .ok (.getfield 148, 3) := bg02_104.2.1.1.1
theorem dX12_restore_47 : decode cX12_restore 47 = .ok (.invokestatic 513, 3) := bg02_104.2.1.1.2
theorem dX12_restore_50 : decode cX12_restore 50 = .ok (.aload_n 0, 1) := bg02_104.2.1.2.1
theorem dX12_restore_51 : decode cX12_restore 51 = .ok (.getfield 124, 3) := bg02_104.2.1.2.2
theorem dX12_restore_54 : decode cX12_restore 54 = .ok (.aload_n 0, 1) := bg02_104.2.2.1.1
theorem dX12_restore_55 : decode cX12_restore 55 = .ok (.getfield 151, 3) := bg02_104.2.2.1.2
theorem dX12_restore_58 : decode cX12_restore 58 = .ok (.invokestatic 513, 3) := bg02_104.2.2.2.1
theorem dX12_restore_61 : decode cX12_restore 61 = .ok (.aload_n 0, 1) := bg02_104.2.2.2.2
theorem bg02_105 : (((decode cX12_restore 62 = .ok (.getfield 127, 3) ∧ decode cX12_restore 65 = .ok (.aload_n 0, 1)) ∧ (decode cX12_restore 66 = .ok (.getfield 154, 3) ∧ decode cX12_restore 69 = .ok (.invokestatic 513, 3))) ∧ ((decode cX12_restore 72 = .ok (.aload_n 0, 1) ∧ decode cX12_restore 73 = .ok (.getfield 130, 3)) ∧ (decode cX12_restore 76 = .ok (.aload_n 0, 1) ∧ decode cX12_restore 77 = .ok (.getfield 157, 3)))) ∧ (((decode cX12_restore 80 = .ok (.invokestatic 513, 3) ∧ decode cX12_restore 83 = .ok (.aload_n 0, 1)) ∧ (decode cX12_restore 84 = .ok (.getfield 78, 3) ∧ decode cX12_restore 87 = .ok (.aload_n 0, 1))) ∧ ((decode cX12_restore 88 = .ok (.getfield 160, 3) ∧ decode cX12_restore 91 = .ok (.invokestatic 513, 3)) ∧ (decode cX12_restore 94 = .ok (.iconst 1, 1) ∧ decode cX12_restore 95 = .ok (.ireturn, 1)))) := by decide +kernel
theorem dX12_restore_62 : decode cX12_restore 62 = .ok (.getfield 127, 3) := bg02_105.1.1.1.1
theorem dX12_restore_65 : decode cX12_restore 65 = .ok (.aload_n 0, 1) := bg02_105.1.1.1.2
theorem dX12_restore_66 : decode cX12_restore 66 = .ok (.getfield 154, 3) := bg02_105.1.1.2.1
theorem dX12_restore_69 : decode cX12_restore 69 = .ok (.invokestatic 513, 3) := bg02_105.1.1.2.2
theorem dX12_restore_72 : decode cX12_restore 72 = .ok (.aload_n 0, 1) := bg02_105.1.2.1.1
theorem dX12_restore_73 : decode cX12_restore 73 = .ok (.getfield 130, 3) := bg02_105.1.2.1.2
theorem dX12_restore_76 : decode cX12_restore 76 = .ok (.aload_n 0, 1) := bg02_105.1.2.2.1
theorem dX12_restore_77 : decode cX12_restore 77 = .ok (.getfield 157, 3) := bg02_105.1.2.2.2
theorem dX12_restore_80 : decode cX12_restore 80 = .ok (.invokestatic 513, 3) := bg02_105.2.1.1.1
theorem dX12_restore_83 : decode cX12_restore 83 = .ok (.aload_n 0, 1) := bg02_105.2.1.1.2
theorem dX12_restore_84 : decode cX12_restore 84 = .ok (.getfield 78, 3) := bg02_105.2.1.2.1
theorem dX12_restore_87 : decode cX12_restore 87 = .ok (.aload_n 0, 1) := bg02_105.2.1.2.2
theorem dX12_restore_88 : decode cX12_restore 88 = .ok (.getfield 160, 3) := bg02_105.2.2.1.1
theorem dX12_restore_91 : decode cX12_restore 91 = .ok (.invokestatic 513, 3) := bg02_105.2.2.1.2
theorem dX12_restore_94 : decode cX12_restore 94 = .ok (.iconst 1, 1) := bg02_105.2.2.2.1
theorem dX12_restore_95 : decode cX12_restore 95 = .ok (.ireturn, 1) := bg02_105.2.2.2.2
