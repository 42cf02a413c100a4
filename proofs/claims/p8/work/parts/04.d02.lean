theorem bd02_0 : (((decode cX8_longestRow 37 = .ok (.getfield 18, 3) ∧ decode cX8_longestRow 40 = .ok (.iload 4, 2)) ∧ (decode cX8_longestRow 42 = .ok (.iaload, 1) ∧ decode cX8_longestRow 43 = .ok (.ifCond .ne 9, 3))) ∧ ((decode cX8_longestRow 46 = .ok (.iload_n 1, 1) ∧ decode cX8_longestRow 47 = .ok (.iconst 1, 1)) ∧ (decode cX8_longestRow 48 = .ok (.iadd, 1) ∧ decode cX8_longestRow 49 = .ok (.goto 4, 3)))) ∧ (((decode cX8_longestRow 52 = .ok (.iconst 0, 1) ∧ decode cX8_longestRow 53 = .ok (.istore_n 1, 1)) ∧ (decode cX8_longestRow 54 = .ok (.iload_n 2, 1) ∧ decode cX8_longestRow 55 = .ok (.iload_n 1, 1))) ∧ ((decode cX8_longestRow 56 = .ok (.invokestatic 59, 3) ∧ decode cX8_longestRow 59 = .ok (.istore_n 2, 1)) ∧ (decode cX8_longestRow 60 = .ok (.iinc 3 1, 3) ∧ decode cX8_longestRow 63 = .ok (.goto (-57), 3)))) := by decide +kernel
theorem dX8_longestRow_37 : decode cX8_longestRow 37 = .ok (.getfield 18, 3) := bd02_0.1.1.1.1
theorem dX8_longestRow_40 : decode cX8_longestRow 40 = .ok (.iload 4, 2) := bd02_0.1.1.1.2
theorem dX8_longestRow_42 : decode cX8_longestRow 42 = .ok (.iaload, 1) := bd02_0.1.1.2.1
theorem dX8_longestRow_43 : decode cX8_longestRow 43 = .ok (.ifCond .ne 9, 3) := bd02_0.1.1.2.2
theorem dX8_longestRow_46 : decode cX8_longestRow 46 = .ok (.iload_n 1, 1) := bd02_0.1.2.1.1
theorem dX8_longestRow_47 : decode cX8_longestRow 47 = .ok (.iconst 1, 1) := bd02_0.1.2.1.2
theorem dX8_longestRow_48 : decode cX8_longestRow 48 = .ok (.iadd, 1) := bd02_0.1.2.2.1
theorem dX8_longestRow_49 : decode cX8_longestRow 49 = .ok (.goto 4, 3) := bd02_0.1.2.2.2
theorem dX8_longestRow_52 : decode cX8_longestRow 52 = .ok (.iconst 0, 1) := bd02_0.2.1.1.1
theorem dX8_longestRow_53 : decode cX8_longestRow 53 = .ok (.istore_n 1, 1) := bd02_0.2.1.1.2
theorem dX8_longestRow_54 : decode cX8_longestRow 54 = .ok (.iload_n 2, 1) := bd02_0.2.1.2.1
theorem dX8_longestRow_55 : decode cX8_longestRow 55 = .ok (.iload_n 1, 1) := bd02_0.2.1.2.2
theorem dX8_longestRow_56 : decode cX8_longestRow 56 = .ok (.invokestatic 59, 3) := bd02_0.2.2.1.1
theorem dX8_longestRow_59 : decode cX8_longestRow 59 = .ok (.istore_n 2, 1) := bd02_0.2.2.1.2
theorem dX8_longestRow_60 : decode cX8_longestRow 60 = .ok (.iinc 3 1, 3) := bd02_0.2.2.2.1
theorem dX8_longestRow_63 : decode cX8_longestRow 63 = .ok (.goto (-57), 3) := bd02_0.2.2.2.2
theorem bd02_1 : ((decode cX8_longestRow 66 = .ok (.iload_n 2, 1) ∧ decode cX8_longestRow 67 = .ok (.aload_n 0, 1)) ∧ (decode cX8_longestRow 68 = .ok (.getfield 30, 3) ∧ decode cX8_longestRow 71 = .ok (.invokestatic 62, 3))) ∧ ((decode cX8_longestRow 74 = .ok (.ireturn, 1) ∧ decode cX8_oldestSitter 0 = .ok (.iconst (-1), 1)) ∧ (decode cX8_oldestSitter 1 = .ok (.istore_n 1, 1) ∧ decode cX8_oldestSitter 2 = .ok (.iconst (-1), 1))) := by decide +kernel
theorem dX8_longestRow_66 : decode cX8_longestRow 66 = .ok (.iload_n 2, 1) := bd02_1.1.1.1
theorem dX8_longestRow_67 : decode cX8_longestRow 67 = .ok (.aload_n 0, 1) := bd02_1.1.1.2
theorem dX8_longestRow_68 : decode cX8_longestRow 68 = .ok (.getfield 30, 3) := bd02_1.1.2.1
theorem dX8_longestRow_71 : decode cX8_longestRow 71 = .ok (.invokestatic 62, 3) := bd02_1.1.2.2
theorem dX8_longestRow_74 : decode cX8_longestRow 74 = .ok (.ireturn, 1) := bd02_1.2.1.1
theorem dX8_oldestSitter_0 : decode cX8_oldestSitter 0 = .ok (.iconst (-1), 1) := bd02_1.2.1.2
theorem dX8_oldestSitter_1 : decode cX8_oldestSitter 1 = .ok (.istore_n 1, 1) := bd02_1.2.2.1
theorem dX8_oldestSitter_2 : decode cX8_oldestSitter 2 = .ok (.iconst (-1), 1) := bd02_1.2.2.2
theorem bd02_2 : (((decode cX8_oldestSitter 3 = .ok (.istore_n 2, 1) ∧ decode cX8_oldestSitter 4 = .ok (.iconst 0, 1)) ∧ (decode cX8_oldestSitter 5 = .ok (.istore_n 3, 1) ∧ decode cX8_oldestSitter 6 = .ok (.iload_n 3, 1))) ∧ ((decode cX8_oldestSitter 7 = .ok (.aload_n 0, 1) ∧ decode cX8_oldestSitter 8 = .ok (.getfield 34, 3)) ∧ (decode cX8_oldestSitter 11 = .ok (.if_icmp .ge 38, 3) ∧ decode cX8_oldestSitter 14 = .ok (.aload_n 0, 1)))) ∧ (((decode cX8_oldestSitter 15 = .ok (.getfield 27, 3) ∧ decode cX8_oldestSitter 18 = .ok (.iload_n 3, 1)) ∧ (decode cX8_oldestSitter 19 = .ok (.iaload, 1) ∧ decode cX8_oldestSitter 20 = .ok (.iconst (-1), 1))) ∧ ((decode cX8_oldestSitter 21 = .ok (.if_icmp .eq 22, 3) ∧ decode cX8_oldestSitter 24 = .ok (.aload_n 0, 1)) ∧ (decode cX8_oldestSitter 25 = .ok (.getfield 21, 3) ∧ decode cX8_oldestSitter 28 = .ok (.iload_n 3, 1)))) := by decide +kernel
theorem dX8_oldestSitter_3 : decode cX8_oldestSitter 3 = .ok (.istore_n 2, 1) := bd02_2.1.1.1.1
theorem dX8_oldestSitter_4 : decode cX8_oldestSitter 4 = .ok (.iconst 0, 1) := bd02_2.1.1.1.2
theorem dX8_oldestSitter_5 : decode cX8_oldestSitter 5 = .ok (.istore_n 3, 1) := bd02_2.1.1.2.1
theorem dX8_oldestSitter_6 : decode cX8_oldestSitter 6 = .ok (.iload_n 3, 1) := bd02_2.1.1.2.2
theorem dX8_oldestSitter_7 : decode cX8_oldestSitter 7 = .ok (.aload_n 0, 1) := bd02_2.1.2.1.1
theorem dX8_oldestSitter_8 : decode cX8_oldestSitter 8 = .ok (.getfield 34, 3) := bd02_2.1.2.1.2
theorem dX8_oldestSitter_11 : decode cX8_oldestSitter 11 = .ok (.if_icmp .ge 38, 3) := bd02_2.1.2.2.1
theorem dX8_oldestSitter_14 : decode cX8_oldestSitter 14 = .ok (.aload_n 0, 1) := bd02_2.1.2.2.2
theorem dX8_oldestSitter_15 : decode cX8_oldestSitter 15 = .ok (.getfield 27, 3) := bd02_2.2.1.1.1
theorem dX8_oldestSitter_18 : decode cX8_oldestSitter 18 = .ok (.iload_n 3, 1) := bd02_2.2.1.1.2
theorem dX8_oldestSitter_19 : decode cX8_oldestSitter 19 = .ok (.iaload, 1) := bd02_2.2.1.2.1
theorem dX8_oldestSitter_20 : decode cX8_oldestSitter 20 = .ok (.iconst (-1), 1) := bd02_2.2.1.2.2
theorem dX8_oldestSitter_21 : decode cX8_oldestSitter 21 = .ok (.if_icmp .eq 22, 3) := bd02_2.2.2.1.1
theorem dX8_oldestSitter_24 : decode cX8_oldestSitter 24 = .ok (.aload_n 0, 1) := bd02_2.2.2.1.2
theorem dX8_oldestSitter_25 : decode cX8_oldestSitter 25 = .ok (.getfield 21, 3) := bd02_2.2.2.2.1
theorem dX8_oldestSitter_28 : decode cX8_oldestSitter 28 = .ok (.iload_n 3, 1) := bd02_2.2.2.2.2
theorem bd02_3 : (((decode cX8_oldestSitter 29 = .ok (.iaload, 1) ∧ decode cX8_oldestSitter 30 = .ok (.iload_n 2, 1)) ∧ (decode cX8_oldestSitter 31 = .ok (.if_icmp .le 12, 3) ∧ decode cX8_oldestSitter 34 = .ok (.iload_n 3, 1))) ∧ ((decode cX8_oldestSitter 35 = .ok (.istore_n 1, 1) ∧ decode cX8_oldestSitter 36 = .ok (.aload_n 0, 1)) ∧ (decode cX8_oldestSitter 37 = .ok (.getfield 21, 3)))) ∧ (((decode cX8_oldestSitter 40 = .ok (.iload_n 3, 1) ∧ decode cX8_oldestSitter 41 = .ok (.iaload, 1)) ∧ (decode cX8_oldestSitter 42 = .ok (.istore_n 2, 1) ∧ decode cX8_oldestSitter 43 = .ok (.iinc 3 1, 3))) ∧ ((decode cX8_oldestSitter 46 = .ok (.goto (-40), 3) ∧ decode cX8_oldestSitter 49 = .ok (.iload_n 1, 1)) ∧ (decode cX8_oldestSitter 50 = .ok (.ireturn, 1)))) := by decide +kernel
theorem dX8_oldestSitter_29 : decode cX8_oldestSitter 29 = .ok (.iaload, 1) := bd02_3.1.1.1.1
theorem dX8_oldestSitter_30 : decode cX8_oldestSitter 30 = .ok (.iload_n 2, 1) := bd02_3.1.1.1.2
theorem dX8_oldestSitter_31 : decode cX8_oldestSitter 31 = .ok (.if_icmp .le 12, 3) := bd02_3.1.1.2.1
theorem dX8_oldestSitter_34 : decode cX8_oldestSitter 34 = .ok (.iload_n 3, 1) := bd02_3.1.1.2.2
theorem dX8_oldestSitter_35 : decode cX8_oldestSitter 35 = .ok (.istore_n 1, 1) := bd02_3.1.2.1.1
theorem dX8_oldestSitter_36 : decode cX8_oldestSitter 36 = .ok (.aload_n 0, 1) := bd02_3.1.2.1.2
theorem dX8_oldestSitter_37 : decode cX8_oldestSitter 37 = .ok (.getfield 21, 3) := bd02_3.1.2.2
theorem dX8_oldestSitter_40 : decode cX8_oldestSitter 40 = .ok (.iload_n 3, 1) := bd02_3.2.1.1.1
theorem dX8_oldestSitter_41 : decode cX8_oldestSitter 41 = .ok (.iaload, 1) := bd02_3.2.1.1.2
theorem dX8_oldestSitter_42 : decode cX8_oldestSitter 42 = .ok (.istore_n 2, 1) := bd02_3.2.1.2.1
theorem dX8_oldestSitter_43 : decode cX8_oldestSitter 43 = .ok (.iinc 3 1, 3) := bd02_3.2.1.2.2
theorem dX8_oldestSitter_46 : decode cX8_oldestSitter 46 = .ok (.goto (-40), 3) := bd02_3.2.2.1.1
theorem dX8_oldestSitter_49 : decode cX8_oldestSitter 49 = .ok (.iload_n 1, 1) := bd02_3.2.2.1.2
theorem dX8_oldestSitter_50 : decode cX8_oldestSitter 50 = .ok (.ireturn, 1) := bd02_3.2.2.2
theorem bd02_4 : (((decode cX8_mostStone 0 = .ok (.iconst (-1), 1) ∧ decode cX8_mostStone 1 = .ok (.istore_n 1, 1)) ∧ (decode cX8_mostStone 2 = .ok (.iconst (-1), 1) ∧ decode cX8_mostStone 3 = .ok (.istore_n 2, 1))) ∧ ((decode cX8_mostStone 4 = .ok (.iconst 0, 1) ∧ decode cX8_mostStone 5 = .ok (.istore_n 3, 1)) ∧ (decode cX8_mostStone 6 = .ok (.iload_n 3, 1) ∧ decode cX8_mostStone 7 = .ok (.aload_n 0, 1)))) ∧ (((decode cX8_mostStone 8 = .ok (.getfield 30, 3) ∧ decode cX8_mostStone 11 = .ok (.if_icmp .ge 28, 3)) ∧ (decode cX8_mostStone 14 = .ok (.aload_n 0, 1) ∧ decode cX8_mostStone 15 = .ok (.getfield 18, 3))) ∧ ((decode cX8_mostStone 18 = .ok (.iload_n 3, 1) ∧ decode cX8_mostStone 19 = .ok (.iaload, 1)) ∧ (decode cX8_mostStone 20 = .ok (.iload_n 2, 1) ∧ decode cX8_mostStone 21 = .ok (.if_icmp .le 12, 3)))) := by decide +kernel
theorem dX8_mostStone_0 : decode cX8_mostStone 0 = .ok (.iconst (-1), 1) := bd02_4.1.1.1.1
theorem dX8_mostStone_1 : decode cX8_mostStone 1 = .ok (.istore_n 1, 1) := bd02_4.1.1.1.2
theorem dX8_mostStone_2 : decode cX8_mostStone 2 = .ok (.iconst (-1), 1) := bd02_4.1.1.2.1
theorem dX8_mostStone_3 : decode cX8_mostStone 3 = .ok (.istore_n 2, 1) := bd02_4.1.1.2.2
theorem dX8_mostStone_4 : decode cX8_mostStone 4 = .ok (.iconst 0, 1) := bd02_4.1.2.1.1
theorem dX8_mostStone_5 : decode cX8_mostStone 5 = .ok (.istore_n 3, 1) := bd02_4.1.2.1.2
theorem dX8_mostStone_6 : decode cX8_mostStone 6 = .ok (.iload_n 3, 1) := bd02_4.1.2.2.1
theorem dX8_mostStone_7 : decode cX8_mostStone 7 = .ok (.aload_n 0, 1) := bd02_4.1.2.2.2
theorem dX8_mostStone_8 : decode cX8_mostStone 8 = .ok (.getfield 30, 3) := bd02_4.2.1.1.1
theorem dX8_mostStone_11 : decode cX8_mostStone 11 = .ok (.if_icmp .ge 28, 3) := bd02_4.2.1.1.2
theorem dX8_mostStone_14 : decode cX8_mostStone 14 = .ok (.aload_n 0, 1) := bd02_4.2.1.2.1
theorem dX8_mostStone_15 : decode cX8_mostStone 15 = .ok (.getfield 18, 3) := bd02_4.2.1.2.2
theorem dX8_mostStone_18 : decode cX8_mostStone 18 = .ok (.iload_n 3, 1) := bd02_4.2.2.1.1
theorem dX8_mostStone_19 : decode cX8_mostStone 19 = .ok (.iaload, 1) := bd02_4.2.2.1.2
theorem dX8_mostStone_20 : decode cX8_mostStone 20 = .ok (.iload_n 2, 1) := bd02_4.2.2.2.1
theorem dX8_mostStone_21 : decode cX8_mostStone 21 = .ok (.if_icmp .le 12, 3) := bd02_4.2.2.2.2
theorem bd02_5 : (((decode cX8_mostStone 24 = .ok (.iload_n 3, 1) ∧ decode cX8_mostStone 25 = .ok (.istore_n 1, 1)) ∧ (decode cX8_mostStone 26 = .ok (.aload_n 0, 1))) ∧ ((decode cX8_mostStone 27 = .ok (.getfield 18, 3) ∧ decode cX8_mostStone 30 = .ok (.iload_n 3, 1)) ∧ (decode cX8_mostStone 31 = .ok (.iaload, 1)))) ∧ (((decode cX8_mostStone 32 = .ok (.istore_n 2, 1) ∧ decode cX8_mostStone 33 = .ok (.iinc 3 1, 3)) ∧ (decode cX8_mostStone 36 = .ok (.goto (-30), 3))) ∧ (decode cX8_mostStone 39 = .ok (.iload_n 1, 1) ∧ decode cX8_mostStone 40 = .ok (.ireturn, 1))) := by decide +kernel
theorem dX8_mostStone_24 : decode cX8_mostStone 24 = .ok (.iload_n 3, 1) := bd02_5.1.1.1.1
theorem dX8_mostStone_25 : decode cX8_mostStone 25 = .ok (.istore_n 1, 1) := bd02_5.1.1.1.2
theorem dX8_mostStone_26 : decode cX8_mostStone 26 = .ok (.aload_n 0, 1) := bd02_5.1.1.2
theorem dX8_mostStone_27 : decode cX8_mostStone 27 = .ok (.getfield 18, 3) := bd02_5.1.2.1.1
theorem dX8_mostStone_30 : decode cX8_mostStone 30 = .ok (.iload_n 3, 1) := bd02_5.1.2.1.2
theorem dX8_mostStone_31 : decode cX8_mostStone 31 = .ok (.iaload, 1) := bd02_5.1.2.2
theorem dX8_mostStone_32 : decode cX8_mostStone 32 = .ok (.istore_n 2, 1) := bd02_5.2.1.1.1
theorem dX8_mostStone_33 : decode cX8_mostStone 33 = .ok (.iinc 3 1, 3) := bd02_5.2.1.1.2
theorem dX8_mostStone_36 : decode cX8_mostStone 36 = .ok (.goto (-30), 3) := bd02_5.2.1.2
theorem dX8_mostStone_39 : decode cX8_mostStone 39 = .ok (.iload_n 1, 1) := bd02_5.2.2.1
theorem dX8_mostStone_40 : decode cX8_mostStone 40 = .ok (.ireturn, 1) := bd02_5.2.2.2
theorem bd02_6 : (((decode cX8_gainOf 0 = .ok (.aload_n 0, 1) ∧ decode cX8_gainOf 1 = .ok (.getfield 18, 3)) ∧ (decode cX8_gainOf 4 = .ok (.iload_n 1, 1) ∧ decode cX8_gainOf 5 = .ok (.iaload, 1))) ∧ ((decode cX8_gainOf 6 = .ok (.bipush 10, 2) ∧ decode cX8_gainOf 8 = .ok (.idiv, 1)) ∧ (decode cX8_gainOf 9 = .ok (.iconst 2, 1) ∧ decode cX8_gainOf 10 = .ok (.aload_n 0, 1)))) ∧ (((decode cX8_gainOf 11 = .ok (.iload_n 1, 1) ∧ decode cX8_gainOf 12 = .ok (.invokevirtual 65, 3)) ∧ (decode cX8_gainOf 15 = .ok (.aload_n 0, 1) ∧ decode cX8_gainOf 16 = .ok (.invokevirtual 68, 3))) ∧ ((decode cX8_gainOf 19 = .ok (.iand, 1) ∧ decode cX8_gainOf 20 = .ok (.invokestatic 72, 3)) ∧ (decode cX8_gainOf 23 = .ok (.imul, 1) ∧ decode cX8_gainOf 24 = .ok (.iadd, 1)))) := by decide +kernel
theorem dX8_gainOf_0 : decode cX8_gainOf 0 = .ok (.aload_n 0, 1) := bd02_6.1.1.1.1
theorem dX8_gainOf_1 : decode cX8_gainOf 1 = .ok (.getfield 18, 3) := bd02_6.1.1.1.2
theorem dX8_gainOf_4 : decode cX8_gainOf 4 = .ok (.iload_n 1, 1) := bd02_6.1.1.2.1
theorem dX8_gainOf_5 : decode cX8_gainOf 5 = .ok (.iaload, 1) := bd02_6.1.1.2.2
theorem dX8_gainOf_6 : decode cX8_gainOf 6 = .ok (.bipush 10, 2) := bd02_6.1.2.1.1
theorem dX8_gainOf_8 : decode cX8_gainOf 8 = .ok (.idiv, 1) := bd02_6.1.2.1.2
theorem dX8_gainOf_9 : decode cX8_gainOf 9 = .ok (.iconst 2, 1) := bd02_6.1.2.2.1
theorem dX8_gainOf_10 : decode cX8_gainOf 10 = .ok (.aload_n 0, 1) := bd02_6.1.2.2.2
theorem dX8_gainOf_11 : decode cX8_gainOf 11 = .ok (.iload_n 1, 1) := bd02_6.2.1.1.1
theorem dX8_gainOf_12 : decode cX8_gainOf 12 = .ok (.invokevirtual 65, 3) := bd02_6.2.1.1.2
theorem dX8_gainOf_15 : decode cX8_gainOf 15 = .ok (.aload_n 0, 1) := bd02_6.2.1.2.1
theorem dX8_gainOf_16 : decode cX8_gainOf 16 = .ok (.invokevirtual 68, 3) := bd02_6.2.1.2.2
theorem dX8_gainOf_19 : decode cX8_gainOf 19 = .ok (.iand, 1) := bd02_6.2.2.1.1
theorem dX8_gainOf_20 : decode cX8_gainOf 20 = .ok (.invokestatic 72, 3) := bd02_6.2.2.1.2
theorem dX8_gainOf_23 : decode cX8_gainOf 23 = .ok (.imul, 1) := bd02_6.2.2.2.1
theorem dX8_gainOf_24 : decode cX8_gainOf 24 = .ok (.iadd, 1) := bd02_6.2.2.2.2
theorem bd02_7 : ((decode cX8_gainOf 25 = .ok (.ireturn, 1) ∧ decode cX8_setFace 0 = .ok (.aload_n 0, 1)) ∧ (decode cX8_setFace 1 = .ok (.getfield 9, 3) ∧ decode cX8_setFace 4 = .ok (.iload_n 1, 1))) ∧ ((decode cX8_setFace 5 = .ok (.iload_n 2, 1) ∧ decode cX8_setFace 6 = .ok (.iastore, 1)) ∧ (decode cX8_setFace 7 = .ok (.aload_n 0, 1) ∧ decode cX8_setFace 8 = .ok (.getfield 15, 3))) := by decide +kernel
theorem dX8_gainOf_25 : decode cX8_gainOf 25 = .ok (.ireturn, 1) := bd02_7.1.1.1
theorem dX8_setFace_0 : decode cX8_setFace 0 = .ok (.aload_n 0, 1) := bd02_7.1.1.2
theorem dX8_setFace_1 : decode cX8_setFace 1 = .ok (.getfield 9, 3) := bd02_7.1.2.1
theorem dX8_setFace_4 : decode cX8_setFace 4 = .ok (.iload_n 1, 1) := bd02_7.1.2.2
theorem dX8_setFace_5 : decode cX8_setFace 5 = .ok (.iload_n 2, 1) := bd02_7.2.1.1
theorem dX8_setFace_6 : decode cX8_setFace 6 = .ok (.iastore, 1) := bd02_7.2.1.2
theorem dX8_setFace_7 : decode cX8_setFace 7 = .ok (.aload_n 0, 1) := bd02_7.2.2.1
theorem dX8_setFace_8 : decode cX8_setFace 8 = .ok (.getfield 15, 3) := bd02_7.2.2.2
theorem bd02_8 : ((decode cX8_setFace 11 = .ok (.iload_n 1, 1) ∧ decode cX8_setFace 12 = .ok (.iload_n 3, 1)) ∧ (decode cX8_setFace 13 = .ok (.iastore, 1) ∧ decode cX8_setFace 14 = .ok (.return_, 1))) ∧ ((decode cX8_setStone 0 = .ok (.aload_n 0, 1) ∧ decode cX8_setStone 1 = .ok (.getfield 18, 3)) ∧ (decode cX8_setStone 4 = .ok (.iload_n 1, 1) ∧ decode cX8_setStone 5 = .ok (.iconst 0, 1))) := by decide +kernel
theorem dX8_setFace_11 : decode cX8_setFace 11 = .ok (.iload_n 1, 1) := bd02_8.1.1.1
theorem dX8_setFace_12 : decode cX8_setFace 12 = .ok (.iload_n 3, 1) := bd02_8.1.1.2
theorem dX8_setFace_13 : decode cX8_setFace 13 = .ok (.iastore, 1) := bd02_8.1.2.1
theorem dX8_setFace_14 : decode cX8_setFace 14 = .ok (.return_, 1) := bd02_8.1.2.2
theorem dX8_setStone_0 : decode cX8_setStone 0 = .ok (.aload_n 0, 1) := bd02_8.2.1.1
theorem dX8_setStone_1 : decode cX8_setStone 1 = .ok (.getfield 18, 3) := bd02_8.2.1.2
theorem dX8_setStone_4 : decode cX8_setStone 4 = .ok (.iload_n 1, 1) := bd02_8.2.2.1
theorem dX8_setStone_5 : decode cX8_setStone 5 = .ok (.iconst 0, 1) := bd02_8.2.2.2
theorem bd02_9 : (((decode cX8_setStone 6 = .ok (.iload_n 2, 1) ∧ decode cX8_setStone 7 = .ok (.invokestatic 59, 3)) ∧ (decode cX8_setStone 10 = .ok (.iastore, 1) ∧ decode cX8_setStone 11 = .ok (.aload_n 0, 1))) ∧ ((decode cX8_setStone 12 = .ok (.getfield 18, 3) ∧ decode cX8_setStone 15 = .ok (.iload_n 1, 1)) ∧ (decode cX8_setStone 16 = .ok (.iaload, 1)))) ∧ (((decode cX8_setStone 17 = .ok (.ifCond .ne 10, 3) ∧ decode cX8_setStone 20 = .ok (.aload_n 0, 1)) ∧ (decode cX8_setStone 21 = .ok (.iload_n 1, 1) ∧ decode cX8_setStone 22 = .ok (.iconst 0, 1))) ∧ ((decode cX8_setStone 23 = .ok (.iconst 0, 1) ∧ decode cX8_setStone 24 = .ok (.invokevirtual 77, 3)) ∧ (decode cX8_setStone 27 = .ok (.return_, 1)))) := by decide +kernel
theorem dX8_setStone_6 : decode cX8_setStone 6 = .ok (.iload_n 2, 1) := bd02_9.1.1.1.1
theorem dX8_setStone_7 : decode cX8_setStone 7 = .ok (.invokestatic 59, 3) := bd02_9.1.1.1.2
theorem dX8_setStone_10 : decode cX8_setStone 10 = .ok (.iastore, 1) := bd02_9.1.1.2.1
theorem dX8_setStone_11 : decode cX8_setStone 11 = .ok (.aload_n 0, 1) := bd02_9.1.1.2.2
theorem dX8_setStone_12 : decode cX8_setStone 12 = .ok (.getfield 18, 3) := bd02_9.1.2.1.1
theorem dX8_setStone_15 : decode cX8_setStone 15 = .ok (.iload_n 1, 1) := bd02_9.1.2.1.2
theorem dX8_setStone_16 : decode cX8_setStone 16 = .ok (.iaload, 1) := bd02_9.1.2.2
theorem dX8_setStone_17 : decode cX8_setStone 17 = .ok (.ifCond .ne 10, 3) := bd02_9.2.1.1.1
theorem dX8_setStone_20 : decode cX8_setStone 20 = .ok (.aload_n 0, 1) := bd02_9.2.1.1.2
theorem dX8_setStone_21 : decode cX8_setStone 21 = .ok (.iload_n 1, 1) := bd02_9.2.1.2.1
theorem dX8_setStone_22 : decode cX8_setStone 22 = .ok (.iconst 0, 1) := bd02_9.2.1.2.2
theorem dX8_setStone_23 : decode cX8_setStone 23 = .ok (.iconst 0, 1) := bd02_9.2.2.1.1
theorem dX8_setStone_24 : decode cX8_setStone 24 = .ok (.invokevirtual 77, 3) := bd02_9.2.2.1.2
theorem dX8_setStone_27 : decode cX8_setStone 27 = .ok (.return_, 1) := bd02_9.2.2.2
theorem bd02_10 : (((decode cX8_carve 0 = .ok (.aload_n 0, 1) ∧ decode cX8_carve 1 = .ok (.iload_n 1, 1)) ∧ (decode cX8_carve 2 = .ok (.iload_n 2, 1))) ∧ ((decode cX8_carve 3 = .ok (.iload_n 3, 1) ∧ decode cX8_carve 4 = .ok (.invokevirtual 77, 3)) ∧ (decode cX8_carve 7 = .ok (.aload_n 0, 1)))) ∧ (((decode cX8_carve 8 = .ok (.getfield 18, 3) ∧ decode cX8_carve 11 = .ok (.iload_n 1, 1)) ∧ (decode cX8_carve 12 = .ok (.bipush 99, 2))) ∧ (decode cX8_carve 14 = .ok (.iastore, 1) ∧ decode cX8_carve 15 = .ok (.return_, 1))) := by decide +kernel
theorem dX8_carve_0 : decode cX8_carve 0 = .ok (.aload_n 0, 1) := bd02_10.1.1.1.1
theorem dX8_carve_1 : decode cX8_carve 1 = .ok (.iload_n 1, 1) := bd02_10.1.1.1.2
theorem dX8_carve_2 : decode cX8_carve 2 = .ok (.iload_n 2, 1) := bd02_10.1.1.2
theorem dX8_carve_3 : decode cX8_carve 3 = .ok (.iload_n 3, 1) := bd02_10.1.2.1.1
theorem dX8_carve_4 : decode cX8_carve 4 = .ok (.invokevirtual 77, 3) := bd02_10.1.2.1.2
theorem dX8_carve_7 : decode cX8_carve 7 = .ok (.aload_n 0, 1) := bd02_10.1.2.2
theorem dX8_carve_8 : decode cX8_carve 8 = .ok (.getfield 18, 3) := bd02_10.2.1.1.1
theorem dX8_carve_11 : decode cX8_carve 11 = .ok (.iload_n 1, 1) := bd02_10.2.1.1.2
theorem dX8_carve_12 : decode cX8_carve 12 = .ok (.bipush 99, 2) := bd02_10.2.1.2
theorem dX8_carve_14 : decode cX8_carve 14 = .ok (.iastore, 1) := bd02_10.2.2.1
theorem dX8_carve_15 : decode cX8_carve 15 = .ok (.return_, 1) := bd02_10.2.2.2
theorem bd02_11 : ((decode cX8_carveAsItIs 0 = .ok (.aload_n 0, 1) ∧ decode cX8_carveAsItIs 1 = .ok (.getfield 18, 3)) ∧ (decode cX8_carveAsItIs 4 = .ok (.iload_n 1, 1) ∧ decode cX8_carveAsItIs 5 = .ok (.bipush 99, 2))) ∧ ((decode cX8_carveAsItIs 7 = .ok (.iastore, 1) ∧ decode cX8_carveAsItIs 8 = .ok (.return_, 1)) ∧ (decode cX8_moveUp 0 = .ok (.aload_n 0, 1) ∧ decode cX8_moveUp 1 = .ok (.iload_n 2, 1))) := by decide +kernel
theorem dX8_carveAsItIs_0 : decode cX8_carveAsItIs 0 = .ok (.aload_n 0, 1) := bd02_11.1.1.1
theorem dX8_carveAsItIs_1 : decode cX8_carveAsItIs 1 = .ok (.getfield 18, 3) := bd02_11.1.1.2
theorem dX8_carveAsItIs_4 : decode cX8_carveAsItIs 4 = .ok (.iload_n 1, 1) := bd02_11.1.2.1
theorem dX8_carveAsItIs_5 : decode cX8_carveAsItIs 5 = .ok (.bipush 99, 2) := bd02_11.1.2.2
theorem dX8_carveAsItIs_7 : decode cX8_carveAsItIs 7 = .ok (.iastore, 1) := bd02_11.2.1.1
theorem dX8_carveAsItIs_8 : decode cX8_carveAsItIs 8 = .ok (.return_, 1) := bd02_11.2.1.2
theorem dX8_moveUp_0 : decode cX8_moveUp 0 = .ok (.aload_n 0, 1) := bd02_11.2.2.1
theorem dX8_moveUp_1 : decode cX8_moveUp 1 = .ok (.iload_n 2, 1) := bd02_11.2.2.2
theorem bd02_12 : (((decode cX8_moveUp 2 = .ok (.invokevirtual 81, 3) ∧ decode cX8_moveUp 5 = .ok (.istore_n 3, 1)) ∧ (decode cX8_moveUp 6 = .ok (.iload_n 3, 1) ∧ decode cX8_moveUp 7 = .ok (.iconst (-1), 1))) ∧ ((decode cX8_moveUp 8 = .ok (.if_icmp .eq 10, 3) ∧ decode cX8_moveUp 11 = .ok (.aload_n 0, 1)) ∧ (decode cX8_moveUp 12 = .ok (.getfield 27, 3) ∧ decode cX8_moveUp 15 = .ok (.iload_n 3, 1)))) ∧ (((decode cX8_moveUp 16 = .ok (.iconst (-1), 1) ∧ decode cX8_moveUp 17 = .ok (.iastore, 1)) ∧ (decode cX8_moveUp 18 = .ok (.aload_n 0, 1) ∧ decode cX8_moveUp 19 = .ok (.getfield 27, 3))) ∧ ((decode cX8_moveUp 22 = .ok (.iload_n 1, 1) ∧ decode cX8_moveUp 23 = .ok (.iload_n 2, 1)) ∧ (decode cX8_moveUp 24 = .ok (.iastore, 1) ∧ decode cX8_moveUp 25 = .ok (.return_, 1)))) := by decide +kernel
theorem dX8_moveUp_2 : decode cX8_moveUp 2 = .ok (.invokevirtual 81, 3) := bd02_12.1.1.1.1
theorem dX8_moveUp_5 : decode cX8_moveUp 5 = .ok (.istore_n 3, 1) := bd02_12.1.1.1.2
theorem dX8_moveUp_6 : decode cX8_moveUp 6 = .ok (.iload_n 3, 1) := bd02_12.1.1.2.1
theorem dX8_moveUp_7 : decode cX8_moveUp 7 = .ok (.iconst (-1), 1) := bd02_12.1.1.2.2
theorem dX8_moveUp_8 : decode cX8_moveUp 8 = .ok (.if_icmp .eq 10, 3) := bd02_12.1.2.1.1
theorem dX8_moveUp_11 : decode cX8_moveUp 11 = .ok (.aload_n 0, 1) := bd02_12.1.2.1.2
theorem dX8_moveUp_12 : decode cX8_moveUp 12 = .ok (.getfield 27, 3) := bd02_12.1.2.2.1
theorem dX8_moveUp_15 : decode cX8_moveUp 15 = .ok (.iload_n 3, 1) := bd02_12.1.2.2.2
theorem dX8_moveUp_16 : decode cX8_moveUp 16 = .ok (.iconst (-1), 1) := bd02_12.2.1.1.1
theorem dX8_moveUp_17 : decode cX8_moveUp 17 = .ok (.iastore, 1) := bd02_12.2.1.1.2
theorem dX8_moveUp_18 : decode cX8_moveUp 18 = .ok (.aload_n 0, 1) := bd02_12.2.1.2.1
theorem dX8_moveUp_19 : decode cX8_moveUp 19 = .ok (.getfield 27, 3) := bd02_12.2.1.2.2
theorem dX8_moveUp_22 : decode cX8_moveUp 22 = .ok (.iload_n 1, 1) := bd02_12.2.2.1.1
theorem dX8_moveUp_23 : decode cX8_moveUp 23 = .ok (.iload_n 2, 1) := bd02_12.2.2.1.2
theorem dX8_moveUp_24 : decode cX8_moveUp 24 = .ok (.iastore, 1) := bd02_12.2.2.2.1
theorem dX8_moveUp_25 : decode cX8_moveUp 25 = .ok (.return_, 1) := bd02_12.2.2.2.2
theorem bd02_13 : ((decode cX8_nearer 0 = .ok (.iload_n 0, 1) ∧ decode cX8_nearer 1 = .ok (.iload_n 1, 1)) ∧ (decode cX8_nearer 2 = .ok (.iload_n 0, 1) ∧ decode cX8_nearer 3 = .ok (.invokestatic 84, 3))) ∧ ((decode cX8_nearer 6 = .ok (.iadd, 1) ∧ decode cX8_nearer 7 = .ok (.ireturn, 1)) ∧ (decode cX8_growLike 0 = .ok (.iload_n 1, 1) ∧ decode cX8_growLike 1 = .ok (.invokestatic 52, 3))) := by decide +kernel
theorem dX8_nearer_0 : decode cX8_nearer 0 = .ok (.iload_n 0, 1) := bd02_13.1.1.1
theorem dX8_nearer_1 : decode cX8_nearer 1 = .ok (.iload_n 1, 1) := bd02_13.1.1.2
theorem dX8_nearer_2 : decode cX8_nearer 2 = .ok (.iload_n 0, 1) := bd02_13.1.2.1
theorem dX8_nearer_3 : decode cX8_nearer 3 = .ok (.invokestatic 84, 3) := bd02_13.1.2.2
theorem dX8_nearer_6 : decode cX8_nearer 6 = .ok (.iadd, 1) := bd02_13.2.1.1
theorem dX8_nearer_7 : decode cX8_nearer 7 = .ok (.ireturn, 1) := bd02_13.2.1.2
theorem dX8_growLike_0 : decode cX8_growLike 0 = .ok (.iload_n 1, 1) := bd02_13.2.2.1
theorem dX8_growLike_1 : decode cX8_growLike 1 = .ok (.invokestatic 52, 3) := bd02_13.2.2.2
theorem bd02_14 : (((decode cX8_growLike 4 = .ok (.istore_n 3, 1) ∧ decode cX8_growLike 5 = .ok (.aload_n 0, 1)) ∧ (decode cX8_growLike 6 = .ok (.iload_n 3, 1) ∧ decode cX8_growLike 7 = .ok (.aload_n 0, 1))) ∧ ((decode cX8_growLike 8 = .ok (.getfield 9, 3) ∧ decode cX8_growLike 11 = .ok (.iload_n 3, 1)) ∧ (decode cX8_growLike 12 = .ok (.iaload, 1) ∧ decode cX8_growLike 13 = .ok (.aload_n 0, 1)))) ∧ (((decode cX8_growLike 14 = .ok (.getfield 9, 3) ∧ decode cX8_growLike 17 = .ok (.iload_n 2, 1)) ∧ (decode cX8_growLike 18 = .ok (.iaload, 1) ∧ decode cX8_growLike 19 = .ok (.invokestatic 87, 3))) ∧ ((decode cX8_growLike 22 = .ok (.aload_n 0, 1) ∧ decode cX8_growLike 23 = .ok (.getfield 15, 3)) ∧ (decode cX8_growLike 26 = .ok (.iload_n 3, 1) ∧ decode cX8_growLike 27 = .ok (.iaload, 1)))) := by decide +kernel
theorem dX8_growLike_4 : decode cX8_growLike 4 = .ok (.istore_n 3, 1) := bd02_14.1.1.1.1
theorem dX8_growLike_5 : decode cX8_growLike 5 = .ok (.aload_n 0, 1) := bd02_14.1.1.1.2
theorem dX8_growLike_6 : decode cX8_growLike 6 = .ok (.iload_n 3, 1) := bd02_14.1.1.2.1
theorem dX8_growLike_7 : decode cX8_growLike 7 = .ok (.aload_n 0, 1) := bd02_14.1.1.2.2
theorem dX8_growLike_8 : decode cX8_growLike 8 = .ok (.getfield 9, 3) := bd02_14.1.2.1.1
theorem dX8_growLike_11 : decode cX8_growLike 11 = .ok (.iload_n 3, 1) := bd02_14.1.2.1.2
theorem dX8_growLike_12 : decode cX8_growLike 12 = .ok (.iaload, 1) := bd02_14.1.2.2.1
theorem dX8_growLike_13 : decode cX8_growLike 13 = .ok (.aload_n 0, 1) := bd02_14.1.2.2.2
theorem dX8_growLike_14 : decode cX8_growLike 14 = .ok (.getfield 9, 3) := bd02_14.2.1.1.1
theorem dX8_growLike_17 : decode cX8_growLike 17 = .ok (.iload_n 2, 1) := bd02_14.2.1.1.2
theorem dX8_growLike_18 : decode cX8_growLike 18 = .ok (.iaload, 1) := bd02_14.2.1.2.1
theorem dX8_growLike_19 : decode cX8_growLike 19 = .ok (.invokestatic 87, 3) := bd02_14.2.1.2.2
theorem dX8_growLike_22 : decode cX8_growLike 22 = .ok (.aload_n 0, 1) := bd02_14.2.2.1.1
theorem dX8_growLike_23 : decode cX8_growLike 23 = .ok (.getfield 15, 3) := bd02_14.2.2.1.2
theorem dX8_growLike_26 : decode cX8_growLike 26 = .ok (.iload_n 3, 1) := bd02_14.2.2.2.1
theorem dX8_growLike_27 : decode cX8_growLike 27 = .ok (.iaload, 1) := bd02_14.2.2.2.2
theorem bd02_15 : ((decode cX8_growLike 28 = .ok (.aload_n 0, 1) ∧ decode cX8_growLike 29 = .ok (.getfield 15, 3)) ∧ (decode cX8_growLike 32 = .ok (.iload_n 2, 1) ∧ decode cX8_growLike 33 = .ok (.iaload, 1))) ∧ ((decode cX8_growLike 34 = .ok (.invokestatic 87, 3) ∧ decode cX8_growLike 37 = .ok (.invokevirtual 77, 3)) ∧ (decode cX8_growLike 40 = .ok (.return_, 1) ∧ decode cX9_init 0 = .ok (.aload_n 0, 1))) := by decide +kernel
theorem dX8_growLike_28 : decode cX8_growLike 28 = .ok (.aload_n 0, 1) := bd02_15.1.1.1
theorem dX8_growLike_29 : decode cX8_growLike 29 = .ok (.getfield 15, 3) := bd02_15.1.1.2
theorem dX8_growLike_32 : decode cX8_growLike 32 = .ok (.iload_n 2, 1) := bd02_15.1.2.1
theorem dX8_growLike_33 : decode cX8_growLike 33 = .ok (.iaload, 1) := bd02_15.1.2.2
theorem dX8_growLike_34 : decode cX8_growLike 34 = .ok (.invokestatic 87, 3) := bd02_15.2.1.1
theorem dX8_growLike_37 : decode cX8_growLike 37 = .ok (.invokevirtual 77, 3) := bd02_15.2.1.2
theorem dX8_growLike_40 : decode cX8_growLike 40 = .ok (.return_, 1) := bd02_15.2.2.1
theorem dX9_init_0 : decode cX9_init 0 = .ok (.aload_n 0, 1) := bd02_15.2.2.2
theorem bd02_16 : (((decode cX9_init 1 = .ok (.invokespecial 3, 3) ∧ decode cX9_init 4 = .ok (.aload_n 0, 1)) ∧ (decode cX9_init 5 = .ok (.new 9, 3) ∧ decode cX9_init 8 = .ok (.dup, 1))) ∧ ((decode cX9_init 9 = .ok (.invokespecial 11, 3) ∧ decode cX9_init 12 = .ok (.putfield 12, 3)) ∧ (decode cX9_init 15 = .ok (.aload_n 0, 1) ∧ decode cX9_init 16 = .ok (.bipush 7, 2)))) ∧ (((decode cX9_init 18 = .ok (.newarray .int, 2) ∧ decode cX9_init 20 = .ok (.putfield 20, 3)) ∧ (decode cX9_init 23 = .ok (.aload_n 0, 1) ∧ decode cX9_init 24 = .ok (.bipush 32, 2))) ∧ ((decode cX9_init 26 = .ok (.newarray .int, 2) ∧ decode cX9_init 28 = .ok (.putfield 24, 3)) ∧ (decode cX9_init 31 = .ok (.aload_n 0, 1) ∧ decode cX9_init 32 = .ok (.aload_n 1, 1)))) := by decide +kernel
theorem dX9_init_1 : decode cX9_init 1 = .ok (.invokespecial 3, 3) := bd02_16.1.1.1.1
theorem dX9_init_4 : decode cX9_init 4 = .ok (.aload_n 0, 1) := bd02_16.1.1.1.2
theorem dX9_init_5 : decode cX9_init 5 = .ok (.new 9, 3) := bd02_16.1.1.2.1
theorem dX9_init_8 : decode cX9_init 8 = .ok (.dup, 1) := bd02_16.1.1.2.2
theorem dX9_init_9 : decode cX9_init 9 = .ok (.invokespecial 11, 3) := bd02_16.1.2.1.1
theorem dX9_init_12 : decode cX9_init 12 = .ok (.putfield 12, 3) := bd02_16.1.2.1.2
theorem dX9_init_15 : decode cX9_init 15 = .ok (.aload_n 0, 1) := bd02_16.1.2.2.1
theorem dX9_init_16 : decode cX9_init 16 = .ok (.bipush 7, 2) := bd02_16.1.2.2.2
theorem dX9_init_18 : decode cX9_init 18 = .ok (.newarray .int, 2) := bd02_16.2.1.1.1
theorem dX9_init_20 : decode cX9_init 20 = .ok (.putfield 20, 3) := bd02_16.2.1.1.2
theorem dX9_init_23 : decode cX9_init 23 = .ok (.aload_n 0, 1) := bd02_16.2.1.2.1
theorem dX9_init_24 : decode cX9_init 24 = .ok (.bipush 32, 2) := bd02_16.2.1.2.2
theorem dX9_init_26 : decode cX9_init 26 = .ok (.newarray .int, 2) := bd02_16.2.2.1.1
theorem dX9_init_28 : decode cX9_init 28 = .ok (.putfield 24, 3) := bd02_16.2.2.1.2
theorem dX9_init_31 : decode cX9_init 31 = .ok (.aload_n 0, 1) := bd02_16.2.2.2.1
theorem dX9_init_32 : decode cX9_init 32 = .ok (.aload_n 1, 1) := bd02_16.2.2.2.2
theorem bd02_17 : ((decode cX9_init 33 = .ok (.putfield 27, 3) ∧ decode cX9_init 36 = .ok (.return_, 1)) ∧ (decode cX9_begin 0 = .ok (.aload_n 0, 1) ∧ decode cX9_begin 1 = .ok (.getfield 12, 3))) ∧ ((decode cX9_begin 4 = .ok (.aload_n 1, 1) ∧ decode cX9_begin 5 = .ok (.invokevirtual 31, 3)) ∧ (decode cX9_begin 8 = .ok (.aload_n 0, 1) ∧ decode cX9_begin 9 = .ok (.iconst 0, 1))) := by decide +kernel
theorem dX9_init_33 : decode cX9_init 33 = .ok (.putfield 27, 3) := bd02_17.1.1.1
theorem dX9_init_36 : decode cX9_init 36 = .ok (.return_, 1) := bd02_17.1.1.2
theorem dX9_begin_0 : decode cX9_begin 0 = .ok (.aload_n 0, 1) := bd02_17.1.2.1
theorem dX9_begin_1 : decode cX9_begin 1 = .ok (.getfield 12, 3) := bd02_17.1.2.2
theorem dX9_begin_4 : decode cX9_begin 4 = .ok (.aload_n 1, 1) := bd02_17.2.1.1
theorem dX9_begin_5 : decode cX9_begin 5 = .ok (.invokevirtual 31, 3) := bd02_17.2.1.2
theorem dX9_begin_8 : decode cX9_begin 8 = .ok (.aload_n 0, 1) := bd02_17.2.2.1
theorem dX9_begin_9 : decode cX9_begin 9 = .ok (.iconst 0, 1) := bd02_17.2.2.2
theorem bd02_18 : ((decode cX9_begin 10 = .ok (.putfield 35, 3) ∧ decode cX9_begin 13 = .ok (.return_, 1)) ∧ (decode cX9_passYears 0 = .ok (.iconst 0, 1) ∧ decode cX9_passYears 1 = .ok (.istore_n 2, 1))) ∧ ((decode cX9_passYears 2 = .ok (.iload_n 2, 1) ∧ decode cX9_passYears 3 = .ok (.iload_n 1, 1)) ∧ (decode cX9_passYears 4 = .ok (.if_icmp .ge 27, 3) ∧ decode cX9_passYears 7 = .ok (.aload_n 0, 1))) := by decide +kernel
theorem dX9_begin_10 : decode cX9_begin 10 = .ok (.putfield 35, 3) := bd02_18.1.1.1
theorem dX9_begin_13 : decode cX9_begin 13 = .ok (.return_, 1) := bd02_18.1.1.2
theorem dX9_passYears_0 : decode cX9_passYears 0 = .ok (.iconst 0, 1) := bd02_18.1.2.1
theorem dX9_passYears_1 : decode cX9_passYears 1 = .ok (.istore_n 2, 1) := bd02_18.1.2.2
theorem dX9_passYears_2 : decode cX9_passYears 2 = .ok (.iload_n 2, 1) := bd02_18.2.1.1
theorem dX9_passYears_3 : decode cX9_passYears 3 = .ok (.iload_n 1, 1) := bd02_18.2.1.2
theorem dX9_passYears_4 : decode cX9_passYears 4 = .ok (.if_icmp .ge 27, 3) := bd02_18.2.2.1
theorem dX9_passYears_7 : decode cX9_passYears 7 = .ok (.aload_n 0, 1) := bd02_18.2.2.2
theorem bd02_19 : (((decode cX9_passYears 8 = .ok (.aload_n 0, 1) ∧ decode cX9_passYears 9 = .ok (.getfield 27, 3)) ∧ (decode cX9_passYears 12 = .ok (.aload_n 0, 1))) ∧ (decode cX9_passYears 13 = .ok (.getfield 12, 3) ∧ decode cX9_passYears 16 = .ok (.getfield 39, 3))) ∧ (((decode cX9_passYears 19 = .ok (.invokevirtual 42, 3) ∧ decode cX9_passYears 22 = .ok (.invokevirtual 48, 3)) ∧ (decode cX9_passYears 25 = .ok (.iinc 2 1, 3))) ∧ (decode cX9_passYears 28 = .ok (.goto (-26), 3) ∧ decode cX9_passYears 31 = .ok (.return_, 1))) := by decide +kernel
theorem dX9_passYears_8 : decode cX9_passYears 8 = .ok (.aload_n 0, 1) := bd02_19.1.1.1.1
theorem dX9_passYears_9 : decode cX9_passYears 9 = .ok (.getfield 27, 3) := bd02_19.1.1.1.2
theorem dX9_passYears_12 : decode cX9_passYears 12 = .ok (.aload_n 0, 1) := bd02_19.1.1.2
theorem dX9_passYears_13 : decode cX9_passYears 13 = .ok (.getfield 12, 3) := bd02_19.1.2.1
theorem dX9_passYears_16 : decode cX9_passYears 16 = .ok (.getfield 39, 3) := bd02_19.1.2.2
theorem dX9_passYears_19 : decode cX9_passYears 19 = .ok (.invokevirtual 42, 3) := bd02_19.2.1.1.1
theorem dX9_passYears_22 : decode cX9_passYears 22 = .ok (.invokevirtual 48, 3) := bd02_19.2.1.1.2
theorem dX9_passYears_25 : decode cX9_passYears 25 = .ok (.iinc 2 1, 3) := bd02_19.2.1.2
theorem dX9_passYears_28 : decode cX9_passYears 28 = .ok (.goto (-26), 3) := bd02_19.2.2.1
theorem dX9_passYears_31 : decode cX9_passYears 31 = .ok (.return_, 1) := bd02_19.2.2.2
theorem bd02_20 : (((decode cX9_passYear 0 = .ok (.aload_n 0, 1) ∧ decode cX9_passYear 1 = .ok (.getfield 20, 3)) ∧ (decode cX9_passYear 4 = .ok (.iconst 3, 1) ∧ decode cX9_passYear 5 = .ok (.aload_n 0, 1))) ∧ ((decode cX9_passYear 6 = .ok (.getfield 12, 3) ∧ decode cX9_passYear 9 = .ok (.getfield 39, 3)) ∧ (decode cX9_passYear 12 = .ok (.iastore, 1) ∧ decode cX9_passYear 13 = .ok (.aload_n 0, 1)))) ∧ (((decode cX9_passYear 14 = .ok (.getfield 20, 3) ∧ decode cX9_passYear 17 = .ok (.iconst 0, 1)) ∧ (decode cX9_passYear 18 = .ok (.iload_n 1, 1) ∧ decode cX9_passYear 19 = .ok (.iastore, 1))) ∧ ((decode cX9_passYear 20 = .ok (.aload_n 0, 1) ∧ decode cX9_passYear 21 = .ok (.iload_n 1, 1)) ∧ (decode cX9_passYear 22 = .ok (.invokevirtual 52, 3) ∧ decode cX9_passYear 25 = .ok (.aload_n 0, 1)))) := by decide +kernel
theorem dX9_passYear_0 : decode cX9_passYear 0 = .ok (.aload_n 0, 1) := bd02_20.1.1.1.1
theorem dX9_passYear_1 : decode cX9_passYear 1 = .ok (.getfield 20, 3) := bd02_20.1.1.1.2
theorem dX9_passYear_4 : decode cX9_passYear 4 = .ok (.iconst 3, 1) := bd02_20.1.1.2.1
theorem dX9_passYear_5 : decode cX9_passYear 5 = .ok (.aload_n 0, 1) := bd02_20.1.1.2.2
theorem dX9_passYear_6 : decode cX9_passYear 6 = .ok (.getfield 12, 3) := bd02_20.1.2.1.1
theorem dX9_passYear_9 : decode cX9_passYear 9 = .ok (.getfield 39, 3) := bd02_20.1.2.1.2
theorem dX9_passYear_12 : decode cX9_passYear 12 = .ok (.iastore, 1) := bd02_20.1.2.2.1
theorem dX9_passYear_13 : decode cX9_passYear 13 = .ok (.aload_n 0, 1) := bd02_20.1.2.2.2
theorem dX9_passYear_14 : decode cX9_passYear 14 = .ok (.getfield 20, 3) := bd02_20.2.1.1.1
theorem dX9_passYear_17 : decode cX9_passYear 17 = .ok (.iconst 0, 1) := bd02_20.2.1.1.2
theorem dX9_passYear_18 : decode cX9_passYear 18 = .ok (.iload_n 1, 1) := bd02_20.2.1.2.1
theorem dX9_passYear_19 : decode cX9_passYear 19 = .ok (.iastore, 1) := bd02_20.2.1.2.2
theorem dX9_passYear_20 : decode cX9_passYear 20 = .ok (.aload_n 0, 1) := bd02_20.2.2.1.1
theorem dX9_passYear_21 : decode cX9_passYear 21 = .ok (.iload_n 1, 1) := bd02_20.2.2.1.2
theorem dX9_passYear_22 : decode cX9_passYear 22 = .ok (.invokevirtual 52, 3) := bd02_20.2.2.2.1
theorem dX9_passYear_25 : decode cX9_passYear 25 = .ok (.aload_n 0, 1) := bd02_20.2.2.2.2
theorem bd02_21 : (((decode cX9_passYear 26 = .ok (.invokevirtual 55, 3) ∧ decode cX9_passYear 29 = .ok (.aload_n 0, 1)) ∧ (decode cX9_passYear 30 = .ok (.invokevirtual 58, 3))) ∧ ((decode cX9_passYear 33 = .ok (.aload_n 0, 1) ∧ decode cX9_passYear 34 = .ok (.getfield 12, 3)) ∧ (decode cX9_passYear 37 = .ok (.dup, 1)))) ∧ (((decode cX9_passYear 38 = .ok (.getfield 39, 3) ∧ decode cX9_passYear 41 = .ok (.iconst 1, 1)) ∧ (decode cX9_passYear 42 = .ok (.iadd, 1))) ∧ (decode cX9_passYear 43 = .ok (.putfield 39, 3) ∧ decode cX9_passYear 46 = .ok (.return_, 1))) := by decide +kernel
theorem dX9_passYear_26 : decode cX9_passYear 26 = .ok (.invokevirtual 55, 3) := bd02_21.1.1.1.1
theorem dX9_passYear_29 : decode cX9_passYear 29 = .ok (.aload_n 0, 1) := bd02_21.1.1.1.2
theorem dX9_passYear_30 : decode cX9_passYear 30 = .ok (.invokevirtual 58, 3) := bd02_21.1.1.2
theorem dX9_passYear_33 : decode cX9_passYear 33 = .ok (.aload_n 0, 1) := bd02_21.1.2.1.1
theorem dX9_passYear_34 : decode cX9_passYear 34 = .ok (.getfield 12, 3) := bd02_21.1.2.1.2
theorem dX9_passYear_37 : decode cX9_passYear 37 = .ok (.dup, 1) := bd02_21.1.2.2
theorem dX9_passYear_38 : decode cX9_passYear 38 = .ok (.getfield 39, 3) := bd02_21.2.1.1.1
theorem dX9_passYear_41 : decode cX9_passYear 41 = .ok (.iconst 1, 1) := bd02_21.2.1.1.2
theorem dX9_passYear_42 : decode cX9_passYear 42 = .ok (.iadd, 1) := bd02_21.2.1.2
theorem dX9_passYear_43 : decode cX9_passYear 43 = .ok (.putfield 39, 3) := bd02_21.2.2.1
theorem dX9_passYear_46 : decode cX9_passYear 46 = .ok (.return_, 1) := bd02_21.2.2.2
theorem bd02_22 : (((decode cX9_passYearByDice 0 = .ok (.aload_n 0, 1) ∧ decode cX9_passYearByDice 1 = .ok (.getfield 27, 3)) ∧ (decode cX9_passYearByDice 4 = .ok (.aload_n 0, 1) ∧ decode cX9_passYearByDice 5 = .ok (.getfield 12, 3))) ∧ ((decode cX9_passYearByDice 8 = .ok (.getfield 39, 3) ∧ decode cX9_passYearByDice 11 = .ok (.invokevirtual 42, 3)) ∧ (decode cX9_passYearByDice 14 = .ok (.istore_n 2, 1) ∧ decode cX9_passYearByDice 15 = .ok (.aload_n 1, 1)))) ∧ (((decode cX9_passYearByDice 16 = .ok (.bipush 6, 2) ∧ decode cX9_passYearByDice 18 = .ok (.invokevirtual 61, 3)) ∧ (decode cX9_passYearByDice 21 = .ok (.istore_n 3, 1) ∧ decode cX9_passYearByDice 22 = .ok (.iload_n 3, 1))) ∧ ((decode cX9_passYearByDice 23 = .ok (.ifCond .ne 34, 3) ∧ decode cX9_passYearByDice 26 = .ok (.aload_n 0, 1)) ∧ (decode cX9_passYearByDice 27 = .ok (.getfield 12, 3) ∧ decode cX9_passYearByDice 30 = .ok (.getfield 66, 3)))) := by decide +kernel
theorem dX9_passYearByDice_0 : decode cX9_passYearByDice 0 = .ok (.aload_n 0, 1) := bd02_22.1.1.1.1
theorem dX9_passYearByDice_1 : decode cX9_passYearByDice 1 = .ok (.getfield 27, 3) := bd02_22.1.1.1.2
theorem dX9_passYearByDice_4 : decode cX9_passYearByDice 4 = .ok (.aload_n 0, 1) := bd02_22.1.1.2.1
theorem dX9_passYearByDice_5 : decode cX9_passYearByDice 5 = .ok (.getfield 12, 3) := bd02_22.1.1.2.2
theorem dX9_passYearByDice_8 : decode cX9_passYearByDice 8 = .ok (.getfield 39, 3) := bd02_22.1.2.1.1
theorem dX9_passYearByDice_11 : decode cX9_passYearByDice 11 = .ok (.invokevirtual 42, 3) := bd02_22.1.2.1.2
theorem dX9_passYearByDice_14 : decode cX9_passYearByDice 14 = .ok (.istore_n 2, 1) := bd02_22.1.2.2.1
theorem dX9_passYearByDice_15 : decode cX9_passYearByDice 15 = .ok (.aload_n 1, 1) := bd02_22.1.2.2.2
theorem dX9_passYearByDice_16 : decode cX9_passYearByDice 16 = .ok (.bipush 6, 2) := bd02_22.2.1.1.1
theorem dX9_passYearByDice_18 : decode cX9_passYearByDice 18 = .ok (.invokevirtual 61, 3) := bd02_22.2.1.1.2
theorem dX9_passYearByDice_21 : decode cX9_passYearByDice 21 = .ok (.istore_n 3, 1) := bd02_22.2.1.2.1
theorem dX9_passYearByDice_22 : decode cX9_passYearByDice 22 = .ok (.iload_n 3, 1) := bd02_22.2.1.2.2
theorem dX9_passYearByDice_23 : decode cX9_passYearByDice 23 = .ok (.ifCond .ne 34, 3) := bd02_22.2.2.1.1
theorem dX9_passYearByDice_26 : decode cX9_passYearByDice 26 = .ok (.aload_n 0, 1) := bd02_22.2.2.1.2
theorem dX9_passYearByDice_27 : decode cX9_passYearByDice 27 = .ok (.getfield 12, 3) := bd02_22.2.2.2.1
theorem dX9_passYearByDice_30 : decode cX9_passYearByDice 30 = .ok (.getfield 66, 3) := bd02_22.2.2.2.2
theorem bd02_23 : (((decode cX9_passYearByDice 33 = .ok (.ifCond .le 24, 3) ∧ decode cX9_passYearByDice 36 = .ok (.aload_n 0, 1)) ∧ (decode cX9_passYearByDice 37 = .ok (.getfield 12, 3) ∧ decode cX9_passYearByDice 40 = .ok (.aload_n 1, 1))) ∧ ((decode cX9_passYearByDice 41 = .ok (.aload_n 0, 1) ∧ decode cX9_passYearByDice 42 = .ok (.getfield 12, 3)) ∧ (decode cX9_passYearByDice 45 = .ok (.getfield 66, 3) ∧ decode cX9_passYearByDice 48 = .ok (.invokevirtual 61, 3)))) ∧ (((decode cX9_passYearByDice 51 = .ok (.invokevirtual 69, 3) ∧ decode cX9_passYearByDice 54 = .ok (.goto 53, 3)) ∧ (decode cX9_passYearByDice 57 = .ok (.iload_n 3, 1) ∧ decode cX9_passYearByDice 58 = .ok (.iconst 1, 1))) ∧ ((decode cX9_passYearByDice 59 = .ok (.if_icmp .ne 36, 3) ∧ decode cX9_passYearByDice 62 = .ok (.aload_n 0, 1)) ∧ (decode cX9_passYearByDice 63 = .ok (.getfield 12, 3) ∧ decode cX9_passYearByDice 66 = .ok (.getfield 72, 3)))) := by decide +kernel
theorem dX9_passYearByDice_33 : decode cX9_passYearByDice 33 = .ok (.ifCond .le 24, 3) := bd02_23.1.1.1.1
theorem dX9_passYearByDice_36 : decode cX9_passYearByDice 36 = .ok (.aload_n 0, 1) := bd02_23.1.1.1.2
theorem dX9_passYearByDice_37 : decode cX9_passYearByDice 37 = .ok (.getfield 12, 3) := bd02_23.1.1.2.1
theorem dX9_passYearByDice_40 : decode cX9_passYearByDice 40 = .ok (.aload_n 1, 1) := bd02_23.1.1.2.2
theorem dX9_passYearByDice_41 : decode cX9_passYearByDice 41 = .ok (.aload_n 0, 1) := bd02_23.1.2.1.1
theorem dX9_passYearByDice_42 : decode cX9_passYearByDice 42 = .ok (.getfield 12, 3) := bd02_23.1.2.1.2
theorem dX9_passYearByDice_45 : decode cX9_passYearByDice 45 = .ok (.getfield 66, 3) := bd02_23.1.2.2.1
theorem dX9_passYearByDice_48 : decode cX9_passYearByDice 48 = .ok (.invokevirtual 61, 3) := bd02_23.1.2.2.2
theorem dX9_passYearByDice_51 : decode cX9_passYearByDice 51 = .ok (.invokevirtual 69, 3) := bd02_23.2.1.1.1
theorem dX9_passYearByDice_54 : decode cX9_passYearByDice 54 = .ok (.goto 53, 3) := bd02_23.2.1.1.2
theorem dX9_passYearByDice_57 : decode cX9_passYearByDice 57 = .ok (.iload_n 3, 1) := bd02_23.2.1.2.1
theorem dX9_passYearByDice_58 : decode cX9_passYearByDice 58 = .ok (.iconst 1, 1) := bd02_23.2.1.2.2
theorem dX9_passYearByDice_59 : decode cX9_passYearByDice 59 = .ok (.if_icmp .ne 36, 3) := bd02_23.2.2.1.1
theorem dX9_passYearByDice_62 : decode cX9_passYearByDice 62 = .ok (.aload_n 0, 1) := bd02_23.2.2.1.2
theorem dX9_passYearByDice_63 : decode cX9_passYearByDice 63 = .ok (.getfield 12, 3) := bd02_23.2.2.2.1
theorem dX9_passYearByDice_66 : decode cX9_passYearByDice 66 = .ok (.getfield 72, 3) := bd02_23.2.2.2.2
theorem bd02_24 : (((decode cX9_passYearByDice 69 = .ok (.ifCond .le 26, 3) ∧ decode cX9_passYearByDice 72 = .ok (.aload_n 0, 1)) ∧ (decode cX9_passYearByDice 73 = .ok (.getfield 12, 3) ∧ decode cX9_passYearByDice 76 = .ok (.getfield 75, 3))) ∧ ((decode cX9_passYearByDice 79 = .ok (.aload_n 1, 1) ∧ decode cX9_passYearByDice 80 = .ok (.aload_n 0, 1)) ∧ (decode cX9_passYearByDice 81 = .ok (.getfield 12, 3) ∧ decode cX9_passYearByDice 84 = .ok (.getfield 72, 3)))) ∧ (((decode cX9_passYearByDice 87 = .ok (.invokevirtual 61, 3) ∧ decode cX9_passYearByDice 90 = .ok (.iconst (-1), 1)) ∧ (decode cX9_passYearByDice 91 = .ok (.iastore, 1) ∧ decode cX9_passYearByDice 92 = .ok (.goto 15, 3))) ∧ ((decode cX9_passYearByDice 95 = .ok (.iload_n 3, 1) ∧ decode cX9_passYearByDice 96 = .ok (.iconst 2, 1)) ∧ (decode cX9_passYearByDice 97 = .ok (.if_icmp .ne 10, 3) ∧ decode cX9_passYearByDice 100 = .ok (.aload_n 1, 1)))) := by decide +kernel
theorem dX9_passYearByDice_69 : decode cX9_passYearByDice 69 = .ok (.ifCond .le 26, 3) := bd02_24.1.1.1.1
theorem dX9_passYearByDice_72 : decode cX9_passYearByDice 72 = .ok (.aload_n 0, 1) := bd02_24.1.1.1.2
theorem dX9_passYearByDice_73 : decode cX9_passYearByDice 73 = .ok (.getfield 12, 3) := bd02_24.1.1.2.1
theorem dX9_passYearByDice_76 : decode cX9_passYearByDice 76 = .ok (.getfield 75, 3) := bd02_24.1.1.2.2
theorem dX9_passYearByDice_79 : decode cX9_passYearByDice 79 = .ok (.aload_n 1, 1) := bd02_24.1.2.1.1
theorem dX9_passYearByDice_80 : decode cX9_passYearByDice 80 = .ok (.aload_n 0, 1) := bd02_24.1.2.1.2
theorem dX9_passYearByDice_81 : decode cX9_passYearByDice 81 = .ok (.getfield 12, 3) := bd02_24.1.2.2.1
theorem dX9_passYearByDice_84 : decode cX9_passYearByDice 84 = .ok (.getfield 72, 3) := bd02_24.1.2.2.2
theorem dX9_passYearByDice_87 : decode cX9_passYearByDice 87 = .ok (.invokevirtual 61, 3) := bd02_24.2.1.1.1
theorem dX9_passYearByDice_90 : decode cX9_passYearByDice 90 = .ok (.iconst (-1), 1) := bd02_24.2.1.1.2
theorem dX9_passYearByDice_91 : decode cX9_passYearByDice 91 = .ok (.iastore, 1) := bd02_24.2.1.2.1
theorem dX9_passYearByDice_92 : decode cX9_passYearByDice 92 = .ok (.goto 15, 3) := bd02_24.2.1.2.2
theorem dX9_passYearByDice_95 : decode cX9_passYearByDice 95 = .ok (.iload_n 3, 1) := bd02_24.2.2.1.1
theorem dX9_passYearByDice_96 : decode cX9_passYearByDice 96 = .ok (.iconst 2, 1) := bd02_24.2.2.1.2
theorem dX9_passYearByDice_97 : decode cX9_passYearByDice 97 = .ok (.if_icmp .ne 10, 3) := bd02_24.2.2.2.1
theorem dX9_passYearByDice_100 : decode cX9_passYearByDice 100 = .ok (.aload_n 1, 1) := bd02_24.2.2.2.2
theorem bd02_25 : ((decode cX9_passYearByDice 101 = .ok (.bipush 10, 2) ∧ decode cX9_passYearByDice 103 = .ok (.invokevirtual 61, 3)) ∧ (decode cX9_passYearByDice 106 = .ok (.istore_n 2, 1) ∧ decode cX9_passYearByDice 107 = .ok (.aload_n 0, 1))) ∧ ((decode cX9_passYearByDice 108 = .ok (.iload_n 2, 1) ∧ decode cX9_passYearByDice 109 = .ok (.invokevirtual 48, 3)) ∧ (decode cX9_passYearByDice 112 = .ok (.return_, 1) ∧ decode cX9_yearsToLoaf 0 = .ok (.iconst 0, 1))) := by decide +kernel
theorem dX9_passYearByDice_101 : decode cX9_passYearByDice 101 = .ok (.bipush 10, 2) := bd02_25.1.1.1
theorem dX9_passYearByDice_103 : decode cX9_passYearByDice 103 = .ok (.invokevirtual 61, 3) := bd02_25.1.1.2
theorem dX9_passYearByDice_106 : decode cX9_passYearByDice 106 = .ok (.istore_n 2, 1) := bd02_25.1.2.1
theorem dX9_passYearByDice_107 : decode cX9_passYearByDice 107 = .ok (.aload_n 0, 1) := bd02_25.1.2.2
theorem dX9_passYearByDice_108 : decode cX9_passYearByDice 108 = .ok (.iload_n 2, 1) := bd02_25.2.1.1
theorem dX9_passYearByDice_109 : decode cX9_passYearByDice 109 = .ok (.invokevirtual 48, 3) := bd02_25.2.1.2
theorem dX9_passYearByDice_112 : decode cX9_passYearByDice 112 = .ok (.return_, 1) := bd02_25.2.2.1
theorem dX9_yearsToLoaf_0 : decode cX9_yearsToLoaf 0 = .ok (.iconst 0, 1) := bd02_25.2.2.2
theorem bd02_26 : (((decode cX9_yearsToLoaf 1 = .ok (.istore_n 2, 1) ∧ decode cX9_yearsToLoaf 2 = .ok (.iload_n 2, 1)) ∧ (decode cX9_yearsToLoaf 3 = .ok (.bipush 60, 2) ∧ decode cX9_yearsToLoaf 5 = .ok (.if_icmp .gt 41, 3))) ∧ ((decode cX9_yearsToLoaf 8 = .ok (.aload_n 0, 1) ∧ decode cX9_yearsToLoaf 9 = .ok (.getfield 12, 3)) ∧ (decode cX9_yearsToLoaf 12 = .ok (.getfield 78, 3) ∧ decode cX9_yearsToLoaf 15 = .ok (.iload_n 1, 1)))) ∧ (((decode cX9_yearsToLoaf 16 = .ok (.iaload, 1) ∧ decode cX9_yearsToLoaf 17 = .ok (.ifCond .ne 5, 3)) ∧ (decode cX9_yearsToLoaf 20 = .ok (.iload_n 2, 1) ∧ decode cX9_yearsToLoaf 21 = .ok (.ireturn, 1))) ∧ ((decode cX9_yearsToLoaf 22 = .ok (.aload_n 0, 1) ∧ decode cX9_yearsToLoaf 23 = .ok (.aload_n 0, 1)) ∧ (decode cX9_yearsToLoaf 24 = .ok (.getfield 27, 3) ∧ decode cX9_yearsToLoaf 27 = .ok (.aload_n 0, 1)))) := by decide +kernel
theorem dX9_yearsToLoaf_1 : decode cX9_yearsToLoaf 1 = .ok (.istore_n 2, 1) := bd02_26.1.1.1.1
theorem dX9_yearsToLoaf_2 : decode cX9_yearsToLoaf 2 = .ok (.iload_n 2, 1) := bd02_26.1.1.1.2
theorem dX9_yearsToLoaf_3 : decode cX9_yearsToLoaf 3 = .ok (.bipush 60, 2) := bd02_26.1.1.2.1
theorem dX9_yearsToLoaf_5 : decode cX9_yearsToLoaf 5 = .ok (.if_icmp .gt 41, 3) := bd02_26.1.1.2.2
theorem dX9_yearsToLoaf_8 : decode cX9_yearsToLoaf 8 = .ok (.aload_n 0, 1) := bd02_26.1.2.1.1
theorem dX9_yearsToLoaf_9 : decode cX9_yearsToLoaf 9 = .ok (.getfield 12, 3) := bd02_26.1.2.1.2
theorem dX9_yearsToLoaf_12 : decode cX9_yearsToLoaf 12 = .ok (.getfield 78, 3) := bd02_26.1.2.2.1
theorem dX9_yearsToLoaf_15 : decode cX9_yearsToLoaf 15 = .ok (.iload_n 1, 1) := bd02_26.1.2.2.2
theorem dX9_yearsToLoaf_16 : decode cX9_yearsToLoaf 16 = .ok (.iaload, 1) := bd02_26.2.1.1.1
theorem dX9_yearsToLoaf_17 : decode cX9_yearsToLoaf 17 = .ok (.ifCond .ne 5, 3) := bd02_26.2.1.1.2
theorem dX9_yearsToLoaf_20 : decode cX9_yearsToLoaf 20 = .ok (.iload_n 2, 1) := bd02_26.2.1.2.1
theorem dX9_yearsToLoaf_21 : decode cX9_yearsToLoaf 21 = .ok (.ireturn, 1) := bd02_26.2.1.2.2
theorem dX9_yearsToLoaf_22 : decode cX9_yearsToLoaf 22 = .ok (.aload_n 0, 1) := bd02_26.2.2.1.1
theorem dX9_yearsToLoaf_23 : decode cX9_yearsToLoaf 23 = .ok (.aload_n 0, 1) := bd02_26.2.2.1.2
theorem dX9_yearsToLoaf_24 : decode cX9_yearsToLoaf 24 = .ok (.getfield 27, 3) := bd02_26.2.2.2.1
theorem dX9_yearsToLoaf_27 : decode cX9_yearsToLoaf 27 = .ok (.aload_n 0, 1) := bd02_26.2.2.2.2
theorem bd02_27 : ((decode cX9_yearsToLoaf 28 = .ok (.getfield 12, 3) ∧ decode cX9_yearsToLoaf 31 = .ok (.getfield 39, 3)) ∧ (decode cX9_yearsToLoaf 34 = .ok (.invokevirtual 42, 3) ∧ decode cX9_yearsToLoaf 37 = .ok (.invokevirtual 48, 3))) ∧ ((decode cX9_yearsToLoaf 40 = .ok (.iinc 2 1, 3) ∧ decode cX9_yearsToLoaf 43 = .ok (.goto (-41), 3)) ∧ (decode cX9_yearsToLoaf 46 = .ok (.iconst (-1), 1) ∧ decode cX9_yearsToLoaf 47 = .ok (.ireturn, 1))) := by decide +kernel
theorem dX9_yearsToLoaf_28 : decode cX9_yearsToLoaf 28 = .ok (.getfield 12, 3) := bd02_27.1.1.1
theorem dX9_yearsToLoaf_31 : decode cX9_yearsToLoaf 31 = .ok (.getfield 39, 3) := bd02_27.1.1.2
theorem dX9_yearsToLoaf_34 : decode cX9_yearsToLoaf 34 = .ok (.invokevirtual 42, 3) := bd02_27.1.2.1
theorem dX9_yearsToLoaf_37 : decode cX9_yearsToLoaf 37 = .ok (.invokevirtual 48, 3) := bd02_27.1.2.2
theorem dX9_yearsToLoaf_40 : decode cX9_yearsToLoaf 40 = .ok (.iinc 2 1, 3) := bd02_27.2.1.1
theorem dX9_yearsToLoaf_43 : decode cX9_yearsToLoaf 43 = .ok (.goto (-41), 3) := bd02_27.2.1.2
theorem dX9_yearsToLoaf_46 : decode cX9_yearsToLoaf 46 = .ok (.iconst (-1), 1) := bd02_27.2.2.1
theorem dX9_yearsToLoaf_47 : decode cX9_yearsToLoaf 47 = .ok (.ireturn, 1) := bd02_27.2.2.2
theorem bd02_28 : (((decode cX9_keepsTo 0 = .ok (.aload_n 1, 1) ∧ decode cX9_keepsTo 1 = .ok (.invokevirtual 81, 3)) ∧ (decode cX9_keepsTo 4 = .ok (.istore_n 2, 1) ∧ decode cX9_keepsTo 5 = .ok (.iconst 0, 1))) ∧ ((decode cX9_keepsTo 6 = .ok (.istore_n 3, 1) ∧ decode cX9_keepsTo 7 = .ok (.iload_n 3, 1)) ∧ (decode cX9_keepsTo 8 = .ok (.iload_n 2, 1) ∧ decode cX9_keepsTo 9 = .ok (.if_icmp .gt 46, 3)))) ∧ (((decode cX9_keepsTo 12 = .ok (.aload_n 1, 1) ∧ decode cX9_keepsTo 13 = .ok (.aload_n 0, 1)) ∧ (decode cX9_keepsTo 14 = .ok (.getfield 12, 3) ∧ decode cX9_keepsTo 17 = .ok (.iload_n 3, 1))) ∧ ((decode cX9_keepsTo 18 = .ok (.invokevirtual 87, 3) ∧ decode cX9_keepsTo 21 = .ok (.ifCond .ne 5, 3)) ∧ (decode cX9_keepsTo 24 = .ok (.iconst 0, 1) ∧ decode cX9_keepsTo 25 = .ok (.ireturn, 1)))) := by decide +kernel
theorem dX9_keepsTo_0 : decode cX9_keepsTo 0 = .ok (.aload_n 1, 1) := bd02_28.1.1.1.1
theorem dX9_keepsTo_1 : decode cX9_keepsTo 1 = .ok (.invokevirtual 81, 3) := bd02_28.1.1.1.2
theorem dX9_keepsTo_4 : decode cX9_keepsTo 4 = .ok (.istore_n 2, 1) := bd02_28.1.1.2.1
theorem dX9_keepsTo_5 : decode cX9_keepsTo 5 = .ok (.iconst 0, 1) := bd02_28.1.1.2.2
theorem dX9_keepsTo_6 : decode cX9_keepsTo 6 = .ok (.istore_n 3, 1) := bd02_28.1.2.1.1
theorem dX9_keepsTo_7 : decode cX9_keepsTo 7 = .ok (.iload_n 3, 1) := bd02_28.1.2.1.2
theorem dX9_keepsTo_8 : decode cX9_keepsTo 8 = .ok (.iload_n 2, 1) := bd02_28.1.2.2.1
theorem dX9_keepsTo_9 : decode cX9_keepsTo 9 = .ok (.if_icmp .gt 46, 3) := bd02_28.1.2.2.2
theorem dX9_keepsTo_12 : decode cX9_keepsTo 12 = .ok (.aload_n 1, 1) := bd02_28.2.1.1.1
theorem dX9_keepsTo_13 : decode cX9_keepsTo 13 = .ok (.aload_n 0, 1) := bd02_28.2.1.1.2
theorem dX9_keepsTo_14 : decode cX9_keepsTo 14 = .ok (.getfield 12, 3) := bd02_28.2.1.2.1
theorem dX9_keepsTo_17 : decode cX9_keepsTo 17 = .ok (.iload_n 3, 1) := bd02_28.2.1.2.2
theorem dX9_keepsTo_18 : decode cX9_keepsTo 18 = .ok (.invokevirtual 87, 3) := bd02_28.2.2.1.1
theorem dX9_keepsTo_21 : decode cX9_keepsTo 21 = .ok (.ifCond .ne 5, 3) := bd02_28.2.2.1.2
theorem dX9_keepsTo_24 : decode cX9_keepsTo 24 = .ok (.iconst 0, 1) := bd02_28.2.2.2.1
theorem dX9_keepsTo_25 : decode cX9_keepsTo 25 = .ok (.ireturn, 1) := bd02_28.2.2.2.2
theorem bd02_29 : (((decode cX9_keepsTo 26 = .ok (.iload_n 3, 1) ∧ decode cX9_keepsTo 27 = .ok (.iload_n 2, 1)) ∧ (decode cX9_keepsTo 28 = .ok (.if_icmp .ge 21, 3) ∧ decode cX9_keepsTo 31 = .ok (.aload_n 0, 1))) ∧ ((decode cX9_keepsTo 32 = .ok (.aload_n 0, 1) ∧ decode cX9_keepsTo 33 = .ok (.getfield 27, 3)) ∧ (decode cX9_keepsTo 36 = .ok (.aload_n 0, 1) ∧ decode cX9_keepsTo 37 = .ok (.getfield 12, 3)))) ∧ (((decode cX9_keepsTo 40 = .ok (.getfield 39, 3) ∧ decode cX9_keepsTo 43 = .ok (.invokevirtual 42, 3)) ∧ (decode cX9_keepsTo 46 = .ok (.invokevirtual 48, 3) ∧ decode cX9_keepsTo 49 = .ok (.iinc 3 1, 3))) ∧ ((decode cX9_keepsTo 52 = .ok (.goto (-45), 3) ∧ decode cX9_keepsTo 55 = .ok (.iconst 1, 1)) ∧ (decode cX9_keepsTo 56 = .ok (.ireturn, 1)))) := by decide +kernel
theorem dX9_keepsTo_26 : decode cX9_keepsTo 26 = .ok (.iload_n 3, 1) := bd02_29.1.1.1.1
theorem dX9_keepsTo_27 : decode cX9_keepsTo 27 = .ok (.iload_n 2, 1) := bd02_29.1.1.1.2
theorem dX9_keepsTo_28 : decode cX9_keepsTo 28 = .ok (.if_icmp .ge 21, 3) := bd02_29.1.1.2.1
theorem dX9_keepsTo_31 : decode cX9_keepsTo 31 = .ok (.aload_n 0, 1) := bd02_29.1.1.2.2
theorem dX9_keepsTo_32 : decode cX9_keepsTo 32 = .ok (.aload_n 0, 1) := bd02_29.1.2.1.1
theorem dX9_keepsTo_33 : decode cX9_keepsTo 33 = .ok (.getfield 27, 3) := bd02_29.1.2.1.2
theorem dX9_keepsTo_36 : decode cX9_keepsTo 36 = .ok (.aload_n 0, 1) := bd02_29.1.2.2.1
theorem dX9_keepsTo_37 : decode cX9_keepsTo 37 = .ok (.getfield 12, 3) := bd02_29.1.2.2.2
theorem dX9_keepsTo_40 : decode cX9_keepsTo 40 = .ok (.getfield 39, 3) := bd02_29.2.1.1.1
theorem dX9_keepsTo_43 : decode cX9_keepsTo 43 = .ok (.invokevirtual 42, 3) := bd02_29.2.1.1.2
theorem dX9_keepsTo_46 : decode cX9_keepsTo 46 = .ok (.invokevirtual 48, 3) := bd02_29.2.1.2.1
theorem dX9_keepsTo_49 : decode cX9_keepsTo 49 = .ok (.iinc 3 1, 3) := bd02_29.2.1.2.2
theorem dX9_keepsTo_52 : decode cX9_keepsTo 52 = .ok (.goto (-45), 3) := bd02_29.2.2.1.1
theorem dX9_keepsTo_55 : decode cX9_keepsTo 55 = .ok (.iconst 1, 1) := bd02_29.2.2.1.2
theorem dX9_keepsTo_56 : decode cX9_keepsTo 56 = .ok (.ireturn, 1) := bd02_29.2.2.2
theorem bd02_30 : (((decode cX9_wearAll 0 = .ok (.aload_n 0, 1) ∧ decode cX9_wearAll 1 = .ok (.getfield 12, 3)) ∧ (decode cX9_wearAll 4 = .ok (.invokevirtual 91, 3) ∧ decode cX9_wearAll 7 = .ok (.istore_n 2, 1))) ∧ ((decode cX9_wearAll 8 = .ok (.iconst 0, 1) ∧ decode cX9_wearAll 9 = .ok (.istore_n 3, 1)) ∧ (decode cX9_wearAll 10 = .ok (.iload_n 3, 1) ∧ decode cX9_wearAll 11 = .ok (.aload_n 0, 1)))) ∧ (((decode cX9_wearAll 12 = .ok (.getfield 12, 3) ∧ decode cX9_wearAll 15 = .ok (.getfield 66, 3)) ∧ (decode cX9_wearAll 18 = .ok (.if_icmp .ge 79, 3) ∧ decode cX9_wearAll 21 = .ok (.aload_n 0, 1))) ∧ ((decode cX9_wearAll 22 = .ok (.getfield 12, 3) ∧ decode cX9_wearAll 25 = .ok (.getfield 78, 3)) ∧ (decode cX9_wearAll 28 = .ok (.iload_n 3, 1) ∧ decode cX9_wearAll 29 = .ok (.iaload, 1)))) := by decide +kernel
theorem dX9_wearAll_0 : decode cX9_wearAll 0 = .ok (.aload_n 0, 1) := bd02_30.1.1.1.1
theorem dX9_wearAll_1 : decode cX9_wearAll 1 = .ok (.getfield 12, 3) := bd02_30.1.1.1.2
theorem dX9_wearAll_4 : decode cX9_wearAll 4 = .ok (.invokevirtual 91, 3) := bd02_30.1.1.2.1
theorem dX9_wearAll_7 : decode cX9_wearAll 7 = .ok (.istore_n 2, 1) := bd02_30.1.1.2.2
theorem dX9_wearAll_8 : decode cX9_wearAll 8 = .ok (.iconst 0, 1) := bd02_30.1.2.1.1
theorem dX9_wearAll_9 : decode cX9_wearAll 9 = .ok (.istore_n 3, 1) := bd02_30.1.2.1.2
theorem dX9_wearAll_10 : decode cX9_wearAll 10 = .ok (.iload_n 3, 1) := bd02_30.1.2.2.1
theorem dX9_wearAll_11 : decode cX9_wearAll 11 = .ok (.aload_n 0, 1) := bd02_30.1.2.2.2
theorem dX9_wearAll_12 : decode cX9_wearAll 12 = .ok (.getfield 12, 3) := bd02_30.2.1.1.1
theorem dX9_wearAll_15 : decode cX9_wearAll 15 = .ok (.getfield 66, 3) := bd02_30.2.1.1.2
theorem dX9_wearAll_18 : decode cX9_wearAll 18 = .ok (.if_icmp .ge 79, 3) := bd02_30.2.1.2.1
theorem dX9_wearAll_21 : decode cX9_wearAll 21 = .ok (.aload_n 0, 1) := bd02_30.2.1.2.2
theorem dX9_wearAll_22 : decode cX9_wearAll 22 = .ok (.getfield 12, 3) := bd02_30.2.2.1.1
theorem dX9_wearAll_25 : decode cX9_wearAll 25 = .ok (.getfield 78, 3) := bd02_30.2.2.1.2
theorem dX9_wearAll_28 : decode cX9_wearAll 28 = .ok (.iload_n 3, 1) := bd02_30.2.2.2.1
theorem dX9_wearAll_29 : decode cX9_wearAll 29 = .ok (.iaload, 1) := bd02_30.2.2.2.2
theorem bd02_31 : (((decode cX9_wearAll 30 = .ok (.istore 4, 2) ∧ decode cX9_wearAll 32 = .ok (.iload 4, 2)) ∧ (decode cX9_wearAll 34 = .ok (.ifCond .le 57, 3) ∧ decode cX9_wearAll 37 = .ok (.iload_n 2, 1))) ∧ ((decode cX9_wearAll 38 = .ok (.iload_n 3, 1) ∧ decode cX9_wearAll 39 = .ok (.ishr, 1)) ∧ (decode cX9_wearAll 40 = .ok (.iconst 1, 1) ∧ decode cX9_wearAll 41 = .ok (.iand, 1)))) ∧ (((decode cX9_wearAll 42 = .ok (.ifCond .ne 49, 3) ∧ decode cX9_wearAll 45 = .ok (.aload_n 0, 1)) ∧ (decode cX9_wearAll 46 = .ok (.getfield 27, 3) ∧ decode cX9_wearAll 49 = .ok (.getfield 94, 3))) ∧ ((decode cX9_wearAll 52 = .ok (.getfield 98, 3) ∧ decode cX9_wearAll 55 = .ok (.ifCond .ne 7, 3)) ∧ (decode cX9_wearAll 58 = .ok (.iload_n 1, 1) ∧ decode cX9_wearAll 59 = .ok (.goto 8, 3)))) := by decide +kernel
theorem dX9_wearAll_30 : decode cX9_wearAll 30 = .ok (.istore 4, 2) := bd02_31.1.1.1.1
theorem dX9_wearAll_32 : decode cX9_wearAll 32 = .ok (.iload 4, 2) := bd02_31.1.1.1.2
theorem dX9_wearAll_34 : decode cX9_wearAll 34 = .ok (.ifCond .le 57, 3) := bd02_31.1.1.2.1
theorem dX9_wearAll_37 : decode cX9_wearAll 37 = .ok (.iload_n 2, 1) := bd02_31.1.1.2.2
theorem dX9_wearAll_38 : decode cX9_wearAll 38 = .ok (.iload_n 3, 1) := bd02_31.1.2.1.1
theorem dX9_wearAll_39 : decode cX9_wearAll 39 = .ok (.ishr, 1) := bd02_31.1.2.1.2
theorem dX9_wearAll_40 : decode cX9_wearAll 40 = .ok (.iconst 1, 1) := bd02_31.1.2.2.1
theorem dX9_wearAll_41 : decode cX9_wearAll 41 = .ok (.iand, 1) := bd02_31.1.2.2.2
theorem dX9_wearAll_42 : decode cX9_wearAll 42 = .ok (.ifCond .ne 49, 3) := bd02_31.2.1.1.1
theorem dX9_wearAll_45 : decode cX9_wearAll 45 = .ok (.aload_n 0, 1) := bd02_31.2.1.1.2
theorem dX9_wearAll_46 : decode cX9_wearAll 46 = .ok (.getfield 27, 3) := bd02_31.2.1.2.1
theorem dX9_wearAll_49 : decode cX9_wearAll 49 = .ok (.getfield 94, 3) := bd02_31.2.1.2.2
theorem dX9_wearAll_52 : decode cX9_wearAll 52 = .ok (.getfield 98, 3) := bd02_31.2.2.1.1
theorem dX9_wearAll_55 : decode cX9_wearAll 55 = .ok (.ifCond .ne 7, 3) := bd02_31.2.2.1.2
theorem dX9_wearAll_58 : decode cX9_wearAll 58 = .ok (.iload_n 1, 1) := bd02_31.2.2.2.1
theorem dX9_wearAll_59 : decode cX9_wearAll 59 = .ok (.goto 8, 3) := bd02_31.2.2.2.2
theorem bd02_32 : (((decode cX9_wearAll 62 = .ok (.aload_n 0, 1) ∧ decode cX9_wearAll 63 = .ok (.iload_n 3, 1)) ∧ (decode cX9_wearAll 64 = .ok (.invokevirtual 101, 3) ∧ decode cX9_wearAll 67 = .ok (.istore 5, 2))) ∧ ((decode cX9_wearAll 69 = .ok (.aload_n 0, 1) ∧ decode cX9_wearAll 70 = .ok (.getfield 12, 3)) ∧ (decode cX9_wearAll 73 = .ok (.iload_n 3, 1) ∧ decode cX9_wearAll 74 = .ok (.iload 4, 2)))) ∧ (((decode cX9_wearAll 76 = .ok (.iconst 0, 1) ∧ decode cX9_wearAll 77 = .ok (.iload 5, 2)) ∧ (decode cX9_wearAll 79 = .ok (.bipush 20, 2) ∧ decode cX9_wearAll 81 = .ok (.invokestatic 104, 3))) ∧ ((decode cX9_wearAll 84 = .ok (.invokestatic 110, 3) ∧ decode cX9_wearAll 87 = .ok (.isub, 1)) ∧ (decode cX9_wearAll 88 = .ok (.invokevirtual 113, 3) ∧ decode cX9_wearAll 91 = .ok (.iinc 3 1, 3)))) := by decide +kernel
theorem dX9_wearAll_62 : decode cX9_wearAll 62 = .ok (.aload_n 0, 1) := bd02_32.1.1.1.1
theorem dX9_wearAll_63 : decode cX9_wearAll 63 = .ok (.iload_n 3, 1) := bd02_32.1.1.1.2
theorem dX9_wearAll_64 : decode cX9_wearAll 64 = .ok (.invokevirtual 101, 3) := bd02_32.1.1.2.1
theorem dX9_wearAll_67 : decode cX9_wearAll 67 = .ok (.istore 5, 2) := bd02_32.1.1.2.2
theorem dX9_wearAll_69 : decode cX9_wearAll 69 = .ok (.aload_n 0, 1) := bd02_32.1.2.1.1
theorem dX9_wearAll_70 : decode cX9_wearAll 70 = .ok (.getfield 12, 3) := bd02_32.1.2.1.2
theorem dX9_wearAll_73 : decode cX9_wearAll 73 = .ok (.iload_n 3, 1) := bd02_32.1.2.2.1
theorem dX9_wearAll_74 : decode cX9_wearAll 74 = .ok (.iload 4, 2) := bd02_32.1.2.2.2
theorem dX9_wearAll_76 : decode cX9_wearAll 76 = .ok (.iconst 0, 1) := bd02_32.2.1.1.1
theorem dX9_wearAll_77 : decode cX9_wearAll 77 = .ok (.iload 5, 2) := bd02_32.2.1.1.2
theorem dX9_wearAll_79 : decode cX9_wearAll 79 = .ok (.bipush 20, 2) := bd02_32.2.1.2.1
theorem dX9_wearAll_81 : decode cX9_wearAll 81 = .ok (.invokestatic 104, 3) := bd02_32.2.1.2.2
theorem dX9_wearAll_84 : decode cX9_wearAll 84 = .ok (.invokestatic 110, 3) := bd02_32.2.2.1.1
theorem dX9_wearAll_87 : decode cX9_wearAll 87 = .ok (.isub, 1) := bd02_32.2.2.1.2
theorem dX9_wearAll_88 : decode cX9_wearAll 88 = .ok (.invokevirtual 113, 3) := bd02_32.2.2.2.1
theorem dX9_wearAll_91 : decode cX9_wearAll 91 = .ok (.iinc 3 1, 3) := bd02_32.2.2.2.2
theorem bd02_33 : ((decode cX9_wearAll 94 = .ok (.goto (-84), 3) ∧ decode cX9_wearAll 97 = .ok (.return_, 1)) ∧ (decode cX9_wearOf 0 = .ok (.aload_n 0, 1) ∧ decode cX9_wearOf 1 = .ok (.getfield 12, 3))) ∧ ((decode cX9_wearOf 4 = .ok (.getfield 66, 3) ∧ decode cX9_wearOf 7 = .ok (.iconst 1, 1)) ∧ (decode cX9_wearOf 8 = .ok (.isub, 1) ∧ decode cX9_wearOf 9 = .ok (.istore_n 2, 1))) := by decide +kernel
theorem dX9_wearAll_94 : decode cX9_wearAll 94 = .ok (.goto (-84), 3) := bd02_33.1.1.1
theorem dX9_wearAll_97 : decode cX9_wearAll 97 = .ok (.return_, 1) := bd02_33.1.1.2
theorem dX9_wearOf_0 : decode cX9_wearOf 0 = .ok (.aload_n 0, 1) := bd02_33.1.2.1
theorem dX9_wearOf_1 : decode cX9_wearOf 1 = .ok (.getfield 12, 3) := bd02_33.1.2.2
theorem dX9_wearOf_4 : decode cX9_wearOf 4 = .ok (.getfield 66, 3) := bd02_33.2.1.1
theorem dX9_wearOf_7 : decode cX9_wearOf 7 = .ok (.iconst 1, 1) := bd02_33.2.1.2
theorem dX9_wearOf_8 : decode cX9_wearOf 8 = .ok (.isub, 1) := bd02_33.2.2.1
theorem dX9_wearOf_9 : decode cX9_wearOf 9 = .ok (.istore_n 2, 1) := bd02_33.2.2.2
theorem bd02_34 : (((decode cX9_wearOf 10 = .ok (.iload_n 1, 1) ∧ decode cX9_wearOf 11 = .ok (.ifCond .ne 7, 3)) ∧ (decode cX9_wearOf 14 = .ok (.iload_n 2, 1) ∧ decode cX9_wearOf 15 = .ok (.goto 6, 3))) ∧ ((decode cX9_wearOf 18 = .ok (.iload_n 1, 1) ∧ decode cX9_wearOf 19 = .ok (.iconst 1, 1)) ∧ (decode cX9_wearOf 20 = .ok (.isub, 1) ∧ decode cX9_wearOf 21 = .ok (.istore_n 3, 1)))) ∧ (((decode cX9_wearOf 22 = .ok (.iload_n 1, 1) ∧ decode cX9_wearOf 23 = .ok (.iload_n 2, 1)) ∧ (decode cX9_wearOf 24 = .ok (.if_icmp .ne 7, 3) ∧ decode cX9_wearOf 27 = .ok (.iconst 0, 1))) ∧ ((decode cX9_wearOf 28 = .ok (.goto 6, 3) ∧ decode cX9_wearOf 31 = .ok (.iload_n 1, 1)) ∧ (decode cX9_wearOf 32 = .ok (.iconst 1, 1) ∧ decode cX9_wearOf 33 = .ok (.iadd, 1)))) := by decide +kernel
theorem dX9_wearOf_10 : decode cX9_wearOf 10 = .ok (.iload_n 1, 1) := bd02_34.1.1.1.1
theorem dX9_wearOf_11 : decode cX9_wearOf 11 = .ok (.ifCond .ne 7, 3) := bd02_34.1.1.1.2
theorem dX9_wearOf_14 : decode cX9_wearOf 14 = .ok (.iload_n 2, 1) := bd02_34.1.1.2.1
theorem dX9_wearOf_15 : decode cX9_wearOf 15 = .ok (.goto 6, 3) := bd02_34.1.1.2.2
theorem dX9_wearOf_18 : decode cX9_wearOf 18 = .ok (.iload_n 1, 1) := bd02_34.1.2.1.1
theorem dX9_wearOf_19 : decode cX9_wearOf 19 = .ok (.iconst 1, 1) := bd02_34.1.2.1.2
theorem dX9_wearOf_20 : decode cX9_wearOf 20 = .ok (.isub, 1) := bd02_34.1.2.2.1
theorem dX9_wearOf_21 : decode cX9_wearOf 21 = .ok (.istore_n 3, 1) := bd02_34.1.2.2.2
theorem dX9_wearOf_22 : decode cX9_wearOf 22 = .ok (.iload_n 1, 1) := bd02_34.2.1.1.1
theorem dX9_wearOf_23 : decode cX9_wearOf 23 = .ok (.iload_n 2, 1) := bd02_34.2.1.1.2
theorem dX9_wearOf_24 : decode cX9_wearOf 24 = .ok (.if_icmp .ne 7, 3) := bd02_34.2.1.2.1
theorem dX9_wearOf_27 : decode cX9_wearOf 27 = .ok (.iconst 0, 1) := bd02_34.2.1.2.2
theorem dX9_wearOf_28 : decode cX9_wearOf 28 = .ok (.goto 6, 3) := bd02_34.2.2.1.1
theorem dX9_wearOf_31 : decode cX9_wearOf 31 = .ok (.iload_n 1, 1) := bd02_34.2.2.1.2
theorem dX9_wearOf_32 : decode cX9_wearOf 32 = .ok (.iconst 1, 1) := bd02_34.2.2.2.1
theorem dX9_wearOf_33 : decode cX9_wearOf 33 = .ok (.iadd, 1) := bd02_34.2.2.2.2
theorem bd02_35 : (((decode cX9_wearOf 34 = .ok (.istore 4, 2) ∧ decode cX9_wearOf 36 = .ok (.aload_n 0, 1)) ∧ (decode cX9_wearOf 37 = .ok (.getfield 20, 3) ∧ decode cX9_wearOf 40 = .ok (.iconst 1, 1))) ∧ ((decode cX9_wearOf 41 = .ok (.aload_n 0, 1) ∧ decode cX9_wearOf 42 = .ok (.getfield 12, 3)) ∧ (decode cX9_wearOf 45 = .ok (.getfield 78, 3) ∧ decode cX9_wearOf 48 = .ok (.iload_n 1, 1)))) ∧ (((decode cX9_wearOf 49 = .ok (.iaload, 1) ∧ decode cX9_wearOf 50 = .ok (.iastore, 1)) ∧ (decode cX9_wearOf 51 = .ok (.aload_n 0, 1) ∧ decode cX9_wearOf 52 = .ok (.getfield 20, 3))) ∧ ((decode cX9_wearOf 55 = .ok (.iconst 2, 1) ∧ decode cX9_wearOf 56 = .ok (.aload_n 0, 1)) ∧ (decode cX9_wearOf 57 = .ok (.getfield 12, 3) ∧ decode cX9_wearOf 60 = .ok (.getfield 78, 3)))) := by decide +kernel
theorem dX9_wearOf_34 : decode cX9_wearOf 34 = .ok (.istore 4, 2) := bd02_35.1.1.1.1
theorem dX9_wearOf_36 : decode cX9_wearOf 36 = .ok (.aload_n 0, 1) := bd02_35.1.1.1.2
theorem dX9_wearOf_37 : decode cX9_wearOf 37 = .ok (.getfield 20, 3) := bd02_35.1.1.2.1
theorem dX9_wearOf_40 : decode cX9_wearOf 40 = .ok (.iconst 1, 1) := bd02_35.1.1.2.2
theorem dX9_wearOf_41 : decode cX9_wearOf 41 = .ok (.aload_n 0, 1) := bd02_35.1.2.1.1
theorem dX9_wearOf_42 : decode cX9_wearOf 42 = .ok (.getfield 12, 3) := bd02_35.1.2.1.2
theorem dX9_wearOf_45 : decode cX9_wearOf 45 = .ok (.getfield 78, 3) := bd02_35.1.2.2.1
theorem dX9_wearOf_48 : decode cX9_wearOf 48 = .ok (.iload_n 1, 1) := bd02_35.1.2.2.2
theorem dX9_wearOf_49 : decode cX9_wearOf 49 = .ok (.iaload, 1) := bd02_35.2.1.1.1
theorem dX9_wearOf_50 : decode cX9_wearOf 50 = .ok (.iastore, 1) := bd02_35.2.1.1.2
theorem dX9_wearOf_51 : decode cX9_wearOf 51 = .ok (.aload_n 0, 1) := bd02_35.2.1.2.1
theorem dX9_wearOf_52 : decode cX9_wearOf 52 = .ok (.getfield 20, 3) := bd02_35.2.1.2.2
theorem dX9_wearOf_55 : decode cX9_wearOf 55 = .ok (.iconst 2, 1) := bd02_35.2.2.1.1
theorem dX9_wearOf_56 : decode cX9_wearOf 56 = .ok (.aload_n 0, 1) := bd02_35.2.2.1.2
theorem dX9_wearOf_57 : decode cX9_wearOf 57 = .ok (.getfield 12, 3) := bd02_35.2.2.2.1
theorem dX9_wearOf_60 : decode cX9_wearOf 60 = .ok (.getfield 78, 3) := bd02_35.2.2.2.2
theorem bd02_36 : (((decode cX9_wearOf 63 = .ok (.iload_n 3, 1) ∧ decode cX9_wearOf 64 = .ok (.iaload, 1)) ∧ (decode cX9_wearOf 65 = .ok (.aload_n 0, 1) ∧ decode cX9_wearOf 66 = .ok (.getfield 12, 3))) ∧ ((decode cX9_wearOf 69 = .ok (.getfield 78, 3) ∧ decode cX9_wearOf 72 = .ok (.iload 4, 2)) ∧ (decode cX9_wearOf 74 = .ok (.iaload, 1) ∧ decode cX9_wearOf 75 = .ok (.iadd, 1)))) ∧ (((decode cX9_wearOf 76 = .ok (.iastore, 1) ∧ decode cX9_wearOf 77 = .ok (.aload_n 0, 1)) ∧ (decode cX9_wearOf 78 = .ok (.getfield 27, 3) ∧ decode cX9_wearOf 81 = .ok (.getfield 94, 3))) ∧ ((decode cX9_wearOf 84 = .ok (.aload_n 0, 1) ∧ decode cX9_wearOf 85 = .ok (.getfield 20, 3)) ∧ (decode cX9_wearOf 88 = .ok (.aload_n 0, 1) ∧ decode cX9_wearOf 89 = .ok (.getfield 24, 3)))) := by decide +kernel
theorem dX9_wearOf_63 : decode cX9_wearOf 63 = .ok (.iload_n 3, 1) := bd02_36.1.1.1.1
theorem dX9_wearOf_64 : decode cX9_wearOf 64 = .ok (.iaload, 1) := bd02_36.1.1.1.2
theorem dX9_wearOf_65 : decode cX9_wearOf 65 = .ok (.aload_n 0, 1) := bd02_36.1.1.2.1
theorem dX9_wearOf_66 : decode cX9_wearOf 66 = .ok (.getfield 12, 3) := bd02_36.1.1.2.2
theorem dX9_wearOf_69 : decode cX9_wearOf 69 = .ok (.getfield 78, 3) := bd02_36.1.2.1.1
theorem dX9_wearOf_72 : decode cX9_wearOf 72 = .ok (.iload 4, 2) := bd02_36.1.2.1.2
theorem dX9_wearOf_74 : decode cX9_wearOf 74 = .ok (.iaload, 1) := bd02_36.1.2.2.1
theorem dX9_wearOf_75 : decode cX9_wearOf 75 = .ok (.iadd, 1) := bd02_36.1.2.2.2
theorem dX9_wearOf_76 : decode cX9_wearOf 76 = .ok (.iastore, 1) := bd02_36.2.1.1.1
theorem dX9_wearOf_77 : decode cX9_wearOf 77 = .ok (.aload_n 0, 1) := bd02_36.2.1.1.2
theorem dX9_wearOf_78 : decode cX9_wearOf 78 = .ok (.getfield 27, 3) := bd02_36.2.1.2.1
theorem dX9_wearOf_81 : decode cX9_wearOf 81 = .ok (.getfield 94, 3) := bd02_36.2.1.2.2
theorem dX9_wearOf_84 : decode cX9_wearOf 84 = .ok (.aload_n 0, 1) := bd02_36.2.2.1.1
theorem dX9_wearOf_85 : decode cX9_wearOf 85 = .ok (.getfield 20, 3) := bd02_36.2.2.1.2
theorem dX9_wearOf_88 : decode cX9_wearOf 88 = .ok (.aload_n 0, 1) := bd02_36.2.2.2.1
theorem dX9_wearOf_89 : decode cX9_wearOf 89 = .ok (.getfield 24, 3) := bd02_36.2.2.2.2
theorem bd02_37 : ((decode cX9_wearOf 92 = .ok (.invokevirtual 117, 3) ∧ decode cX9_wearOf 95 = .ok (.ireturn, 1)) ∧ (decode cX9_growAll 0 = .ok (.iconst 0, 1) ∧ decode cX9_growAll 1 = .ok (.istore_n 1, 1))) ∧ ((decode cX9_growAll 2 = .ok (.iload_n 1, 1) ∧ decode cX9_growAll 3 = .ok (.aload_n 0, 1)) ∧ (decode cX9_growAll 4 = .ok (.getfield 12, 3) ∧ decode cX9_growAll 7 = .ok (.getfield 72, 3))) := by decide +kernel
theorem dX9_wearOf_92 : decode cX9_wearOf 92 = .ok (.invokevirtual 117, 3) := bd02_37.1.1.1
theorem dX9_wearOf_95 : decode cX9_wearOf 95 = .ok (.ireturn, 1) := bd02_37.1.1.2
theorem dX9_growAll_0 : decode cX9_growAll 0 = .ok (.iconst 0, 1) := bd02_37.1.2.1
theorem dX9_growAll_1 : decode cX9_growAll 1 = .ok (.istore_n 1, 1) := bd02_37.1.2.2
theorem dX9_growAll_2 : decode cX9_growAll 2 = .ok (.iload_n 1, 1) := bd02_37.2.1.1
theorem dX9_growAll_3 : decode cX9_growAll 3 = .ok (.aload_n 0, 1) := bd02_37.2.1.2
theorem dX9_growAll_4 : decode cX9_growAll 4 = .ok (.getfield 12, 3) := bd02_37.2.2.1
theorem dX9_growAll_7 : decode cX9_growAll 7 = .ok (.getfield 72, 3) := bd02_37.2.2.2
theorem bd02_38 : (((decode cX9_growAll 10 = .ok (.if_icmp .ge 98, 3) ∧ decode cX9_growAll 13 = .ok (.aload_n 0, 1)) ∧ (decode cX9_growAll 14 = .ok (.getfield 12, 3) ∧ decode cX9_growAll 17 = .ok (.getfield 121, 3))) ∧ ((decode cX9_growAll 20 = .ok (.iload_n 1, 1) ∧ decode cX9_growAll 21 = .ok (.iaload, 1)) ∧ (decode cX9_growAll 22 = .ok (.iconst 1, 1) ∧ decode cX9_growAll 23 = .ok (.iadd, 1)))) ∧ (((decode cX9_growAll 24 = .ok (.bipush 99, 2) ∧ decode cX9_growAll 26 = .ok (.invokestatic 104, 3)) ∧ (decode cX9_growAll 29 = .ok (.istore_n 2, 1) ∧ decode cX9_growAll 30 = .ok (.aload_n 0, 1))) ∧ ((decode cX9_growAll 31 = .ok (.getfield 12, 3) ∧ decode cX9_growAll 34 = .ok (.getfield 124, 3)) ∧ (decode cX9_growAll 37 = .ok (.iload_n 1, 1) ∧ decode cX9_growAll 38 = .ok (.iaload, 1)))) := by decide +kernel
theorem dX9_growAll_10 : decode cX9_growAll 10 = .ok (.if_icmp .ge 98, 3) := bd02_38.1.1.1.1
theorem dX9_growAll_13 : decode cX9_growAll 13 = .ok (.aload_n 0, 1) := bd02_38.1.1.1.2
theorem dX9_growAll_14 : decode cX9_growAll 14 = .ok (.getfield 12, 3) := bd02_38.1.1.2.1
theorem dX9_growAll_17 : decode cX9_growAll 17 = .ok (.getfield 121, 3) := bd02_38.1.1.2.2
theorem dX9_growAll_20 : decode cX9_growAll 20 = .ok (.iload_n 1, 1) := bd02_38.1.2.1.1
theorem dX9_growAll_21 : decode cX9_growAll 21 = .ok (.iaload, 1) := bd02_38.1.2.1.2
theorem dX9_growAll_22 : decode cX9_growAll 22 = .ok (.iconst 1, 1) := bd02_38.1.2.2.1
theorem dX9_growAll_23 : decode cX9_growAll 23 = .ok (.iadd, 1) := bd02_38.1.2.2.2
theorem dX9_growAll_24 : decode cX9_growAll 24 = .ok (.bipush 99, 2) := bd02_38.2.1.1.1
theorem dX9_growAll_26 : decode cX9_growAll 26 = .ok (.invokestatic 104, 3) := bd02_38.2.1.1.2
theorem dX9_growAll_29 : decode cX9_growAll 29 = .ok (.istore_n 2, 1) := bd02_38.2.1.2.1
theorem dX9_growAll_30 : decode cX9_growAll 30 = .ok (.aload_n 0, 1) := bd02_38.2.1.2.2
theorem dX9_growAll_31 : decode cX9_growAll 31 = .ok (.getfield 12, 3) := bd02_38.2.2.1.1
theorem dX9_growAll_34 : decode cX9_growAll 34 = .ok (.getfield 124, 3) := bd02_38.2.2.1.2
theorem dX9_growAll_37 : decode cX9_growAll 37 = .ok (.iload_n 1, 1) := bd02_38.2.2.2.1
theorem dX9_growAll_38 : decode cX9_growAll 38 = .ok (.iaload, 1) := bd02_38.2.2.2.2
theorem bd02_39 : (((decode cX9_growAll 39 = .ok (.istore_n 3, 1) ∧ decode cX9_growAll 40 = .ok (.aload_n 0, 1)) ∧ (decode cX9_growAll 41 = .ok (.getfield 12, 3) ∧ decode cX9_growAll 44 = .ok (.getfield 121, 3))) ∧ ((decode cX9_growAll 47 = .ok (.iload_n 1, 1) ∧ decode cX9_growAll 48 = .ok (.iload_n 2, 1)) ∧ (decode cX9_growAll 49 = .ok (.iastore, 1) ∧ decode cX9_growAll 50 = .ok (.aload_n 0, 1)))) ∧ (((decode cX9_growAll 51 = .ok (.getfield 27, 3) ∧ decode cX9_growAll 54 = .ok (.getfield 127, 3)) ∧ (decode cX9_growAll 57 = .ok (.iload_n 1, 1) ∧ decode cX9_growAll 58 = .ok (.ishr, 1))) ∧ ((decode cX9_growAll 59 = .ok (.iconst 1, 1) ∧ decode cX9_growAll 60 = .ok (.iand, 1)) ∧ (decode cX9_growAll 61 = .ok (.iconst 1, 1) ∧ decode cX9_growAll 62 = .ok (.if_icmp .ne 7, 3)))) := by decide +kernel
theorem dX9_growAll_39 : decode cX9_growAll 39 = .ok (.istore_n 3, 1) := bd02_39.1.1.1.1
theorem dX9_growAll_40 : decode cX9_growAll 40 = .ok (.aload_n 0, 1) := bd02_39.1.1.1.2
theorem dX9_growAll_41 : decode cX9_growAll 41 = .ok (.getfield 12, 3) := bd02_39.1.1.2.1
theorem dX9_growAll_44 : decode cX9_growAll 44 = .ok (.getfield 121, 3) := bd02_39.1.1.2.2
theorem dX9_growAll_47 : decode cX9_growAll 47 = .ok (.iload_n 1, 1) := bd02_39.1.2.1.1
theorem dX9_growAll_48 : decode cX9_growAll 48 = .ok (.iload_n 2, 1) := bd02_39.1.2.1.2
theorem dX9_growAll_49 : decode cX9_growAll 49 = .ok (.iastore, 1) := bd02_39.1.2.2.1
theorem dX9_growAll_50 : decode cX9_growAll 50 = .ok (.aload_n 0, 1) := bd02_39.1.2.2.2
theorem dX9_growAll_51 : decode cX9_growAll 51 = .ok (.getfield 27, 3) := bd02_39.2.1.1.1
theorem dX9_growAll_54 : decode cX9_growAll 54 = .ok (.getfield 127, 3) := bd02_39.2.1.1.2
theorem dX9_growAll_57 : decode cX9_growAll 57 = .ok (.iload_n 1, 1) := bd02_39.2.1.2.1
theorem dX9_growAll_58 : decode cX9_growAll 58 = .ok (.ishr, 1) := bd02_39.2.1.2.2
theorem dX9_growAll_59 : decode cX9_growAll 59 = .ok (.iconst 1, 1) := bd02_39.2.2.1.1
theorem dX9_growAll_60 : decode cX9_growAll 60 = .ok (.iand, 1) := bd02_39.2.2.1.2
theorem dX9_growAll_61 : decode cX9_growAll 61 = .ok (.iconst 1, 1) := bd02_39.2.2.2.1
theorem dX9_growAll_62 : decode cX9_growAll 62 = .ok (.if_icmp .ne 7, 3) := bd02_39.2.2.2.2
theorem bd02_40 : (((decode cX9_growAll 65 = .ok (.iconst 1, 1) ∧ decode cX9_growAll 66 = .ok (.goto 4, 3)) ∧ (decode cX9_growAll 69 = .ok (.iconst 0, 1) ∧ decode cX9_growAll 70 = .ok (.istore 4, 2))) ∧ ((decode cX9_growAll 72 = .ok (.iload_n 2, 1) ∧ decode cX9_growAll 73 = .ok (.aload_n 0, 1)) ∧ (decode cX9_growAll 74 = .ok (.getfield 27, 3) ∧ decode cX9_growAll 77 = .ok (.getfield 130, 3)))) ∧ (((decode cX9_growAll 80 = .ok (.if_icmp .lt 22, 3) ∧ decode cX9_growAll 83 = .ok (.iload 4, 2)) ∧ (decode cX9_growAll 85 = .ok (.ifCond .ne 17, 3) ∧ decode cX9_growAll 88 = .ok (.iload_n 3, 1))) ∧ ((decode cX9_growAll 89 = .ok (.iconst (-1), 1) ∧ decode cX9_growAll 90 = .ok (.if_icmp .eq 12, 3)) ∧ (decode cX9_growAll 93 = .ok (.aload_n 0, 1) ∧ decode cX9_growAll 94 = .ok (.getfield 12, 3)))) := by decide +kernel
theorem dX9_growAll_65 : decode cX9_growAll 65 = .ok (.iconst 1, 1) := bd02_40.1.1.1.1
theorem dX9_growAll_66 : decode cX9_growAll 66 = .ok (.goto 4, 3) := bd02_40.1.1.1.2
theorem dX9_growAll_69 : decode cX9_growAll 69 = .ok (.iconst 0, 1) := bd02_40.1.1.2.1
theorem dX9_growAll_70 : decode cX9_growAll 70 = .ok (.istore 4, 2) := bd02_40.1.1.2.2
theorem dX9_growAll_72 : decode cX9_growAll 72 = .ok (.iload_n 2, 1) := bd02_40.1.2.1.1
theorem dX9_growAll_73 : decode cX9_growAll 73 = .ok (.aload_n 0, 1) := bd02_40.1.2.1.2
theorem dX9_growAll_74 : decode cX9_growAll 74 = .ok (.getfield 27, 3) := bd02_40.1.2.2.1
theorem dX9_growAll_77 : decode cX9_growAll 77 = .ok (.getfield 130, 3) := bd02_40.1.2.2.2
theorem dX9_growAll_80 : decode cX9_growAll 80 = .ok (.if_icmp .lt 22, 3) := bd02_40.2.1.1.1
theorem dX9_growAll_83 : decode cX9_growAll 83 = .ok (.iload 4, 2) := bd02_40.2.1.1.2
theorem dX9_growAll_85 : decode cX9_growAll 85 = .ok (.ifCond .ne 17, 3) := bd02_40.2.1.2.1
theorem dX9_growAll_88 : decode cX9_growAll 88 = .ok (.iload_n 3, 1) := bd02_40.2.1.2.2
theorem dX9_growAll_89 : decode cX9_growAll 89 = .ok (.iconst (-1), 1) := bd02_40.2.2.1.1
theorem dX9_growAll_90 : decode cX9_growAll 90 = .ok (.if_icmp .eq 12, 3) := bd02_40.2.2.1.2
theorem dX9_growAll_93 : decode cX9_growAll 93 = .ok (.aload_n 0, 1) := bd02_40.2.2.2.1
theorem dX9_growAll_94 : decode cX9_growAll 94 = .ok (.getfield 12, 3) := bd02_40.2.2.2.2
theorem bd02_41 : ((decode cX9_growAll 97 = .ok (.iload_n 1, 1) ∧ decode cX9_growAll 98 = .ok (.iload_n 3, 1)) ∧ (decode cX9_growAll 99 = .ok (.invokevirtual 133, 3) ∧ decode cX9_growAll 102 = .ok (.iinc 1 1, 3))) ∧ ((decode cX9_growAll 105 = .ok (.goto (-103), 3) ∧ decode cX9_growAll 108 = .ok (.return_, 1)) ∧ (decode cX9_seatAll 0 = .ok (.aload_n 0, 1) ∧ decode cX9_seatAll 1 = .ok (.getfield 12, 3))) := by decide +kernel
theorem dX9_growAll_97 : decode cX9_growAll 97 = .ok (.iload_n 1, 1) := bd02_41.1.1.1
theorem dX9_growAll_98 : decode cX9_growAll 98 = .ok (.iload_n 3, 1) := bd02_41.1.1.2
theorem dX9_growAll_99 : decode cX9_growAll 99 = .ok (.invokevirtual 133, 3) := bd02_41.1.2.1
theorem dX9_growAll_102 : decode cX9_growAll 102 = .ok (.iinc 1 1, 3) := bd02_41.1.2.2
theorem dX9_growAll_105 : decode cX9_growAll 105 = .ok (.goto (-103), 3) := bd02_41.2.1.1
theorem dX9_growAll_108 : decode cX9_growAll 108 = .ok (.return_, 1) := bd02_41.2.1.2
theorem dX9_seatAll_0 : decode cX9_seatAll 0 = .ok (.aload_n 0, 1) := bd02_41.2.2.1
theorem dX9_seatAll_1 : decode cX9_seatAll 1 = .ok (.getfield 12, 3) := bd02_41.2.2.2
theorem bd02_42 : (((decode cX9_seatAll 4 = .ok (.invokevirtual 91, 3) ∧ decode cX9_seatAll 7 = .ok (.istore_n 1, 1)) ∧ (decode cX9_seatAll 8 = .ok (.iconst 0, 1) ∧ decode cX9_seatAll 9 = .ok (.istore_n 2, 1))) ∧ ((decode cX9_seatAll 10 = .ok (.iload_n 2, 1) ∧ decode cX9_seatAll 11 = .ok (.aload_n 0, 1)) ∧ (decode cX9_seatAll 12 = .ok (.getfield 12, 3) ∧ decode cX9_seatAll 15 = .ok (.getfield 72, 3)))) ∧ (((decode cX9_seatAll 18 = .ok (.if_icmp .ge 104, 3) ∧ decode cX9_seatAll 21 = .ok (.aload_n 0, 1)) ∧ (decode cX9_seatAll 22 = .ok (.getfield 12, 3) ∧ decode cX9_seatAll 25 = .ok (.getfield 75, 3))) ∧ ((decode cX9_seatAll 28 = .ok (.iload_n 2, 1) ∧ decode cX9_seatAll 29 = .ok (.iaload, 1)) ∧ (decode cX9_seatAll 30 = .ok (.istore_n 3, 1) ∧ decode cX9_seatAll 31 = .ok (.iload_n 3, 1)))) := by decide +kernel
theorem dX9_seatAll_4 : decode cX9_seatAll 4 = .ok (.invokevirtual 91, 3) := bd02_42.1.1.1.1
theorem dX9_seatAll_7 : decode cX9_seatAll 7 = .ok (.istore_n 1, 1) := bd02_42.1.1.1.2
theorem dX9_seatAll_8 : decode cX9_seatAll 8 = .ok (.iconst 0, 1) := bd02_42.1.1.2.1
theorem dX9_seatAll_9 : decode cX9_seatAll 9 = .ok (.istore_n 2, 1) := bd02_42.1.1.2.2
theorem dX9_seatAll_10 : decode cX9_seatAll 10 = .ok (.iload_n 2, 1) := bd02_42.1.2.1.1
theorem dX9_seatAll_11 : decode cX9_seatAll 11 = .ok (.aload_n 0, 1) := bd02_42.1.2.1.2
theorem dX9_seatAll_12 : decode cX9_seatAll 12 = .ok (.getfield 12, 3) := bd02_42.1.2.2.1
theorem dX9_seatAll_15 : decode cX9_seatAll 15 = .ok (.getfield 72, 3) := bd02_42.1.2.2.2
theorem dX9_seatAll_18 : decode cX9_seatAll 18 = .ok (.if_icmp .ge 104, 3) := bd02_42.2.1.1.1
theorem dX9_seatAll_21 : decode cX9_seatAll 21 = .ok (.aload_n 0, 1) := bd02_42.2.1.1.2
theorem dX9_seatAll_22 : decode cX9_seatAll 22 = .ok (.getfield 12, 3) := bd02_42.2.1.2.1
theorem dX9_seatAll_25 : decode cX9_seatAll 25 = .ok (.getfield 75, 3) := bd02_42.2.1.2.2
theorem dX9_seatAll_28 : decode cX9_seatAll 28 = .ok (.iload_n 2, 1) := bd02_42.2.2.1.1
theorem dX9_seatAll_29 : decode cX9_seatAll 29 = .ok (.iaload, 1) := bd02_42.2.2.1.2
theorem dX9_seatAll_30 : decode cX9_seatAll 30 = .ok (.istore_n 3, 1) := bd02_42.2.2.2.1
theorem dX9_seatAll_31 : decode cX9_seatAll 31 = .ok (.iload_n 3, 1) := bd02_42.2.2.2.2
theorem bd02_43 : (((decode cX9_seatAll 32 = .ok (.iconst (-1), 1) ∧ decode cX9_seatAll 33 = .ok (.if_icmp .eq 33, 3)) ∧ (decode cX9_seatAll 36 = .ok (.aload_n 0, 1) ∧ decode cX9_seatAll 37 = .ok (.iload_n 2, 1))) ∧ ((decode cX9_seatAll 38 = .ok (.iload_n 3, 1) ∧ decode cX9_seatAll 39 = .ok (.invokevirtual 136, 3)) ∧ (decode cX9_seatAll 42 = .ok (.ifCond .ne 74, 3) ∧ decode cX9_seatAll 45 = .ok (.aload_n 0, 1)))) ∧ (((decode cX9_seatAll 46 = .ok (.getfield 12, 3) ∧ decode cX9_seatAll 49 = .ok (.getfield 75, 3)) ∧ (decode cX9_seatAll 52 = .ok (.iload_n 2, 1) ∧ decode cX9_seatAll 53 = .ok (.iconst (-1), 1))) ∧ ((decode cX9_seatAll 54 = .ok (.iastore, 1) ∧ decode cX9_seatAll 55 = .ok (.iload_n 1, 1)) ∧ (decode cX9_seatAll 56 = .ok (.iconst 1, 1) ∧ decode cX9_seatAll 57 = .ok (.iload_n 3, 1)))) := by decide +kernel
theorem dX9_seatAll_32 : decode cX9_seatAll 32 = .ok (.iconst (-1), 1) := bd02_43.1.1.1.1
theorem dX9_seatAll_33 : decode cX9_seatAll 33 = .ok (.if_icmp .eq 33, 3) := bd02_43.1.1.1.2
theorem dX9_seatAll_36 : decode cX9_seatAll 36 = .ok (.aload_n 0, 1) := bd02_43.1.1.2.1
theorem dX9_seatAll_37 : decode cX9_seatAll 37 = .ok (.iload_n 2, 1) := bd02_43.1.1.2.2
theorem dX9_seatAll_38 : decode cX9_seatAll 38 = .ok (.iload_n 3, 1) := bd02_43.1.2.1.1
theorem dX9_seatAll_39 : decode cX9_seatAll 39 = .ok (.invokevirtual 136, 3) := bd02_43.1.2.1.2
theorem dX9_seatAll_42 : decode cX9_seatAll 42 = .ok (.ifCond .ne 74, 3) := bd02_43.1.2.2.1
theorem dX9_seatAll_45 : decode cX9_seatAll 45 = .ok (.aload_n 0, 1) := bd02_43.1.2.2.2
theorem dX9_seatAll_46 : decode cX9_seatAll 46 = .ok (.getfield 12, 3) := bd02_43.2.1.1.1
theorem dX9_seatAll_49 : decode cX9_seatAll 49 = .ok (.getfield 75, 3) := bd02_43.2.1.1.2
theorem dX9_seatAll_52 : decode cX9_seatAll 52 = .ok (.iload_n 2, 1) := bd02_43.2.1.2.1
theorem dX9_seatAll_53 : decode cX9_seatAll 53 = .ok (.iconst (-1), 1) := bd02_43.2.1.2.2
theorem dX9_seatAll_54 : decode cX9_seatAll 54 = .ok (.iastore, 1) := bd02_43.2.2.1.1
theorem dX9_seatAll_55 : decode cX9_seatAll 55 = .ok (.iload_n 1, 1) := bd02_43.2.2.1.2
theorem dX9_seatAll_56 : decode cX9_seatAll 56 = .ok (.iconst 1, 1) := bd02_43.2.2.2.1
theorem dX9_seatAll_57 : decode cX9_seatAll 57 = .ok (.iload_n 3, 1) := bd02_43.2.2.2.2
theorem bd02_44 : (((decode cX9_seatAll 58 = .ok (.ishl, 1) ∧ decode cX9_seatAll 59 = .ok (.iconst (-1), 1)) ∧ (decode cX9_seatAll 60 = .ok (.ixor, 1) ∧ decode cX9_seatAll 61 = .ok (.iand, 1))) ∧ ((decode cX9_seatAll 62 = .ok (.istore_n 1, 1) ∧ decode cX9_seatAll 63 = .ok (.goto 53, 3)) ∧ (decode cX9_seatAll 66 = .ok (.aload_n 0, 1) ∧ decode cX9_seatAll 67 = .ok (.getfield 12, 3)))) ∧ (((decode cX9_seatAll 70 = .ok (.iload_n 2, 1) ∧ decode cX9_seatAll 71 = .ok (.iload_n 1, 1)) ∧ (decode cX9_seatAll 72 = .ok (.invokevirtual 140, 3) ∧ decode cX9_seatAll 75 = .ok (.istore_n 3, 1))) ∧ ((decode cX9_seatAll 76 = .ok (.iload_n 3, 1) ∧ decode cX9_seatAll 77 = .ok (.iconst (-1), 1)) ∧ (decode cX9_seatAll 78 = .ok (.if_icmp .eq 38, 3) ∧ decode cX9_seatAll 81 = .ok (.aload_n 0, 1)))) := by decide +kernel
theorem dX9_seatAll_58 : decode cX9_seatAll 58 = .ok (.ishl, 1) := bd02_44.1.1.1.1
theorem dX9_seatAll_59 : decode cX9_seatAll 59 = .ok (.iconst (-1), 1) := bd02_44.1.1.1.2
theorem dX9_seatAll_60 : decode cX9_seatAll 60 = .ok (.ixor, 1) := bd02_44.1.1.2.1
theorem dX9_seatAll_61 : decode cX9_seatAll 61 = .ok (.iand, 1) := bd02_44.1.1.2.2
theorem dX9_seatAll_62 : decode cX9_seatAll 62 = .ok (.istore_n 1, 1) := bd02_44.1.2.1.1
theorem dX9_seatAll_63 : decode cX9_seatAll 63 = .ok (.goto 53, 3) := bd02_44.1.2.1.2
theorem dX9_seatAll_66 : decode cX9_seatAll 66 = .ok (.aload_n 0, 1) := bd02_44.1.2.2.1
theorem dX9_seatAll_67 : decode cX9_seatAll 67 = .ok (.getfield 12, 3) := bd02_44.1.2.2.2
theorem dX9_seatAll_70 : decode cX9_seatAll 70 = .ok (.iload_n 2, 1) := bd02_44.2.1.1.1
theorem dX9_seatAll_71 : decode cX9_seatAll 71 = .ok (.iload_n 1, 1) := bd02_44.2.1.1.2
theorem dX9_seatAll_72 : decode cX9_seatAll 72 = .ok (.invokevirtual 140, 3) := bd02_44.2.1.2.1
theorem dX9_seatAll_75 : decode cX9_seatAll 75 = .ok (.istore_n 3, 1) := bd02_44.2.1.2.2
theorem dX9_seatAll_76 : decode cX9_seatAll 76 = .ok (.iload_n 3, 1) := bd02_44.2.2.1.1
theorem dX9_seatAll_77 : decode cX9_seatAll 77 = .ok (.iconst (-1), 1) := bd02_44.2.2.1.2
theorem dX9_seatAll_78 : decode cX9_seatAll 78 = .ok (.if_icmp .eq 38, 3) := bd02_44.2.2.2.1
theorem dX9_seatAll_81 : decode cX9_seatAll 81 = .ok (.aload_n 0, 1) := bd02_44.2.2.2.2
theorem bd02_45 : (((decode cX9_seatAll 82 = .ok (.iload_n 2, 1) ∧ decode cX9_seatAll 83 = .ok (.iload_n 3, 1)) ∧ (decode cX9_seatAll 84 = .ok (.invokevirtual 136, 3) ∧ decode cX9_seatAll 87 = .ok (.ifCond .eq 29, 3))) ∧ ((decode cX9_seatAll 90 = .ok (.aload_n 0, 1) ∧ decode cX9_seatAll 91 = .ok (.getfield 12, 3)) ∧ (decode cX9_seatAll 94 = .ok (.getfield 75, 3) ∧ decode cX9_seatAll 97 = .ok (.iload_n 2, 1)))) ∧ (((decode cX9_seatAll 98 = .ok (.iload_n 3, 1) ∧ decode cX9_seatAll 99 = .ok (.iastore, 1)) ∧ (decode cX9_seatAll 100 = .ok (.iload_n 1, 1) ∧ decode cX9_seatAll 101 = .ok (.iconst 1, 1))) ∧ ((decode cX9_seatAll 102 = .ok (.iload_n 3, 1) ∧ decode cX9_seatAll 103 = .ok (.ishl, 1)) ∧ (decode cX9_seatAll 104 = .ok (.ior, 1) ∧ decode cX9_seatAll 105 = .ok (.istore_n 1, 1)))) := by decide +kernel
theorem dX9_seatAll_82 : decode cX9_seatAll 82 = .ok (.iload_n 2, 1) := bd02_45.1.1.1.1
theorem dX9_seatAll_83 : decode cX9_seatAll 83 = .ok (.iload_n 3, 1) := bd02_45.1.1.1.2
theorem dX9_seatAll_84 : decode cX9_seatAll 84 = .ok (.invokevirtual 136, 3) := bd02_45.1.1.2.1
theorem dX9_seatAll_87 : decode cX9_seatAll 87 = .ok (.ifCond .eq 29, 3) := bd02_45.1.1.2.2
theorem dX9_seatAll_90 : decode cX9_seatAll 90 = .ok (.aload_n 0, 1) := bd02_45.1.2.1.1
theorem dX9_seatAll_91 : decode cX9_seatAll 91 = .ok (.getfield 12, 3) := bd02_45.1.2.1.2
theorem dX9_seatAll_94 : decode cX9_seatAll 94 = .ok (.getfield 75, 3) := bd02_45.1.2.2.1
theorem dX9_seatAll_97 : decode cX9_seatAll 97 = .ok (.iload_n 2, 1) := bd02_45.1.2.2.2
theorem dX9_seatAll_98 : decode cX9_seatAll 98 = .ok (.iload_n 3, 1) := bd02_45.2.1.1.1
theorem dX9_seatAll_99 : decode cX9_seatAll 99 = .ok (.iastore, 1) := bd02_45.2.1.1.2
theorem dX9_seatAll_100 : decode cX9_seatAll 100 = .ok (.iload_n 1, 1) := bd02_45.2.1.2.1
theorem dX9_seatAll_101 : decode cX9_seatAll 101 = .ok (.iconst 1, 1) := bd02_45.2.1.2.2
theorem dX9_seatAll_102 : decode cX9_seatAll 102 = .ok (.iload_n 3, 1) := bd02_45.2.2.1.1
theorem dX9_seatAll_103 : decode cX9_seatAll 103 = .ok (.ishl, 1) := bd02_45.2.2.1.2
theorem dX9_seatAll_104 : decode cX9_seatAll 104 = .ok (.ior, 1) := bd02_45.2.2.2.1
theorem dX9_seatAll_105 : decode cX9_seatAll 105 = .ok (.istore_n 1, 1) := bd02_45.2.2.2.2
theorem bd02_46 : (((decode cX9_seatAll 106 = .ok (.aload_n 0, 1) ∧ decode cX9_seatAll 107 = .ok (.dup, 1)) ∧ (decode cX9_seatAll 108 = .ok (.getfield 35, 3))) ∧ (decode cX9_seatAll 111 = .ok (.iconst 1, 1) ∧ decode cX9_seatAll 112 = .ok (.iadd, 1))) ∧ ((decode cX9_seatAll 113 = .ok (.putfield 35, 3) ∧ decode cX9_seatAll 116 = .ok (.iinc 2 1, 3)) ∧ (decode cX9_seatAll 119 = .ok (.goto (-109), 3) ∧ decode cX9_seatAll 122 = .ok (.return_, 1))) := by decide +kernel
theorem dX9_seatAll_106 : decode cX9_seatAll 106 = .ok (.aload_n 0, 1) := bd02_46.1.1.1.1
theorem dX9_seatAll_107 : decode cX9_seatAll 107 = .ok (.dup, 1) := bd02_46.1.1.1.2
theorem dX9_seatAll_108 : decode cX9_seatAll 108 = .ok (.getfield 35, 3) := bd02_46.1.1.2
theorem dX9_seatAll_111 : decode cX9_seatAll 111 = .ok (.iconst 1, 1) := bd02_46.1.2.1
theorem dX9_seatAll_112 : decode cX9_seatAll 112 = .ok (.iadd, 1) := bd02_46.1.2.2
theorem dX9_seatAll_113 : decode cX9_seatAll 113 = .ok (.putfield 35, 3) := bd02_46.2.1.1
theorem dX9_seatAll_116 : decode cX9_seatAll 116 = .ok (.iinc 2 1, 3) := bd02_46.2.1.2
theorem dX9_seatAll_119 : decode cX9_seatAll 119 = .ok (.goto (-109), 3) := bd02_46.2.2.1
theorem dX9_seatAll_122 : decode cX9_seatAll 122 = .ok (.return_, 1) := bd02_46.2.2.2
theorem bd02_47 : (((decode cX9_isForSitting 0 = .ok (.aload_n 0, 1) ∧ decode cX9_isForSitting 1 = .ok (.getfield 12, 3)) ∧ (decode cX9_isForSitting 4 = .ok (.iload_n 1, 1) ∧ decode cX9_isForSitting 5 = .ok (.invokestatic 143, 3))) ∧ ((decode cX9_isForSitting 8 = .ok (.iload_n 2, 1) ∧ decode cX9_isForSitting 9 = .ok (.invokevirtual 146, 3)) ∧ (decode cX9_isForSitting 12 = .ok (.istore_n 3, 1) ∧ decode cX9_isForSitting 13 = .ok (.aload_n 0, 1)))) ∧ (((decode cX9_isForSitting 14 = .ok (.getfield 27, 3) ∧ decode cX9_isForSitting 17 = .ok (.getfield 149, 3)) ∧ (decode cX9_isForSitting 20 = .ok (.getfield 98, 3) ∧ decode cX9_isForSitting 23 = .ok (.ifCond .ne 14, 3))) ∧ ((decode cX9_isForSitting 26 = .ok (.iload_n 3, 1) ∧ decode cX9_isForSitting 27 = .ok (.iconst 2, 1)) ∧ (decode cX9_isForSitting 28 = .ok (.if_icmp .gt 7, 3) ∧ decode cX9_isForSitting 31 = .ok (.iconst 1, 1)))) := by decide +kernel
theorem dX9_isForSitting_0 : decode cX9_isForSitting 0 = .ok (.aload_n 0, 1) := bd02_47.1.1.1.1
theorem dX9_isForSitting_1 : decode cX9_isForSitting 1 = .ok (.getfield 12, 3) := bd02_47.1.1.1.2
theorem dX9_isForSitting_4 : decode cX9_isForSitting 4 = .ok (.iload_n 1, 1) := bd02_47.1.1.2.1
theorem dX9_isForSitting_5 : decode cX9_isForSitting 5 = .ok (.invokestatic 143, 3) := bd02_47.1.1.2.2
theorem dX9_isForSitting_8 : decode cX9_isForSitting 8 = .ok (.iload_n 2, 1) := bd02_47.1.2.1.1
theorem dX9_isForSitting_9 : decode cX9_isForSitting 9 = .ok (.invokevirtual 146, 3) := bd02_47.1.2.1.2
theorem dX9_isForSitting_12 : decode cX9_isForSitting 12 = .ok (.istore_n 3, 1) := bd02_47.1.2.2.1
theorem dX9_isForSitting_13 : decode cX9_isForSitting 13 = .ok (.aload_n 0, 1) := bd02_47.1.2.2.2
theorem dX9_isForSitting_14 : decode cX9_isForSitting 14 = .ok (.getfield 27, 3) := bd02_47.2.1.1.1
theorem dX9_isForSitting_17 : decode cX9_isForSitting 17 = .ok (.getfield 149, 3) := bd02_47.2.1.1.2
theorem dX9_isForSitting_20 : decode cX9_isForSitting 20 = .ok (.getfield 98, 3) := bd02_47.2.1.2.1
theorem dX9_isForSitting_23 : decode cX9_isForSitting 23 = .ok (.ifCond .ne 14, 3) := bd02_47.2.1.2.2
theorem dX9_isForSitting_26 : decode cX9_isForSitting 26 = .ok (.iload_n 3, 1) := bd02_47.2.2.1.1
theorem dX9_isForSitting_27 : decode cX9_isForSitting 27 = .ok (.iconst 2, 1) := bd02_47.2.2.1.2
theorem dX9_isForSitting_28 : decode cX9_isForSitting 28 = .ok (.if_icmp .gt 7, 3) := bd02_47.2.2.2.1
theorem dX9_isForSitting_31 : decode cX9_isForSitting 31 = .ok (.iconst 1, 1) := bd02_47.2.2.2.2
theorem bd02_48 : (((decode cX9_isForSitting 32 = .ok (.goto 4, 3) ∧ decode cX9_isForSitting 35 = .ok (.iconst 0, 1)) ∧ (decode cX9_isForSitting 36 = .ok (.ireturn, 1) ∧ decode cX9_isForSitting 37 = .ok (.aload_n 0, 1))) ∧ ((decode cX9_isForSitting 38 = .ok (.getfield 20, 3) ∧ decode cX9_isForSitting 41 = .ok (.iconst 4, 1)) ∧ (decode cX9_isForSitting 42 = .ok (.iload_n 3, 1) ∧ decode cX9_isForSitting 43 = .ok (.iastore, 1)))) ∧ (((decode cX9_isForSitting 44 = .ok (.aload_n 0, 1) ∧ decode cX9_isForSitting 45 = .ok (.getfield 20, 3)) ∧ (decode cX9_isForSitting 48 = .ok (.iconst 5, 1) ∧ decode cX9_isForSitting 49 = .ok (.aload_n 0, 1))) ∧ ((decode cX9_isForSitting 50 = .ok (.getfield 12, 3) ∧ decode cX9_isForSitting 53 = .ok (.getfield 121, 3)) ∧ (decode cX9_isForSitting 56 = .ok (.iload_n 1, 1) ∧ decode cX9_isForSitting 57 = .ok (.iaload, 1)))) := by decide +kernel
theorem dX9_isForSitting_32 : decode cX9_isForSitting 32 = .ok (.goto 4, 3) := bd02_48.1.1.1.1
theorem dX9_isForSitting_35 : decode cX9_isForSitting 35 = .ok (.iconst 0, 1) := bd02_48.1.1.1.2
theorem dX9_isForSitting_36 : decode cX9_isForSitting 36 = .ok (.ireturn, 1) := bd02_48.1.1.2.1
theorem dX9_isForSitting_37 : decode cX9_isForSitting 37 = .ok (.aload_n 0, 1) := bd02_48.1.1.2.2
theorem dX9_isForSitting_38 : decode cX9_isForSitting 38 = .ok (.getfield 20, 3) := bd02_48.1.2.1.1
theorem dX9_isForSitting_41 : decode cX9_isForSitting 41 = .ok (.iconst 4, 1) := bd02_48.1.2.1.2
theorem dX9_isForSitting_42 : decode cX9_isForSitting 42 = .ok (.iload_n 3, 1) := bd02_48.1.2.2.1
theorem dX9_isForSitting_43 : decode cX9_isForSitting 43 = .ok (.iastore, 1) := bd02_48.1.2.2.2
theorem dX9_isForSitting_44 : decode cX9_isForSitting 44 = .ok (.aload_n 0, 1) := bd02_48.2.1.1.1
theorem dX9_isForSitting_45 : decode cX9_isForSitting 45 = .ok (.getfield 20, 3) := bd02_48.2.1.1.2
theorem dX9_isForSitting_48 : decode cX9_isForSitting 48 = .ok (.iconst 5, 1) := bd02_48.2.1.2.1
theorem dX9_isForSitting_49 : decode cX9_isForSitting 49 = .ok (.aload_n 0, 1) := bd02_48.2.1.2.2
theorem dX9_isForSitting_50 : decode cX9_isForSitting 50 = .ok (.getfield 12, 3) := bd02_48.2.2.1.1
theorem dX9_isForSitting_53 : decode cX9_isForSitting 53 = .ok (.getfield 121, 3) := bd02_48.2.2.1.2
theorem dX9_isForSitting_56 : decode cX9_isForSitting 56 = .ok (.iload_n 1, 1) := bd02_48.2.2.2.1
theorem dX9_isForSitting_57 : decode cX9_isForSitting 57 = .ok (.iaload, 1) := bd02_48.2.2.2.2
theorem bd02_49 : (((decode cX9_isForSitting 58 = .ok (.iastore, 1) ∧ decode cX9_isForSitting 59 = .ok (.aload_n 0, 1)) ∧ (decode cX9_isForSitting 60 = .ok (.getfield 20, 3) ∧ decode cX9_isForSitting 63 = .ok (.iconst 1, 1))) ∧ ((decode cX9_isForSitting 64 = .ok (.aload_n 0, 1) ∧ decode cX9_isForSitting 65 = .ok (.getfield 12, 3)) ∧ (decode cX9_isForSitting 68 = .ok (.getfield 78, 3) ∧ decode cX9_isForSitting 71 = .ok (.iload_n 2, 1)))) ∧ (((decode cX9_isForSitting 72 = .ok (.iaload, 1) ∧ decode cX9_isForSitting 73 = .ok (.iastore, 1)) ∧ (decode cX9_isForSitting 74 = .ok (.aload_n 0, 1) ∧ decode cX9_isForSitting 75 = .ok (.getfield 20, 3))) ∧ ((decode cX9_isForSitting 78 = .ok (.bipush 6, 2) ∧ decode cX9_isForSitting 80 = .ok (.aload_n 0, 1)) ∧ (decode cX9_isForSitting 81 = .ok (.getfield 12, 3) ∧ decode cX9_isForSitting 84 = .ok (.getfield 124, 3)))) := by decide +kernel
theorem dX9_isForSitting_58 : decode cX9_isForSitting 58 = .ok (.iastore, 1) := bd02_49.1.1.1.1
theorem dX9_isForSitting_59 : decode cX9_isForSitting 59 = .ok (.aload_n 0, 1) := bd02_49.1.1.1.2
theorem dX9_isForSitting_60 : decode cX9_isForSitting 60 = .ok (.getfield 20, 3) := bd02_49.1.1.2.1
theorem dX9_isForSitting_63 : decode cX9_isForSitting 63 = .ok (.iconst 1, 1) := bd02_49.1.1.2.2
theorem dX9_isForSitting_64 : decode cX9_isForSitting 64 = .ok (.aload_n 0, 1) := bd02_49.1.2.1.1
theorem dX9_isForSitting_65 : decode cX9_isForSitting 65 = .ok (.getfield 12, 3) := bd02_49.1.2.1.2
theorem dX9_isForSitting_68 : decode cX9_isForSitting 68 = .ok (.getfield 78, 3) := bd02_49.1.2.2.1
theorem dX9_isForSitting_71 : decode cX9_isForSitting 71 = .ok (.iload_n 2, 1) := bd02_49.1.2.2.2
theorem dX9_isForSitting_72 : decode cX9_isForSitting 72 = .ok (.iaload, 1) := bd02_49.2.1.1.1
theorem dX9_isForSitting_73 : decode cX9_isForSitting 73 = .ok (.iastore, 1) := bd02_49.2.1.1.2
theorem dX9_isForSitting_74 : decode cX9_isForSitting 74 = .ok (.aload_n 0, 1) := bd02_49.2.1.2.1
theorem dX9_isForSitting_75 : decode cX9_isForSitting 75 = .ok (.getfield 20, 3) := bd02_49.2.1.2.2
theorem dX9_isForSitting_78 : decode cX9_isForSitting 78 = .ok (.bipush 6, 2) := bd02_49.2.2.1.1
theorem dX9_isForSitting_80 : decode cX9_isForSitting 80 = .ok (.aload_n 0, 1) := bd02_49.2.2.1.2
theorem dX9_isForSitting_81 : decode cX9_isForSitting 81 = .ok (.getfield 12, 3) := bd02_49.2.2.2.1
theorem dX9_isForSitting_84 : decode cX9_isForSitting 84 = .ok (.getfield 124, 3) := bd02_49.2.2.2.2
theorem bd02_50 : (((decode cX9_isForSitting 87 = .ok (.iload_n 1, 1) ∧ decode cX9_isForSitting 88 = .ok (.iaload, 1)) ∧ (decode cX9_isForSitting 89 = .ok (.iload_n 2, 1) ∧ decode cX9_isForSitting 90 = .ok (.if_icmp .ne 7, 3))) ∧ ((decode cX9_isForSitting 93 = .ok (.iconst 1, 1) ∧ decode cX9_isForSitting 94 = .ok (.goto 4, 3)) ∧ (decode cX9_isForSitting 97 = .ok (.iconst 0, 1) ∧ decode cX9_isForSitting 98 = .ok (.iastore, 1)))) ∧ (((decode cX9_isForSitting 99 = .ok (.aload_n 0, 1) ∧ decode cX9_isForSitting 100 = .ok (.getfield 27, 3)) ∧ (decode cX9_isForSitting 103 = .ok (.getfield 149, 3) ∧ decode cX9_isForSitting 106 = .ok (.aload_n 0, 1))) ∧ ((decode cX9_isForSitting 107 = .ok (.getfield 20, 3) ∧ decode cX9_isForSitting 110 = .ok (.aload_n 0, 1)) ∧ (decode cX9_isForSitting 111 = .ok (.getfield 24, 3) ∧ decode cX9_isForSitting 114 = .ok (.invokevirtual 117, 3)))) := by decide +kernel
theorem dX9_isForSitting_87 : decode cX9_isForSitting 87 = .ok (.iload_n 1, 1) := bd02_50.1.1.1.1
theorem dX9_isForSitting_88 : decode cX9_isForSitting 88 = .ok (.iaload, 1) := bd02_50.1.1.1.2
theorem dX9_isForSitting_89 : decode cX9_isForSitting 89 = .ok (.iload_n 2, 1) := bd02_50.1.1.2.1
theorem dX9_isForSitting_90 : decode cX9_isForSitting 90 = .ok (.if_icmp .ne 7, 3) := bd02_50.1.1.2.2
theorem dX9_isForSitting_93 : decode cX9_isForSitting 93 = .ok (.iconst 1, 1) := bd02_50.1.2.1.1
theorem dX9_isForSitting_94 : decode cX9_isForSitting 94 = .ok (.goto 4, 3) := bd02_50.1.2.1.2
theorem dX9_isForSitting_97 : decode cX9_isForSitting 97 = .ok (.iconst 0, 1) := bd02_50.1.2.2.1
theorem dX9_isForSitting_98 : decode cX9_isForSitting 98 = .ok (.iastore, 1) := bd02_50.1.2.2.2
theorem dX9_isForSitting_99 : decode cX9_isForSitting 99 = .ok (.aload_n 0, 1) := bd02_50.2.1.1.1
theorem dX9_isForSitting_100 : decode cX9_isForSitting 100 = .ok (.getfield 27, 3) := bd02_50.2.1.1.2
theorem dX9_isForSitting_103 : decode cX9_isForSitting 103 = .ok (.getfield 149, 3) := bd02_50.2.1.2.1
theorem dX9_isForSitting_106 : decode cX9_isForSitting 106 = .ok (.aload_n 0, 1) := bd02_50.2.1.2.2
theorem dX9_isForSitting_107 : decode cX9_isForSitting 107 = .ok (.getfield 20, 3) := bd02_50.2.2.1.1
theorem dX9_isForSitting_110 : decode cX9_isForSitting 110 = .ok (.aload_n 0, 1) := bd02_50.2.2.1.2
theorem dX9_isForSitting_111 : decode cX9_isForSitting 111 = .ok (.getfield 24, 3) := bd02_50.2.2.2.1
theorem dX9_isForSitting_114 : decode cX9_isForSitting 114 = .ok (.invokevirtual 117, 3) := bd02_50.2.2.2.2
theorem bd02_51 : ((decode cX9_isForSitting 117 = .ok (.ifCond .le 7, 3) ∧ decode cX9_isForSitting 120 = .ok (.iconst 1, 1)) ∧ (decode cX9_isForSitting 121 = .ok (.goto 4, 3) ∧ decode cX9_isForSitting 124 = .ok (.iconst 0, 1))) ∧ ((decode cX9_isForSitting 125 = .ok (.ireturn, 1) ∧ decode cX11_init 0 = .ok (.aload_n 0, 1)) ∧ (decode cX11_init 1 = .ok (.invokespecial 1, 3) ∧ decode cX11_init 4 = .ok (.aload_n 0, 1))) := by decide +kernel
theorem dX9_isForSitting_117 : decode cX9_isForSitting 117 = .ok (.ifCond .le 7, 3) := bd02_51.1.1.1
theorem dX9_isForSitting_120 : decode cX9_isForSitting 120 = .ok (.iconst 1, 1) := bd02_51.1.1.2
theorem dX9_isForSitting_121 : decode cX9_isForSitting 121 = .ok (.goto 4, 3) := bd02_51.1.2.1
theorem dX9_isForSitting_124 : decode cX9_isForSitting 124 = .ok (.iconst 0, 1) := bd02_51.1.2.2
theorem dX9_isForSitting_125 : decode cX9_isForSitting 125 = .ok (.ireturn, 1) := bd02_51.2.1.1
theorem dX11_init_0 : decode cX11_init 0 = .ok (.aload_n 0, 1) := bd02_51.2.1.2
theorem dX11_init_1 : decode cX11_init 1 = .ok (.invokespecial 1, 3) := bd02_51.2.2.1
theorem dX11_init_4 : decode cX11_init 4 = .ok (.aload_n 0, 1) := bd02_51.2.2.2
theorem bd02_52 : (((decode cX11_init 5 = .ok (.sipush 700, 3) ∧ decode cX11_init 8 = .ok (.newarray .byte, 2)) ∧ (decode cX11_init 10 = .ok (.putfield 9, 3) ∧ decode cX11_init 13 = .ok (.aload_n 0, 1))) ∧ ((decode cX11_init 14 = .ok (.iconst 0, 1) ∧ decode cX11_init 15 = .ok (.putfield 13, 3)) ∧ (decode cX11_init 18 = .ok (.aload_n 0, 1) ∧ decode cX11_init 19 = .ok (.iconst (-1), 1)))) ∧ (((decode cX11_init 20 = .ok (.putfield 17, 3) ∧ decode cX11_init 23 = .ok (.aload_n 0, 1)) ∧ (decode cX11_init 24 = .ok (.new 20, 3) ∧ decode cX11_init 27 = .ok (.dup, 1))) ∧ ((decode cX11_init 28 = .ok (.aload_n 0, 1) ∧ decode cX11_init 29 = .ok (.getfield 9, 3)) ∧ (decode cX11_init 32 = .ok (.invokespecial 22, 3) ∧ decode cX11_init 35 = .ok (.putfield 25, 3)))) := by decide +kernel
theorem dX11_init_5 : decode cX11_init 5 = .ok (.sipush 700, 3) := bd02_52.1.1.1.1
theorem dX11_init_8 : decode cX11_init 8 = .ok (.newarray .byte, 2) := bd02_52.1.1.1.2
theorem dX11_init_10 : decode cX11_init 10 = .ok (.putfield 9, 3) := bd02_52.1.1.2.1
theorem dX11_init_13 : decode cX11_init 13 = .ok (.aload_n 0, 1) := bd02_52.1.1.2.2
theorem dX11_init_14 : decode cX11_init 14 = .ok (.iconst 0, 1) := bd02_52.1.2.1.1
theorem dX11_init_15 : decode cX11_init 15 = .ok (.putfield 13, 3) := bd02_52.1.2.1.2
theorem dX11_init_18 : decode cX11_init 18 = .ok (.aload_n 0, 1) := bd02_52.1.2.2.1
theorem dX11_init_19 : decode cX11_init 19 = .ok (.iconst (-1), 1) := bd02_52.1.2.2.2
theorem dX11_init_20 : decode cX11_init 20 = .ok (.putfield 17, 3) := bd02_52.2.1.1.1
theorem dX11_init_23 : decode cX11_init 23 = .ok (.aload_n 0, 1) := bd02_52.2.1.1.2
theorem dX11_init_24 : decode cX11_init 24 = .ok (.new 20, 3) := bd02_52.2.1.2.1
theorem dX11_init_27 : decode cX11_init 27 = .ok (.dup, 1) := bd02_52.2.1.2.2
theorem dX11_init_28 : decode cX11_init 28 = .ok (.aload_n 0, 1) := bd02_52.2.2.1.1
theorem dX11_init_29 : decode cX11_init 29 = .ok (.getfield 9, 3) := bd02_52.2.2.1.2
theorem dX11_init_32 : decode cX11_init 32 = .ok (.invokespecial 22, 3) := bd02_52.2.2.2.1
theorem dX11_init_35 : decode cX11_init 35 = .ok (.putfield 25, 3) := bd02_52.2.2.2.2
theorem bd02_53 : (((decode cX11_init 38 = .ok (.aload_n 0, 1) ∧ decode cX11_init 39 = .ok (.new 29, 3)) ∧ (decode cX11_init 42 = .ok (.dup, 1) ∧ decode cX11_init 43 = .ok (.invokespecial 31, 3))) ∧ ((decode cX11_init 46 = .ok (.putfield 32, 3) ∧ decode cX11_init 49 = .ok (.aload_n 0, 1)) ∧ (decode cX11_init 50 = .ok (.new 36, 3) ∧ decode cX11_init 53 = .ok (.dup, 1)))) ∧ (((decode cX11_init 54 = .ok (.invokespecial 38, 3) ∧ decode cX11_init 57 = .ok (.putfield 39, 3)) ∧ (decode cX11_init 60 = .ok (.aload_n 0, 1) ∧ decode cX11_init 61 = .ok (.new 36, 3))) ∧ ((decode cX11_init 64 = .ok (.dup, 1) ∧ decode cX11_init 65 = .ok (.invokespecial 38, 3)) ∧ (decode cX11_init 68 = .ok (.putfield 43, 3) ∧ decode cX11_init 71 = .ok (.aload_n 0, 1)))) := by decide +kernel
theorem dX11_init_38 : decode cX11_init 38 = .ok (.aload_n 0, 1) := bd02_53.1.1.1.1
theorem dX11_init_39 : decode cX11_init 39 = .ok (.new 29, 3) := bd02_53.1.1.1.2
theorem dX11_init_42 : decode cX11_init 42 = .ok (.dup, 1) := bd02_53.1.1.2.1
theorem dX11_init_43 : decode cX11_init 43 = .ok (.invokespecial 31, 3) := bd02_53.1.1.2.2
theorem dX11_init_46 : decode cX11_init 46 = .ok (.putfield 32, 3) := bd02_53.1.2.1.1
theorem dX11_init_49 : decode cX11_init 49 = .ok (.aload_n 0, 1) := bd02_53.1.2.1.2
theorem dX11_init_50 : decode cX11_init 50 = .ok (.new 36, 3) := bd02_53.1.2.2.1
theorem dX11_init_53 : decode cX11_init 53 = .ok (.dup, 1) := bd02_53.1.2.2.2
theorem dX11_init_54 : decode cX11_init 54 = .ok (.invokespecial 38, 3) := bd02_53.2.1.1.1
theorem dX11_init_57 : decode cX11_init 57 = .ok (.putfield 39, 3) := bd02_53.2.1.1.2
theorem dX11_init_60 : decode cX11_init 60 = .ok (.aload_n 0, 1) := bd02_53.2.1.2.1
theorem dX11_init_61 : decode cX11_init 61 = .ok (.new 36, 3) := bd02_53.2.1.2.2
theorem dX11_init_64 : decode cX11_init 64 = .ok (.dup, 1) := bd02_53.2.2.1.1
theorem dX11_init_65 : decode cX11_init 65 = .ok (.invokespecial 38, 3) := bd02_53.2.2.1.2
theorem dX11_init_68 : decode cX11_init 68 = .ok (.putfield 43, 3) := bd02_53.2.2.2.1
theorem dX11_init_71 : decode cX11_init 71 = .ok (.aload_n 0, 1) := bd02_53.2.2.2.2
theorem bd02_54 : (((decode cX11_init 72 = .ok (.iconst 0, 1) ∧ decode cX11_init 73 = .ok (.putfield 46, 3)) ∧ (decode cX11_init 76 = .ok (.aload_n 0, 1) ∧ decode cX11_init 77 = .ok (.new 50, 3))) ∧ ((decode cX11_init 80 = .ok (.dup, 1) ∧ decode cX11_init 81 = .ok (.aload_n 0, 1)) ∧ (decode cX11_init 82 = .ok (.getfield 32, 3) ∧ decode cX11_init 85 = .ok (.invokespecial 52, 3)))) ∧ (((decode cX11_init 88 = .ok (.putfield 55, 3) ∧ decode cX11_init 91 = .ok (.aload_n 0, 1)) ∧ (decode cX11_init 92 = .ok (.new 59, 3) ∧ decode cX11_init 95 = .ok (.dup, 1))) ∧ ((decode cX11_init 96 = .ok (.aload_n 0, 1) ∧ decode cX11_init 97 = .ok (.getfield 39, 3)) ∧ (decode cX11_init 100 = .ok (.getfield 61, 3) ∧ decode cX11_init 103 = .ok (.invokespecial 65, 3)))) := by decide +kernel
theorem dX11_init_72 : decode cX11_init 72 = .ok (.iconst 0, 1) := bd02_54.1.1.1.1
theorem dX11_init_73 : decode cX11_init 73 = .ok (.putfield 46, 3) := bd02_54.1.1.1.2
theorem dX11_init_76 : decode cX11_init 76 = .ok (.aload_n 0, 1) := bd02_54.1.1.2.1
theorem dX11_init_77 : decode cX11_init 77 = .ok (.new 50, 3) := bd02_54.1.1.2.2
theorem dX11_init_80 : decode cX11_init 80 = .ok (.dup, 1) := bd02_54.1.2.1.1
theorem dX11_init_81 : decode cX11_init 81 = .ok (.aload_n 0, 1) := bd02_54.1.2.1.2
theorem dX11_init_82 : decode cX11_init 82 = .ok (.getfield 32, 3) := bd02_54.1.2.2.1
theorem dX11_init_85 : decode cX11_init 85 = .ok (.invokespecial 52, 3) := bd02_54.1.2.2.2
theorem dX11_init_88 : decode cX11_init 88 = .ok (.putfield 55, 3) := bd02_54.2.1.1.1
theorem dX11_init_91 : decode cX11_init 91 = .ok (.aload_n 0, 1) := bd02_54.2.1.1.2
theorem dX11_init_92 : decode cX11_init 92 = .ok (.new 59, 3) := bd02_54.2.1.2.1
theorem dX11_init_95 : decode cX11_init 95 = .ok (.dup, 1) := bd02_54.2.1.2.2
theorem dX11_init_96 : decode cX11_init 96 = .ok (.aload_n 0, 1) := bd02_54.2.2.1.1
theorem dX11_init_97 : decode cX11_init 97 = .ok (.getfield 39, 3) := bd02_54.2.2.1.2
theorem dX11_init_100 : decode cX11_init 100 = .ok (.getfield 61, 3) := bd02_54.2.2.2.1
theorem dX11_init_103 : decode cX11_init 103 = .ok (.invokespecial 65, 3) := bd02_54.2.2.2.2
theorem bd02_55 : (((decode cX11_init 106 = .ok (.putfield 68, 3) ∧ decode cX11_init 109 = .ok (.aload_n 0, 1)) ∧ (decode cX11_init 110 = .ok (.new 72, 3) ∧ decode cX11_init 113 = .ok (.dup, 1))) ∧ ((decode cX11_init 114 = .ok (.invokespecial 74, 3) ∧ decode cX11_init 117 = .ok (.putfield 75, 3)) ∧ (decode cX11_init 120 = .ok (.aload_n 0, 1) ∧ decode cX11_init 121 = .ok (.bipush 8, 2)))) ∧ (((decode cX11_init 123 = .ok (.newarray .int, 2) ∧ decode cX11_init 125 = .ok (.putfield 79, 3)) ∧ (decode cX11_init 128 = .ok (.aload_n 0, 1) ∧ decode cX11_init 129 = .ok (.bipush 8, 2))) ∧ ((decode cX11_init 131 = .ok (.newarray .int, 2) ∧ decode cX11_init 133 = .ok (.putfield 83, 3)) ∧ (decode cX11_init 136 = .ok (.return_, 1)))) := by decide +kernel
theorem dX11_init_106 : decode cX11_init 106 = .ok (.putfield 68, 3) := bd02_55.1.1.1.1
theorem dX11_init_109 : decode cX11_init 109 = .ok (.aload_n 0, 1) := bd02_55.1.1.1.2
theorem dX11_init_110 : decode cX11_init 110 = .ok (.new 72, 3) := bd02_55.1.1.2.1
theorem dX11_init_113 : decode cX11_init 113 = .ok (.dup, 1) := bd02_55.1.1.2.2
theorem dX11_init_114 : decode cX11_init 114 = .ok (.invokespecial 74, 3) := bd02_55.1.2.1.1
theorem dX11_init_117 : decode cX11_init 117 = .ok (.putfield 75, 3) := bd02_55.1.2.1.2
theorem dX11_init_120 : decode cX11_init 120 = .ok (.aload_n 0, 1) := bd02_55.1.2.2.1
theorem dX11_init_121 : decode cX11_init 121 = .ok (.bipush 8, 2) := bd02_55.1.2.2.2
theorem dX11_init_123 : decode cX11_init 123 = .ok (.newarray .int, 2) := bd02_55.2.1.1.1
theorem dX11_init_125 : decode cX11_init 125 = .ok (.putfield 79, 3) := bd02_55.2.1.1.2
theorem dX11_init_128 : decode cX11_init 128 = .ok (.aload_n 0, 1) := bd02_55.2.1.2.1
theorem dX11_init_129 : decode cX11_init 129 = .ok (.bipush 8, 2) := bd02_55.2.1.2.2
theorem dX11_init_131 : decode cX11_init 131 = .ok (.newarray .int, 2) := bd02_55.2.2.1.1
theorem dX11_init_133 : decode cX11_init 133 = .ok (.putfield 83, 3) := bd02_55.2.2.1.2
theorem dX11_init_136 : decode cX11_init 136 = .ok (.return_, 1) := bd02_55.2.2.2
theorem bd02_56 : (((decode cX11_feed 0 = .ok (.aload_n 0, 1) ∧ decode cX11_feed 1 = .ok (.getfield 13, 3)) ∧ (decode cX11_feed 4 = .ok (.bipush 20, 2) ∧ decode cX11_feed 6 = .ok (.iadd, 1))) ∧ ((decode cX11_feed 7 = .ok (.sipush 700, 3) ∧ decode cX11_feed 10 = .ok (.if_icmp .le 5, 3)) ∧ (decode cX11_feed 13 = .ok (.iconst (-1), 1) ∧ decode cX11_feed 14 = .ok (.ireturn, 1)))) ∧ (((decode cX11_feed 15 = .ok (.aload_n 0, 1) ∧ decode cX11_feed 16 = .ok (.iload_n 1, 1)) ∧ (decode cX11_feed 17 = .ok (.invokevirtual 86, 3) ∧ decode cX11_feed 20 = .ok (.aload_n 0, 1))) ∧ ((decode cX11_feed 21 = .ok (.iload_n 2, 1) ∧ decode cX11_feed 22 = .ok (.invokevirtual 86, 3)) ∧ (decode cX11_feed 25 = .ok (.aload_n 0, 1) ∧ decode cX11_feed 26 = .ok (.iload_n 3, 1)))) := by decide +kernel
theorem dX11_feed_0 : decode cX11_feed 0 = .ok (.aload_n 0, 1) := bd02_56.1.1.1.1
theorem dX11_feed_1 : decode cX11_feed 1 = .ok (.getfield 13, 3) := bd02_56.1.1.1.2
theorem dX11_feed_4 : decode cX11_feed 4 = .ok (.bipush 20, 2) := bd02_56.1.1.2.1
theorem dX11_feed_6 : decode cX11_feed 6 = .ok (.iadd, 1) := bd02_56.1.1.2.2
theorem dX11_feed_7 : decode cX11_feed 7 = .ok (.sipush 700, 3) := bd02_56.1.2.1.1
theorem dX11_feed_10 : decode cX11_feed 10 = .ok (.if_icmp .le 5, 3) := bd02_56.1.2.1.2
theorem dX11_feed_13 : decode cX11_feed 13 = .ok (.iconst (-1), 1) := bd02_56.1.2.2.1
theorem dX11_feed_14 : decode cX11_feed 14 = .ok (.ireturn, 1) := bd02_56.1.2.2.2
theorem dX11_feed_15 : decode cX11_feed 15 = .ok (.aload_n 0, 1) := bd02_56.2.1.1.1
theorem dX11_feed_16 : decode cX11_feed 16 = .ok (.iload_n 1, 1) := bd02_56.2.1.1.2
theorem dX11_feed_17 : decode cX11_feed 17 = .ok (.invokevirtual 86, 3) := bd02_56.2.1.2.1
theorem dX11_feed_20 : decode cX11_feed 20 = .ok (.aload_n 0, 1) := bd02_56.2.1.2.2
theorem dX11_feed_21 : decode cX11_feed 21 = .ok (.iload_n 2, 1) := bd02_56.2.2.1.1
theorem dX11_feed_22 : decode cX11_feed 22 = .ok (.invokevirtual 86, 3) := bd02_56.2.2.1.2
theorem dX11_feed_25 : decode cX11_feed 25 = .ok (.aload_n 0, 1) := bd02_56.2.2.2.1
theorem dX11_feed_26 : decode cX11_feed 26 = .ok (.iload_n 3, 1) := bd02_56.2.2.2.2
theorem bd02_57 : (((decode cX11_feed 27 = .ok (.invokevirtual 86, 3) ∧ decode cX11_feed 30 = .ok (.aload_n 0, 1)) ∧ (decode cX11_feed 31 = .ok (.iload 4, 2))) ∧ (decode cX11_feed 33 = .ok (.invokevirtual 86, 3) ∧ decode cX11_feed 36 = .ok (.aload_n 0, 1))) ∧ (((decode cX11_feed 37 = .ok (.iload 5, 2) ∧ decode cX11_feed 39 = .ok (.invokevirtual 86, 3)) ∧ (decode cX11_feed 42 = .ok (.aload_n 0, 1))) ∧ (decode cX11_feed 43 = .ok (.getfield 13, 3) ∧ decode cX11_feed 46 = .ok (.ireturn, 1))) := by decide +kernel
theorem dX11_feed_27 : decode cX11_feed 27 = .ok (.invokevirtual 86, 3) := bd02_57.1.1.1.1
theorem dX11_feed_30 : decode cX11_feed 30 = .ok (.aload_n 0, 1) := bd02_57.1.1.1.2
theorem dX11_feed_31 : decode cX11_feed 31 = .ok (.iload 4, 2) := bd02_57.1.1.2
theorem dX11_feed_33 : decode cX11_feed 33 = .ok (.invokevirtual 86, 3) := bd02_57.1.2.1
theorem dX11_feed_36 : decode cX11_feed 36 = .ok (.aload_n 0, 1) := bd02_57.1.2.2
theorem dX11_feed_37 : decode cX11_feed 37 = .ok (.iload 5, 2) := bd02_57.2.1.1.1
theorem dX11_feed_39 : decode cX11_feed 39 = .ok (.invokevirtual 86, 3) := bd02_57.2.1.1.2
theorem dX11_feed_42 : decode cX11_feed 42 = .ok (.aload_n 0, 1) := bd02_57.2.1.2
theorem dX11_feed_43 : decode cX11_feed 43 = .ok (.getfield 13, 3) := bd02_57.2.2.1
theorem dX11_feed_46 : decode cX11_feed 46 = .ok (.ireturn, 1) := bd02_57.2.2.2
theorem bd02_58 : (((decode cX11_tower 0 = .ok (.iload_n 1, 1) ∧ decode cX11_tower 1 = .ok (.ifCond .lt 11, 3)) ∧ (decode cX11_tower 4 = .ok (.iload_n 1, 1) ∧ decode cX11_tower 5 = .ok (.aload_n 0, 1))) ∧ ((decode cX11_tower 6 = .ok (.getfield 13, 3) ∧ decode cX11_tower 9 = .ok (.if_icmp .le 13, 3)) ∧ (decode cX11_tower 12 = .ok (.new 90, 3) ∧ decode cX11_tower 15 = .ok (.dup, 1)))) ∧ (((decode cX11_tower 16 = .ok (.ldc 92, 2) ∧ decode cX11_tower 18 = .ok (.invokespecial 94, 3)) ∧ (decode cX11_tower 21 = .ok (.athrow, 1) ∧ decode cX11_tower 22 = .ok (.aload_n 0, 1))) ∧ ((decode cX11_tower 23 = .ok (.getfield 25, 3) ∧ decode cX11_tower 26 = .ok (.iload_n 1, 1)) ∧ (decode cX11_tower 27 = .ok (.invokevirtual 97, 3) ∧ decode cX11_tower 30 = .ok (.istore_n 2, 1)))) := by decide +kernel
theorem dX11_tower_0 : decode cX11_tower 0 = .ok (.iload_n 1, 1) := bd02_58.1.1.1.1
theorem dX11_tower_1 : decode cX11_tower 1 = .ok (.ifCond .lt 11, 3) := bd02_58.1.1.1.2
theorem dX11_tower_4 : decode cX11_tower 4 = .ok (.iload_n 1, 1) := bd02_58.1.1.2.1
theorem dX11_tower_5 : decode cX11_tower 5 = .ok (.aload_n 0, 1) := bd02_58.1.1.2.2
theorem dX11_tower_6 : decode cX11_tower 6 = .ok (.getfield 13, 3) := bd02_58.1.2.1.1
theorem dX11_tower_9 : decode cX11_tower 9 = .ok (.if_icmp .le 13, 3) := bd02_58.1.2.1.2
theorem dX11_tower_12 : decode cX11_tower 12 = .ok (.new 90, 3) := bd02_58.1.2.2.1
theorem dX11_tower_15 : decode cX11_tower 15 = .ok (.dup, 1) := bd02_58.1.2.2.2
theorem dX11_tower_16 : decode cX11_tower 16 = .ok (.ldc 92, 2) := bd02_58.2.1.1.1
theorem dX11_tower_18 : decode cX11_tower 18 = .ok (.invokespecial 94, 3) := bd02_58.2.1.1.2
theorem dX11_tower_21 : decode cX11_tower 21 = .ok (.athrow, 1) := bd02_58.2.1.2.1
theorem dX11_tower_22 : decode cX11_tower 22 = .ok (.aload_n 0, 1) := bd02_58.2.1.2.2
theorem dX11_tower_23 : decode cX11_tower 23 = .ok (.getfield 25, 3) := bd02_58.2.2.1.1
theorem dX11_tower_26 : decode cX11_tower 26 = .ok (.iload_n 1, 1) := bd02_58.2.2.1.2
theorem dX11_tower_27 : decode cX11_tower 27 = .ok (.invokevirtual 97, 3) := bd02_58.2.2.2.1
theorem dX11_tower_30 : decode cX11_tower 30 = .ok (.istore_n 2, 1) := bd02_58.2.2.2.2
theorem bd02_59 : (((decode cX11_tower 31 = .ok (.aload_n 0, 1) ∧ decode cX11_tower 32 = .ok (.iconst 0, 1)) ∧ (decode cX11_tower 33 = .ok (.putfield 13, 3) ∧ decode cX11_tower 36 = .ok (.aload_n 0, 1))) ∧ ((decode cX11_tower 37 = .ok (.aload_n 0, 1) ∧ decode cX11_tower 38 = .ok (.getfield 25, 3)) ∧ (decode cX11_tower 41 = .ok (.getfield 101, 3) ∧ decode cX11_tower 44 = .ok (.putfield 17, 3)))) ∧ (((decode cX11_tower 47 = .ok (.iload_n 2, 1) ∧ decode cX11_tower 48 = .ok (.ifCond .eq 18, 3)) ∧ (decode cX11_tower 51 = .ok (.aload_n 0, 1) ∧ decode cX11_tower 52 = .ok (.getfield 39, 3))) ∧ ((decode cX11_tower 55 = .ok (.getfield 104, 3) ∧ decode cX11_tower 58 = .ok (.iconst 0, 1)) ∧ (decode cX11_tower 59 = .ok (.dup2, 1) ∧ decode cX11_tower 60 = .ok (.iaload, 1)))) := by decide +kernel
theorem dX11_tower_31 : decode cX11_tower 31 = .ok (.aload_n 0, 1) := bd02_59.1.1.1.1
theorem dX11_tower_32 : decode cX11_tower 32 = .ok (.iconst 0, 1) := bd02_59.1.1.1.2
theorem dX11_tower_33 : decode cX11_tower 33 = .ok (.putfield 13, 3) := bd02_59.1.1.2.1
theorem dX11_tower_36 : decode cX11_tower 36 = .ok (.aload_n 0, 1) := bd02_59.1.1.2.2
theorem dX11_tower_37 : decode cX11_tower 37 = .ok (.aload_n 0, 1) := bd02_59.1.2.1.1
theorem dX11_tower_38 : decode cX11_tower 38 = .ok (.getfield 25, 3) := bd02_59.1.2.1.2
theorem dX11_tower_41 : decode cX11_tower 41 = .ok (.getfield 101, 3) := bd02_59.1.2.2.1
theorem dX11_tower_44 : decode cX11_tower 44 = .ok (.putfield 17, 3) := bd02_59.1.2.2.2
theorem dX11_tower_47 : decode cX11_tower 47 = .ok (.iload_n 2, 1) := bd02_59.2.1.1.1
theorem dX11_tower_48 : decode cX11_tower 48 = .ok (.ifCond .eq 18, 3) := bd02_59.2.1.1.2
theorem dX11_tower_51 : decode cX11_tower 51 = .ok (.aload_n 0, 1) := bd02_59.2.1.2.1
theorem dX11_tower_52 : decode cX11_tower 52 = .ok (.getfield 39, 3) := bd02_59.2.1.2.2
theorem dX11_tower_55 : decode cX11_tower 55 = .ok (.getfield 104, 3) := bd02_59.2.2.1.1
theorem dX11_tower_58 : decode cX11_tower 58 = .ok (.iconst 0, 1) := bd02_59.2.2.1.2
theorem dX11_tower_59 : decode cX11_tower 59 = .ok (.dup2, 1) := bd02_59.2.2.2.1
theorem dX11_tower_60 : decode cX11_tower 60 = .ok (.iaload, 1) := bd02_59.2.2.2.2
theorem bd02_60 : (((decode cX11_tower 61 = .ok (.iconst 1, 1) ∧ decode cX11_tower 62 = .ok (.iadd, 1)) ∧ (decode cX11_tower 63 = .ok (.iastore, 1) ∧ decode cX11_tower 64 = .ok (.iload_n 2, 1))) ∧ ((decode cX11_tower 65 = .ok (.ireturn, 1) ∧ decode cX11_tower 66 = .ok (.aload_n 0, 1)) ∧ (decode cX11_tower 67 = .ok (.getfield 32, 3) ∧ decode cX11_tower 70 = .ok (.aload_n 0, 1)))) ∧ (((decode cX11_tower 71 = .ok (.getfield 25, 3) ∧ decode cX11_tower 74 = .ok (.getfield 107, 3)) ∧ (decode cX11_tower 77 = .ok (.invokevirtual 110, 3) ∧ decode cX11_tower 80 = .ok (.aload_n 0, 1))) ∧ ((decode cX11_tower 81 = .ok (.getfield 39, 3) ∧ decode cX11_tower 84 = .ok (.aload_n 0, 1)) ∧ (decode cX11_tower 85 = .ok (.getfield 32, 3) ∧ decode cX11_tower 88 = .ok (.getfield 113, 3)))) := by decide +kernel
theorem dX11_tower_61 : decode cX11_tower 61 = .ok (.iconst 1, 1) := bd02_60.1.1.1.1
theorem dX11_tower_62 : decode cX11_tower 62 = .ok (.iadd, 1) := bd02_60.1.1.1.2
theorem dX11_tower_63 : decode cX11_tower 63 = .ok (.iastore, 1) := bd02_60.1.1.2.1
theorem dX11_tower_64 : decode cX11_tower 64 = .ok (.iload_n 2, 1) := bd02_60.1.1.2.2
theorem dX11_tower_65 : decode cX11_tower 65 = .ok (.ireturn, 1) := bd02_60.1.2.1.1
theorem dX11_tower_66 : decode cX11_tower 66 = .ok (.aload_n 0, 1) := bd02_60.1.2.1.2
theorem dX11_tower_67 : decode cX11_tower 67 = .ok (.getfield 32, 3) := bd02_60.1.2.2.1
theorem dX11_tower_70 : decode cX11_tower 70 = .ok (.aload_n 0, 1) := bd02_60.1.2.2.2
theorem dX11_tower_71 : decode cX11_tower 71 = .ok (.getfield 25, 3) := bd02_60.2.1.1.1
theorem dX11_tower_74 : decode cX11_tower 74 = .ok (.getfield 107, 3) := bd02_60.2.1.1.2
theorem dX11_tower_77 : decode cX11_tower 77 = .ok (.invokevirtual 110, 3) := bd02_60.2.1.2.1
theorem dX11_tower_80 : decode cX11_tower 80 = .ok (.aload_n 0, 1) := bd02_60.2.1.2.2
theorem dX11_tower_81 : decode cX11_tower 81 = .ok (.getfield 39, 3) := bd02_60.2.2.1.1
theorem dX11_tower_84 : decode cX11_tower 84 = .ok (.aload_n 0, 1) := bd02_60.2.2.1.2
theorem dX11_tower_85 : decode cX11_tower 85 = .ok (.getfield 32, 3) := bd02_60.2.2.2.1
theorem dX11_tower_88 : decode cX11_tower 88 = .ok (.getfield 113, 3) := bd02_60.2.2.2.2
theorem bd02_61 : ((decode cX11_tower 91 = .ok (.invokevirtual 116, 3) ∧ decode cX11_tower 94 = .ok (.aload_n 0, 1)) ∧ (decode cX11_tower 95 = .ok (.iconst 0, 1) ∧ decode cX11_tower 96 = .ok (.putfield 46, 3))) ∧ ((decode cX11_tower 99 = .ok (.iconst 0, 1) ∧ decode cX11_tower 100 = .ok (.ireturn, 1)) ∧ (decode cX11_fault 0 = .ok (.aload_n 0, 1) ∧ decode cX11_fault 1 = .ok (.getfield 17, 3))) := by decide +kernel
theorem dX11_tower_91 : decode cX11_tower 91 = .ok (.invokevirtual 116, 3) := bd02_61.1.1.1
theorem dX11_tower_94 : decode cX11_tower 94 = .ok (.aload_n 0, 1) := bd02_61.1.1.2
theorem dX11_tower_95 : decode cX11_tower 95 = .ok (.iconst 0, 1) := bd02_61.1.2.1
theorem dX11_tower_96 : decode cX11_tower 96 = .ok (.putfield 46, 3) := bd02_61.1.2.2
theorem dX11_tower_99 : decode cX11_tower 99 = .ok (.iconst 0, 1) := bd02_61.2.1.1
theorem dX11_tower_100 : decode cX11_tower 100 = .ok (.ireturn, 1) := bd02_61.2.1.2
theorem dX11_fault_0 : decode cX11_fault 0 = .ok (.aload_n 0, 1) := bd02_61.2.2.1
theorem dX11_fault_1 : decode cX11_fault 1 = .ok (.getfield 17, 3) := bd02_61.2.2.2
theorem bd02_62 : ((decode cX11_fault 4 = .ok (.ireturn, 1) ∧ decode cX11_count 0 = .ok (.aload_n 0, 1)) ∧ (decode cX11_count 1 = .ok (.getfield 39, 3) ∧ decode cX11_count 4 = .ok (.getfield 61, 3))) ∧ ((decode cX11_count 7 = .ok (.astore_n 2, 1) ∧ decode cX11_count 8 = .ok (.iload_n 1, 1)) ∧ (decode cX11_count 9 = .ok (.tableswitch 182 0 15 #[79, 84, 89, 94, 106, 114, 122, 127, 132, 137, 142, 153, 164, 169, 169, 169], 79) ∧ decode cX11_count 88 = .ok (.aload_n 2, 1))) := by decide +kernel
theorem dX11_fault_4 : decode cX11_fault 4 = .ok (.ireturn, 1) := bd02_62.1.1.1
theorem dX11_count_0 : decode cX11_count 0 = .ok (.aload_n 0, 1) := bd02_62.1.1.2
theorem dX11_count_1 : decode cX11_count 1 = .ok (.getfield 39, 3) := bd02_62.1.2.1
theorem dX11_count_4 : decode cX11_count 4 = .ok (.getfield 61, 3) := bd02_62.1.2.2
theorem dX11_count_7 : decode cX11_count 7 = .ok (.astore_n 2, 1) := bd02_62.2.1.1
theorem dX11_count_8 : decode cX11_count 8 = .ok (.iload_n 1, 1) := bd02_62.2.1.2
theorem dX11_count_9 : decode cX11_count 9 = .ok (.tableswitch 182 0 15 #[79, 84, 89, 94, 106, 114, 122, 127, 132, 137, 142, 153, 164, 169, 169, 169], 79) := bd02_62.2.2.1
theorem dX11_count_88 : decode cX11_count 88 = .ok (.aload_n 2, 1) := bd02_62.2.2.2
theorem bd02_63 : (((decode cX11_count 89 = .ok (.getfield 119, 3) ∧ decode cX11_count 92 = .ok (.ireturn, 1)) ∧ (decode cX11_count 93 = .ok (.aload_n 2, 1) ∧ decode cX11_count 94 = .ok (.getfield 124, 3))) ∧ ((decode cX11_count 97 = .ok (.ireturn, 1) ∧ decode cX11_count 98 = .ok (.aload_n 2, 1)) ∧ (decode cX11_count 99 = .ok (.getfield 127, 3) ∧ decode cX11_count 102 = .ok (.ireturn, 1)))) ∧ (((decode cX11_count 103 = .ok (.aload_n 0, 1) ∧ decode cX11_count 104 = .ok (.getfield 32, 3)) ∧ (decode cX11_count 107 = .ok (.aload_n 2, 1) ∧ decode cX11_count 108 = .ok (.getfield 127, 3))) ∧ ((decode cX11_count 111 = .ok (.invokevirtual 130, 3) ∧ decode cX11_count 114 = .ok (.ireturn, 1)) ∧ (decode cX11_count 115 = .ok (.aload_n 0, 1) ∧ decode cX11_count 116 = .ok (.getfield 32, 3)))) := by decide +kernel
theorem dX11_count_89 : decode cX11_count 89 = .ok (.getfield 119, 3) := bd02_63.1.1.1.1
theorem dX11_count_92 : decode cX11_count 92 = .ok (.ireturn, 1) := bd02_63.1.1.1.2
theorem dX11_count_93 : decode cX11_count 93 = .ok (.aload_n 2, 1) := bd02_63.1.1.2.1
theorem dX11_count_94 : decode cX11_count 94 = .ok (.getfield 124, 3) := bd02_63.1.1.2.2
theorem dX11_count_97 : decode cX11_count 97 = .ok (.ireturn, 1) := bd02_63.1.2.1.1
theorem dX11_count_98 : decode cX11_count 98 = .ok (.aload_n 2, 1) := bd02_63.1.2.1.2
theorem dX11_count_99 : decode cX11_count 99 = .ok (.getfield 127, 3) := bd02_63.1.2.2.1
theorem dX11_count_102 : decode cX11_count 102 = .ok (.ireturn, 1) := bd02_63.1.2.2.2
theorem dX11_count_103 : decode cX11_count 103 = .ok (.aload_n 0, 1) := bd02_63.2.1.1.1
theorem dX11_count_104 : decode cX11_count 104 = .ok (.getfield 32, 3) := bd02_63.2.1.1.2
theorem dX11_count_107 : decode cX11_count 107 = .ok (.aload_n 2, 1) := bd02_63.2.1.2.1
theorem dX11_count_108 : decode cX11_count 108 = .ok (.getfield 127, 3) := bd02_63.2.1.2.2
theorem dX11_count_111 : decode cX11_count 111 = .ok (.invokevirtual 130, 3) := bd02_63.2.2.1.1
theorem dX11_count_114 : decode cX11_count 114 = .ok (.ireturn, 1) := bd02_63.2.2.1.2
theorem dX11_count_115 : decode cX11_count 115 = .ok (.aload_n 0, 1) := bd02_63.2.2.2.1
theorem dX11_count_116 : decode cX11_count 116 = .ok (.getfield 32, 3) := bd02_63.2.2.2.2
theorem bd02_64 : (((decode cX11_count 119 = .ok (.getfield 133, 3) ∧ decode cX11_count 122 = .ok (.ireturn, 1)) ∧ (decode cX11_count 123 = .ok (.aload_n 2, 1) ∧ decode cX11_count 124 = .ok (.invokevirtual 136, 3))) ∧ ((decode cX11_count 127 = .ok (.invokestatic 140, 3) ∧ decode cX11_count 130 = .ok (.ireturn, 1)) ∧ (decode cX11_count 131 = .ok (.aload_n 2, 1) ∧ decode cX11_count 132 = .ok (.invokevirtual 145, 3)))) ∧ (((decode cX11_count 135 = .ok (.ireturn, 1) ∧ decode cX11_count 136 = .ok (.aload_n 2, 1)) ∧ (decode cX11_count 137 = .ok (.invokevirtual 148, 3) ∧ decode cX11_count 140 = .ok (.ireturn, 1))) ∧ ((decode cX11_count 141 = .ok (.aload_n 2, 1) ∧ decode cX11_count 142 = .ok (.invokevirtual 151, 3)) ∧ (decode cX11_count 145 = .ok (.ireturn, 1) ∧ decode cX11_count 146 = .ok (.aload_n 2, 1)))) := by decide +kernel
theorem dX11_count_119 : decode cX11_count 119 = .ok (.getfield 133, 3) := bd02_64.1.1.1.1
theorem dX11_count_122 : decode cX11_count 122 = .ok (.ireturn, 1) := bd02_64.1.1.1.2
theorem dX11_count_123 : decode cX11_count 123 = .ok (.aload_n 2, 1) := bd02_64.1.1.2.1
theorem dX11_count_124 : decode cX11_count 124 = .ok (.invokevirtual 136, 3) := bd02_64.1.1.2.2
theorem dX11_count_127 : decode cX11_count 127 = .ok (.invokestatic 140, 3) := bd02_64.1.2.1.1
theorem dX11_count_130 : decode cX11_count 130 = .ok (.ireturn, 1) := bd02_64.1.2.1.2
theorem dX11_count_131 : decode cX11_count 131 = .ok (.aload_n 2, 1) := bd02_64.1.2.2.1
theorem dX11_count_132 : decode cX11_count 132 = .ok (.invokevirtual 145, 3) := bd02_64.1.2.2.2
theorem dX11_count_135 : decode cX11_count 135 = .ok (.ireturn, 1) := bd02_64.2.1.1.1
theorem dX11_count_136 : decode cX11_count 136 = .ok (.aload_n 2, 1) := bd02_64.2.1.1.2
theorem dX11_count_137 : decode cX11_count 137 = .ok (.invokevirtual 148, 3) := bd02_64.2.1.2.1
theorem dX11_count_140 : decode cX11_count 140 = .ok (.ireturn, 1) := bd02_64.2.1.2.2
theorem dX11_count_141 : decode cX11_count 141 = .ok (.aload_n 2, 1) := bd02_64.2.2.1.1
theorem dX11_count_142 : decode cX11_count 142 = .ok (.invokevirtual 151, 3) := bd02_64.2.2.1.2
theorem dX11_count_145 : decode cX11_count 145 = .ok (.ireturn, 1) := bd02_64.2.2.2.1
theorem dX11_count_146 : decode cX11_count 146 = .ok (.aload_n 2, 1) := bd02_64.2.2.2.2
theorem bd02_65 : (((decode cX11_count 147 = .ok (.invokevirtual 154, 3) ∧ decode cX11_count 150 = .ok (.ireturn, 1)) ∧ (decode cX11_count 151 = .ok (.aload_n 0, 1) ∧ decode cX11_count 152 = .ok (.getfield 39, 3))) ∧ ((decode cX11_count 155 = .ok (.getfield 157, 3) ∧ decode cX11_count 158 = .ok (.getfield 161, 3)) ∧ (decode cX11_count 161 = .ok (.ireturn, 1) ∧ decode cX11_count 162 = .ok (.aload_n 0, 1)))) ∧ (((decode cX11_count 163 = .ok (.getfield 39, 3) ∧ decode cX11_count 166 = .ok (.getfield 166, 3)) ∧ (decode cX11_count 169 = .ok (.getfield 170, 3) ∧ decode cX11_count 172 = .ok (.ireturn, 1))) ∧ ((decode cX11_count 173 = .ok (.aload_n 0, 1) ∧ decode cX11_count 174 = .ok (.getfield 13, 3)) ∧ (decode cX11_count 177 = .ok (.ireturn, 1) ∧ decode cX11_count 178 = .ok (.aload_n 0, 1)))) := by decide +kernel
theorem dX11_count_147 : decode cX11_count 147 = .ok (.invokevirtual 154, 3) := bd02_65.1.1.1.1
theorem dX11_count_150 : decode cX11_count 150 = .ok (.ireturn, 1) := bd02_65.1.1.1.2
theorem dX11_count_151 : decode cX11_count 151 = .ok (.aload_n 0, 1) := bd02_65.1.1.2.1
theorem dX11_count_152 : decode cX11_count 152 = .ok (.getfield 39, 3) := bd02_65.1.1.2.2
theorem dX11_count_155 : decode cX11_count 155 = .ok (.getfield 157, 3) := bd02_65.1.2.1.1
theorem dX11_count_158 : decode cX11_count 158 = .ok (.getfield 161, 3) := bd02_65.1.2.1.2
theorem dX11_count_161 : decode cX11_count 161 = .ok (.ireturn, 1) := bd02_65.1.2.2.1
theorem dX11_count_162 : decode cX11_count 162 = .ok (.aload_n 0, 1) := bd02_65.1.2.2.2
theorem dX11_count_163 : decode cX11_count 163 = .ok (.getfield 39, 3) := bd02_65.2.1.1.1
theorem dX11_count_166 : decode cX11_count 166 = .ok (.getfield 166, 3) := bd02_65.2.1.1.2
theorem dX11_count_169 : decode cX11_count 169 = .ok (.getfield 170, 3) := bd02_65.2.1.2.1
theorem dX11_count_172 : decode cX11_count 172 = .ok (.ireturn, 1) := bd02_65.2.1.2.2
theorem dX11_count_173 : decode cX11_count 173 = .ok (.aload_n 0, 1) := bd02_65.2.2.1.1
theorem dX11_count_174 : decode cX11_count 174 = .ok (.getfield 13, 3) := bd02_65.2.2.1.2
theorem dX11_count_177 : decode cX11_count 177 = .ok (.ireturn, 1) := bd02_65.2.2.2.1
theorem dX11_count_178 : decode cX11_count 178 = .ok (.aload_n 0, 1) := bd02_65.2.2.2.2
theorem bd02_66 : (((decode cX11_count 179 = .ok (.getfield 39, 3) ∧ decode cX11_count 182 = .ok (.getfield 104, 3)) ∧ (decode cX11_count 185 = .ok (.iload_n 1, 1))) ∧ ((decode cX11_count 186 = .ok (.bipush 13, 2) ∧ decode cX11_count 188 = .ok (.isub, 1)) ∧ (decode cX11_count 189 = .ok (.iaload, 1)))) ∧ (((decode cX11_count 190 = .ok (.ireturn, 1) ∧ decode cX11_count 191 = .ok (.new 173, 3)) ∧ (decode cX11_count 194 = .ok (.dup, 1))) ∧ ((decode cX11_count 195 = .ok (.ldc 175, 2) ∧ decode cX11_count 197 = .ok (.invokespecial 177, 3)) ∧ (decode cX11_count 200 = .ok (.athrow, 1)))) := by decide +kernel
theorem dX11_count_179 : decode cX11_count 179 = .ok (.getfield 39, 3) := bd02_66.1.1.1.1
theorem dX11_count_182 : decode cX11_count 182 = .ok (.getfield 104, 3) := bd02_66.1.1.1.2
theorem dX11_count_185 : decode cX11_count 185 = .ok (.iload_n 1, 1) := bd02_66.1.1.2
theorem dX11_count_186 : decode cX11_count 186 = .ok (.bipush 13, 2) := bd02_66.1.2.1.1
theorem dX11_count_188 : decode cX11_count 188 = .ok (.isub, 1) := bd02_66.1.2.1.2
theorem dX11_count_189 : decode cX11_count 189 = .ok (.iaload, 1) := bd02_66.1.2.2
theorem dX11_count_190 : decode cX11_count 190 = .ok (.ireturn, 1) := bd02_66.2.1.1.1
theorem dX11_count_191 : decode cX11_count 191 = .ok (.new 173, 3) := bd02_66.2.1.1.2
theorem dX11_count_194 : decode cX11_count 194 = .ok (.dup, 1) := bd02_66.2.1.2
theorem dX11_count_195 : decode cX11_count 195 = .ok (.ldc 175, 2) := bd02_66.2.2.1.1
theorem dX11_count_197 : decode cX11_count 197 = .ok (.invokespecial 177, 3) := bd02_66.2.2.1.2
theorem dX11_count_200 : decode cX11_count 200 = .ok (.athrow, 1) := bd02_66.2.2.2
theorem bd02_67 : (((decode cX11_gargoyle 0 = .ok (.aload_n 0, 1) ∧ decode cX11_gargoyle 1 = .ok (.iload_n 1, 1)) ∧ (decode cX11_gargoyle 2 = .ok (.invokevirtual 178, 3) ∧ decode cX11_gargoyle 5 = .ok (.aload_n 0, 1))) ∧ ((decode cX11_gargoyle 6 = .ok (.getfield 39, 3) ∧ decode cX11_gargoyle 9 = .ok (.getfield 61, 3)) ∧ (decode cX11_gargoyle 12 = .ok (.astore_n 3, 1) ∧ decode cX11_gargoyle 13 = .ok (.iload_n 2, 1)))) ∧ (((decode cX11_gargoyle 14 = .ok (.tableswitch 67 0 4 #[34, 41, 48, 55, 61], 34) ∧ decode cX11_gargoyle 48 = .ok (.aload_n 3, 1)) ∧ (decode cX11_gargoyle 49 = .ok (.getfield 181, 3) ∧ decode cX11_gargoyle 52 = .ok (.iload_n 1, 1))) ∧ ((decode cX11_gargoyle 53 = .ok (.iaload, 1) ∧ decode cX11_gargoyle 54 = .ok (.ireturn, 1)) ∧ (decode cX11_gargoyle 55 = .ok (.aload_n 3, 1) ∧ decode cX11_gargoyle 56 = .ok (.getfield 184, 3)))) := by decide +kernel
theorem dX11_gargoyle_0 : decode cX11_gargoyle 0 = .ok (.aload_n 0, 1) := bd02_67.1.1.1.1
theorem dX11_gargoyle_1 : decode cX11_gargoyle 1 = .ok (.iload_n 1, 1) := bd02_67.1.1.1.2
theorem dX11_gargoyle_2 : decode cX11_gargoyle 2 = .ok (.invokevirtual 178, 3) := bd02_67.1.1.2.1
theorem dX11_gargoyle_5 : decode cX11_gargoyle 5 = .ok (.aload_n 0, 1) := bd02_67.1.1.2.2
theorem dX11_gargoyle_6 : decode cX11_gargoyle 6 = .ok (.getfield 39, 3) := bd02_67.1.2.1.1
theorem dX11_gargoyle_9 : decode cX11_gargoyle 9 = .ok (.getfield 61, 3) := bd02_67.1.2.1.2
theorem dX11_gargoyle_12 : decode cX11_gargoyle 12 = .ok (.astore_n 3, 1) := bd02_67.1.2.2.1
theorem dX11_gargoyle_13 : decode cX11_gargoyle 13 = .ok (.iload_n 2, 1) := bd02_67.1.2.2.2
theorem dX11_gargoyle_14 : decode cX11_gargoyle 14 = .ok (.tableswitch 67 0 4 #[34, 41, 48, 55, 61], 34) := bd02_67.2.1.1.1
theorem dX11_gargoyle_48 : decode cX11_gargoyle 48 = .ok (.aload_n 3, 1) := bd02_67.2.1.1.2
theorem dX11_gargoyle_49 : decode cX11_gargoyle 49 = .ok (.getfield 181, 3) := bd02_67.2.1.2.1
theorem dX11_gargoyle_52 : decode cX11_gargoyle 52 = .ok (.iload_n 1, 1) := bd02_67.2.1.2.2
theorem dX11_gargoyle_53 : decode cX11_gargoyle 53 = .ok (.iaload, 1) := bd02_67.2.2.1.1
theorem dX11_gargoyle_54 : decode cX11_gargoyle 54 = .ok (.ireturn, 1) := bd02_67.2.2.1.2
theorem dX11_gargoyle_55 : decode cX11_gargoyle 55 = .ok (.aload_n 3, 1) := bd02_67.2.2.2.1
theorem dX11_gargoyle_56 : decode cX11_gargoyle 56 = .ok (.getfield 184, 3) := bd02_67.2.2.2.2
theorem bd02_68 : (((decode cX11_gargoyle 59 = .ok (.iload_n 1, 1) ∧ decode cX11_gargoyle 60 = .ok (.iaload, 1)) ∧ (decode cX11_gargoyle 61 = .ok (.ireturn, 1) ∧ decode cX11_gargoyle 62 = .ok (.aload_n 3, 1))) ∧ ((decode cX11_gargoyle 63 = .ok (.getfield 187, 3) ∧ decode cX11_gargoyle 66 = .ok (.iload_n 1, 1)) ∧ (decode cX11_gargoyle 67 = .ok (.iaload, 1) ∧ decode cX11_gargoyle 68 = .ok (.ireturn, 1)))) ∧ (((decode cX11_gargoyle 69 = .ok (.aload_n 3, 1) ∧ decode cX11_gargoyle 70 = .ok (.iload_n 1, 1)) ∧ (decode cX11_gargoyle 71 = .ok (.invokevirtual 190, 3) ∧ decode cX11_gargoyle 74 = .ok (.ireturn, 1))) ∧ ((decode cX11_gargoyle 75 = .ok (.aload_n 3, 1) ∧ decode cX11_gargoyle 76 = .ok (.iload_n 1, 1)) ∧ (decode cX11_gargoyle 77 = .ok (.invokevirtual 193, 3) ∧ decode cX11_gargoyle 80 = .ok (.ireturn, 1)))) := by decide +kernel
theorem dX11_gargoyle_59 : decode cX11_gargoyle 59 = .ok (.iload_n 1, 1) := bd02_68.1.1.1.1
theorem dX11_gargoyle_60 : decode cX11_gargoyle 60 = .ok (.iaload, 1) := bd02_68.1.1.1.2
theorem dX11_gargoyle_61 : decode cX11_gargoyle 61 = .ok (.ireturn, 1) := bd02_68.1.1.2.1
theorem dX11_gargoyle_62 : decode cX11_gargoyle 62 = .ok (.aload_n 3, 1) := bd02_68.1.1.2.2
theorem dX11_gargoyle_63 : decode cX11_gargoyle 63 = .ok (.getfield 187, 3) := bd02_68.1.2.1.1
theorem dX11_gargoyle_66 : decode cX11_gargoyle 66 = .ok (.iload_n 1, 1) := bd02_68.1.2.1.2
theorem dX11_gargoyle_67 : decode cX11_gargoyle 67 = .ok (.iaload, 1) := bd02_68.1.2.2.1
theorem dX11_gargoyle_68 : decode cX11_gargoyle 68 = .ok (.ireturn, 1) := bd02_68.1.2.2.2
theorem dX11_gargoyle_69 : decode cX11_gargoyle 69 = .ok (.aload_n 3, 1) := bd02_68.2.1.1.1
theorem dX11_gargoyle_70 : decode cX11_gargoyle 70 = .ok (.iload_n 1, 1) := bd02_68.2.1.1.2
theorem dX11_gargoyle_71 : decode cX11_gargoyle 71 = .ok (.invokevirtual 190, 3) := bd02_68.2.1.2.1
theorem dX11_gargoyle_74 : decode cX11_gargoyle 74 = .ok (.ireturn, 1) := bd02_68.2.1.2.2
theorem dX11_gargoyle_75 : decode cX11_gargoyle 75 = .ok (.aload_n 3, 1) := bd02_68.2.2.1.1
theorem dX11_gargoyle_76 : decode cX11_gargoyle 76 = .ok (.iload_n 1, 1) := bd02_68.2.2.1.2
theorem dX11_gargoyle_77 : decode cX11_gargoyle 77 = .ok (.invokevirtual 193, 3) := bd02_68.2.2.2.1
theorem dX11_gargoyle_80 : decode cX11_gargoyle 80 = .ok (.ireturn, 1) := bd02_68.2.2.2.2
theorem bd02_69 : ((decode cX11_gargoyle 81 = .ok (.new 173, 3) ∧ decode cX11_gargoyle 84 = .ok (.dup, 1)) ∧ (decode cX11_gargoyle 85 = .ok (.ldc 196, 2) ∧ decode cX11_gargoyle 87 = .ok (.invokespecial 177, 3))) ∧ ((decode cX11_gargoyle 90 = .ok (.athrow, 1) ∧ decode cX11_person 0 = .ok (.aload_n 0, 1)) ∧ (decode cX11_person 1 = .ok (.iload_n 1, 1) ∧ decode cX11_person 2 = .ok (.invokevirtual 198, 3))) := by decide +kernel
theorem dX11_gargoyle_81 : decode cX11_gargoyle 81 = .ok (.new 173, 3) := bd02_69.1.1.1
theorem dX11_gargoyle_84 : decode cX11_gargoyle 84 = .ok (.dup, 1) := bd02_69.1.1.2
theorem dX11_gargoyle_85 : decode cX11_gargoyle 85 = .ok (.ldc 196, 2) := bd02_69.1.2.1
theorem dX11_gargoyle_87 : decode cX11_gargoyle 87 = .ok (.invokespecial 177, 3) := bd02_69.1.2.2
theorem dX11_gargoyle_90 : decode cX11_gargoyle 90 = .ok (.athrow, 1) := bd02_69.2.1.1
theorem dX11_person_0 : decode cX11_person 0 = .ok (.aload_n 0, 1) := bd02_69.2.1.2
theorem dX11_person_1 : decode cX11_person 1 = .ok (.iload_n 1, 1) := bd02_69.2.2.1
theorem dX11_person_2 : decode cX11_person 2 = .ok (.invokevirtual 198, 3) := bd02_69.2.2.2
theorem bd02_70 : (((decode cX11_person 5 = .ok (.aload_n 0, 1) ∧ decode cX11_person 6 = .ok (.getfield 39, 3)) ∧ (decode cX11_person 9 = .ok (.getfield 61, 3) ∧ decode cX11_person 12 = .ok (.astore_n 3, 1))) ∧ ((decode cX11_person 13 = .ok (.iload_n 2, 1) ∧ decode cX11_person 14 = .ok (.tableswitch 91 0 5 #[38, 48, 58, 65, 72, 79], 38)) ∧ (decode cX11_person 52 = .ok (.aload_n 3, 1) ∧ decode cX11_person 53 = .ok (.getfield 181, 3)))) ∧ (((decode cX11_person 56 = .ok (.iload_n 1, 1) ∧ decode cX11_person 57 = .ok (.invokestatic 201, 3)) ∧ (decode cX11_person 60 = .ok (.iaload, 1) ∧ decode cX11_person 61 = .ok (.ireturn, 1))) ∧ ((decode cX11_person 62 = .ok (.aload_n 3, 1) ∧ decode cX11_person 63 = .ok (.getfield 184, 3)) ∧ (decode cX11_person 66 = .ok (.iload_n 1, 1) ∧ decode cX11_person 67 = .ok (.invokestatic 201, 3)))) := by decide +kernel
theorem dX11_person_5 : decode cX11_person 5 = .ok (.aload_n 0, 1) := bd02_70.1.1.1.1
theorem dX11_person_6 : decode cX11_person 6 = .ok (.getfield 39, 3) := bd02_70.1.1.1.2
theorem dX11_person_9 : decode cX11_person 9 = .ok (.getfield 61, 3) := bd02_70.1.1.2.1
theorem dX11_person_12 : decode cX11_person 12 = .ok (.astore_n 3, 1) := bd02_70.1.1.2.2
theorem dX11_person_13 : decode cX11_person 13 = .ok (.iload_n 2, 1) := bd02_70.1.2.1.1
theorem dX11_person_14 : decode cX11_person 14 = .ok (.tableswitch 91 0 5 #[38, 48, 58, 65, 72, 79], 38) := bd02_70.1.2.1.2
theorem dX11_person_52 : decode cX11_person 52 = .ok (.aload_n 3, 1) := bd02_70.1.2.2.1
theorem dX11_person_53 : decode cX11_person 53 = .ok (.getfield 181, 3) := bd02_70.1.2.2.2
theorem dX11_person_56 : decode cX11_person 56 = .ok (.iload_n 1, 1) := bd02_70.2.1.1.1
theorem dX11_person_57 : decode cX11_person 57 = .ok (.invokestatic 201, 3) := bd02_70.2.1.1.2
theorem dX11_person_60 : decode cX11_person 60 = .ok (.iaload, 1) := bd02_70.2.1.2.1
theorem dX11_person_61 : decode cX11_person 61 = .ok (.ireturn, 1) := bd02_70.2.1.2.2
theorem dX11_person_62 : decode cX11_person 62 = .ok (.aload_n 3, 1) := bd02_70.2.2.1.1
theorem dX11_person_63 : decode cX11_person 63 = .ok (.getfield 184, 3) := bd02_70.2.2.1.2
theorem dX11_person_66 : decode cX11_person 66 = .ok (.iload_n 1, 1) := bd02_70.2.2.2.1
theorem dX11_person_67 : decode cX11_person 67 = .ok (.invokestatic 201, 3) := bd02_70.2.2.2.2
theorem bd02_71 : (((decode cX11_person 70 = .ok (.iaload, 1) ∧ decode cX11_person 71 = .ok (.ireturn, 1)) ∧ (decode cX11_person 72 = .ok (.aload_n 3, 1) ∧ decode cX11_person 73 = .ok (.getfield 204, 3))) ∧ ((decode cX11_person 76 = .ok (.iload_n 1, 1) ∧ decode cX11_person 77 = .ok (.iaload, 1)) ∧ (decode cX11_person 78 = .ok (.ireturn, 1) ∧ decode cX11_person 79 = .ok (.aload_n 3, 1)))) ∧ (((decode cX11_person 80 = .ok (.getfield 207, 3) ∧ decode cX11_person 83 = .ok (.iload_n 1, 1)) ∧ (decode cX11_person 84 = .ok (.iaload, 1) ∧ decode cX11_person 85 = .ok (.ireturn, 1))) ∧ ((decode cX11_person 86 = .ok (.aload_n 3, 1) ∧ decode cX11_person 87 = .ok (.getfield 210, 3)) ∧ (decode cX11_person 90 = .ok (.iload_n 1, 1) ∧ decode cX11_person 91 = .ok (.iaload, 1)))) := by decide +kernel
theorem dX11_person_70 : decode cX11_person 70 = .ok (.iaload, 1) := bd02_71.1.1.1.1
theorem dX11_person_71 : decode cX11_person 71 = .ok (.ireturn, 1) := bd02_71.1.1.1.2
theorem dX11_person_72 : decode cX11_person 72 = .ok (.aload_n 3, 1) := bd02_71.1.1.2.1
theorem dX11_person_73 : decode cX11_person 73 = .ok (.getfield 204, 3) := bd02_71.1.1.2.2
theorem dX11_person_76 : decode cX11_person 76 = .ok (.iload_n 1, 1) := bd02_71.1.2.1.1
theorem dX11_person_77 : decode cX11_person 77 = .ok (.iaload, 1) := bd02_71.1.2.1.2
theorem dX11_person_78 : decode cX11_person 78 = .ok (.ireturn, 1) := bd02_71.1.2.2.1
theorem dX11_person_79 : decode cX11_person 79 = .ok (.aload_n 3, 1) := bd02_71.1.2.2.2
theorem dX11_person_80 : decode cX11_person 80 = .ok (.getfield 207, 3) := bd02_71.2.1.1.1
theorem dX11_person_83 : decode cX11_person 83 = .ok (.iload_n 1, 1) := bd02_71.2.1.1.2
theorem dX11_person_84 : decode cX11_person 84 = .ok (.iaload, 1) := bd02_71.2.1.2.1
theorem dX11_person_85 : decode cX11_person 85 = .ok (.ireturn, 1) := bd02_71.2.1.2.2
theorem dX11_person_86 : decode cX11_person 86 = .ok (.aload_n 3, 1) := bd02_71.2.2.1.1
theorem dX11_person_87 : decode cX11_person 87 = .ok (.getfield 210, 3) := bd02_71.2.2.1.2
theorem dX11_person_90 : decode cX11_person 90 = .ok (.iload_n 1, 1) := bd02_71.2.2.2.1
theorem dX11_person_91 : decode cX11_person 91 = .ok (.iaload, 1) := bd02_71.2.2.2.2
theorem bd02_72 : (((decode cX11_person 92 = .ok (.ireturn, 1) ∧ decode cX11_person 93 = .ok (.aload_n 0, 1)) ∧ (decode cX11_person 94 = .ok (.getfield 32, 3) ∧ decode cX11_person 97 = .ok (.getfield 213, 3))) ∧ ((decode cX11_person 100 = .ok (.iload_n 1, 1) ∧ decode cX11_person 101 = .ok (.ishr, 1)) ∧ (decode cX11_person 102 = .ok (.iconst 1, 1)))) ∧ (((decode cX11_person 103 = .ok (.iand, 1) ∧ decode cX11_person 104 = .ok (.ireturn, 1)) ∧ (decode cX11_person 105 = .ok (.new 173, 3) ∧ decode cX11_person 108 = .ok (.dup, 1))) ∧ ((decode cX11_person 109 = .ok (.ldc 216, 2) ∧ decode cX11_person 111 = .ok (.invokespecial 177, 3)) ∧ (decode cX11_person 114 = .ok (.athrow, 1)))) := by decide +kernel
theorem dX11_person_92 : decode cX11_person 92 = .ok (.ireturn, 1) := bd02_72.1.1.1.1
theorem dX11_person_93 : decode cX11_person 93 = .ok (.aload_n 0, 1) := bd02_72.1.1.1.2
theorem dX11_person_94 : decode cX11_person 94 = .ok (.getfield 32, 3) := bd02_72.1.1.2.1
theorem dX11_person_97 : decode cX11_person 97 = .ok (.getfield 213, 3) := bd02_72.1.1.2.2
theorem dX11_person_100 : decode cX11_person 100 = .ok (.iload_n 1, 1) := bd02_72.1.2.1.1
theorem dX11_person_101 : decode cX11_person 101 = .ok (.ishr, 1) := bd02_72.1.2.1.2
theorem dX11_person_102 : decode cX11_person 102 = .ok (.iconst 1, 1) := bd02_72.1.2.2
theorem dX11_person_103 : decode cX11_person 103 = .ok (.iand, 1) := bd02_72.2.1.1.1
theorem dX11_person_104 : decode cX11_person 104 = .ok (.ireturn, 1) := bd02_72.2.1.1.2
theorem dX11_person_105 : decode cX11_person 105 = .ok (.new 173, 3) := bd02_72.2.1.2.1
theorem dX11_person_108 : decode cX11_person 108 = .ok (.dup, 1) := bd02_72.2.1.2.2
theorem dX11_person_109 : decode cX11_person 109 = .ok (.ldc 216, 2) := bd02_72.2.2.1.1
theorem dX11_person_111 : decode cX11_person 111 = .ok (.invokespecial 177, 3) := bd02_72.2.2.1.2
theorem dX11_person_114 : decode cX11_person 114 = .ok (.athrow, 1) := bd02_72.2.2.2
theorem bd02_73 : (((decode cX11_years 0 = .ok (.iload_n 1, 1) ∧ decode cX11_years 1 = .ok (.iconst 1, 1)) ∧ (decode cX11_years 2 = .ok (.if_icmp .lt 27, 3) ∧ decode cX11_years 5 = .ok (.iload_n 1, 1))) ∧ ((decode cX11_years 6 = .ok (.bipush 20, 2) ∧ decode cX11_years 8 = .ok (.if_icmp .gt 21, 3)) ∧ (decode cX11_years 11 = .ok (.aload_n 0, 1) ∧ decode cX11_years 12 = .ok (.getfield 39, 3)))) ∧ (((decode cX11_years 15 = .ok (.getfield 61, 3) ∧ decode cX11_years 18 = .ok (.getfield 127, 3)) ∧ (decode cX11_years 21 = .ok (.iload_n 1, 1) ∧ decode cX11_years 22 = .ok (.iadd, 1))) ∧ ((decode cX11_years 23 = .ok (.sipush 999, 3) ∧ decode cX11_years 26 = .ok (.if_icmp .le 9, 3)) ∧ (decode cX11_years 29 = .ok (.aload_n 0, 1) ∧ decode cX11_years 30 = .ok (.iconst (-1), 1)))) := by decide +kernel
theorem dX11_years_0 : decode cX11_years 0 = .ok (.iload_n 1, 1) := bd02_73.1.1.1.1
theorem dX11_years_1 : decode cX11_years 1 = .ok (.iconst 1, 1) := bd02_73.1.1.1.2
theorem dX11_years_2 : decode cX11_years 2 = .ok (.if_icmp .lt 27, 3) := bd02_73.1.1.2.1
theorem dX11_years_5 : decode cX11_years 5 = .ok (.iload_n 1, 1) := bd02_73.1.1.2.2
theorem dX11_years_6 : decode cX11_years 6 = .ok (.bipush 20, 2) := bd02_73.1.2.1.1
theorem dX11_years_8 : decode cX11_years 8 = .ok (.if_icmp .gt 21, 3) := bd02_73.1.2.1.2
theorem dX11_years_11 : decode cX11_years 11 = .ok (.aload_n 0, 1) := bd02_73.1.2.2.1
theorem dX11_years_12 : decode cX11_years 12 = .ok (.getfield 39, 3) := bd02_73.1.2.2.2
theorem dX11_years_15 : decode cX11_years 15 = .ok (.getfield 61, 3) := bd02_73.2.1.1.1
theorem dX11_years_18 : decode cX11_years 18 = .ok (.getfield 127, 3) := bd02_73.2.1.1.2
theorem dX11_years_21 : decode cX11_years 21 = .ok (.iload_n 1, 1) := bd02_73.2.1.2.1
theorem dX11_years_22 : decode cX11_years 22 = .ok (.iadd, 1) := bd02_73.2.1.2.2
theorem dX11_years_23 : decode cX11_years 23 = .ok (.sipush 999, 3) := bd02_73.2.2.1.1
theorem dX11_years_26 : decode cX11_years 26 = .ok (.if_icmp .le 9, 3) := bd02_73.2.2.1.2
theorem dX11_years_29 : decode cX11_years 29 = .ok (.aload_n 0, 1) := bd02_73.2.2.2.1
theorem dX11_years_30 : decode cX11_years 30 = .ok (.iconst (-1), 1) := bd02_73.2.2.2.2
theorem bd02_74 : (((decode cX11_years 31 = .ok (.invokevirtual 218, 3) ∧ decode cX11_years 34 = .ok (.ireturn, 1)) ∧ (decode cX11_years 35 = .ok (.aload_n 0, 1) ∧ decode cX11_years 36 = .ok (.getfield 39, 3))) ∧ ((decode cX11_years 39 = .ok (.getfield 157, 3) ∧ decode cX11_years 42 = .ok (.aload_n 0, 1)) ∧ (decode cX11_years 43 = .ok (.getfield 39, 3) ∧ decode cX11_years 46 = .ok (.getfield 61, 3)))) ∧ (((decode cX11_years 49 = .ok (.invokevirtual 221, 3) ∧ decode cX11_years 52 = .ok (.aload_n 0, 1)) ∧ (decode cX11_years 53 = .ok (.getfield 55, 3) ∧ decode cX11_years 56 = .ok (.aload_n 0, 1))) ∧ ((decode cX11_years 57 = .ok (.getfield 39, 3) ∧ decode cX11_years 60 = .ok (.getfield 61, 3)) ∧ (decode cX11_years 63 = .ok (.invokevirtual 224, 3) ∧ decode cX11_years 66 = .ok (.aload_n 0, 1)))) := by decide +kernel
theorem dX11_years_31 : decode cX11_years 31 = .ok (.invokevirtual 218, 3) := bd02_74.1.1.1.1
theorem dX11_years_34 : decode cX11_years 34 = .ok (.ireturn, 1) := bd02_74.1.1.1.2
theorem dX11_years_35 : decode cX11_years 35 = .ok (.aload_n 0, 1) := bd02_74.1.1.2.1
theorem dX11_years_36 : decode cX11_years 36 = .ok (.getfield 39, 3) := bd02_74.1.1.2.2
theorem dX11_years_39 : decode cX11_years 39 = .ok (.getfield 157, 3) := bd02_74.1.2.1.1
theorem dX11_years_42 : decode cX11_years 42 = .ok (.aload_n 0, 1) := bd02_74.1.2.1.2
theorem dX11_years_43 : decode cX11_years 43 = .ok (.getfield 39, 3) := bd02_74.1.2.2.1
theorem dX11_years_46 : decode cX11_years 46 = .ok (.getfield 61, 3) := bd02_74.1.2.2.2
theorem dX11_years_49 : decode cX11_years 49 = .ok (.invokevirtual 221, 3) := bd02_74.2.1.1.1
theorem dX11_years_52 : decode cX11_years 52 = .ok (.aload_n 0, 1) := bd02_74.2.1.1.2
theorem dX11_years_53 : decode cX11_years 53 = .ok (.getfield 55, 3) := bd02_74.2.1.2.1
theorem dX11_years_56 : decode cX11_years 56 = .ok (.aload_n 0, 1) := bd02_74.2.1.2.2
theorem dX11_years_57 : decode cX11_years 57 = .ok (.getfield 39, 3) := bd02_74.2.2.1.1
theorem dX11_years_60 : decode cX11_years 60 = .ok (.getfield 61, 3) := bd02_74.2.2.1.2
theorem dX11_years_63 : decode cX11_years 63 = .ok (.invokevirtual 224, 3) := bd02_74.2.2.2.1
theorem dX11_years_66 : decode cX11_years 66 = .ok (.aload_n 0, 1) := bd02_74.2.2.2.2
theorem bd02_75 : (((decode cX11_years 67 = .ok (.getfield 55, 3) ∧ decode cX11_years 70 = .ok (.iload_n 1, 1)) ∧ (decode cX11_years 71 = .ok (.invokevirtual 227, 3) ∧ decode cX11_years 74 = .ok (.aload_n 0, 1))) ∧ ((decode cX11_years 75 = .ok (.getfield 39, 3) ∧ decode cX11_years 78 = .ok (.getfield 61, 3)) ∧ (decode cX11_years 81 = .ok (.aload_n 0, 1) ∧ decode cX11_years 82 = .ok (.getfield 55, 3)))) ∧ (((decode cX11_years 85 = .ok (.getfield 230, 3) ∧ decode cX11_years 88 = .ok (.invokevirtual 231, 3)) ∧ (decode cX11_years 91 = .ok (.aload_n 0, 1) ∧ decode cX11_years 92 = .ok (.getfield 39, 3))) ∧ ((decode cX11_years 95 = .ok (.getfield 61, 3) ∧ decode cX11_years 98 = .ok (.getfield 127, 3)) ∧ (decode cX11_years 101 = .ok (.ireturn, 1)))) := by decide +kernel
theorem dX11_years_67 : decode cX11_years 67 = .ok (.getfield 55, 3) := bd02_75.1.1.1.1
theorem dX11_years_70 : decode cX11_years 70 = .ok (.iload_n 1, 1) := bd02_75.1.1.1.2
theorem dX11_years_71 : decode cX11_years 71 = .ok (.invokevirtual 227, 3) := bd02_75.1.1.2.1
theorem dX11_years_74 : decode cX11_years 74 = .ok (.aload_n 0, 1) := bd02_75.1.1.2.2
theorem dX11_years_75 : decode cX11_years 75 = .ok (.getfield 39, 3) := bd02_75.1.2.1.1
theorem dX11_years_78 : decode cX11_years 78 = .ok (.getfield 61, 3) := bd02_75.1.2.1.2
theorem dX11_years_81 : decode cX11_years 81 = .ok (.aload_n 0, 1) := bd02_75.1.2.2.1
theorem dX11_years_82 : decode cX11_years 82 = .ok (.getfield 55, 3) := bd02_75.1.2.2.2
theorem dX11_years_85 : decode cX11_years 85 = .ok (.getfield 230, 3) := bd02_75.2.1.1.1
theorem dX11_years_88 : decode cX11_years 88 = .ok (.invokevirtual 231, 3) := bd02_75.2.1.1.2
theorem dX11_years_91 : decode cX11_years 91 = .ok (.aload_n 0, 1) := bd02_75.2.1.2.1
theorem dX11_years_92 : decode cX11_years 92 = .ok (.getfield 39, 3) := bd02_75.2.1.2.2
theorem dX11_years_95 : decode cX11_years 95 = .ok (.getfield 61, 3) := bd02_75.2.2.1.1
theorem dX11_years_98 : decode cX11_years 98 = .ok (.getfield 127, 3) := bd02_75.2.2.1.2
theorem dX11_years_101 : decode cX11_years 101 = .ok (.ireturn, 1) := bd02_75.2.2.2
set_option maxRecDepth 20000 in
theorem ggX8_gainOf_X8_familyBits : GoodIn wsX8_gainOf wsX8_familyBits := goodIn_r _ [6, 7, 8, 21, 22, 23, 24, 25, 26, 27, 28, 29] (by first | rfl | decide +kernel) (by decide +kernel)
set_option maxRecDepth 20000 in
theorem gX8_gainOf_X8_familyBits : GoodIn wsX8_gainOf (wsV RX8 65 RX8 yX8_familyBits wsX8_familyBits) := goodIn_app (goodIn_of _ (by decide +kernel)) ggX8_gainOf_X8_familyBits
set_option maxRecDepth 20000 in
theorem ggX8_gainOf_X8_sitterBits : GoodIn wsX8_gainOf wsX8_sitterBits := goodIn_r _ [12, 7, 13, 21, 22, 23, 24, 25, 26, 27, 28, 29] (by first | rfl | decide +kernel) (by decide +kernel)
set_option maxRecDepth 20000 in
theorem gX8_gainOf_X8_sitterBits : GoodIn wsX8_gainOf (wsV RX8 68 RX8 yX8_sitterBits wsX8_sitterBits) := goodIn_app (goodIn_of _ (by decide +kernel)) ggX8_gainOf_X8_sitterBits
set_option maxRecDepth 20000 in
theorem ggX8_gainOf_J6_bitCount_0f7a4 : GoodIn wsX8_gainOf wsJ6_bitCount_0f7a4 := goodIn_r _ [17, 18, 19, 20] (by first | rfl | decide +kernel) (by decide +kernel)
set_option maxRecDepth 20000 in
theorem gX8_gainOf_J6_bitCount_0f7a4 : GoodIn wsX8_gainOf (va_wsS RX8 72 yJ6_bitCount_0f7a4 wsJ6_bitCount_0f7a4) := goodIn_app (goodIn_of _ (by decide +kernel)) ggX8_gainOf_J6_bitCount_0f7a4
set_option maxRecDepth 20000 in
theorem ggX8_setStone_X8_setFace : GoodIn wsX8_setStone wsX8_setFace := goodIn_r _ [10, 11, 12, 13, 14, 15, 16, 17, 18, 19, 20, 21] (by first | rfl | decide +kernel) (by decide +kernel)
set_option maxRecDepth 20000 in
theorem gX8_setStone_X8_setFace : GoodIn wsX8_setStone (wsV RX8 77 RX8 yX8_setFace wsX8_setFace) := goodIn_app (goodIn_of _ (by decide +kernel)) ggX8_setStone_X8_setFace
set_option maxRecDepth 20000 in
theorem ggX8_carve_X8_setFace : GoodIn wsX8_carve wsX8_setFace := goodIn_r _ [6, 7, 8, 9, 10, 11, 12, 13, 14, 15, 16, 17] (by first | rfl | decide +kernel) (by decide +kernel)
set_option maxRecDepth 20000 in
theorem gX8_carve_X8_setFace : GoodIn wsX8_carve (wsV RX8 77 RX8 yX8_setFace wsX8_setFace) := goodIn_app (goodIn_of _ (by decide +kernel)) ggX8_carve_X8_setFace
set_option maxRecDepth 20000 in
theorem ggX8_moveUp_X8_sitterAt : GoodIn wsX8_moveUp wsX8_sitterAt := goodIn_r _ [6, 7, 1, 8, 9, 10, 11, 12, 13, 14, 15, 16] (by first | rfl | decide +kernel) (by decide +kernel)
set_option maxRecDepth 20000 in
theorem gX8_moveUp_X8_sitterAt : GoodIn wsX8_moveUp (wsV RX8 81 RX8 yX8_sitterAt wsX8_sitterAt) := goodIn_app (goodIn_of _ (by decide +kernel)) ggX8_moveUp_X8_sitterAt
set_option maxRecDepth 20000 in
theorem ggX8_nearer_J6_compare_7cf53 : GoodIn wsX8_nearer wsJ6_compare_7cf53 := goodIn_r _ [4] (by first | rfl | decide +kernel) (by decide +kernel)
set_option maxRecDepth 20000 in
theorem gX8_nearer_J6_compare_7cf53 : GoodIn wsX8_nearer (va_wsS RX8 84 yJ6_compare_7cf53 wsJ6_compare_7cf53) := goodIn_app (goodIn_of _ (by decide +kernel)) ggX8_nearer_J6_compare_7cf53
set_option maxRecDepth 20000 in
theorem ggX8_growLike_X8_faceOf : GoodIn wsX8_growLike wsX8_faceOf := goodIn_r _ [6] (by first | rfl | decide +kernel) (by decide +kernel)
set_option maxRecDepth 20000 in
theorem gX8_growLike_X8_faceOf : GoodIn wsX8_growLike (va_wsS RX8 52 yX8_faceOf wsX8_faceOf) := goodIn_app (goodIn_of _ (by decide +kernel)) ggX8_growLike_X8_faceOf
set_option maxRecDepth 20000 in
theorem ggX8_growLike_X8_nearer : GoodIn wsX8_growLike wsX8_nearer := goodIn_r _ [9, 10, 11, 12, 13] (by first | rfl | decide +kernel) (by decide +kernel)
set_option maxRecDepth 20000 in
theorem gX8_growLike_X8_nearer : GoodIn wsX8_growLike (va_wsS RX8 87 yX8_nearer wsX8_nearer) := goodIn_app (goodIn_of _ (by decide +kernel)) ggX8_growLike_X8_nearer
set_option maxRecDepth 20000 in
theorem ggX8_growLike_X8_setFace : GoodIn wsX8_growLike wsX8_setFace := goodIn_r _ [17, 1, 2, 18, 19, 20, 21, 22, 23, 24, 25, 26] (by first | rfl | decide +kernel) (by decide +kernel)
set_option maxRecDepth 20000 in
theorem gX8_growLike_X8_setFace : GoodIn wsX8_growLike (wsV RX8 77 RX8 yX8_setFace wsX8_setFace) := goodIn_app (goodIn_of _ (by decide +kernel)) ggX8_growLike_X8_setFace
set_option maxRecDepth 20000 in
theorem ggX9_init_X8_init : GoodIn wsX9_init wsX8_init := goodIn_r _ [13, 14, 2, 3, 8, 15, 16, 17, 18, 19, 20, 21, 22, 23, 24, 25, 26, 27, 28, 29] (by first | rfl | decide +kernel) (by decide +kernel)
set_option maxRecDepth 20000 in
theorem gX9_init_X8_init_n11 : GoodIn wsX9_init (wsX8_init) := ggX9_init_X8_init
set_option maxRecDepth 20000 in
theorem ggX9_begin_X8_copyFrom : GoodIn wsX9_begin wsX8_copyFrom := goodIn_r _ [7, 8, 9, 10, 11, 12, 13, 14, 15, 16, 17, 18, 19, 20, 26, 27, 28, 29, 30, 31, 32, 33, 34] (by first | rfl | decide +kernel) (by decide +kernel)
set_option maxRecDepth 20000 in
theorem gX9_begin_X8_copyFrom : GoodIn wsX9_begin (wsV RX9 31 RX8 yX8_copyFrom wsX8_copyFrom) := goodIn_app (goodIn_of _ (by decide +kernel)) ggX9_begin_X8_copyFrom
set_option maxRecDepth 20000 in
theorem ggX9_passYears_X3_rainOf : GoodIn wsX9_passYears wsX3_rainOf := goodIn_r _ [8, 9, 10, 128, 129, 130, 131, 132, 133, 134, 135] (by first | rfl | decide +kernel) (by decide +kernel)
set_option maxRecDepth 20000 in
theorem gX9_passYears_X3_rainOf : GoodIn wsX9_passYears (wsV RX9 42 RX3 yX3_rainOf wsX3_rainOf) := goodIn_app (goodIn_of _ (by decide +kernel)) ggX9_passYears_X3_rainOf
set_option maxRecDepth 20000 in
theorem ggX9_passYears_X9_passYear : GoodIn wsX9_passYears wsX9_passYear := goodIn_r _ [15, 16, 2, 3, 17, 18, 19, 14, 20, 21, 22, 1, 23, 24, 25, 26, 27, 28, 29, 30, 31, 32, 33, 34, 35, 36, 37, 38, 39, 40, 41, 42, 43, 44, 45, 46, 47, 48, 49, 50, 51, 52, 53, 54, 55, 56, 57, 58, 59, 60, 61, 62, 63, 64, 65, 66, 67, 68, 69, 70, 71, 72, 73, 74, 75, 76, 77, 78, 79, 80, 81, 82, 83, 84, 85, 86, 87, 88, 89, 90, 91, 92, 93, 94, 95, 96, 97, 98, 99, 100, 101, 102, 103, 104, 105, 106, 107, 108, 109, 110, 111, 112, 113, 114, 115, 116, 117, 118, 119, 120, 121, 122, 123, 124, 125, 126, 127, 128, 129, 130, 131, 132, 133, 134, 135, 136, 137] (by first | rfl | decide +kernel) (by decide +kernel)
set_option maxRecDepth 20000 in
theorem gX9_passYears_X9_passYear : GoodIn wsX9_passYears (wsV RX9 48 RX9 yX9_passYear wsX9_passYear) := goodIn_app (goodIn_of _ (by decide +kernel)) ggX9_passYears_X9_passYear
set_option maxRecDepth 20000 in
theorem ggX9_passYear_X9_wearAll : GoodIn wsX9_passYear wsX9_wearAll := goodIn_r _ [8, 2, 9, 10, 11, 12, 13, 14, 15, 16, 17, 18, 19, 20, 21, 22, 23, 24, 25, 26, 27, 28, 29, 30, 7, 31, 1, 32, 33, 34, 35, 36, 37, 38, 39, 40, 41, 42, 43, 44, 45, 46, 47, 48, 49, 50, 51, 52, 53, 54, 103, 104, 105, 106, 107, 108, 109, 110, 111, 112, 113, 114, 115, 116, 117, 118, 119, 120, 121, 122, 123, 124, 125, 126] (by first | rfl | decide +kernel) (by decide +kernel)
set_option maxRecDepth 20000 in
theorem gX9_passYear_X9_wearAll : GoodIn wsX9_passYear (wsV RX9 52 RX9 yX9_wearAll wsX9_wearAll) := goodIn_app (goodIn_of _ (by decide +kernel)) ggX9_passYear_X9_wearAll
set_option maxRecDepth 20000 in
theorem ggX9_passYear_X9_growAll : GoodIn wsX9_passYear wsX9_growAll := goodIn_r _ [58, 2, 59, 60, 14, 15, 16, 17, 61, 11, 62, 63, 64, 65, 66, 24, 67, 53, 54, 68, 69, 70, 71, 72, 73, 74, 75, 76, 77, 49, 50, 51, 52, 103, 104, 105, 106, 107, 108, 109, 110, 111, 112, 113, 114, 115, 116, 117, 118, 119, 120, 121, 122, 123, 124] (by first | rfl | decide +kernel) (by decide +kernel)
set_option maxRecDepth 20000 in
theorem gX9_passYear_X9_growAll : GoodIn wsX9_passYear (wsV RX9 55 RX9 yX9_growAll wsX9_growAll) := goodIn_app (goodIn_of _ (by decide +kernel)) ggX9_passYear_X9_growAll
set_option maxRecDepth 20000 in
theorem ggX9_passYear_X9_seatAll : GoodIn wsX9_passYear wsX9_seatAll := goodIn_r _ [81, 2, 59, 82, 83, 21, 22, 23, 24, 25, 26, 27, 84, 85, 86, 7, 87, 11, 88, 13, 1, 60, 10, 61, 32, 89, 69, 70, 90, 91, 92, 93, 53, 94, 95, 16, 96, 54, 33, 34, 35, 36, 37, 38, 39, 40, 41, 42, 97, 98, 99, 100, 101, 68, 102, 103, 104, 105, 106, 107, 108, 109, 110, 111, 112, 113, 114, 115, 116, 117, 118, 119, 120, 121, 122, 123, 124, 125, 126] (by first | rfl | decide +kernel) (by decide +kernel)
set_option maxRecDepth 20000 in
theorem gX9_passYear_X9_seatAll : GoodIn wsX9_passYear (wsV RX9 58 RX9 yX9_seatAll wsX9_seatAll) := goodIn_app (goodIn_of _ (by decide +kernel)) ggX9_passYear_X9_seatAll
set_option maxRecDepth 20000 in
theorem ggX9_passYearByDice_X3_rainOf : GoodIn wsX9_passYearByDice wsX3_rainOf := goodIn_r _ [11, 12, 13, 139, 140, 141, 142, 143, 144, 145, 146] (by first | rfl | decide +kernel) (by decide +kernel)
set_option maxRecDepth 20000 in
theorem gX9_passYearByDice_X3_rainOf : GoodIn wsX9_passYearByDice (wsV RX9 42 RX3 yX3_rainOf wsX3_rainOf) := goodIn_app (goodIn_of _ (by decide +kernel)) ggX9_passYearByDice_X3_rainOf
set_option maxRecDepth 20000 in
theorem ggX9_passYearByDice_X1_draw : GoodIn wsX9_passYearByDice wsX1_draw := goodIn_r _ [18, 19, 20, 147] (by first | rfl | decide +kernel) (by decide +kernel)
set_option maxRecDepth 20000 in
theorem gX9_passYearByDice_X1_draw : GoodIn wsX9_passYearByDice (wsV RX9 61 RX1 yX1_draw wsX1_draw) := goodIn_app (goodIn_of _ (by decide +kernel)) ggX9_passYearByDice_X1_draw
set_option maxRecDepth 20000 in
theorem ggX9_passYearByDice_X8_carveAsItIs : GoodIn wsX9_passYearByDice wsX8_carveAsItIs := goodIn_r _ [25, 26, 130, 131, 132, 133, 134, 135, 136, 137, 138] (by first | rfl | decide +kernel) (by decide +kernel)
set_option maxRecDepth 20000 in
theorem gX9_passYearByDice_X8_carveAsItIs : GoodIn wsX9_passYearByDice (wsV RX9 69 RX8 yX8_carveAsItIs wsX8_carveAsItIs) := goodIn_app (goodIn_of _ (by decide +kernel)) ggX9_passYearByDice_X8_carveAsItIs
set_option maxRecDepth 20000 in
theorem ggX9_passYearByDice_X9_passYear : GoodIn wsX9_passYearByDice wsX9_passYear := goodIn_r _ [31, 32, 2, 3, 33, 34, 35, 30, 36, 4, 37, 1, 38, 39, 40, 41, 42, 43, 44, 45, 46, 47, 48, 49, 24, 50, 51, 52, 53, 54, 55, 56, 57, 58, 59, 60, 61, 62, 63, 64, 65, 66, 67, 68, 69, 70, 71, 26, 72, 73, 74, 75, 76, 77, 78, 79, 80, 81, 82, 5, 83, 84, 85, 86, 87, 88, 89, 90, 91, 92, 93, 94, 95, 96, 97, 98, 99, 100, 101, 102, 103, 104, 6, 105, 106, 107, 108, 109, 110, 111, 112, 113, 114, 115, 116, 117, 118, 119, 120, 121, 122, 123, 124, 125, 126, 127, 128, 129, 130, 131, 132, 133, 134, 135, 136, 137, 138, 139, 140, 141, 142, 143, 144, 145, 146, 148, 149] (by first | rfl | decide +kernel) (by decide +kernel)
set_option maxRecDepth 20000 in
theorem gX9_passYearByDice_X9_passYear : GoodIn wsX9_passYearByDice (wsV RX9 48 RX9 yX9_passYear wsX9_passYear) := goodIn_app (goodIn_of _ (by decide +kernel)) ggX9_passYearByDice_X9_passYear
set_option maxRecDepth 20000 in
theorem ggX9_yearsToLoaf_X3_rainOf : GoodIn wsX9_yearsToLoaf wsX3_rainOf := goodIn_r _ [9, 10, 11, 128, 129, 130, 131, 132, 133, 134, 135] (by first | rfl | decide +kernel) (by decide +kernel)
set_option maxRecDepth 20000 in
theorem gX9_yearsToLoaf_X3_rainOf : GoodIn wsX9_yearsToLoaf (wsV RX9 42 RX3 yX3_rainOf wsX3_rainOf) := goodIn_app (goodIn_of _ (by decide +kernel)) ggX9_yearsToLoaf_X3_rainOf
set_option maxRecDepth 20000 in
theorem ggX9_yearsToLoaf_X9_passYear : GoodIn wsX9_yearsToLoaf wsX9_passYear := goodIn_r _ [16, 17, 1, 4, 18, 19, 20, 15, 21, 22, 2, 3, 23, 24, 25, 26, 27, 28, 29, 30, 31, 32, 33, 34, 35, 36, 37, 38, 39, 40, 41, 42, 43, 44, 45, 46, 47, 48, 49, 50, 51, 52, 53, 54, 55, 56, 57, 58, 59, 60, 61, 62, 63, 64, 65, 66, 67, 68, 69, 70, 71, 72, 73, 74, 75, 76, 77, 78, 79, 80, 81, 82, 83, 84, 85, 86, 87, 88, 89, 90, 91, 92, 93, 94, 95, 96, 97, 98, 99, 100, 101, 102, 103, 104, 105, 106, 107, 108, 109, 110, 111, 112, 113, 114, 115, 116, 117, 118, 119, 120, 121, 122, 123, 124, 125, 126, 127, 128, 129, 130, 131, 132, 133, 134, 135, 136, 137] (by first | rfl | decide +kernel) (by decide +kernel)
set_option maxRecDepth 20000 in
theorem gX9_yearsToLoaf_X9_passYear : GoodIn wsX9_yearsToLoaf (wsV RX9 48 RX9 yX9_passYear wsX9_passYear) := goodIn_app (goodIn_of _ (by decide +kernel)) ggX9_yearsToLoaf_X9_passYear
set_option maxRecDepth 20000 in
theorem ggX9_keepsTo_X7_lastYears : GoodIn wsX9_keepsTo wsX7_lastYears := goodIn_r _ [8, 9, 10, 11, 12, 13, 14, 144, 145, 146, 147] (by first | rfl | decide +kernel) (by decide +kernel)
set_option maxRecDepth 20000 in
theorem gX9_keepsTo_X7_lastYears : GoodIn wsX9_keepsTo (wsV RX9 81 RX7 yX7_lastYears wsX7_lastYears) := goodIn_app (goodIn_of _ (by decide +kernel)) ggX9_keepsTo_X7_lastYears
set_option maxRecDepth 20000 in
theorem ggX9_keepsTo_X7_isSo : GoodIn wsX9_keepsTo wsX7_isSo := goodIn_r _ [18, 9, 10, 19, 20, 21, 22, 23, 24, 25, 144, 145, 146, 147, 135, 136, 137, 138, 139, 140, 141, 142, 143] (by first | rfl | decide +kernel) (by decide +kernel)
set_option maxRecDepth 20000 in
theorem gX9_keepsTo_X7_isSo : GoodIn wsX9_keepsTo (wsV RX9 87 RX7 yX7_isSo wsX7_isSo) := goodIn_app (goodIn_of _ (by decide +kernel)) ggX9_keepsTo_X7_isSo
set_option maxRecDepth 20000 in
theorem ggX9_keepsTo_X3_rainOf : GoodIn wsX9_keepsTo wsX3_rainOf := goodIn_r _ [30, 31, 32, 148, 149, 150, 151, 152, 153, 154, 155] (by first | rfl | decide +kernel) (by decide +kernel)
set_option maxRecDepth 20000 in
theorem gX9_keepsTo_X3_rainOf : GoodIn wsX9_keepsTo (wsV RX9 42 RX3 yX3_rainOf wsX3_rainOf) := goodIn_app (goodIn_of _ (by decide +kernel)) ggX9_keepsTo_X3_rainOf
set_option maxRecDepth 20000 in
theorem ggX9_keepsTo_X9_passYear : GoodIn wsX9_keepsTo wsX9_passYear := goodIn_r _ [37, 38, 1, 3, 39, 40, 41, 36, 42, 43, 44, 2, 45, 46, 47, 48, 13, 49, 50, 12, 14, 51, 52, 53, 24, 54, 55, 56, 57, 58, 59, 60, 61, 62, 63, 64, 65, 66, 67, 68, 69, 70, 71, 72, 73, 74, 75, 76, 77, 78, 79, 80, 81, 82, 83, 84, 85, 86, 87, 88, 89, 90, 91, 92, 93, 94, 95, 96, 97, 23, 25, 98, 99, 100, 101, 102, 103, 104, 105, 106, 107, 108, 109, 110, 111, 112, 113, 114, 115, 116, 117, 118, 119, 120, 121, 122, 123, 124, 125, 126, 127, 128, 129, 130, 131, 132, 133, 134, 135, 136, 137, 138, 139, 140, 141, 142, 143, 148, 149, 150, 151, 152, 153, 154, 155, 156, 157] (by first | rfl | decide +kernel) (by decide +kernel)
set_option maxRecDepth 20000 in
theorem gX9_keepsTo_X9_passYear : GoodIn wsX9_keepsTo (wsV RX9 48 RX9 yX9_passYear wsX9_passYear) := goodIn_app (goodIn_of _ (by decide +kernel)) ggX9_keepsTo_X9_passYear
set_option maxRecDepth 20000 in
theorem ggX9_wearAll_X8_takenBits : GoodIn wsX9_wearAll wsX8_takenBits := goodIn_r _ [18, 19, 20, 55, 56, 57, 58, 59, 60, 61, 62, 63] (by first | rfl | decide +kernel) (by decide +kernel)
set_option maxRecDepth 20000 in
theorem gX9_wearAll_X8_takenBits : GoodIn wsX9_wearAll (wsV RX9 91 RX8 yX8_takenBits wsX8_takenBits) := goodIn_app (goodIn_of _ (by decide +kernel)) ggX9_wearAll_X8_takenBits
set_option maxRecDepth 20000 in
theorem ggX9_wearAll_X9_wearOf : GoodIn wsX9_wearAll wsX9_wearOf := goodIn_r _ [25, 1, 2, 26, 3, 4, 5, 27, 28, 29, 30, 31, 32, 33, 34, 35, 36, 37, 50, 51, 52, 53, 54, 55, 56, 57, 58, 59, 60, 61, 62, 63, 64, 65, 66, 67, 68, 69, 70, 71, 72, 73] (by first | rfl | decide +kernel) (by decide +kernel)
set_option maxRecDepth 20000 in
theorem gX9_wearAll_X9_wearOf : GoodIn wsX9_wearAll (wsV RX9 101 RX9 yX9_wearOf wsX9_wearOf) := goodIn_app (goodIn_of _ (by decide +kernel)) ggX9_wearAll_X9_wearOf
set_option maxRecDepth 20000 in
theorem ggX9_wearAll_X8_setStone : GoodIn wsX9_wearAll wsX8_setStone := goodIn_r _ [41, 42, 43, 12, 9, 13, 44, 45, 46, 17, 47, 48, 49, 55, 56, 57, 58, 59, 60, 61, 62, 63] (by first | rfl | decide +kernel) (by decide +kernel)
set_option maxRecDepth 20000 in
theorem gX9_wearAll_X8_setStone : GoodIn wsX9_wearAll (wsV RX9 113 RX8 yX8_setStone wsX8_setStone) := goodIn_app (goodIn_of _ (by decide +kernel)) ggX9_wearAll_X8_setStone
set_option maxRecDepth 20000 in
theorem ggX9_wearOf_X5_worth : GoodIn wsX9_wearOf wsX5_worth := goodIn_r _ [12, 13, 14, 15, 16, 11, 17, 40, 41] (by first | rfl | decide +kernel) (by decide +kernel)
set_option maxRecDepth 20000 in
theorem gX9_wearOf_X5_worth : GoodIn wsX9_wearOf (wsV RX9 117 RX5 yX5_worth wsX5_worth) := goodIn_app (goodIn_of _ (by decide +kernel)) ggX9_wearOf_X5_worth
set_option maxRecDepth 20000 in
theorem ggX9_growAll_X8_growLike : GoodIn wsX9_growAll wsX8_growLike := goodIn_r _ [16, 17, 18, 19, 20, 15, 21, 22, 23, 24, 25, 26, 27, 28, 29, 30, 31, 32, 38, 39, 40, 41, 42, 43, 44, 45, 46] (by first | rfl | decide +kernel) (by decide +kernel)
set_option maxRecDepth 20000 in
theorem gX9_growAll_X8_growLike : GoodIn wsX9_growAll (wsV RX9 133 RX8 yX8_growLike wsX8_growLike) := goodIn_app (goodIn_of _ (by decide +kernel)) ggX9_growAll_X8_growLike
set_option maxRecDepth 20000 in
theorem ggX9_seatAll_X8_takenBits : GoodIn wsX9_seatAll wsX8_takenBits := goodIn_r _ [9, 10, 11, 60, 61, 62, 63, 64, 65, 66, 67, 68] (by first | rfl | decide +kernel) (by decide +kernel)
set_option maxRecDepth 20000 in
theorem gX9_seatAll_X8_takenBits : GoodIn wsX9_seatAll (wsV RX9 91 RX8 yX8_takenBits wsX8_takenBits) := goodIn_app (goodIn_of _ (by decide +kernel)) ggX9_seatAll_X8_takenBits
set_option maxRecDepth 20000 in
theorem ggX9_seatAll_X9_isForSitting : GoodIn wsX9_seatAll wsX9_isForSitting := goodIn_r _ [16, 1, 17, 18, 19, 20, 21, 22, 23, 24, 25, 26, 8, 27, 28, 29, 30, 31, 32, 33, 34, 35, 36, 37, 38, 39, 40, 41, 42, 43, 44, 45, 46, 47, 55, 56, 57, 58, 59, 69, 70, 71, 72, 73, 74, 75, 76, 77, 78, 60, 61, 62, 63, 64, 65, 66, 67, 68] (by first | rfl | decide +kernel) (by decide +kernel)
set_option maxRecDepth 20000 in
theorem gX9_seatAll_X9_isForSitting : GoodIn wsX9_seatAll (wsV RX9 136 RX9 yX9_isForSitting wsX9_isForSitting) := goodIn_app (goodIn_of _ (by decide +kernel)) ggX9_seatAll_X9_isForSitting
set_option maxRecDepth 20000 in
theorem ggX9_seatAll_X8_closest : GoodIn wsX9_seatAll wsX8_closest := goodIn_r _ [51, 52, 53, 26, 8, 27, 54, 29, 30, 31, 32, 33, 34, 35, 36, 37, 60, 61, 62, 63, 64, 65, 66, 67, 68] (by first | rfl | decide +kernel) (by decide +kernel)
set_option maxRecDepth 20000 in
theorem gX9_seatAll_X8_closest : GoodIn wsX9_seatAll (wsV RX9 140 RX8 yX8_closest wsX8_closest) := goodIn_app (goodIn_of _ (by decide +kernel)) ggX9_seatAll_X8_closest
set_option maxRecDepth 20000 in
theorem ggX9_isForSitting_X8_faceOf : GoodIn wsX9_isForSitting wsX8_faceOf := goodIn_r _ [13] (by first | rfl | decide +kernel) (by decide +kernel)
set_option maxRecDepth 20000 in
theorem gX9_isForSitting_X8_faceOf : GoodIn wsX9_isForSitting (va_wsS RX9 143 yX8_faceOf wsX8_faceOf) := goodIn_app (goodIn_of _ (by decide +kernel)) ggX9_isForSitting_X8_faceOf
set_option maxRecDepth 20000 in
theorem ggX9_isForSitting_X8_unlikeness : GoodIn wsX9_isForSitting wsX8_unlikeness := goodIn_r _ [17, 18, 19, 20, 21, 22, 23, 49, 50, 51, 52, 53, 54, 55, 56, 57] (by first | rfl | decide +kernel) (by decide +kernel)
set_option maxRecDepth 20000 in
theorem gX9_isForSitting_X8_unlikeness : GoodIn wsX9_isForSitting (wsV RX9 146 RX8 yX8_unlikeness wsX8_unlikeness) := goodIn_app (goodIn_of _ (by decide +kernel)) ggX9_isForSitting_X8_unlikeness
set_option maxRecDepth 20000 in
theorem ggX9_isForSitting_X5_worth : GoodIn wsX9_isForSitting wsX5_worth := goodIn_r _ [28, 29, 30, 31, 32, 27, 33, 47, 48] (by first | rfl | decide +kernel) (by decide +kernel)
set_option maxRecDepth 20000 in
theorem gX9_isForSitting_X5_worth : GoodIn wsX9_isForSitting (wsV RX9 117 RX5 yX5_worth wsX5_worth) := goodIn_app (goodIn_of _ (by decide +kernel)) ggX9_isForSitting_X5_worth
