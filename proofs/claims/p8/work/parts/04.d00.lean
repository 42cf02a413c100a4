theorem bd00_0 : ((decode cX0_init 0 = .ok (.aload_n 0, 1) ∧ decode cX0_init 1 = .ok (.invokespecial 3, 3)) ∧ (decode cX0_init 4 = .ok (.aload_n 0, 1) ∧ decode cX0_init 5 = .ok (.sipush 2600, 3))) ∧ ((decode cX0_init 8 = .ok (.newarray .int, 2) ∧ decode cX0_init 10 = .ok (.putfield 11, 3)) ∧ (decode cX0_init 13 = .ok (.return_, 1) ∧ decode cX0_keep 0 = .ok (.aload_n 0, 1))) := by decide +kernel
theorem dX0_init_0 : decode cX0_init 0 = .ok (.aload_n 0, 1) := bd00_0.1.1.1
theorem dX0_init_1 : decode cX0_init 1 = .ok (.invokespecial 3, 3) := bd00_0.1.1.2
theorem dX0_init_4 : decode cX0_init 4 = .ok (.aload_n 0, 1) := bd00_0.1.2.1
theorem dX0_init_5 : decode cX0_init 5 = .ok (.sipush 2600, 3) := bd00_0.1.2.2
theorem dX0_init_8 : decode cX0_init 8 = .ok (.newarray .int, 2) := bd00_0.2.1.1
theorem dX0_init_10 : decode cX0_init 10 = .ok (.putfield 11, 3) := bd00_0.2.1.2
theorem dX0_init_13 : decode cX0_init 13 = .ok (.return_, 1) := bd00_0.2.2.1
theorem dX0_keep_0 : decode cX0_keep 0 = .ok (.aload_n 0, 1) := bd00_0.2.2.2
theorem bd00_1 : (((decode cX0_keep 1 = .ok (.getfield 17, 3) ∧ decode cX0_keep 4 = .ok (.bipush 40, 2)) ∧ (decode cX0_keep 6 = .ok (.if_icmp .lt 26, 3) ∧ decode cX0_keep 9 = .ok (.aload_n 0, 1))) ∧ ((decode cX0_keep 10 = .ok (.getfield 11, 3) ∧ decode cX0_keep 13 = .ok (.bipush 65, 2)) ∧ (decode cX0_keep 15 = .ok (.aload_n 0, 1) ∧ decode cX0_keep 16 = .ok (.getfield 11, 3)))) ∧ (((decode cX0_keep 19 = .ok (.iconst 0, 1) ∧ decode cX0_keep 20 = .ok (.sipush 2535, 3)) ∧ (decode cX0_keep 23 = .ok (.invokestatic 21, 3) ∧ decode cX0_keep 26 = .ok (.aload_n 0, 1))) ∧ ((decode cX0_keep 27 = .ok (.bipush 39, 2) ∧ decode cX0_keep 29 = .ok (.putfield 17, 3)) ∧ (decode cX0_keep 32 = .ok (.aload_n 1, 1) ∧ decode cX0_keep 33 = .ok (.aload_n 0, 1)))) := by decide +kernel
theorem dX0_keep_1 : decode cX0_keep 1 = .ok (.getfield 17, 3) := bd00_1.1.1.1.1
theorem dX0_keep_4 : decode cX0_keep 4 = .ok (.bipush 40, 2) := bd00_1.1.1.1.2
theorem dX0_keep_6 : decode cX0_keep 6 = .ok (.if_icmp .lt 26, 3) := bd00_1.1.1.2.1
theorem dX0_keep_9 : decode cX0_keep 9 = .ok (.aload_n 0, 1) := bd00_1.1.1.2.2
theorem dX0_keep_10 : decode cX0_keep 10 = .ok (.getfield 11, 3) := bd00_1.1.2.1.1
theorem dX0_keep_13 : decode cX0_keep 13 = .ok (.bipush 65, 2) := bd00_1.1.2.1.2
theorem dX0_keep_15 : decode cX0_keep 15 = .ok (.aload_n 0, 1) := bd00_1.1.2.2.1
theorem dX0_keep_16 : decode cX0_keep 16 = .ok (.getfield 11, 3) := bd00_1.1.2.2.2
theorem dX0_keep_19 : decode cX0_keep 19 = .ok (.iconst 0, 1) := bd00_1.2.1.1.1
theorem dX0_keep_20 : decode cX0_keep 20 = .ok (.sipush 2535, 3) := bd00_1.2.1.1.2
theorem dX0_keep_23 : decode cX0_keep 23 = .ok (.invokestatic 21, 3) := bd00_1.2.1.2.1
theorem dX0_keep_26 : decode cX0_keep 26 = .ok (.aload_n 0, 1) := bd00_1.2.1.2.2
theorem dX0_keep_27 : decode cX0_keep 27 = .ok (.bipush 39, 2) := bd00_1.2.2.1.1
theorem dX0_keep_29 : decode cX0_keep 29 = .ok (.putfield 17, 3) := bd00_1.2.2.1.2
theorem dX0_keep_32 : decode cX0_keep 32 = .ok (.aload_n 1, 1) := bd00_1.2.2.2.1
theorem dX0_keep_33 : decode cX0_keep 33 = .ok (.aload_n 0, 1) := bd00_1.2.2.2.2
theorem bd00_2 : (((decode cX0_keep 34 = .ok (.getfield 11, 3) ∧ decode cX0_keep 37 = .ok (.aload_n 0, 1)) ∧ (decode cX0_keep 38 = .ok (.getfield 17, 3) ∧ decode cX0_keep 41 = .ok (.bipush 65, 2))) ∧ ((decode cX0_keep 43 = .ok (.imul, 1) ∧ decode cX0_keep 44 = .ok (.invokevirtual 27, 3)) ∧ (decode cX0_keep 47 = .ok (.aload_n 0, 1)))) ∧ (((decode cX0_keep 48 = .ok (.dup, 1) ∧ decode cX0_keep 49 = .ok (.getfield 17, 3)) ∧ (decode cX0_keep 52 = .ok (.iconst 1, 1))) ∧ ((decode cX0_keep 53 = .ok (.iadd, 1) ∧ decode cX0_keep 54 = .ok (.putfield 17, 3)) ∧ (decode cX0_keep 57 = .ok (.return_, 1)))) := by decide +kernel
theorem dX0_keep_34 : decode cX0_keep 34 = .ok (.getfield 11, 3) := bd00_2.1.1.1.1
theorem dX0_keep_37 : decode cX0_keep 37 = .ok (.aload_n 0, 1) := bd00_2.1.1.1.2
theorem dX0_keep_38 : decode cX0_keep 38 = .ok (.getfield 17, 3) := bd00_2.1.1.2.1
theorem dX0_keep_41 : decode cX0_keep 41 = .ok (.bipush 65, 2) := bd00_2.1.1.2.2
theorem dX0_keep_43 : decode cX0_keep 43 = .ok (.imul, 1) := bd00_2.1.2.1.1
theorem dX0_keep_44 : decode cX0_keep 44 = .ok (.invokevirtual 27, 3) := bd00_2.1.2.1.2
theorem dX0_keep_47 : decode cX0_keep 47 = .ok (.aload_n 0, 1) := bd00_2.1.2.2
theorem dX0_keep_48 : decode cX0_keep 48 = .ok (.dup, 1) := bd00_2.2.1.1.1
theorem dX0_keep_49 : decode cX0_keep 49 = .ok (.getfield 17, 3) := bd00_2.2.1.1.2
theorem dX0_keep_52 : decode cX0_keep 52 = .ok (.iconst 1, 1) := bd00_2.2.1.2
theorem dX0_keep_53 : decode cX0_keep 53 = .ok (.iadd, 1) := bd00_2.2.2.1.1
theorem dX0_keep_54 : decode cX0_keep 54 = .ok (.putfield 17, 3) := bd00_2.2.2.1.2
theorem dX0_keep_57 : decode cX0_keep 57 = .ok (.return_, 1) := bd00_2.2.2.2
theorem bd00_3 : (((decode cX0_takeBack 0 = .ok (.aload_n 0, 1) ∧ decode cX0_takeBack 1 = .ok (.getfield 17, 3)) ∧ (decode cX0_takeBack 4 = .ok (.ifCond .le 28, 3) ∧ decode cX0_takeBack 7 = .ok (.aload_n 0, 1))) ∧ ((decode cX0_takeBack 8 = .ok (.dup, 1) ∧ decode cX0_takeBack 9 = .ok (.getfield 17, 3)) ∧ (decode cX0_takeBack 12 = .ok (.iconst 1, 1) ∧ decode cX0_takeBack 13 = .ok (.isub, 1)))) ∧ (((decode cX0_takeBack 14 = .ok (.putfield 17, 3) ∧ decode cX0_takeBack 17 = .ok (.aload_n 1, 1)) ∧ (decode cX0_takeBack 18 = .ok (.aload_n 0, 1) ∧ decode cX0_takeBack 19 = .ok (.getfield 11, 3))) ∧ ((decode cX0_takeBack 22 = .ok (.aload_n 0, 1) ∧ decode cX0_takeBack 23 = .ok (.getfield 17, 3)) ∧ (decode cX0_takeBack 26 = .ok (.bipush 65, 2) ∧ decode cX0_takeBack 28 = .ok (.imul, 1)))) := by decide +kernel
theorem dX0_takeBack_0 : decode cX0_takeBack 0 = .ok (.aload_n 0, 1) := bd00_3.1.1.1.1
theorem dX0_takeBack_1 : decode cX0_takeBack 1 = .ok (.getfield 17, 3) := bd00_3.1.1.1.2
theorem dX0_takeBack_4 : decode cX0_takeBack 4 = .ok (.ifCond .le 28, 3) := bd00_3.1.1.2.1
theorem dX0_takeBack_7 : decode cX0_takeBack 7 = .ok (.aload_n 0, 1) := bd00_3.1.1.2.2
theorem dX0_takeBack_8 : decode cX0_takeBack 8 = .ok (.dup, 1) := bd00_3.1.2.1.1
theorem dX0_takeBack_9 : decode cX0_takeBack 9 = .ok (.getfield 17, 3) := bd00_3.1.2.1.2
theorem dX0_takeBack_12 : decode cX0_takeBack 12 = .ok (.iconst 1, 1) := bd00_3.1.2.2.1
theorem dX0_takeBack_13 : decode cX0_takeBack 13 = .ok (.isub, 1) := bd00_3.1.2.2.2
theorem dX0_takeBack_14 : decode cX0_takeBack 14 = .ok (.putfield 17, 3) := bd00_3.2.1.1.1
theorem dX0_takeBack_17 : decode cX0_takeBack 17 = .ok (.aload_n 1, 1) := bd00_3.2.1.1.2
theorem dX0_takeBack_18 : decode cX0_takeBack 18 = .ok (.aload_n 0, 1) := bd00_3.2.1.2.1
theorem dX0_takeBack_19 : decode cX0_takeBack 19 = .ok (.getfield 11, 3) := bd00_3.2.1.2.2
theorem dX0_takeBack_22 : decode cX0_takeBack 22 = .ok (.aload_n 0, 1) := bd00_3.2.2.1.1
theorem dX0_takeBack_23 : decode cX0_takeBack 23 = .ok (.getfield 17, 3) := bd00_3.2.2.1.2
theorem dX0_takeBack_26 : decode cX0_takeBack 26 = .ok (.bipush 65, 2) := bd00_3.2.2.2.1
theorem dX0_takeBack_28 : decode cX0_takeBack 28 = .ok (.imul, 1) := bd00_3.2.2.2.2
theorem bd00_4 : ((decode cX0_takeBack 29 = .ok (.invokevirtual 31, 3) ∧ decode cX0_takeBack 32 = .ok (.return_, 1)) ∧ (decode cX0_copyFrom 0 = .ok (.aload_n 0, 1) ∧ decode cX0_copyFrom 1 = .ok (.aload_n 1, 1))) ∧ ((decode cX0_copyFrom 2 = .ok (.getfield 17, 3) ∧ decode cX0_copyFrom 5 = .ok (.putfield 17, 3)) ∧ (decode cX0_copyFrom 8 = .ok (.aload_n 1, 1) ∧ decode cX0_copyFrom 9 = .ok (.getfield 11, 3))) := by decide +kernel
theorem dX0_takeBack_29 : decode cX0_takeBack 29 = .ok (.invokevirtual 31, 3) := bd00_4.1.1.1
theorem dX0_takeBack_32 : decode cX0_takeBack 32 = .ok (.return_, 1) := bd00_4.1.1.2
theorem dX0_copyFrom_0 : decode cX0_copyFrom 0 = .ok (.aload_n 0, 1) := bd00_4.1.2.1
theorem dX0_copyFrom_1 : decode cX0_copyFrom 1 = .ok (.aload_n 1, 1) := bd00_4.1.2.2
theorem dX0_copyFrom_2 : decode cX0_copyFrom 2 = .ok (.getfield 17, 3) := bd00_4.2.1.1
theorem dX0_copyFrom_5 : decode cX0_copyFrom 5 = .ok (.putfield 17, 3) := bd00_4.2.1.2
theorem dX0_copyFrom_8 : decode cX0_copyFrom 8 = .ok (.aload_n 1, 1) := bd00_4.2.2.1
theorem dX0_copyFrom_9 : decode cX0_copyFrom 9 = .ok (.getfield 11, 3) := bd00_4.2.2.2
theorem bd00_5 : (((decode cX0_copyFrom 12 = .ok (.iconst 0, 1) ∧ decode cX0_copyFrom 13 = .ok (.aload_n 0, 1)) ∧ (decode cX0_copyFrom 14 = .ok (.getfield 11, 3))) ∧ (decode cX0_copyFrom 17 = .ok (.iconst 0, 1) ∧ decode cX0_copyFrom 18 = .ok (.aload_n 0, 1))) ∧ (((decode cX0_copyFrom 19 = .ok (.getfield 17, 3) ∧ decode cX0_copyFrom 22 = .ok (.bipush 65, 2)) ∧ (decode cX0_copyFrom 24 = .ok (.imul, 1))) ∧ (decode cX0_copyFrom 25 = .ok (.invokestatic 21, 3) ∧ decode cX0_copyFrom 28 = .ok (.return_, 1))) := by decide +kernel
theorem dX0_copyFrom_12 : decode cX0_copyFrom 12 = .ok (.iconst 0, 1) := bd00_5.1.1.1.1
theorem dX0_copyFrom_13 : decode cX0_copyFrom 13 = .ok (.aload_n 0, 1) := bd00_5.1.1.1.2
theorem dX0_copyFrom_14 : decode cX0_copyFrom 14 = .ok (.getfield 11, 3) := bd00_5.1.1.2
theorem dX0_copyFrom_17 : decode cX0_copyFrom 17 = .ok (.iconst 0, 1) := bd00_5.1.2.1
theorem dX0_copyFrom_18 : decode cX0_copyFrom 18 = .ok (.aload_n 0, 1) := bd00_5.1.2.2
theorem dX0_copyFrom_19 : decode cX0_copyFrom 19 = .ok (.getfield 17, 3) := bd00_5.2.1.1.1
theorem dX0_copyFrom_22 : decode cX0_copyFrom 22 = .ok (.bipush 65, 2) := bd00_5.2.1.1.2
theorem dX0_copyFrom_24 : decode cX0_copyFrom 24 = .ok (.imul, 1) := bd00_5.2.1.2
theorem dX0_copyFrom_25 : decode cX0_copyFrom 25 = .ok (.invokestatic 21, 3) := bd00_5.2.2.1
theorem dX0_copyFrom_28 : decode cX0_copyFrom 28 = .ok (.return_, 1) := bd00_5.2.2.2
theorem bd00_6 : ((decode cX1_init 0 = .ok (.aload_n 0, 1) ∧ decode cX1_init 1 = .ok (.invokespecial 1, 3)) ∧ (decode cX1_init 4 = .ok (.return_, 1) ∧ decode cX1_draw 0 = .ok (.aload_n 0, 1))) ∧ ((decode cX1_draw 1 = .ok (.aload_n 0, 1) ∧ decode cX1_draw 2 = .ok (.getfield 7, 3)) ∧ (decode cX1_draw 5 = .ok (.ldc 13, 2) ∧ decode cX1_draw 7 = .ok (.imul, 1))) := by decide +kernel
theorem dX1_init_0 : decode cX1_init 0 = .ok (.aload_n 0, 1) := bd00_6.1.1.1
theorem dX1_init_1 : decode cX1_init 1 = .ok (.invokespecial 1, 3) := bd00_6.1.1.2
theorem dX1_init_4 : decode cX1_init 4 = .ok (.return_, 1) := bd00_6.1.2.1
theorem dX1_draw_0 : decode cX1_draw 0 = .ok (.aload_n 0, 1) := bd00_6.1.2.2
theorem dX1_draw_1 : decode cX1_draw 1 = .ok (.aload_n 0, 1) := bd00_6.2.1.1
theorem dX1_draw_2 : decode cX1_draw 2 = .ok (.getfield 7, 3) := bd00_6.2.1.2
theorem dX1_draw_5 : decode cX1_draw 5 = .ok (.ldc 13, 2) := bd00_6.2.2.1
theorem dX1_draw_7 : decode cX1_draw 7 = .ok (.imul, 1) := bd00_6.2.2.2
theorem bd00_7 : (((decode cX1_draw 8 = .ok (.sipush 12345, 3) ∧ decode cX1_draw 11 = .ok (.iadd, 1)) ∧ (decode cX1_draw 12 = .ok (.putfield 7, 3) ∧ decode cX1_draw 15 = .ok (.iload_n 1, 1))) ∧ ((decode cX1_draw 16 = .ok (.ifCond .le 19, 3) ∧ decode cX1_draw 19 = .ok (.aload_n 0, 1)) ∧ (decode cX1_draw 20 = .ok (.getfield 7, 3) ∧ decode cX1_draw 23 = .ok (.bipush 16, 2)))) ∧ (((decode cX1_draw 25 = .ok (.iushr, 1) ∧ decode cX1_draw 26 = .ok (.sipush 32767, 3)) ∧ (decode cX1_draw 29 = .ok (.iand, 1) ∧ decode cX1_draw 30 = .ok (.iload_n 1, 1))) ∧ ((decode cX1_draw 31 = .ok (.irem, 1) ∧ decode cX1_draw 32 = .ok (.goto 4, 3)) ∧ (decode cX1_draw 36 = .ok (.ireturn, 1)))) := by decide +kernel
theorem dX1_draw_8 : decode cX1_draw 8 = .ok (.sipush 12345, 3) := bd00_7.1.1.1.1
theorem dX1_draw_11 : decode cX1_draw 11 = .ok (.iadd, 1) := bd00_7.1.1.1.2
theorem dX1_draw_12 : decode cX1_draw 12 = .ok (.putfield 7, 3) := bd00_7.1.1.2.1
theorem dX1_draw_15 : decode cX1_draw 15 = .ok (.iload_n 1, 1) := bd00_7.1.1.2.2
theorem dX1_draw_16 : decode cX1_draw 16 = .ok (.ifCond .le 19, 3) := bd00_7.1.2.1.1
theorem dX1_draw_19 : decode cX1_draw 19 = .ok (.aload_n 0, 1) := bd00_7.1.2.1.2
theorem dX1_draw_20 : decode cX1_draw 20 = .ok (.getfield 7, 3) := bd00_7.1.2.2.1
theorem dX1_draw_23 : decode cX1_draw 23 = .ok (.bipush 16, 2) := bd00_7.1.2.2.2
theorem dX1_draw_25 : decode cX1_draw 25 = .ok (.iushr, 1) := bd00_7.2.1.1.1
theorem dX1_draw_26 : decode cX1_draw 26 = .ok (.sipush 32767, 3) := bd00_7.2.1.1.2
theorem dX1_draw_29 : decode cX1_draw 29 = .ok (.iand, 1) := bd00_7.2.1.2.1
theorem dX1_draw_30 : decode cX1_draw 30 = .ok (.iload_n 1, 1) := bd00_7.2.1.2.2
theorem dX1_draw_31 : decode cX1_draw 31 = .ok (.irem, 1) := bd00_7.2.2.1.1
theorem dX1_draw_32 : decode cX1_draw 32 = .ok (.goto 4, 3) := bd00_7.2.2.1.2
theorem dX1_draw_36 : decode cX1_draw 36 = .ok (.ireturn, 1) := bd00_7.2.2.2
theorem bd00_8 : (((decode cX2_init 0 = .ok (.aload_n 0, 1) ∧ decode cX2_init 1 = .ok (.invokespecial 1, 3)) ∧ (decode cX2_init 4 = .ok (.aload_n 0, 1) ∧ decode cX2_init 5 = .ok (.new 7, 3))) ∧ ((decode cX2_init 8 = .ok (.dup, 1) ∧ decode cX2_init 9 = .ok (.invokespecial 9, 3)) ∧ (decode cX2_init 12 = .ok (.putfield 10, 3) ∧ decode cX2_init 15 = .ok (.aload_n 0, 1)))) ∧ (((decode cX2_init 16 = .ok (.new 16, 3) ∧ decode cX2_init 19 = .ok (.dup, 1)) ∧ (decode cX2_init 20 = .ok (.invokespecial 18, 3) ∧ decode cX2_init 23 = .ok (.putfield 19, 3))) ∧ ((decode cX2_init 26 = .ok (.aload_n 0, 1) ∧ decode cX2_init 27 = .ok (.new 23, 3)) ∧ (decode cX2_init 30 = .ok (.dup, 1) ∧ decode cX2_init 31 = .ok (.invokespecial 25, 3)))) := by decide +kernel
theorem dX2_init_0 : decode cX2_init 0 = .ok (.aload_n 0, 1) := bd00_8.1.1.1.1
theorem dX2_init_1 : decode cX2_init 1 = .ok (.invokespecial 1, 3) := bd00_8.1.1.1.2
theorem dX2_init_4 : decode cX2_init 4 = .ok (.aload_n 0, 1) := bd00_8.1.1.2.1
theorem dX2_init_5 : decode cX2_init 5 = .ok (.new 7, 3) := bd00_8.1.1.2.2
theorem dX2_init_8 : decode cX2_init 8 = .ok (.dup, 1) := bd00_8.1.2.1.1
theorem dX2_init_9 : decode cX2_init 9 = .ok (.invokespecial 9, 3) := bd00_8.1.2.1.2
theorem dX2_init_12 : decode cX2_init 12 = .ok (.putfield 10, 3) := bd00_8.1.2.2.1
theorem dX2_init_15 : decode cX2_init 15 = .ok (.aload_n 0, 1) := bd00_8.1.2.2.2
theorem dX2_init_16 : decode cX2_init 16 = .ok (.new 16, 3) := bd00_8.2.1.1.1
theorem dX2_init_19 : decode cX2_init 19 = .ok (.dup, 1) := bd00_8.2.1.1.2
theorem dX2_init_20 : decode cX2_init 20 = .ok (.invokespecial 18, 3) := bd00_8.2.1.2.1
theorem dX2_init_23 : decode cX2_init 23 = .ok (.putfield 19, 3) := bd00_8.2.1.2.2
theorem dX2_init_26 : decode cX2_init 26 = .ok (.aload_n 0, 1) := bd00_8.2.2.1.1
theorem dX2_init_27 : decode cX2_init 27 = .ok (.new 23, 3) := bd00_8.2.2.1.2
theorem dX2_init_30 : decode cX2_init 30 = .ok (.dup, 1) := bd00_8.2.2.2.1
theorem dX2_init_31 : decode cX2_init 31 = .ok (.invokespecial 25, 3) := bd00_8.2.2.2.2
theorem bd00_9 : ((decode cX2_init 34 = .ok (.putfield 26, 3) ∧ decode cX2_init 37 = .ok (.aload_n 0, 1)) ∧ (decode cX2_init 38 = .ok (.iconst 3, 1) ∧ decode cX2_init 39 = .ok (.newarray .int, 2))) ∧ ((decode cX2_init 41 = .ok (.putfield 30, 3) ∧ decode cX2_init 44 = .ok (.return_, 1)) ∧ (decode cX2_beginAnew 0 = .ok (.aload_n 0, 1) ∧ decode cX2_beginAnew 1 = .ok (.getfield 10, 3))) := by decide +kernel
theorem dX2_init_34 : decode cX2_init 34 = .ok (.putfield 26, 3) := bd00_9.1.1.1
theorem dX2_init_37 : decode cX2_init 37 = .ok (.aload_n 0, 1) := bd00_9.1.1.2
theorem dX2_init_38 : decode cX2_init 38 = .ok (.iconst 3, 1) := bd00_9.1.2.1
theorem dX2_init_39 : decode cX2_init 39 = .ok (.newarray .int, 2) := bd00_9.1.2.2
theorem dX2_init_41 : decode cX2_init 41 = .ok (.putfield 30, 3) := bd00_9.2.1.1
theorem dX2_init_44 : decode cX2_init 44 = .ok (.return_, 1) := bd00_9.2.1.2
theorem dX2_beginAnew_0 : decode cX2_beginAnew 0 = .ok (.aload_n 0, 1) := bd00_9.2.2.1
theorem dX2_beginAnew_1 : decode cX2_beginAnew 1 = .ok (.getfield 10, 3) := bd00_9.2.2.2
theorem bd00_10 : (((decode cX2_beginAnew 4 = .ok (.aload_n 1, 1) ∧ decode cX2_beginAnew 5 = .ok (.invokevirtual 34, 3)) ∧ (decode cX2_beginAnew 8 = .ok (.aload_n 0, 1))) ∧ ((decode cX2_beginAnew 9 = .ok (.getfield 19, 3) ∧ decode cX2_beginAnew 12 = .ok (.iconst 0, 1)) ∧ (decode cX2_beginAnew 13 = .ok (.putfield 38, 3)))) ∧ (((decode cX2_beginAnew 16 = .ok (.aload_n 0, 1) ∧ decode cX2_beginAnew 17 = .ok (.getfield 26, 3)) ∧ (decode cX2_beginAnew 20 = .ok (.iconst 0, 1))) ∧ (decode cX2_beginAnew 21 = .ok (.putfield 42, 3) ∧ decode cX2_beginAnew 24 = .ok (.return_, 1))) := by decide +kernel
theorem dX2_beginAnew_4 : decode cX2_beginAnew 4 = .ok (.aload_n 1, 1) := bd00_10.1.1.1.1
theorem dX2_beginAnew_5 : decode cX2_beginAnew 5 = .ok (.invokevirtual 34, 3) := bd00_10.1.1.1.2
theorem dX2_beginAnew_8 : decode cX2_beginAnew 8 = .ok (.aload_n 0, 1) := bd00_10.1.1.2
theorem dX2_beginAnew_9 : decode cX2_beginAnew 9 = .ok (.getfield 19, 3) := bd00_10.1.2.1.1
theorem dX2_beginAnew_12 : decode cX2_beginAnew 12 = .ok (.iconst 0, 1) := bd00_10.1.2.1.2
theorem dX2_beginAnew_13 : decode cX2_beginAnew 13 = .ok (.putfield 38, 3) := bd00_10.1.2.2
theorem dX2_beginAnew_16 : decode cX2_beginAnew 16 = .ok (.aload_n 0, 1) := bd00_10.2.1.1.1
theorem dX2_beginAnew_17 : decode cX2_beginAnew 17 = .ok (.getfield 26, 3) := bd00_10.2.1.1.2
theorem dX2_beginAnew_20 : decode cX2_beginAnew 20 = .ok (.iconst 0, 1) := bd00_10.2.1.2
theorem dX2_beginAnew_21 : decode cX2_beginAnew 21 = .ok (.putfield 42, 3) := bd00_10.2.2.1
theorem dX2_beginAnew_24 : decode cX2_beginAnew 24 = .ok (.return_, 1) := bd00_10.2.2.2
theorem bd00_11 : (((decode cX2_copyFrom 0 = .ok (.aload_n 0, 1) ∧ decode cX2_copyFrom 1 = .ok (.getfield 10, 3)) ∧ (decode cX2_copyFrom 4 = .ok (.aload_n 1, 1) ∧ decode cX2_copyFrom 5 = .ok (.getfield 10, 3))) ∧ ((decode cX2_copyFrom 8 = .ok (.invokevirtual 34, 3) ∧ decode cX2_copyFrom 11 = .ok (.aload_n 0, 1)) ∧ (decode cX2_copyFrom 12 = .ok (.getfield 19, 3) ∧ decode cX2_copyFrom 15 = .ok (.aload_n 1, 1)))) ∧ (((decode cX2_copyFrom 16 = .ok (.getfield 19, 3) ∧ decode cX2_copyFrom 19 = .ok (.invokevirtual 43, 3)) ∧ (decode cX2_copyFrom 22 = .ok (.aload_n 0, 1) ∧ decode cX2_copyFrom 23 = .ok (.getfield 26, 3))) ∧ ((decode cX2_copyFrom 26 = .ok (.aload_n 1, 1) ∧ decode cX2_copyFrom 27 = .ok (.getfield 26, 3)) ∧ (decode cX2_copyFrom 30 = .ok (.invokevirtual 46, 3) ∧ decode cX2_copyFrom 33 = .ok (.aload_n 1, 1)))) := by decide +kernel
theorem dX2_copyFrom_0 : decode cX2_copyFrom 0 = .ok (.aload_n 0, 1) := bd00_11.1.1.1.1
theorem dX2_copyFrom_1 : decode cX2_copyFrom 1 = .ok (.getfield 10, 3) := bd00_11.1.1.1.2
theorem dX2_copyFrom_4 : decode cX2_copyFrom 4 = .ok (.aload_n 1, 1) := bd00_11.1.1.2.1
theorem dX2_copyFrom_5 : decode cX2_copyFrom 5 = .ok (.getfield 10, 3) := bd00_11.1.1.2.2
theorem dX2_copyFrom_8 : decode cX2_copyFrom 8 = .ok (.invokevirtual 34, 3) := bd00_11.1.2.1.1
theorem dX2_copyFrom_11 : decode cX2_copyFrom 11 = .ok (.aload_n 0, 1) := bd00_11.1.2.1.2
theorem dX2_copyFrom_12 : decode cX2_copyFrom 12 = .ok (.getfield 19, 3) := bd00_11.1.2.2.1
theorem dX2_copyFrom_15 : decode cX2_copyFrom 15 = .ok (.aload_n 1, 1) := bd00_11.1.2.2.2
theorem dX2_copyFrom_16 : decode cX2_copyFrom 16 = .ok (.getfield 19, 3) := bd00_11.2.1.1.1
theorem dX2_copyFrom_19 : decode cX2_copyFrom 19 = .ok (.invokevirtual 43, 3) := bd00_11.2.1.1.2
theorem dX2_copyFrom_22 : decode cX2_copyFrom 22 = .ok (.aload_n 0, 1) := bd00_11.2.1.2.1
theorem dX2_copyFrom_23 : decode cX2_copyFrom 23 = .ok (.getfield 26, 3) := bd00_11.2.1.2.2
theorem dX2_copyFrom_26 : decode cX2_copyFrom 26 = .ok (.aload_n 1, 1) := bd00_11.2.2.1.1
theorem dX2_copyFrom_27 : decode cX2_copyFrom 27 = .ok (.getfield 26, 3) := bd00_11.2.2.1.2
theorem dX2_copyFrom_30 : decode cX2_copyFrom 30 = .ok (.invokevirtual 46, 3) := bd00_11.2.2.2.1
theorem dX2_copyFrom_33 : decode cX2_copyFrom 33 = .ok (.aload_n 1, 1) := bd00_11.2.2.2.2
theorem bd00_12 : (((decode cX2_copyFrom 34 = .ok (.getfield 30, 3) ∧ decode cX2_copyFrom 37 = .ok (.iconst 0, 1)) ∧ (decode cX2_copyFrom 38 = .ok (.aload_n 0, 1))) ∧ (decode cX2_copyFrom 39 = .ok (.getfield 30, 3) ∧ decode cX2_copyFrom 42 = .ok (.iconst 0, 1))) ∧ (((decode cX2_copyFrom 43 = .ok (.aload_n 0, 1) ∧ decode cX2_copyFrom 44 = .ok (.getfield 30, 3)) ∧ (decode cX2_copyFrom 47 = .ok (.arraylength, 1))) ∧ (decode cX2_copyFrom 48 = .ok (.invokestatic 49, 3) ∧ decode cX2_copyFrom 51 = .ok (.return_, 1))) := by decide +kernel
theorem dX2_copyFrom_34 : decode cX2_copyFrom 34 = .ok (.getfield 30, 3) := bd00_12.1.1.1.1
theorem dX2_copyFrom_37 : decode cX2_copyFrom 37 = .ok (.iconst 0, 1) := bd00_12.1.1.1.2
theorem dX2_copyFrom_38 : decode cX2_copyFrom 38 = .ok (.aload_n 0, 1) := bd00_12.1.1.2
theorem dX2_copyFrom_39 : decode cX2_copyFrom 39 = .ok (.getfield 30, 3) := bd00_12.1.2.1
theorem dX2_copyFrom_42 : decode cX2_copyFrom 42 = .ok (.iconst 0, 1) := bd00_12.1.2.2
theorem dX2_copyFrom_43 : decode cX2_copyFrom 43 = .ok (.aload_n 0, 1) := bd00_12.2.1.1.1
theorem dX2_copyFrom_44 : decode cX2_copyFrom 44 = .ok (.getfield 30, 3) := bd00_12.2.1.1.2
theorem dX2_copyFrom_47 : decode cX2_copyFrom 47 = .ok (.arraylength, 1) := bd00_12.2.1.2
theorem dX2_copyFrom_48 : decode cX2_copyFrom 48 = .ok (.invokestatic 49, 3) := bd00_12.2.2.1
theorem dX2_copyFrom_51 : decode cX2_copyFrom 51 = .ok (.return_, 1) := bd00_12.2.2.2
theorem bd00_13 : (((decode cX3_init 0 = .ok (.aload_n 0, 1) ∧ decode cX3_init 1 = .ok (.invokespecial 3, 3)) ∧ (decode cX3_init 4 = .ok (.aload_n 0, 1) ∧ decode cX3_init 5 = .ok (.new 9, 3))) ∧ ((decode cX3_init 8 = .ok (.dup, 1) ∧ decode cX3_init 9 = .ok (.invokespecial 11, 3)) ∧ (decode cX3_init 12 = .ok (.putfield 12, 3) ∧ decode cX3_init 15 = .ok (.aload_n 0, 1)))) ∧ (((decode cX3_init 16 = .ok (.bipush 8, 2) ∧ decode cX3_init 18 = .ok (.newarray .int, 2)) ∧ (decode cX3_init 20 = .ok (.putfield 18, 3) ∧ decode cX3_init 23 = .ok (.aload_n 0, 1))) ∧ ((decode cX3_init 24 = .ok (.bipush 30, 2) ∧ decode cX3_init 26 = .ok (.putfield 22, 3)) ∧ (decode cX3_init 29 = .ok (.aload_n 0, 1) ∧ decode cX3_init 30 = .ok (.new 26, 3)))) := by decide +kernel
theorem dX3_init_0 : decode cX3_init 0 = .ok (.aload_n 0, 1) := bd00_13.1.1.1.1
theorem dX3_init_1 : decode cX3_init 1 = .ok (.invokespecial 3, 3) := bd00_13.1.1.1.2
theorem dX3_init_4 : decode cX3_init 4 = .ok (.aload_n 0, 1) := bd00_13.1.1.2.1
theorem dX3_init_5 : decode cX3_init 5 = .ok (.new 9, 3) := bd00_13.1.1.2.2
theorem dX3_init_8 : decode cX3_init 8 = .ok (.dup, 1) := bd00_13.1.2.1.1
theorem dX3_init_9 : decode cX3_init 9 = .ok (.invokespecial 11, 3) := bd00_13.1.2.1.2
theorem dX3_init_12 : decode cX3_init 12 = .ok (.putfield 12, 3) := bd00_13.1.2.2.1
theorem dX3_init_15 : decode cX3_init 15 = .ok (.aload_n 0, 1) := bd00_13.1.2.2.2
theorem dX3_init_16 : decode cX3_init 16 = .ok (.bipush 8, 2) := bd00_13.2.1.1.1
theorem dX3_init_18 : decode cX3_init 18 = .ok (.newarray .int, 2) := bd00_13.2.1.1.2
theorem dX3_init_20 : decode cX3_init 20 = .ok (.putfield 18, 3) := bd00_13.2.1.2.1
theorem dX3_init_23 : decode cX3_init 23 = .ok (.aload_n 0, 1) := bd00_13.2.1.2.2
theorem dX3_init_24 : decode cX3_init 24 = .ok (.bipush 30, 2) := bd00_13.2.2.1.1
theorem dX3_init_26 : decode cX3_init 26 = .ok (.putfield 22, 3) := bd00_13.2.2.1.2
theorem dX3_init_29 : decode cX3_init 29 = .ok (.aload_n 0, 1) := bd00_13.2.2.2.1
theorem dX3_init_30 : decode cX3_init 30 = .ok (.new 26, 3) := bd00_13.2.2.2.2
theorem bd00_14 : (((decode cX3_init 33 = .ok (.dup, 1) ∧ decode cX3_init 34 = .ok (.invokespecial 28, 3)) ∧ (decode cX3_init 37 = .ok (.putfield 29, 3))) ∧ (decode cX3_init 40 = .ok (.aload_n 0, 1) ∧ decode cX3_init 41 = .ok (.new 26, 3))) ∧ ((decode cX3_init 44 = .ok (.dup, 1) ∧ decode cX3_init 45 = .ok (.invokespecial 28, 3)) ∧ (decode cX3_init 48 = .ok (.putfield 33, 3) ∧ decode cX3_init 51 = .ok (.return_, 1))) := by decide +kernel
theorem dX3_init_33 : decode cX3_init 33 = .ok (.dup, 1) := bd00_14.1.1.1.1
theorem dX3_init_34 : decode cX3_init 34 = .ok (.invokespecial 28, 3) := bd00_14.1.1.1.2
theorem dX3_init_37 : decode cX3_init 37 = .ok (.putfield 29, 3) := bd00_14.1.1.2
theorem dX3_init_40 : decode cX3_init 40 = .ok (.aload_n 0, 1) := bd00_14.1.2.1
theorem dX3_init_41 : decode cX3_init 41 = .ok (.new 26, 3) := bd00_14.1.2.2
theorem dX3_init_44 : decode cX3_init 44 = .ok (.dup, 1) := bd00_14.2.1.1
theorem dX3_init_45 : decode cX3_init 45 = .ok (.invokespecial 28, 3) := bd00_14.2.1.2
theorem dX3_init_48 : decode cX3_init 48 = .ok (.putfield 33, 3) := bd00_14.2.2.1
theorem dX3_init_51 : decode cX3_init 51 = .ok (.return_, 1) := bd00_14.2.2.2
theorem bd00_15 : (((decode cX3_clear 0 = .ok (.aload_n 0, 1) ∧ decode cX3_clear 1 = .ok (.getfield 12, 3)) ∧ (decode cX3_clear 4 = .ok (.iconst 0, 1) ∧ decode cX3_clear 5 = .ok (.putfield 36, 3))) ∧ ((decode cX3_clear 8 = .ok (.aload_n 0, 1) ∧ decode cX3_clear 9 = .ok (.getfield 12, 3)) ∧ (decode cX3_clear 12 = .ok (.iconst 0, 1) ∧ decode cX3_clear 13 = .ok (.putfield 39, 3)))) ∧ (((decode cX3_clear 16 = .ok (.aload_n 0, 1) ∧ decode cX3_clear 17 = .ok (.getfield 12, 3)) ∧ (decode cX3_clear 20 = .ok (.iconst 0, 1) ∧ decode cX3_clear 21 = .ok (.putfield 42, 3))) ∧ ((decode cX3_clear 24 = .ok (.aload_n 0, 1) ∧ decode cX3_clear 25 = .ok (.iconst 0, 1)) ∧ (decode cX3_clear 26 = .ok (.putfield 45, 3) ∧ decode cX3_clear 29 = .ok (.aload_n 0, 1)))) := by decide +kernel
theorem dX3_clear_0 : decode cX3_clear 0 = .ok (.aload_n 0, 1) := bd00_15.1.1.1.1
theorem dX3_clear_1 : decode cX3_clear 1 = .ok (.getfield 12, 3) := bd00_15.1.1.1.2
theorem dX3_clear_4 : decode cX3_clear 4 = .ok (.iconst 0, 1) := bd00_15.1.1.2.1
theorem dX3_clear_5 : decode cX3_clear 5 = .ok (.putfield 36, 3) := bd00_15.1.1.2.2
theorem dX3_clear_8 : decode cX3_clear 8 = .ok (.aload_n 0, 1) := bd00_15.1.2.1.1
theorem dX3_clear_9 : decode cX3_clear 9 = .ok (.getfield 12, 3) := bd00_15.1.2.1.2
theorem dX3_clear_12 : decode cX3_clear 12 = .ok (.iconst 0, 1) := bd00_15.1.2.2.1
theorem dX3_clear_13 : decode cX3_clear 13 = .ok (.putfield 39, 3) := bd00_15.1.2.2.2
theorem dX3_clear_16 : decode cX3_clear 16 = .ok (.aload_n 0, 1) := bd00_15.2.1.1.1
theorem dX3_clear_17 : decode cX3_clear 17 = .ok (.getfield 12, 3) := bd00_15.2.1.1.2
theorem dX3_clear_20 : decode cX3_clear 20 = .ok (.iconst 0, 1) := bd00_15.2.1.2.1
theorem dX3_clear_21 : decode cX3_clear 21 = .ok (.putfield 42, 3) := bd00_15.2.1.2.2
theorem dX3_clear_24 : decode cX3_clear 24 = .ok (.aload_n 0, 1) := bd00_15.2.2.1.1
theorem dX3_clear_25 : decode cX3_clear 25 = .ok (.iconst 0, 1) := bd00_15.2.2.1.2
theorem dX3_clear_26 : decode cX3_clear 26 = .ok (.putfield 45, 3) := bd00_15.2.2.2.1
theorem dX3_clear_29 : decode cX3_clear 29 = .ok (.aload_n 0, 1) := bd00_15.2.2.2.2
theorem bd00_16 : (((decode cX3_clear 30 = .ok (.iconst 0, 1) ∧ decode cX3_clear 31 = .ok (.putfield 48, 3)) ∧ (decode cX3_clear 34 = .ok (.aload_n 0, 1) ∧ decode cX3_clear 35 = .ok (.bipush 30, 2))) ∧ ((decode cX3_clear 37 = .ok (.putfield 22, 3) ∧ decode cX3_clear 40 = .ok (.aload_n 0, 1)) ∧ (decode cX3_clear 41 = .ok (.iconst 0, 1) ∧ decode cX3_clear 42 = .ok (.putfield 51, 3)))) ∧ (((decode cX3_clear 45 = .ok (.aload_n 0, 1) ∧ decode cX3_clear 46 = .ok (.getfield 29, 3)) ∧ (decode cX3_clear 49 = .ok (.iconst 0, 1) ∧ decode cX3_clear 50 = .ok (.putfield 55, 3))) ∧ ((decode cX3_clear 53 = .ok (.aload_n 0, 1) ∧ decode cX3_clear 54 = .ok (.getfield 33, 3)) ∧ (decode cX3_clear 57 = .ok (.iconst 0, 1) ∧ decode cX3_clear 58 = .ok (.putfield 55, 3)))) := by decide +kernel
theorem dX3_clear_30 : decode cX3_clear 30 = .ok (.iconst 0, 1) := bd00_16.1.1.1.1
theorem dX3_clear_31 : decode cX3_clear 31 = .ok (.putfield 48, 3) := bd00_16.1.1.1.2
theorem dX3_clear_34 : decode cX3_clear 34 = .ok (.aload_n 0, 1) := bd00_16.1.1.2.1
theorem dX3_clear_35 : decode cX3_clear 35 = .ok (.bipush 30, 2) := bd00_16.1.1.2.2
theorem dX3_clear_37 : decode cX3_clear 37 = .ok (.putfield 22, 3) := bd00_16.1.2.1.1
theorem dX3_clear_40 : decode cX3_clear 40 = .ok (.aload_n 0, 1) := bd00_16.1.2.1.2
theorem dX3_clear_41 : decode cX3_clear 41 = .ok (.iconst 0, 1) := bd00_16.1.2.2.1
theorem dX3_clear_42 : decode cX3_clear 42 = .ok (.putfield 51, 3) := bd00_16.1.2.2.2
theorem dX3_clear_45 : decode cX3_clear 45 = .ok (.aload_n 0, 1) := bd00_16.2.1.1.1
theorem dX3_clear_46 : decode cX3_clear 46 = .ok (.getfield 29, 3) := bd00_16.2.1.1.2
theorem dX3_clear_49 : decode cX3_clear 49 = .ok (.iconst 0, 1) := bd00_16.2.1.2.1
theorem dX3_clear_50 : decode cX3_clear 50 = .ok (.putfield 55, 3) := bd00_16.2.1.2.2
theorem dX3_clear_53 : decode cX3_clear 53 = .ok (.aload_n 0, 1) := bd00_16.2.2.1.1
theorem dX3_clear_54 : decode cX3_clear 54 = .ok (.getfield 33, 3) := bd00_16.2.2.1.2
theorem dX3_clear_57 : decode cX3_clear 57 = .ok (.iconst 0, 1) := bd00_16.2.2.2.1
theorem dX3_clear_58 : decode cX3_clear 58 = .ok (.putfield 55, 3) := bd00_16.2.2.2.2
theorem bd00_17 : ((decode cX3_clear 61 = .ok (.return_, 1) ∧ decode cX3_copyFrom 0 = .ok (.aload_n 0, 1)) ∧ (decode cX3_copyFrom 1 = .ok (.getfield 12, 3) ∧ decode cX3_copyFrom 4 = .ok (.aload_n 1, 1))) ∧ ((decode cX3_copyFrom 5 = .ok (.getfield 12, 3) ∧ decode cX3_copyFrom 8 = .ok (.invokevirtual 58, 3)) ∧ (decode cX3_copyFrom 11 = .ok (.aload_n 0, 1) ∧ decode cX3_copyFrom 12 = .ok (.aload_n 1, 1))) := by decide +kernel
theorem dX3_clear_61 : decode cX3_clear 61 = .ok (.return_, 1) := bd00_17.1.1.1
theorem dX3_copyFrom_0 : decode cX3_copyFrom 0 = .ok (.aload_n 0, 1) := bd00_17.1.1.2
theorem dX3_copyFrom_1 : decode cX3_copyFrom 1 = .ok (.getfield 12, 3) := bd00_17.1.2.1
theorem dX3_copyFrom_4 : decode cX3_copyFrom 4 = .ok (.aload_n 1, 1) := bd00_17.1.2.2
theorem dX3_copyFrom_5 : decode cX3_copyFrom 5 = .ok (.getfield 12, 3) := bd00_17.2.1.1
theorem dX3_copyFrom_8 : decode cX3_copyFrom 8 = .ok (.invokevirtual 58, 3) := bd00_17.2.1.2
theorem dX3_copyFrom_11 : decode cX3_copyFrom 11 = .ok (.aload_n 0, 1) := bd00_17.2.2.1
theorem dX3_copyFrom_12 : decode cX3_copyFrom 12 = .ok (.aload_n 1, 1) := bd00_17.2.2.2
theorem bd00_18 : (((decode cX3_copyFrom 13 = .ok (.getfield 45, 3) ∧ decode cX3_copyFrom 16 = .ok (.putfield 45, 3)) ∧ (decode cX3_copyFrom 19 = .ok (.aload_n 1, 1) ∧ decode cX3_copyFrom 20 = .ok (.getfield 18, 3))) ∧ ((decode cX3_copyFrom 23 = .ok (.iconst 0, 1) ∧ decode cX3_copyFrom 24 = .ok (.aload_n 0, 1)) ∧ (decode cX3_copyFrom 25 = .ok (.getfield 18, 3) ∧ decode cX3_copyFrom 28 = .ok (.iconst 0, 1)))) ∧ (((decode cX3_copyFrom 29 = .ok (.aload_n 0, 1) ∧ decode cX3_copyFrom 30 = .ok (.getfield 18, 3)) ∧ (decode cX3_copyFrom 33 = .ok (.arraylength, 1) ∧ decode cX3_copyFrom 34 = .ok (.invokestatic 62, 3))) ∧ ((decode cX3_copyFrom 37 = .ok (.aload_n 0, 1) ∧ decode cX3_copyFrom 38 = .ok (.aload_n 1, 1)) ∧ (decode cX3_copyFrom 39 = .ok (.getfield 48, 3) ∧ decode cX3_copyFrom 42 = .ok (.putfield 48, 3)))) := by decide +kernel
theorem dX3_copyFrom_13 : decode cX3_copyFrom 13 = .ok (.getfield 45, 3) := bd00_18.1.1.1.1
theorem dX3_copyFrom_16 : decode cX3_copyFrom 16 = .ok (.putfield 45, 3) := bd00_18.1.1.1.2
theorem dX3_copyFrom_19 : decode cX3_copyFrom 19 = .ok (.aload_n 1, 1) := bd00_18.1.1.2.1
theorem dX3_copyFrom_20 : decode cX3_copyFrom 20 = .ok (.getfield 18, 3) := bd00_18.1.1.2.2
theorem dX3_copyFrom_23 : decode cX3_copyFrom 23 = .ok (.iconst 0, 1) := bd00_18.1.2.1.1
theorem dX3_copyFrom_24 : decode cX3_copyFrom 24 = .ok (.aload_n 0, 1) := bd00_18.1.2.1.2
theorem dX3_copyFrom_25 : decode cX3_copyFrom 25 = .ok (.getfield 18, 3) := bd00_18.1.2.2.1
theorem dX3_copyFrom_28 : decode cX3_copyFrom 28 = .ok (.iconst 0, 1) := bd00_18.1.2.2.2
theorem dX3_copyFrom_29 : decode cX3_copyFrom 29 = .ok (.aload_n 0, 1) := bd00_18.2.1.1.1
theorem dX3_copyFrom_30 : decode cX3_copyFrom 30 = .ok (.getfield 18, 3) := bd00_18.2.1.1.2
theorem dX3_copyFrom_33 : decode cX3_copyFrom 33 = .ok (.arraylength, 1) := bd00_18.2.1.2.1
theorem dX3_copyFrom_34 : decode cX3_copyFrom 34 = .ok (.invokestatic 62, 3) := bd00_18.2.1.2.2
theorem dX3_copyFrom_37 : decode cX3_copyFrom 37 = .ok (.aload_n 0, 1) := bd00_18.2.2.1.1
theorem dX3_copyFrom_38 : decode cX3_copyFrom 38 = .ok (.aload_n 1, 1) := bd00_18.2.2.1.2
theorem dX3_copyFrom_39 : decode cX3_copyFrom 39 = .ok (.getfield 48, 3) := bd00_18.2.2.2.1
theorem dX3_copyFrom_42 : decode cX3_copyFrom 42 = .ok (.putfield 48, 3) := bd00_18.2.2.2.2
theorem bd00_19 : (((decode cX3_copyFrom 45 = .ok (.aload_n 0, 1) ∧ decode cX3_copyFrom 46 = .ok (.aload_n 1, 1)) ∧ (decode cX3_copyFrom 47 = .ok (.getfield 22, 3) ∧ decode cX3_copyFrom 50 = .ok (.putfield 22, 3))) ∧ ((decode cX3_copyFrom 53 = .ok (.aload_n 0, 1) ∧ decode cX3_copyFrom 54 = .ok (.aload_n 1, 1)) ∧ (decode cX3_copyFrom 55 = .ok (.getfield 51, 3) ∧ decode cX3_copyFrom 58 = .ok (.putfield 51, 3)))) ∧ (((decode cX3_copyFrom 61 = .ok (.aload_n 0, 1) ∧ decode cX3_copyFrom 62 = .ok (.getfield 29, 3)) ∧ (decode cX3_copyFrom 65 = .ok (.aload_n 1, 1) ∧ decode cX3_copyFrom 66 = .ok (.getfield 29, 3))) ∧ ((decode cX3_copyFrom 69 = .ok (.invokevirtual 68, 3) ∧ decode cX3_copyFrom 72 = .ok (.aload_n 0, 1)) ∧ (decode cX3_copyFrom 73 = .ok (.getfield 33, 3) ∧ decode cX3_copyFrom 76 = .ok (.aload_n 1, 1)))) := by decide +kernel
theorem dX3_copyFrom_45 : decode cX3_copyFrom 45 = .ok (.aload_n 0, 1) := bd00_19.1.1.1.1
theorem dX3_copyFrom_46 : decode cX3_copyFrom 46 = .ok (.aload_n 1, 1) := bd00_19.1.1.1.2
theorem dX3_copyFrom_47 : decode cX3_copyFrom 47 = .ok (.getfield 22, 3) := bd00_19.1.1.2.1
theorem dX3_copyFrom_50 : decode cX3_copyFrom 50 = .ok (.putfield 22, 3) := bd00_19.1.1.2.2
theorem dX3_copyFrom_53 : decode cX3_copyFrom 53 = .ok (.aload_n 0, 1) := bd00_19.1.2.1.1
theorem dX3_copyFrom_54 : decode cX3_copyFrom 54 = .ok (.aload_n 1, 1) := bd00_19.1.2.1.2
theorem dX3_copyFrom_55 : decode cX3_copyFrom 55 = .ok (.getfield 51, 3) := bd00_19.1.2.2.1
theorem dX3_copyFrom_58 : decode cX3_copyFrom 58 = .ok (.putfield 51, 3) := bd00_19.1.2.2.2
theorem dX3_copyFrom_61 : decode cX3_copyFrom 61 = .ok (.aload_n 0, 1) := bd00_19.2.1.1.1
theorem dX3_copyFrom_62 : decode cX3_copyFrom 62 = .ok (.getfield 29, 3) := bd00_19.2.1.1.2
theorem dX3_copyFrom_65 : decode cX3_copyFrom 65 = .ok (.aload_n 1, 1) := bd00_19.2.1.2.1
theorem dX3_copyFrom_66 : decode cX3_copyFrom 66 = .ok (.getfield 29, 3) := bd00_19.2.1.2.2
theorem dX3_copyFrom_69 : decode cX3_copyFrom 69 = .ok (.invokevirtual 68, 3) := bd00_19.2.2.1.1
theorem dX3_copyFrom_72 : decode cX3_copyFrom 72 = .ok (.aload_n 0, 1) := bd00_19.2.2.1.2
theorem dX3_copyFrom_73 : decode cX3_copyFrom 73 = .ok (.getfield 33, 3) := bd00_19.2.2.2.1
theorem dX3_copyFrom_76 : decode cX3_copyFrom 76 = .ok (.aload_n 1, 1) := bd00_19.2.2.2.2
theorem bd00_20 : ((decode cX3_copyFrom 77 = .ok (.getfield 33, 3) ∧ decode cX3_copyFrom 80 = .ok (.invokevirtual 68, 3)) ∧ (decode cX3_copyFrom 83 = .ok (.return_, 1) ∧ decode cX3_rainOf 0 = .ok (.aload_n 0, 1))) ∧ ((decode cX3_rainOf 1 = .ok (.getfield 48, 3) ∧ decode cX3_rainOf 4 = .ok (.ifCond .ne 7, 3)) ∧ (decode cX3_rainOf 7 = .ok (.iconst 3, 1) ∧ decode cX3_rainOf 8 = .ok (.goto 14, 3))) := by decide +kernel
theorem dX3_copyFrom_77 : decode cX3_copyFrom 77 = .ok (.getfield 33, 3) := bd00_20.1.1.1
theorem dX3_copyFrom_80 : decode cX3_copyFrom 80 = .ok (.invokevirtual 68, 3) := bd00_20.1.1.2
theorem dX3_copyFrom_83 : decode cX3_copyFrom 83 = .ok (.return_, 1) := bd00_20.1.2.1
theorem dX3_rainOf_0 : decode cX3_rainOf 0 = .ok (.aload_n 0, 1) := bd00_20.1.2.2
theorem dX3_rainOf_1 : decode cX3_rainOf 1 = .ok (.getfield 48, 3) := bd00_20.2.1.1
theorem dX3_rainOf_4 : decode cX3_rainOf 4 = .ok (.ifCond .ne 7, 3) := bd00_20.2.1.2
theorem dX3_rainOf_7 : decode cX3_rainOf 7 = .ok (.iconst 3, 1) := bd00_20.2.2.1
theorem dX3_rainOf_8 : decode cX3_rainOf 8 = .ok (.goto 14, 3) := bd00_20.2.2.2
theorem bd00_21 : ((decode cX3_rainOf 11 = .ok (.aload_n 0, 1) ∧ decode cX3_rainOf 12 = .ok (.getfield 18, 3)) ∧ (decode cX3_rainOf 15 = .ok (.iload_n 1, 1) ∧ decode cX3_rainOf 16 = .ok (.aload_n 0, 1))) ∧ ((decode cX3_rainOf 17 = .ok (.getfield 48, 3) ∧ decode cX3_rainOf 20 = .ok (.irem, 1)) ∧ (decode cX3_rainOf 21 = .ok (.iaload, 1) ∧ decode cX3_rainOf 22 = .ok (.ireturn, 1))) := by decide +kernel
theorem dX3_rainOf_11 : decode cX3_rainOf 11 = .ok (.aload_n 0, 1) := bd00_21.1.1.1
theorem dX3_rainOf_12 : decode cX3_rainOf 12 = .ok (.getfield 18, 3) := bd00_21.1.1.2
theorem dX3_rainOf_15 : decode cX3_rainOf 15 = .ok (.iload_n 1, 1) := bd00_21.1.2.1
theorem dX3_rainOf_16 : decode cX3_rainOf 16 = .ok (.aload_n 0, 1) := bd00_21.1.2.2
theorem dX3_rainOf_17 : decode cX3_rainOf 17 = .ok (.getfield 48, 3) := bd00_21.2.1.1
theorem dX3_rainOf_20 : decode cX3_rainOf 20 = .ok (.irem, 1) := bd00_21.2.1.2
theorem dX3_rainOf_21 : decode cX3_rainOf 21 = .ok (.iaload, 1) := bd00_21.2.2.1
theorem dX3_rainOf_22 : decode cX3_rainOf 22 = .ok (.ireturn, 1) := bd00_21.2.2.2
theorem bd00_22 : (((decode cX4_init 0 = .ok (.aload_n 0, 1) ∧ decode cX4_init 1 = .ok (.invokespecial 3, 3)) ∧ (decode cX4_init 4 = .ok (.aload_n 0, 1) ∧ decode cX4_init 5 = .ok (.new 9, 3))) ∧ ((decode cX4_init 8 = .ok (.dup, 1) ∧ decode cX4_init 9 = .ok (.invokespecial 11, 3)) ∧ (decode cX4_init 12 = .ok (.putfield 12, 3) ∧ decode cX4_init 15 = .ok (.aload_n 0, 1)))) ∧ (((decode cX4_init 16 = .ok (.iconst (-1), 1) ∧ decode cX4_init 17 = .ok (.putfield 18, 3)) ∧ (decode cX4_init 20 = .ok (.aload_n 0, 1) ∧ decode cX4_init 21 = .ok (.aload_n 1, 1))) ∧ ((decode cX4_init 22 = .ok (.putfield 22, 3) ∧ decode cX4_init 25 = .ok (.aload_n 0, 1)) ∧ (decode cX4_init 26 = .ok (.aload_n 0, 1) ∧ decode cX4_init 27 = .ok (.getfield 12, 3)))) := by decide +kernel
theorem dX4_init_0 : decode cX4_init 0 = .ok (.aload_n 0, 1) := bd00_22.1.1.1.1
theorem dX4_init_1 : decode cX4_init 1 = .ok (.invokespecial 3, 3) := bd00_22.1.1.1.2
theorem dX4_init_4 : decode cX4_init 4 = .ok (.aload_n 0, 1) := bd00_22.1.1.2.1
theorem dX4_init_5 : decode cX4_init 5 = .ok (.new 9, 3) := bd00_22.1.1.2.2
theorem dX4_init_8 : decode cX4_init 8 = .ok (.dup, 1) := bd00_22.1.2.1.1
theorem dX4_init_9 : decode cX4_init 9 = .ok (.invokespecial 11, 3) := bd00_22.1.2.1.2
theorem dX4_init_12 : decode cX4_init 12 = .ok (.putfield 12, 3) := bd00_22.1.2.2.1
theorem dX4_init_15 : decode cX4_init 15 = .ok (.aload_n 0, 1) := bd00_22.1.2.2.2
theorem dX4_init_16 : decode cX4_init 16 = .ok (.iconst (-1), 1) := bd00_22.2.1.1.1
theorem dX4_init_17 : decode cX4_init 17 = .ok (.putfield 18, 3) := bd00_22.2.1.1.2
theorem dX4_init_20 : decode cX4_init 20 = .ok (.aload_n 0, 1) := bd00_22.2.1.2.1
theorem dX4_init_21 : decode cX4_init 21 = .ok (.aload_n 1, 1) := bd00_22.2.1.2.2
theorem dX4_init_22 : decode cX4_init 22 = .ok (.putfield 22, 3) := bd00_22.2.2.1.1
theorem dX4_init_25 : decode cX4_init 25 = .ok (.aload_n 0, 1) := bd00_22.2.2.1.2
theorem dX4_init_26 : decode cX4_init 26 = .ok (.aload_n 0, 1) := bd00_22.2.2.2.1
theorem dX4_init_27 : decode cX4_init 27 = .ok (.getfield 12, 3) := bd00_22.2.2.2.2
theorem bd00_23 : ((decode cX4_init 30 = .ok (.getfield 26, 3) ∧ decode cX4_init 33 = .ok (.putfield 30, 3)) ∧ (decode cX4_init 36 = .ok (.return_, 1) ∧ decode cX4_readTower 0 = .ok (.aload_n 0, 1))) ∧ ((decode cX4_readTower 1 = .ok (.iload_n 1, 1) ∧ decode cX4_readTower 2 = .ok (.invokevirtual 33, 3)) ∧ (decode cX4_readTower 5 = .ok (.iconst 0, 1) ∧ decode cX4_readTower 6 = .ok (.istore_n 2, 1))) := by decide +kernel
theorem dX4_init_30 : decode cX4_init 30 = .ok (.getfield 26, 3) := bd00_23.1.1.1
theorem dX4_init_33 : decode cX4_init 33 = .ok (.putfield 30, 3) := bd00_23.1.1.2
theorem dX4_init_36 : decode cX4_init 36 = .ok (.return_, 1) := bd00_23.1.2.1
theorem dX4_readTower_0 : decode cX4_readTower 0 = .ok (.aload_n 0, 1) := bd00_23.1.2.2
theorem dX4_readTower_1 : decode cX4_readTower 1 = .ok (.iload_n 1, 1) := bd00_23.2.1.1
theorem dX4_readTower_2 : decode cX4_readTower 2 = .ok (.invokevirtual 33, 3) := bd00_23.2.1.2
theorem dX4_readTower_5 : decode cX4_readTower 5 = .ok (.iconst 0, 1) := bd00_23.2.2.1
theorem dX4_readTower_6 : decode cX4_readTower 6 = .ok (.istore_n 2, 1) := bd00_23.2.2.2
theorem bd00_24 : (((decode cX4_readTower 7 = .ok (.iload_n 2, 1) ∧ decode cX4_readTower 8 = .ok (.sipush 700, 3)) ∧ (decode cX4_readTower 11 = .ok (.if_icmp .ge 139, 3) ∧ decode cX4_readTower 14 = .ok (.aload_n 0, 1))) ∧ ((decode cX4_readTower 15 = .ok (.getfield 37, 3) ∧ decode cX4_readTower 18 = .ok (.ifCond .eq 132, 3)) ∧ (decode cX4_readTower 21 = .ok (.aload_n 0, 1) ∧ decode cX4_readTower 22 = .ok (.getfield 40, 3)))) ∧ (((decode cX4_readTower 25 = .ok (.ifCond .ne 125, 3) ∧ decode cX4_readTower 28 = .ok (.aload_n 0, 1)) ∧ (decode cX4_readTower 29 = .ok (.getfield 43, 3) ∧ decode cX4_readTower 32 = .ok (.getstatic 47, 3))) ∧ ((decode cX4_readTower 35 = .ok (.if_acmp .ne 10, 3) ∧ decode cX4_readTower 38 = .ok (.aload_n 0, 1)) ∧ (decode cX4_readTower 39 = .ok (.invokevirtual 52, 3) ∧ decode cX4_readTower 42 = .ok (.goto 96, 3)))) := by decide +kernel
theorem dX4_readTower_7 : decode cX4_readTower 7 = .ok (.iload_n 2, 1) := bd00_24.1.1.1.1
theorem dX4_readTower_8 : decode cX4_readTower 8 = .ok (.sipush 700, 3) := bd00_24.1.1.1.2
theorem dX4_readTower_11 : decode cX4_readTower 11 = .ok (.if_icmp .ge 139, 3) := bd00_24.1.1.2.1
theorem dX4_readTower_14 : decode cX4_readTower 14 = .ok (.aload_n 0, 1) := bd00_24.1.1.2.2
theorem dX4_readTower_15 : decode cX4_readTower 15 = .ok (.getfield 37, 3) := bd00_24.1.2.1.1
theorem dX4_readTower_18 : decode cX4_readTower 18 = .ok (.ifCond .eq 132, 3) := bd00_24.1.2.1.2
theorem dX4_readTower_21 : decode cX4_readTower 21 = .ok (.aload_n 0, 1) := bd00_24.1.2.2.1
theorem dX4_readTower_22 : decode cX4_readTower 22 = .ok (.getfield 40, 3) := bd00_24.1.2.2.2
theorem dX4_readTower_25 : decode cX4_readTower 25 = .ok (.ifCond .ne 125, 3) := bd00_24.2.1.1.1
theorem dX4_readTower_28 : decode cX4_readTower 28 = .ok (.aload_n 0, 1) := bd00_24.2.1.1.2
theorem dX4_readTower_29 : decode cX4_readTower 29 = .ok (.getfield 43, 3) := bd00_24.2.1.2.1
theorem dX4_readTower_32 : decode cX4_readTower 32 = .ok (.getstatic 47, 3) := bd00_24.2.1.2.2
theorem dX4_readTower_35 : decode cX4_readTower 35 = .ok (.if_acmp .ne 10, 3) := bd00_24.2.2.1.1
theorem dX4_readTower_38 : decode cX4_readTower 38 = .ok (.aload_n 0, 1) := bd00_24.2.2.1.2
theorem dX4_readTower_39 : decode cX4_readTower 39 = .ok (.invokevirtual 52, 3) := bd00_24.2.2.2.1
theorem dX4_readTower_42 : decode cX4_readTower 42 = .ok (.goto 96, 3) := bd00_24.2.2.2.2
theorem bd00_25 : (((decode cX4_readTower 45 = .ok (.aload_n 0, 1) ∧ decode cX4_readTower 46 = .ok (.getfield 43, 3)) ∧ (decode cX4_readTower 49 = .ok (.getstatic 55, 3) ∧ decode cX4_readTower 52 = .ok (.if_acmp .eq 13, 3))) ∧ ((decode cX4_readTower 55 = .ok (.aload_n 0, 1) ∧ decode cX4_readTower 56 = .ok (.getfield 43, 3)) ∧ (decode cX4_readTower 59 = .ok (.getstatic 58, 3) ∧ decode cX4_readTower 62 = .ok (.if_acmp .ne 10, 3)))) ∧ (((decode cX4_readTower 65 = .ok (.aload_n 0, 1) ∧ decode cX4_readTower 66 = .ok (.invokevirtual 61, 3)) ∧ (decode cX4_readTower 69 = .ok (.goto 69, 3) ∧ decode cX4_readTower 72 = .ok (.aload_n 0, 1))) ∧ ((decode cX4_readTower 73 = .ok (.getfield 43, 3) ∧ decode cX4_readTower 76 = .ok (.getstatic 64, 3)) ∧ (decode cX4_readTower 79 = .ok (.if_acmp .ne 10, 3) ∧ decode cX4_readTower 82 = .ok (.aload_n 0, 1)))) := by decide +kernel
theorem dX4_readTower_45 : decode cX4_readTower 45 = .ok (.aload_n 0, 1) := bd00_25.1.1.1.1
theorem dX4_readTower_46 : decode cX4_readTower 46 = .ok (.getfield 43, 3) := bd00_25.1.1.1.2
theorem dX4_readTower_49 : decode cX4_readTower 49 = .ok (.getstatic 55, 3) := bd00_25.1.1.2.1
theorem dX4_readTower_52 : decode cX4_readTower 52 = .ok (.if_acmp .eq 13, 3) := bd00_25.1.1.2.2
theorem dX4_readTower_55 : decode cX4_readTower 55 = .ok (.aload_n 0, 1) := bd00_25.1.2.1.1
theorem dX4_readTower_56 : decode cX4_readTower 56 = .ok (.getfield 43, 3) := bd00_25.1.2.1.2
theorem dX4_readTower_59 : decode cX4_readTower 59 = .ok (.getstatic 58, 3) := bd00_25.1.2.2.1
theorem dX4_readTower_62 : decode cX4_readTower 62 = .ok (.if_acmp .ne 10, 3) := bd00_25.1.2.2.2
theorem dX4_readTower_65 : decode cX4_readTower 65 = .ok (.aload_n 0, 1) := bd00_25.2.1.1.1
theorem dX4_readTower_66 : decode cX4_readTower 66 = .ok (.invokevirtual 61, 3) := bd00_25.2.1.1.2
theorem dX4_readTower_69 : decode cX4_readTower 69 = .ok (.goto 69, 3) := bd00_25.2.1.2.1
theorem dX4_readTower_72 : decode cX4_readTower 72 = .ok (.aload_n 0, 1) := bd00_25.2.1.2.2
theorem dX4_readTower_73 : decode cX4_readTower 73 = .ok (.getfield 43, 3) := bd00_25.2.2.1.1
theorem dX4_readTower_76 : decode cX4_readTower 76 = .ok (.getstatic 64, 3) := bd00_25.2.2.1.2
theorem dX4_readTower_79 : decode cX4_readTower 79 = .ok (.if_acmp .ne 10, 3) := bd00_25.2.2.2.1
theorem dX4_readTower_82 : decode cX4_readTower 82 = .ok (.aload_n 0, 1) := bd00_25.2.2.2.2
theorem bd00_26 : (((decode cX4_readTower 83 = .ok (.invokevirtual 67, 3) ∧ decode cX4_readTower 86 = .ok (.goto 52, 3)) ∧ (decode cX4_readTower 89 = .ok (.aload_n 0, 1) ∧ decode cX4_readTower 90 = .ok (.getfield 43, 3))) ∧ ((decode cX4_readTower 93 = .ok (.getstatic 70, 3) ∧ decode cX4_readTower 96 = .ok (.if_acmp .ne 10, 3)) ∧ (decode cX4_readTower 99 = .ok (.aload_n 0, 1) ∧ decode cX4_readTower 100 = .ok (.invokevirtual 73, 3)))) ∧ (((decode cX4_readTower 103 = .ok (.goto 35, 3) ∧ decode cX4_readTower 106 = .ok (.aload_n 0, 1)) ∧ (decode cX4_readTower 107 = .ok (.getfield 43, 3) ∧ decode cX4_readTower 110 = .ok (.getstatic 76, 3))) ∧ ((decode cX4_readTower 113 = .ok (.if_acmp .eq 13, 3) ∧ decode cX4_readTower 116 = .ok (.aload_n 0, 1)) ∧ (decode cX4_readTower 117 = .ok (.getfield 43, 3) ∧ decode cX4_readTower 120 = .ok (.getstatic 79, 3)))) := by decide +kernel
theorem dX4_readTower_83 : decode cX4_readTower 83 = .ok (.invokevirtual 67, 3) := bd00_26.1.1.1.1
theorem dX4_readTower_86 : decode cX4_readTower 86 = .ok (.goto 52, 3) := bd00_26.1.1.1.2
theorem dX4_readTower_89 : decode cX4_readTower 89 = .ok (.aload_n 0, 1) := bd00_26.1.1.2.1
theorem dX4_readTower_90 : decode cX4_readTower 90 = .ok (.getfield 43, 3) := bd00_26.1.1.2.2
theorem dX4_readTower_93 : decode cX4_readTower 93 = .ok (.getstatic 70, 3) := bd00_26.1.2.1.1
theorem dX4_readTower_96 : decode cX4_readTower 96 = .ok (.if_acmp .ne 10, 3) := bd00_26.1.2.1.2
theorem dX4_readTower_99 : decode cX4_readTower 99 = .ok (.aload_n 0, 1) := bd00_26.1.2.2.1
theorem dX4_readTower_100 : decode cX4_readTower 100 = .ok (.invokevirtual 73, 3) := bd00_26.1.2.2.2
theorem dX4_readTower_103 : decode cX4_readTower 103 = .ok (.goto 35, 3) := bd00_26.2.1.1.1
theorem dX4_readTower_106 : decode cX4_readTower 106 = .ok (.aload_n 0, 1) := bd00_26.2.1.1.2
theorem dX4_readTower_107 : decode cX4_readTower 107 = .ok (.getfield 43, 3) := bd00_26.2.1.2.1
theorem dX4_readTower_110 : decode cX4_readTower 110 = .ok (.getstatic 76, 3) := bd00_26.2.1.2.2
theorem dX4_readTower_113 : decode cX4_readTower 113 = .ok (.if_acmp .eq 13, 3) := bd00_26.2.2.1.1
theorem dX4_readTower_116 : decode cX4_readTower 116 = .ok (.aload_n 0, 1) := bd00_26.2.2.1.2
theorem dX4_readTower_117 : decode cX4_readTower 117 = .ok (.getfield 43, 3) := bd00_26.2.2.2.1
theorem dX4_readTower_120 : decode cX4_readTower 120 = .ok (.getstatic 79, 3) := bd00_26.2.2.2.2
theorem bd00_27 : (((decode cX4_readTower 123 = .ok (.if_acmp .ne 10, 3) ∧ decode cX4_readTower 126 = .ok (.aload_n 0, 1)) ∧ (decode cX4_readTower 127 = .ok (.invokevirtual 82, 3) ∧ decode cX4_readTower 130 = .ok (.goto 8, 3))) ∧ ((decode cX4_readTower 133 = .ok (.aload_n 0, 1) ∧ decode cX4_readTower 134 = .ok (.iconst 1, 1)) ∧ (decode cX4_readTower 135 = .ok (.invokevirtual 85, 3) ∧ decode cX4_readTower 138 = .ok (.aload_n 0, 1)))) ∧ (((decode cX4_readTower 139 = .ok (.bipush 59, 2) ∧ decode cX4_readTower 141 = .ok (.invokevirtual 88, 3)) ∧ (decode cX4_readTower 144 = .ok (.iinc 2 1, 3) ∧ decode cX4_readTower 147 = .ok (.goto (-140), 3))) ∧ ((decode cX4_readTower 150 = .ok (.aload_n 0, 1) ∧ decode cX4_readTower 151 = .ok (.getfield 40, 3)) ∧ (decode cX4_readTower 154 = .ok (.ireturn, 1)))) := by decide +kernel
theorem dX4_readTower_123 : decode cX4_readTower 123 = .ok (.if_acmp .ne 10, 3) := bd00_27.1.1.1.1
theorem dX4_readTower_126 : decode cX4_readTower 126 = .ok (.aload_n 0, 1) := bd00_27.1.1.1.2
theorem dX4_readTower_127 : decode cX4_readTower 127 = .ok (.invokevirtual 82, 3) := bd00_27.1.1.2.1
theorem dX4_readTower_130 : decode cX4_readTower 130 = .ok (.goto 8, 3) := bd00_27.1.1.2.2
theorem dX4_readTower_133 : decode cX4_readTower 133 = .ok (.aload_n 0, 1) := bd00_27.1.2.1.1
theorem dX4_readTower_134 : decode cX4_readTower 134 = .ok (.iconst 1, 1) := bd00_27.1.2.1.2
theorem dX4_readTower_135 : decode cX4_readTower 135 = .ok (.invokevirtual 85, 3) := bd00_27.1.2.2.1
theorem dX4_readTower_138 : decode cX4_readTower 138 = .ok (.aload_n 0, 1) := bd00_27.1.2.2.2
theorem dX4_readTower_139 : decode cX4_readTower 139 = .ok (.bipush 59, 2) := bd00_27.2.1.1.1
theorem dX4_readTower_141 : decode cX4_readTower 141 = .ok (.invokevirtual 88, 3) := bd00_27.2.1.1.2
theorem dX4_readTower_144 : decode cX4_readTower 144 = .ok (.iinc 2 1, 3) := bd00_27.2.1.2.1
theorem dX4_readTower_147 : decode cX4_readTower 147 = .ok (.goto (-140), 3) := bd00_27.2.1.2.2
theorem dX4_readTower_150 : decode cX4_readTower 150 = .ok (.aload_n 0, 1) := bd00_27.2.2.1.1
theorem dX4_readTower_151 : decode cX4_readTower 151 = .ok (.getfield 40, 3) := bd00_27.2.2.1.2
theorem dX4_readTower_154 : decode cX4_readTower 154 = .ok (.ireturn, 1) := bd00_27.2.2.2
theorem bd00_28 : (((decode cX4_begin 0 = .ok (.aload_n 0, 1) ∧ decode cX4_begin 1 = .ok (.iconst 0, 1)) ∧ (decode cX4_begin 2 = .ok (.iload_n 1, 1) ∧ decode cX4_begin 3 = .ok (.aload_n 0, 1))) ∧ ((decode cX4_begin 4 = .ok (.getfield 22, 3) ∧ decode cX4_begin 7 = .ok (.arraylength, 1)) ∧ (decode cX4_begin 8 = .ok (.invokestatic 92, 3) ∧ decode cX4_begin 11 = .ok (.invokestatic 98, 3)))) ∧ (((decode cX4_begin 14 = .ok (.putfield 101, 3) ∧ decode cX4_begin 17 = .ok (.aload_n 0, 1)) ∧ (decode cX4_begin 18 = .ok (.iconst 0, 1) ∧ decode cX4_begin 19 = .ok (.putfield 104, 3))) ∧ ((decode cX4_begin 22 = .ok (.aload_n 0, 1) ∧ decode cX4_begin 23 = .ok (.getfield 12, 3)) ∧ (decode cX4_begin 26 = .ok (.invokevirtual 107, 3) ∧ decode cX4_begin 29 = .ok (.aload_n 0, 1)))) := by decide +kernel
theorem dX4_begin_0 : decode cX4_begin 0 = .ok (.aload_n 0, 1) := bd00_28.1.1.1.1
theorem dX4_begin_1 : decode cX4_begin 1 = .ok (.iconst 0, 1) := bd00_28.1.1.1.2
theorem dX4_begin_2 : decode cX4_begin 2 = .ok (.iload_n 1, 1) := bd00_28.1.1.2.1
theorem dX4_begin_3 : decode cX4_begin 3 = .ok (.aload_n 0, 1) := bd00_28.1.1.2.2
theorem dX4_begin_4 : decode cX4_begin 4 = .ok (.getfield 22, 3) := bd00_28.1.2.1.1
theorem dX4_begin_7 : decode cX4_begin 7 = .ok (.arraylength, 1) := bd00_28.1.2.1.2
theorem dX4_begin_8 : decode cX4_begin 8 = .ok (.invokestatic 92, 3) := bd00_28.1.2.2.1
theorem dX4_begin_11 : decode cX4_begin 11 = .ok (.invokestatic 98, 3) := bd00_28.1.2.2.2
theorem dX4_begin_14 : decode cX4_begin 14 = .ok (.putfield 101, 3) := bd00_28.2.1.1.1
theorem dX4_begin_17 : decode cX4_begin 17 = .ok (.aload_n 0, 1) := bd00_28.2.1.1.2
theorem dX4_begin_18 : decode cX4_begin 18 = .ok (.iconst 0, 1) := bd00_28.2.1.2.1
theorem dX4_begin_19 : decode cX4_begin 19 = .ok (.putfield 104, 3) := bd00_28.2.1.2.2
theorem dX4_begin_22 : decode cX4_begin 22 = .ok (.aload_n 0, 1) := bd00_28.2.2.1.1
theorem dX4_begin_23 : decode cX4_begin 23 = .ok (.getfield 12, 3) := bd00_28.2.2.1.2
theorem dX4_begin_26 : decode cX4_begin 26 = .ok (.invokevirtual 107, 3) := bd00_28.2.2.2.1
theorem dX4_begin_29 : decode cX4_begin 29 = .ok (.aload_n 0, 1) := bd00_28.2.2.2.2
theorem bd00_29 : ((decode cX4_begin 30 = .ok (.iconst 0, 1) ∧ decode cX4_begin 31 = .ok (.putfield 40, 3)) ∧ (decode cX4_begin 34 = .ok (.aload_n 0, 1) ∧ decode cX4_begin 35 = .ok (.iconst (-1), 1))) ∧ ((decode cX4_begin 36 = .ok (.putfield 18, 3) ∧ decode cX4_begin 39 = .ok (.aload_n 0, 1)) ∧ (decode cX4_begin 40 = .ok (.invokevirtual 110, 3) ∧ decode cX4_begin 43 = .ok (.return_, 1))) := by decide +kernel
theorem dX4_begin_30 : decode cX4_begin 30 = .ok (.iconst 0, 1) := bd00_29.1.1.1
theorem dX4_begin_31 : decode cX4_begin 31 = .ok (.putfield 40, 3) := bd00_29.1.1.2
theorem dX4_begin_34 : decode cX4_begin 34 = .ok (.aload_n 0, 1) := bd00_29.1.2.1
theorem dX4_begin_35 : decode cX4_begin 35 = .ok (.iconst (-1), 1) := bd00_29.1.2.2
theorem dX4_begin_36 : decode cX4_begin 36 = .ok (.putfield 18, 3) := bd00_29.2.1.1
theorem dX4_begin_39 : decode cX4_begin 39 = .ok (.aload_n 0, 1) := bd00_29.2.1.2
theorem dX4_begin_40 : decode cX4_begin 40 = .ok (.invokevirtual 110, 3) := bd00_29.2.2.1
theorem dX4_begin_43 : decode cX4_begin 43 = .ok (.return_, 1) := bd00_29.2.2.2
theorem bd00_30 : (((decode cX4_refuse 0 = .ok (.aload_n 0, 1) ∧ decode cX4_refuse 1 = .ok (.getfield 40, 3)) ∧ (decode cX4_refuse 4 = .ok (.ifCond .ne 16, 3))) ∧ ((decode cX4_refuse 7 = .ok (.aload_n 0, 1) ∧ decode cX4_refuse 8 = .ok (.iload_n 1, 1)) ∧ (decode cX4_refuse 9 = .ok (.putfield 40, 3)))) ∧ (((decode cX4_refuse 12 = .ok (.aload_n 0, 1) ∧ decode cX4_refuse 13 = .ok (.aload_n 0, 1)) ∧ (decode cX4_refuse 14 = .ok (.getfield 113, 3))) ∧ (decode cX4_refuse 17 = .ok (.putfield 18, 3) ∧ decode cX4_refuse 20 = .ok (.return_, 1))) := by decide +kernel
theorem dX4_refuse_0 : decode cX4_refuse 0 = .ok (.aload_n 0, 1) := bd00_30.1.1.1.1
theorem dX4_refuse_1 : decode cX4_refuse 1 = .ok (.getfield 40, 3) := bd00_30.1.1.1.2
theorem dX4_refuse_4 : decode cX4_refuse 4 = .ok (.ifCond .ne 16, 3) := bd00_30.1.1.2
theorem dX4_refuse_7 : decode cX4_refuse 7 = .ok (.aload_n 0, 1) := bd00_30.1.2.1.1
theorem dX4_refuse_8 : decode cX4_refuse 8 = .ok (.iload_n 1, 1) := bd00_30.1.2.1.2
theorem dX4_refuse_9 : decode cX4_refuse 9 = .ok (.putfield 40, 3) := bd00_30.1.2.2
theorem dX4_refuse_12 : decode cX4_refuse 12 = .ok (.aload_n 0, 1) := bd00_30.2.1.1.1
theorem dX4_refuse_13 : decode cX4_refuse 13 = .ok (.aload_n 0, 1) := bd00_30.2.1.1.2
theorem dX4_refuse_14 : decode cX4_refuse 14 = .ok (.getfield 113, 3) := bd00_30.2.1.2
theorem dX4_refuse_17 : decode cX4_refuse 17 = .ok (.putfield 18, 3) := bd00_30.2.2.1
theorem dX4_refuse_20 : decode cX4_refuse 20 = .ok (.return_, 1) := bd00_30.2.2.2
theorem bd00_31 : (((decode cX4_skip 0 = .ok (.aload_n 0, 1) ∧ decode cX4_skip 1 = .ok (.getfield 37, 3)) ∧ (decode cX4_skip 4 = .ok (.iload_n 1, 1) ∧ decode cX4_skip 5 = .ok (.if_icmp .eq 11, 3))) ∧ ((decode cX4_skip 8 = .ok (.aload_n 0, 1) ∧ decode cX4_skip 9 = .ok (.iconst 1, 1)) ∧ (decode cX4_skip 10 = .ok (.invokevirtual 85, 3)))) ∧ (((decode cX4_skip 13 = .ok (.goto 14, 3) ∧ decode cX4_skip 16 = .ok (.aload_n 0, 1)) ∧ (decode cX4_skip 17 = .ok (.getfield 40, 3) ∧ decode cX4_skip 20 = .ok (.ifCond .ne 7, 3))) ∧ ((decode cX4_skip 23 = .ok (.aload_n 0, 1) ∧ decode cX4_skip 24 = .ok (.invokevirtual 110, 3)) ∧ (decode cX4_skip 27 = .ok (.return_, 1)))) := by decide +kernel
theorem dX4_skip_0 : decode cX4_skip 0 = .ok (.aload_n 0, 1) := bd00_31.1.1.1.1
theorem dX4_skip_1 : decode cX4_skip 1 = .ok (.getfield 37, 3) := bd00_31.1.1.1.2
theorem dX4_skip_4 : decode cX4_skip 4 = .ok (.iload_n 1, 1) := bd00_31.1.1.2.1
theorem dX4_skip_5 : decode cX4_skip 5 = .ok (.if_icmp .eq 11, 3) := bd00_31.1.1.2.2
theorem dX4_skip_8 : decode cX4_skip 8 = .ok (.aload_n 0, 1) := bd00_31.1.2.1.1
theorem dX4_skip_9 : decode cX4_skip 9 = .ok (.iconst 1, 1) := bd00_31.1.2.1.2
theorem dX4_skip_10 : decode cX4_skip 10 = .ok (.invokevirtual 85, 3) := bd00_31.1.2.2
theorem dX4_skip_13 : decode cX4_skip 13 = .ok (.goto 14, 3) := bd00_31.2.1.1.1
theorem dX4_skip_16 : decode cX4_skip 16 = .ok (.aload_n 0, 1) := bd00_31.2.1.1.2
theorem dX4_skip_17 : decode cX4_skip 17 = .ok (.getfield 40, 3) := bd00_31.2.1.2.1
theorem dX4_skip_20 : decode cX4_skip 20 = .ok (.ifCond .ne 7, 3) := bd00_31.2.1.2.2
theorem dX4_skip_23 : decode cX4_skip 23 = .ok (.aload_n 0, 1) := bd00_31.2.2.1.1
theorem dX4_skip_24 : decode cX4_skip 24 = .ok (.invokevirtual 110, 3) := bd00_31.2.2.1.2
theorem dX4_skip_27 : decode cX4_skip 27 = .ok (.return_, 1) := bd00_31.2.2.2
theorem bd00_32 : (((decode cX4_takeNumber 0 = .ok (.aload_n 0, 1) ∧ decode cX4_takeNumber 1 = .ok (.getfield 116, 3)) ∧ (decode cX4_takeNumber 4 = .ok (.istore_n 2, 1) ∧ decode cX4_takeNumber 5 = .ok (.aload_n 0, 1))) ∧ ((decode cX4_takeNumber 6 = .ok (.getfield 37, 3) ∧ decode cX4_takeNumber 9 = .ok (.iconst 2, 1)) ∧ (decode cX4_takeNumber 10 = .ok (.if_icmp .eq 11, 3) ∧ decode cX4_takeNumber 13 = .ok (.aload_n 0, 1)))) ∧ (((decode cX4_takeNumber 14 = .ok (.iconst 1, 1) ∧ decode cX4_takeNumber 15 = .ok (.invokevirtual 85, 3)) ∧ (decode cX4_takeNumber 18 = .ok (.goto 30, 3) ∧ decode cX4_takeNumber 21 = .ok (.aload_n 0, 1))) ∧ ((decode cX4_takeNumber 22 = .ok (.getfield 116, 3) ∧ decode cX4_takeNumber 25 = .ok (.iload_n 1, 1)) ∧ (decode cX4_takeNumber 26 = .ok (.if_icmp .le 11, 3) ∧ decode cX4_takeNumber 29 = .ok (.aload_n 0, 1)))) := by decide +kernel
theorem dX4_takeNumber_0 : decode cX4_takeNumber 0 = .ok (.aload_n 0, 1) := bd00_32.1.1.1.1
theorem dX4_takeNumber_1 : decode cX4_takeNumber 1 = .ok (.getfield 116, 3) := bd00_32.1.1.1.2
theorem dX4_takeNumber_4 : decode cX4_takeNumber 4 = .ok (.istore_n 2, 1) := bd00_32.1.1.2.1
theorem dX4_takeNumber_5 : decode cX4_takeNumber 5 = .ok (.aload_n 0, 1) := bd00_32.1.1.2.2
theorem dX4_takeNumber_6 : decode cX4_takeNumber 6 = .ok (.getfield 37, 3) := bd00_32.1.2.1.1
theorem dX4_takeNumber_9 : decode cX4_takeNumber 9 = .ok (.iconst 2, 1) := bd00_32.1.2.1.2
theorem dX4_takeNumber_10 : decode cX4_takeNumber 10 = .ok (.if_icmp .eq 11, 3) := bd00_32.1.2.2.1
theorem dX4_takeNumber_13 : decode cX4_takeNumber 13 = .ok (.aload_n 0, 1) := bd00_32.1.2.2.2
theorem dX4_takeNumber_14 : decode cX4_takeNumber 14 = .ok (.iconst 1, 1) := bd00_32.2.1.1.1
theorem dX4_takeNumber_15 : decode cX4_takeNumber 15 = .ok (.invokevirtual 85, 3) := bd00_32.2.1.1.2
theorem dX4_takeNumber_18 : decode cX4_takeNumber 18 = .ok (.goto 30, 3) := bd00_32.2.1.2.1
theorem dX4_takeNumber_21 : decode cX4_takeNumber 21 = .ok (.aload_n 0, 1) := bd00_32.2.1.2.2
theorem dX4_takeNumber_22 : decode cX4_takeNumber 22 = .ok (.getfield 116, 3) := bd00_32.2.2.1.1
theorem dX4_takeNumber_25 : decode cX4_takeNumber 25 = .ok (.iload_n 1, 1) := bd00_32.2.2.1.2
theorem dX4_takeNumber_26 : decode cX4_takeNumber 26 = .ok (.if_icmp .le 11, 3) := bd00_32.2.2.2.1
theorem dX4_takeNumber_29 : decode cX4_takeNumber 29 = .ok (.aload_n 0, 1) := bd00_32.2.2.2.2
theorem bd00_33 : (((decode cX4_takeNumber 30 = .ok (.iconst 2, 1) ∧ decode cX4_takeNumber 31 = .ok (.invokevirtual 85, 3)) ∧ (decode cX4_takeNumber 34 = .ok (.goto 14, 3))) ∧ (decode cX4_takeNumber 37 = .ok (.aload_n 0, 1) ∧ decode cX4_takeNumber 38 = .ok (.getfield 40, 3))) ∧ (((decode cX4_takeNumber 41 = .ok (.ifCond .ne 7, 3) ∧ decode cX4_takeNumber 44 = .ok (.aload_n 0, 1)) ∧ (decode cX4_takeNumber 45 = .ok (.invokevirtual 110, 3))) ∧ (decode cX4_takeNumber 48 = .ok (.iload_n 2, 1) ∧ decode cX4_takeNumber 49 = .ok (.ireturn, 1))) := by decide +kernel
theorem dX4_takeNumber_30 : decode cX4_takeNumber 30 = .ok (.iconst 2, 1) := bd00_33.1.1.1.1
theorem dX4_takeNumber_31 : decode cX4_takeNumber 31 = .ok (.invokevirtual 85, 3) := bd00_33.1.1.1.2
theorem dX4_takeNumber_34 : decode cX4_takeNumber 34 = .ok (.goto 14, 3) := bd00_33.1.1.2
theorem dX4_takeNumber_37 : decode cX4_takeNumber 37 = .ok (.aload_n 0, 1) := bd00_33.1.2.1
theorem dX4_takeNumber_38 : decode cX4_takeNumber 38 = .ok (.getfield 40, 3) := bd00_33.1.2.2
theorem dX4_takeNumber_41 : decode cX4_takeNumber 41 = .ok (.ifCond .ne 7, 3) := bd00_33.2.1.1.1
theorem dX4_takeNumber_44 : decode cX4_takeNumber 44 = .ok (.aload_n 0, 1) := bd00_33.2.1.1.2
theorem dX4_takeNumber_45 : decode cX4_takeNumber 45 = .ok (.invokevirtual 110, 3) := bd00_33.2.1.2
theorem dX4_takeNumber_48 : decode cX4_takeNumber 48 = .ok (.iload_n 2, 1) := bd00_33.2.2.1
theorem dX4_takeNumber_49 : decode cX4_takeNumber 49 = .ok (.ireturn, 1) := bd00_33.2.2.2
theorem bd00_34 : (((decode cX4_readGargoyle 0 = .ok (.aload_n 0, 1) ∧ decode cX4_readGargoyle 1 = .ok (.getfield 12, 3)) ∧ (decode cX4_readGargoyle 4 = .ok (.getfield 119, 3) ∧ decode cX4_readGargoyle 7 = .ok (.astore_n 1, 1))) ∧ ((decode cX4_readGargoyle 8 = .ok (.aload_n 1, 1) ∧ decode cX4_readGargoyle 9 = .ok (.getfield 122, 3)) ∧ (decode cX4_readGargoyle 12 = .ok (.istore_n 2, 1) ∧ decode cX4_readGargoyle 13 = .ok (.iload_n 2, 1)))) ∧ (((decode cX4_readGargoyle 14 = .ok (.bipush 8, 2) ∧ decode cX4_readGargoyle 16 = .ok (.if_icmp .lt 9, 3)) ∧ (decode cX4_readGargoyle 19 = .ok (.aload_n 0, 1) ∧ decode cX4_readGargoyle 20 = .ok (.iconst 2, 1))) ∧ ((decode cX4_readGargoyle 21 = .ok (.invokevirtual 85, 3) ∧ decode cX4_readGargoyle 24 = .ok (.return_, 1)) ∧ (decode cX4_readGargoyle 25 = .ok (.aload_n 0, 1) ∧ decode cX4_readGargoyle 26 = .ok (.invokevirtual 110, 3)))) := by decide +kernel
theorem dX4_readGargoyle_0 : decode cX4_readGargoyle 0 = .ok (.aload_n 0, 1) := bd00_34.1.1.1.1
theorem dX4_readGargoyle_1 : decode cX4_readGargoyle 1 = .ok (.getfield 12, 3) := bd00_34.1.1.1.2
theorem dX4_readGargoyle_4 : decode cX4_readGargoyle 4 = .ok (.getfield 119, 3) := bd00_34.1.1.2.1
theorem dX4_readGargoyle_7 : decode cX4_readGargoyle 7 = .ok (.astore_n 1, 1) := bd00_34.1.1.2.2
theorem dX4_readGargoyle_8 : decode cX4_readGargoyle 8 = .ok (.aload_n 1, 1) := bd00_34.1.2.1.1
theorem dX4_readGargoyle_9 : decode cX4_readGargoyle 9 = .ok (.getfield 122, 3) := bd00_34.1.2.1.2
theorem dX4_readGargoyle_12 : decode cX4_readGargoyle 12 = .ok (.istore_n 2, 1) := bd00_34.1.2.2.1
theorem dX4_readGargoyle_13 : decode cX4_readGargoyle 13 = .ok (.iload_n 2, 1) := bd00_34.1.2.2.2
theorem dX4_readGargoyle_14 : decode cX4_readGargoyle 14 = .ok (.bipush 8, 2) := bd00_34.2.1.1.1
theorem dX4_readGargoyle_16 : decode cX4_readGargoyle 16 = .ok (.if_icmp .lt 9, 3) := bd00_34.2.1.1.2
theorem dX4_readGargoyle_19 : decode cX4_readGargoyle 19 = .ok (.aload_n 0, 1) := bd00_34.2.1.2.1
theorem dX4_readGargoyle_20 : decode cX4_readGargoyle 20 = .ok (.iconst 2, 1) := bd00_34.2.1.2.2
theorem dX4_readGargoyle_21 : decode cX4_readGargoyle 21 = .ok (.invokevirtual 85, 3) := bd00_34.2.2.1.1
theorem dX4_readGargoyle_24 : decode cX4_readGargoyle 24 = .ok (.return_, 1) := bd00_34.2.2.1.2
theorem dX4_readGargoyle_25 : decode cX4_readGargoyle 25 = .ok (.aload_n 0, 1) := bd00_34.2.2.2.1
theorem dX4_readGargoyle_26 : decode cX4_readGargoyle 26 = .ok (.invokevirtual 110, 3) := bd00_34.2.2.2.2
theorem bd00_35 : (((decode cX4_readGargoyle 29 = .ok (.aload_n 0, 1) ∧ decode cX4_readGargoyle 30 = .ok (.bipush 9, 2)) ∧ (decode cX4_readGargoyle 32 = .ok (.invokevirtual 127, 3) ∧ decode cX4_readGargoyle 35 = .ok (.istore_n 3, 1))) ∧ ((decode cX4_readGargoyle 36 = .ok (.aload_n 0, 1) ∧ decode cX4_readGargoyle 37 = .ok (.bipush 9, 2)) ∧ (decode cX4_readGargoyle 39 = .ok (.invokevirtual 127, 3) ∧ decode cX4_readGargoyle 42 = .ok (.istore 4, 2)))) ∧ (((decode cX4_readGargoyle 44 = .ok (.aload_n 0, 1) ∧ decode cX4_readGargoyle 45 = .ok (.bipush 99, 2)) ∧ (decode cX4_readGargoyle 47 = .ok (.invokevirtual 127, 3) ∧ decode cX4_readGargoyle 50 = .ok (.istore 5, 2))) ∧ ((decode cX4_readGargoyle 52 = .ok (.aload_n 1, 1) ∧ decode cX4_readGargoyle 53 = .ok (.iload_n 2, 1)) ∧ (decode cX4_readGargoyle 54 = .ok (.iload_n 3, 1) ∧ decode cX4_readGargoyle 55 = .ok (.iload 4, 2)))) := by decide +kernel
theorem dX4_readGargoyle_29 : decode cX4_readGargoyle 29 = .ok (.aload_n 0, 1) := bd00_35.1.1.1.1
theorem dX4_readGargoyle_30 : decode cX4_readGargoyle 30 = .ok (.bipush 9, 2) := bd00_35.1.1.1.2
theorem dX4_readGargoyle_32 : decode cX4_readGargoyle 32 = .ok (.invokevirtual 127, 3) := bd00_35.1.1.2.1
theorem dX4_readGargoyle_35 : decode cX4_readGargoyle 35 = .ok (.istore_n 3, 1) := bd00_35.1.1.2.2
theorem dX4_readGargoyle_36 : decode cX4_readGargoyle 36 = .ok (.aload_n 0, 1) := bd00_35.1.2.1.1
theorem dX4_readGargoyle_37 : decode cX4_readGargoyle 37 = .ok (.bipush 9, 2) := bd00_35.1.2.1.2
theorem dX4_readGargoyle_39 : decode cX4_readGargoyle 39 = .ok (.invokevirtual 127, 3) := bd00_35.1.2.2.1
theorem dX4_readGargoyle_42 : decode cX4_readGargoyle 42 = .ok (.istore 4, 2) := bd00_35.1.2.2.2
theorem dX4_readGargoyle_44 : decode cX4_readGargoyle 44 = .ok (.aload_n 0, 1) := bd00_35.2.1.1.1
theorem dX4_readGargoyle_45 : decode cX4_readGargoyle 45 = .ok (.bipush 99, 2) := bd00_35.2.1.1.2
theorem dX4_readGargoyle_47 : decode cX4_readGargoyle 47 = .ok (.invokevirtual 127, 3) := bd00_35.2.1.2.1
theorem dX4_readGargoyle_50 : decode cX4_readGargoyle 50 = .ok (.istore 5, 2) := bd00_35.2.1.2.2
theorem dX4_readGargoyle_52 : decode cX4_readGargoyle 52 = .ok (.aload_n 1, 1) := bd00_35.2.2.1.1
theorem dX4_readGargoyle_53 : decode cX4_readGargoyle 53 = .ok (.iload_n 2, 1) := bd00_35.2.2.1.2
theorem dX4_readGargoyle_54 : decode cX4_readGargoyle 54 = .ok (.iload_n 3, 1) := bd00_35.2.2.2.1
theorem dX4_readGargoyle_55 : decode cX4_readGargoyle 55 = .ok (.iload 4, 2) := bd00_35.2.2.2.2
theorem bd00_36 : (((decode cX4_readGargoyle 57 = .ok (.invokevirtual 131, 3) ∧ decode cX4_readGargoyle 60 = .ok (.aload_n 1, 1)) ∧ (decode cX4_readGargoyle 61 = .ok (.iload_n 2, 1))) ∧ ((decode cX4_readGargoyle 62 = .ok (.iload 5, 2) ∧ decode cX4_readGargoyle 64 = .ok (.invokevirtual 135, 3)) ∧ (decode cX4_readGargoyle 67 = .ok (.aload_n 1, 1)))) ∧ (((decode cX4_readGargoyle 68 = .ok (.dup, 1) ∧ decode cX4_readGargoyle 69 = .ok (.getfield 122, 3)) ∧ (decode cX4_readGargoyle 72 = .ok (.iconst 1, 1))) ∧ ((decode cX4_readGargoyle 73 = .ok (.iadd, 1) ∧ decode cX4_readGargoyle 74 = .ok (.putfield 122, 3)) ∧ (decode cX4_readGargoyle 77 = .ok (.return_, 1)))) := by decide +kernel
theorem dX4_readGargoyle_57 : decode cX4_readGargoyle 57 = .ok (.invokevirtual 131, 3) := bd00_36.1.1.1.1
theorem dX4_readGargoyle_60 : decode cX4_readGargoyle 60 = .ok (.aload_n 1, 1) := bd00_36.1.1.1.2
theorem dX4_readGargoyle_61 : decode cX4_readGargoyle 61 = .ok (.iload_n 2, 1) := bd00_36.1.1.2
theorem dX4_readGargoyle_62 : decode cX4_readGargoyle 62 = .ok (.iload 5, 2) := bd00_36.1.2.1.1
theorem dX4_readGargoyle_64 : decode cX4_readGargoyle 64 = .ok (.invokevirtual 135, 3) := bd00_36.1.2.1.2
theorem dX4_readGargoyle_67 : decode cX4_readGargoyle 67 = .ok (.aload_n 1, 1) := bd00_36.1.2.2
theorem dX4_readGargoyle_68 : decode cX4_readGargoyle 68 = .ok (.dup, 1) := bd00_36.2.1.1.1
theorem dX4_readGargoyle_69 : decode cX4_readGargoyle 69 = .ok (.getfield 122, 3) := bd00_36.2.1.1.2
theorem dX4_readGargoyle_72 : decode cX4_readGargoyle 72 = .ok (.iconst 1, 1) := bd00_36.2.1.2
theorem dX4_readGargoyle_73 : decode cX4_readGargoyle 73 = .ok (.iadd, 1) := bd00_36.2.2.1.1
theorem dX4_readGargoyle_74 : decode cX4_readGargoyle 74 = .ok (.putfield 122, 3) := bd00_36.2.2.1.2
theorem dX4_readGargoyle_77 : decode cX4_readGargoyle 77 = .ok (.return_, 1) := bd00_36.2.2.2
theorem bd00_37 : (((decode cX4_readPerson 0 = .ok (.aload_n 0, 1) ∧ decode cX4_readPerson 1 = .ok (.getfield 12, 3)) ∧ (decode cX4_readPerson 4 = .ok (.getfield 119, 3) ∧ decode cX4_readPerson 7 = .ok (.astore_n 1, 1))) ∧ ((decode cX4_readPerson 8 = .ok (.aload_n 1, 1) ∧ decode cX4_readPerson 9 = .ok (.getfield 139, 3)) ∧ (decode cX4_readPerson 12 = .ok (.istore_n 2, 1) ∧ decode cX4_readPerson 13 = .ok (.iload_n 2, 1)))) ∧ (((decode cX4_readPerson 14 = .ok (.bipush 8, 2) ∧ decode cX4_readPerson 16 = .ok (.if_icmp .lt 9, 3)) ∧ (decode cX4_readPerson 19 = .ok (.aload_n 0, 1) ∧ decode cX4_readPerson 20 = .ok (.iconst 2, 1))) ∧ ((decode cX4_readPerson 21 = .ok (.invokevirtual 85, 3) ∧ decode cX4_readPerson 24 = .ok (.return_, 1)) ∧ (decode cX4_readPerson 25 = .ok (.aload_n 0, 1) ∧ decode cX4_readPerson 26 = .ok (.getfield 12, 3)))) := by decide +kernel
theorem dX4_readPerson_0 : decode cX4_readPerson 0 = .ok (.aload_n 0, 1) := bd00_37.1.1.1.1
theorem dX4_readPerson_1 : decode cX4_readPerson 1 = .ok (.getfield 12, 3) := bd00_37.1.1.1.2
theorem dX4_readPerson_4 : decode cX4_readPerson 4 = .ok (.getfield 119, 3) := bd00_37.1.1.2.1
theorem dX4_readPerson_7 : decode cX4_readPerson 7 = .ok (.astore_n 1, 1) := bd00_37.1.1.2.2
theorem dX4_readPerson_8 : decode cX4_readPerson 8 = .ok (.aload_n 1, 1) := bd00_37.1.2.1.1
theorem dX4_readPerson_9 : decode cX4_readPerson 9 = .ok (.getfield 139, 3) := bd00_37.1.2.1.2
theorem dX4_readPerson_12 : decode cX4_readPerson 12 = .ok (.istore_n 2, 1) := bd00_37.1.2.2.1
theorem dX4_readPerson_13 : decode cX4_readPerson 13 = .ok (.iload_n 2, 1) := bd00_37.1.2.2.2
theorem dX4_readPerson_14 : decode cX4_readPerson 14 = .ok (.bipush 8, 2) := bd00_37.2.1.1.1
theorem dX4_readPerson_16 : decode cX4_readPerson 16 = .ok (.if_icmp .lt 9, 3) := bd00_37.2.1.1.2
theorem dX4_readPerson_19 : decode cX4_readPerson 19 = .ok (.aload_n 0, 1) := bd00_37.2.1.2.1
theorem dX4_readPerson_20 : decode cX4_readPerson 20 = .ok (.iconst 2, 1) := bd00_37.2.1.2.2
theorem dX4_readPerson_21 : decode cX4_readPerson 21 = .ok (.invokevirtual 85, 3) := bd00_37.2.2.1.1
theorem dX4_readPerson_24 : decode cX4_readPerson 24 = .ok (.return_, 1) := bd00_37.2.2.1.2
theorem dX4_readPerson_25 : decode cX4_readPerson 25 = .ok (.aload_n 0, 1) := bd00_37.2.2.2.1
theorem dX4_readPerson_26 : decode cX4_readPerson 26 = .ok (.getfield 12, 3) := bd00_37.2.2.2.2
theorem bd00_38 : (((decode cX4_readPerson 29 = .ok (.dup, 1) ∧ decode cX4_readPerson 30 = .ok (.getfield 142, 3)) ∧ (decode cX4_readPerson 33 = .ok (.aload_n 0, 1) ∧ decode cX4_readPerson 34 = .ok (.getfield 43, 3))) ∧ ((decode cX4_readPerson 37 = .ok (.getstatic 58, 3) ∧ decode cX4_readPerson 40 = .ok (.if_acmp .ne 9, 3)) ∧ (decode cX4_readPerson 43 = .ok (.iconst 1, 1) ∧ decode cX4_readPerson 44 = .ok (.iload_n 2, 1)))) ∧ (((decode cX4_readPerson 45 = .ok (.ishl, 1) ∧ decode cX4_readPerson 46 = .ok (.goto 4, 3)) ∧ (decode cX4_readPerson 49 = .ok (.iconst 0, 1) ∧ decode cX4_readPerson 50 = .ok (.ior, 1))) ∧ ((decode cX4_readPerson 51 = .ok (.putfield 142, 3) ∧ decode cX4_readPerson 54 = .ok (.aload_n 0, 1)) ∧ (decode cX4_readPerson 55 = .ok (.invokevirtual 110, 3) ∧ decode cX4_readPerson 58 = .ok (.aload_n 0, 1)))) := by decide +kernel
theorem dX4_readPerson_29 : decode cX4_readPerson 29 = .ok (.dup, 1) := bd00_38.1.1.1.1
theorem dX4_readPerson_30 : decode cX4_readPerson 30 = .ok (.getfield 142, 3) := bd00_38.1.1.1.2
theorem dX4_readPerson_33 : decode cX4_readPerson 33 = .ok (.aload_n 0, 1) := bd00_38.1.1.2.1
theorem dX4_readPerson_34 : decode cX4_readPerson 34 = .ok (.getfield 43, 3) := bd00_38.1.1.2.2
theorem dX4_readPerson_37 : decode cX4_readPerson 37 = .ok (.getstatic 58, 3) := bd00_38.1.2.1.1
theorem dX4_readPerson_40 : decode cX4_readPerson 40 = .ok (.if_acmp .ne 9, 3) := bd00_38.1.2.1.2
theorem dX4_readPerson_43 : decode cX4_readPerson 43 = .ok (.iconst 1, 1) := bd00_38.1.2.2.1
theorem dX4_readPerson_44 : decode cX4_readPerson 44 = .ok (.iload_n 2, 1) := bd00_38.1.2.2.2
theorem dX4_readPerson_45 : decode cX4_readPerson 45 = .ok (.ishl, 1) := bd00_38.2.1.1.1
theorem dX4_readPerson_46 : decode cX4_readPerson 46 = .ok (.goto 4, 3) := bd00_38.2.1.1.2
theorem dX4_readPerson_49 : decode cX4_readPerson 49 = .ok (.iconst 0, 1) := bd00_38.2.1.2.1
theorem dX4_readPerson_50 : decode cX4_readPerson 50 = .ok (.ior, 1) := bd00_38.2.1.2.2
theorem dX4_readPerson_51 : decode cX4_readPerson 51 = .ok (.putfield 142, 3) := bd00_38.2.2.1.1
theorem dX4_readPerson_54 : decode cX4_readPerson 54 = .ok (.aload_n 0, 1) := bd00_38.2.2.1.2
theorem dX4_readPerson_55 : decode cX4_readPerson 55 = .ok (.invokevirtual 110, 3) := bd00_38.2.2.2.1
theorem dX4_readPerson_58 : decode cX4_readPerson 58 = .ok (.aload_n 0, 1) := bd00_38.2.2.2.2
theorem bd00_39 : (((decode cX4_readPerson 59 = .ok (.bipush 9, 2) ∧ decode cX4_readPerson 61 = .ok (.invokevirtual 127, 3)) ∧ (decode cX4_readPerson 64 = .ok (.istore_n 3, 1) ∧ decode cX4_readPerson 65 = .ok (.aload_n 0, 1))) ∧ ((decode cX4_readPerson 66 = .ok (.bipush 9, 2) ∧ decode cX4_readPerson 68 = .ok (.invokevirtual 127, 3)) ∧ (decode cX4_readPerson 71 = .ok (.istore 4, 2) ∧ decode cX4_readPerson 73 = .ok (.aload_n 1, 1)))) ∧ (((decode cX4_readPerson 74 = .ok (.iload_n 2, 1) ∧ decode cX4_readPerson 75 = .ok (.invokestatic 145, 3)) ∧ (decode cX4_readPerson 78 = .ok (.iload_n 3, 1) ∧ decode cX4_readPerson 79 = .ok (.iload 4, 2))) ∧ ((decode cX4_readPerson 81 = .ok (.invokevirtual 131, 3) ∧ decode cX4_readPerson 84 = .ok (.aload_n 1, 1)) ∧ (decode cX4_readPerson 85 = .ok (.getfield 148, 3) ∧ decode cX4_readPerson 88 = .ok (.iload_n 2, 1)))) := by decide +kernel
theorem dX4_readPerson_59 : decode cX4_readPerson 59 = .ok (.bipush 9, 2) := bd00_39.1.1.1.1
theorem dX4_readPerson_61 : decode cX4_readPerson 61 = .ok (.invokevirtual 127, 3) := bd00_39.1.1.1.2
theorem dX4_readPerson_64 : decode cX4_readPerson 64 = .ok (.istore_n 3, 1) := bd00_39.1.1.2.1
theorem dX4_readPerson_65 : decode cX4_readPerson 65 = .ok (.aload_n 0, 1) := bd00_39.1.1.2.2
theorem dX4_readPerson_66 : decode cX4_readPerson 66 = .ok (.bipush 9, 2) := bd00_39.1.2.1.1
theorem dX4_readPerson_68 : decode cX4_readPerson 68 = .ok (.invokevirtual 127, 3) := bd00_39.1.2.1.2
theorem dX4_readPerson_71 : decode cX4_readPerson 71 = .ok (.istore 4, 2) := bd00_39.1.2.2.1
theorem dX4_readPerson_73 : decode cX4_readPerson 73 = .ok (.aload_n 1, 1) := bd00_39.1.2.2.2
theorem dX4_readPerson_74 : decode cX4_readPerson 74 = .ok (.iload_n 2, 1) := bd00_39.2.1.1.1
theorem dX4_readPerson_75 : decode cX4_readPerson 75 = .ok (.invokestatic 145, 3) := bd00_39.2.1.1.2
theorem dX4_readPerson_78 : decode cX4_readPerson 78 = .ok (.iload_n 3, 1) := bd00_39.2.1.2.1
theorem dX4_readPerson_79 : decode cX4_readPerson 79 = .ok (.iload 4, 2) := bd00_39.2.1.2.2
theorem dX4_readPerson_81 : decode cX4_readPerson 81 = .ok (.invokevirtual 131, 3) := bd00_39.2.2.1.1
theorem dX4_readPerson_84 : decode cX4_readPerson 84 = .ok (.aload_n 1, 1) := bd00_39.2.2.1.2
theorem dX4_readPerson_85 : decode cX4_readPerson 85 = .ok (.getfield 148, 3) := bd00_39.2.2.2.1
theorem dX4_readPerson_88 : decode cX4_readPerson 88 = .ok (.iload_n 2, 1) := bd00_39.2.2.2.2
theorem bd00_40 : (((decode cX4_readPerson 89 = .ok (.aload_n 0, 1) ∧ decode cX4_readPerson 90 = .ok (.bipush 99, 2)) ∧ (decode cX4_readPerson 92 = .ok (.invokevirtual 127, 3) ∧ decode cX4_readPerson 95 = .ok (.iastore, 1))) ∧ ((decode cX4_readPerson 96 = .ok (.aload_n 1, 1) ∧ decode cX4_readPerson 97 = .ok (.getfield 152, 3)) ∧ (decode cX4_readPerson 100 = .ok (.iload_n 2, 1) ∧ decode cX4_readPerson 101 = .ok (.aload_n 0, 1)))) ∧ (((decode cX4_readPerson 102 = .ok (.getfield 43, 3) ∧ decode cX4_readPerson 105 = .ok (.getstatic 155, 3)) ∧ (decode cX4_readPerson 108 = .ok (.if_acmp .ne 10, 3) ∧ decode cX4_readPerson 111 = .ok (.aload_n 0, 1))) ∧ ((decode cX4_readPerson 112 = .ok (.invokevirtual 158, 3) ∧ decode cX4_readPerson 115 = .ok (.goto 4, 3)) ∧ (decode cX4_readPerson 118 = .ok (.iconst (-1), 1) ∧ decode cX4_readPerson 119 = .ok (.iastore, 1)))) := by decide +kernel
theorem dX4_readPerson_89 : decode cX4_readPerson 89 = .ok (.aload_n 0, 1) := bd00_40.1.1.1.1
theorem dX4_readPerson_90 : decode cX4_readPerson 90 = .ok (.bipush 99, 2) := bd00_40.1.1.1.2
theorem dX4_readPerson_92 : decode cX4_readPerson 92 = .ok (.invokevirtual 127, 3) := bd00_40.1.1.2.1
theorem dX4_readPerson_95 : decode cX4_readPerson 95 = .ok (.iastore, 1) := bd00_40.1.1.2.2
theorem dX4_readPerson_96 : decode cX4_readPerson 96 = .ok (.aload_n 1, 1) := bd00_40.1.2.1.1
theorem dX4_readPerson_97 : decode cX4_readPerson 97 = .ok (.getfield 152, 3) := bd00_40.1.2.1.2
theorem dX4_readPerson_100 : decode cX4_readPerson 100 = .ok (.iload_n 2, 1) := bd00_40.1.2.2.1
theorem dX4_readPerson_101 : decode cX4_readPerson 101 = .ok (.aload_n 0, 1) := bd00_40.1.2.2.2
theorem dX4_readPerson_102 : decode cX4_readPerson 102 = .ok (.getfield 43, 3) := bd00_40.2.1.1.1
theorem dX4_readPerson_105 : decode cX4_readPerson 105 = .ok (.getstatic 155, 3) := bd00_40.2.1.1.2
theorem dX4_readPerson_108 : decode cX4_readPerson 108 = .ok (.if_acmp .ne 10, 3) := bd00_40.2.1.2.1
theorem dX4_readPerson_111 : decode cX4_readPerson 111 = .ok (.aload_n 0, 1) := bd00_40.2.1.2.2
theorem dX4_readPerson_112 : decode cX4_readPerson 112 = .ok (.invokevirtual 158, 3) := bd00_40.2.2.1.1
theorem dX4_readPerson_115 : decode cX4_readPerson 115 = .ok (.goto 4, 3) := bd00_40.2.2.1.2
theorem dX4_readPerson_118 : decode cX4_readPerson 118 = .ok (.iconst (-1), 1) := bd00_40.2.2.2.1
theorem dX4_readPerson_119 : decode cX4_readPerson 119 = .ok (.iastore, 1) := bd00_40.2.2.2.2
theorem bd00_41 : (((decode cX4_readPerson 120 = .ok (.aload_n 1, 1) ∧ decode cX4_readPerson 121 = .ok (.getfield 162, 3)) ∧ (decode cX4_readPerson 124 = .ok (.iload_n 2, 1))) ∧ ((decode cX4_readPerson 125 = .ok (.iconst (-1), 1) ∧ decode cX4_readPerson 126 = .ok (.iastore, 1)) ∧ (decode cX4_readPerson 127 = .ok (.aload_n 1, 1)))) ∧ (((decode cX4_readPerson 128 = .ok (.dup, 1) ∧ decode cX4_readPerson 129 = .ok (.getfield 139, 3)) ∧ (decode cX4_readPerson 132 = .ok (.iconst 1, 1))) ∧ ((decode cX4_readPerson 133 = .ok (.iadd, 1) ∧ decode cX4_readPerson 134 = .ok (.putfield 139, 3)) ∧ (decode cX4_readPerson 137 = .ok (.return_, 1)))) := by decide +kernel
theorem dX4_readPerson_120 : decode cX4_readPerson 120 = .ok (.aload_n 1, 1) := bd00_41.1.1.1.1
theorem dX4_readPerson_121 : decode cX4_readPerson 121 = .ok (.getfield 162, 3) := bd00_41.1.1.1.2
theorem dX4_readPerson_124 : decode cX4_readPerson 124 = .ok (.iload_n 2, 1) := bd00_41.1.1.2
theorem dX4_readPerson_125 : decode cX4_readPerson 125 = .ok (.iconst (-1), 1) := bd00_41.1.2.1.1
theorem dX4_readPerson_126 : decode cX4_readPerson 126 = .ok (.iastore, 1) := bd00_41.1.2.1.2
theorem dX4_readPerson_127 : decode cX4_readPerson 127 = .ok (.aload_n 1, 1) := bd00_41.1.2.2
theorem dX4_readPerson_128 : decode cX4_readPerson 128 = .ok (.dup, 1) := bd00_41.2.1.1.1
theorem dX4_readPerson_129 : decode cX4_readPerson 129 = .ok (.getfield 139, 3) := bd00_41.2.1.1.2
theorem dX4_readPerson_132 : decode cX4_readPerson 132 = .ok (.iconst 1, 1) := bd00_41.2.1.2
theorem dX4_readPerson_133 : decode cX4_readPerson 133 = .ok (.iadd, 1) := bd00_41.2.2.1.1
theorem dX4_readPerson_134 : decode cX4_readPerson 134 = .ok (.putfield 139, 3) := bd00_41.2.2.1.2
theorem dX4_readPerson_137 : decode cX4_readPerson 137 = .ok (.return_, 1) := bd00_41.2.2.2
theorem bd00_42 : (((decode cX4_takeFamily 0 = .ok (.aload_n 0, 1) ∧ decode cX4_takeFamily 1 = .ok (.getfield 40, 3)) ∧ (decode cX4_takeFamily 4 = .ok (.ifCond .ne 7, 3) ∧ decode cX4_takeFamily 7 = .ok (.aload_n 0, 1))) ∧ ((decode cX4_takeFamily 8 = .ok (.invokevirtual 110, 3) ∧ decode cX4_takeFamily 11 = .ok (.aload_n 0, 1)) ∧ (decode cX4_takeFamily 12 = .ok (.getfield 37, 3) ∧ decode cX4_takeFamily 15 = .ok (.iconst 2, 1)))) ∧ (((decode cX4_takeFamily 16 = .ok (.if_icmp .ne 35, 3) ∧ decode cX4_takeFamily 19 = .ok (.aload_n 0, 1)) ∧ (decode cX4_takeFamily 20 = .ok (.getfield 116, 3) ∧ decode cX4_takeFamily 23 = .ok (.sipush 9999, 3))) ∧ ((decode cX4_takeFamily 26 = .ok (.if_icmp .gt 25, 3) ∧ decode cX4_takeFamily 29 = .ok (.aload_n 0, 1)) ∧ (decode cX4_takeFamily 30 = .ok (.getfield 116, 3) ∧ decode cX4_takeFamily 33 = .ok (.aload_n 0, 1)))) := by decide +kernel
theorem dX4_takeFamily_0 : decode cX4_takeFamily 0 = .ok (.aload_n 0, 1) := bd00_42.1.1.1.1
theorem dX4_takeFamily_1 : decode cX4_takeFamily 1 = .ok (.getfield 40, 3) := bd00_42.1.1.1.2
theorem dX4_takeFamily_4 : decode cX4_takeFamily 4 = .ok (.ifCond .ne 7, 3) := bd00_42.1.1.2.1
theorem dX4_takeFamily_7 : decode cX4_takeFamily 7 = .ok (.aload_n 0, 1) := bd00_42.1.1.2.2
theorem dX4_takeFamily_8 : decode cX4_takeFamily 8 = .ok (.invokevirtual 110, 3) := bd00_42.1.2.1.1
theorem dX4_takeFamily_11 : decode cX4_takeFamily 11 = .ok (.aload_n 0, 1) := bd00_42.1.2.1.2
theorem dX4_takeFamily_12 : decode cX4_takeFamily 12 = .ok (.getfield 37, 3) := bd00_42.1.2.2.1
theorem dX4_takeFamily_15 : decode cX4_takeFamily 15 = .ok (.iconst 2, 1) := bd00_42.1.2.2.2
theorem dX4_takeFamily_16 : decode cX4_takeFamily 16 = .ok (.if_icmp .ne 35, 3) := bd00_42.2.1.1.1
theorem dX4_takeFamily_19 : decode cX4_takeFamily 19 = .ok (.aload_n 0, 1) := bd00_42.2.1.1.2
theorem dX4_takeFamily_20 : decode cX4_takeFamily 20 = .ok (.getfield 116, 3) := bd00_42.2.1.2.1
theorem dX4_takeFamily_23 : decode cX4_takeFamily 23 = .ok (.sipush 9999, 3) := bd00_42.2.1.2.2
theorem dX4_takeFamily_26 : decode cX4_takeFamily 26 = .ok (.if_icmp .gt 25, 3) := bd00_42.2.2.1.1
theorem dX4_takeFamily_29 : decode cX4_takeFamily 29 = .ok (.aload_n 0, 1) := bd00_42.2.2.1.2
theorem dX4_takeFamily_30 : decode cX4_takeFamily 30 = .ok (.getfield 116, 3) := bd00_42.2.2.2.1
theorem dX4_takeFamily_33 : decode cX4_takeFamily 33 = .ok (.aload_n 0, 1) := bd00_42.2.2.2.2
theorem bd00_43 : (((decode cX4_takeFamily 34 = .ok (.getfield 12, 3) ∧ decode cX4_takeFamily 37 = .ok (.getfield 119, 3)) ∧ (decode cX4_takeFamily 40 = .ok (.getfield 122, 3))) ∧ ((decode cX4_takeFamily 43 = .ok (.if_icmp .lt 8, 3) ∧ decode cX4_takeFamily 46 = .ok (.aload_n 0, 1)) ∧ (decode cX4_takeFamily 47 = .ok (.iconst 3, 1)))) ∧ (((decode cX4_takeFamily 48 = .ok (.invokevirtual 85, 3) ∧ decode cX4_takeFamily 51 = .ok (.aload_n 0, 1)) ∧ (decode cX4_takeFamily 52 = .ok (.sipush 9999, 3))) ∧ (decode cX4_takeFamily 55 = .ok (.invokevirtual 127, 3) ∧ decode cX4_takeFamily 58 = .ok (.ireturn, 1))) := by decide +kernel
theorem dX4_takeFamily_34 : decode cX4_takeFamily 34 = .ok (.getfield 12, 3) := bd00_43.1.1.1.1
theorem dX4_takeFamily_37 : decode cX4_takeFamily 37 = .ok (.getfield 119, 3) := bd00_43.1.1.1.2
theorem dX4_takeFamily_40 : decode cX4_takeFamily 40 = .ok (.getfield 122, 3) := bd00_43.1.1.2
theorem dX4_takeFamily_43 : decode cX4_takeFamily 43 = .ok (.if_icmp .lt 8, 3) := bd00_43.1.2.1.1
theorem dX4_takeFamily_46 : decode cX4_takeFamily 46 = .ok (.aload_n 0, 1) := bd00_43.1.2.1.2
theorem dX4_takeFamily_47 : decode cX4_takeFamily 47 = .ok (.iconst 3, 1) := bd00_43.1.2.2
theorem dX4_takeFamily_48 : decode cX4_takeFamily 48 = .ok (.invokevirtual 85, 3) := bd00_43.2.1.1.1
theorem dX4_takeFamily_51 : decode cX4_takeFamily 51 = .ok (.aload_n 0, 1) := bd00_43.2.1.1.2
theorem dX4_takeFamily_52 : decode cX4_takeFamily 52 = .ok (.sipush 9999, 3) := bd00_43.2.1.2
theorem dX4_takeFamily_55 : decode cX4_takeFamily 55 = .ok (.invokevirtual 127, 3) := bd00_43.2.2.1
theorem dX4_takeFamily_58 : decode cX4_takeFamily 58 = .ok (.ireturn, 1) := bd00_43.2.2.2
theorem bd00_44 : (((decode cX4_readRains 0 = .ok (.aload_n 0, 1) ∧ decode cX4_readRains 1 = .ok (.getfield 12, 3)) ∧ (decode cX4_readRains 4 = .ok (.getfield 167, 3) ∧ decode cX4_readRains 7 = .ok (.ifCond .le 9, 3))) ∧ ((decode cX4_readRains 10 = .ok (.aload_n 0, 1) ∧ decode cX4_readRains 11 = .ok (.iconst 5, 1)) ∧ (decode cX4_readRains 12 = .ok (.invokevirtual 85, 3) ∧ decode cX4_readRains 15 = .ok (.return_, 1)))) ∧ (((decode cX4_readRains 16 = .ok (.aload_n 0, 1) ∧ decode cX4_readRains 17 = .ok (.invokevirtual 110, 3)) ∧ (decode cX4_readRains 20 = .ok (.aload_n 0, 1) ∧ decode cX4_readRains 21 = .ok (.invokevirtual 170, 3))) ∧ ((decode cX4_readRains 24 = .ok (.iconst 0, 1) ∧ decode cX4_readRains 25 = .ok (.istore_n 1, 1)) ∧ (decode cX4_readRains 26 = .ok (.iload_n 1, 1) ∧ decode cX4_readRains 27 = .ok (.bipush 8, 2)))) := by decide +kernel
theorem dX4_readRains_0 : decode cX4_readRains 0 = .ok (.aload_n 0, 1) := bd00_44.1.1.1.1
theorem dX4_readRains_1 : decode cX4_readRains 1 = .ok (.getfield 12, 3) := bd00_44.1.1.1.2
theorem dX4_readRains_4 : decode cX4_readRains 4 = .ok (.getfield 167, 3) := bd00_44.1.1.2.1
theorem dX4_readRains_7 : decode cX4_readRains 7 = .ok (.ifCond .le 9, 3) := bd00_44.1.1.2.2
theorem dX4_readRains_10 : decode cX4_readRains 10 = .ok (.aload_n 0, 1) := bd00_44.1.2.1.1
theorem dX4_readRains_11 : decode cX4_readRains 11 = .ok (.iconst 5, 1) := bd00_44.1.2.1.2
theorem dX4_readRains_12 : decode cX4_readRains 12 = .ok (.invokevirtual 85, 3) := bd00_44.1.2.2.1
theorem dX4_readRains_15 : decode cX4_readRains 15 = .ok (.return_, 1) := bd00_44.1.2.2.2
theorem dX4_readRains_16 : decode cX4_readRains 16 = .ok (.aload_n 0, 1) := bd00_44.2.1.1.1
theorem dX4_readRains_17 : decode cX4_readRains 17 = .ok (.invokevirtual 110, 3) := bd00_44.2.1.1.2
theorem dX4_readRains_20 : decode cX4_readRains 20 = .ok (.aload_n 0, 1) := bd00_44.2.1.2.1
theorem dX4_readRains_21 : decode cX4_readRains 21 = .ok (.invokevirtual 170, 3) := bd00_44.2.1.2.2
theorem dX4_readRains_24 : decode cX4_readRains 24 = .ok (.iconst 0, 1) := bd00_44.2.2.1.1
theorem dX4_readRains_25 : decode cX4_readRains 25 = .ok (.istore_n 1, 1) := bd00_44.2.2.1.2
theorem dX4_readRains_26 : decode cX4_readRains 26 = .ok (.iload_n 1, 1) := bd00_44.2.2.2.1
theorem dX4_readRains_27 : decode cX4_readRains 27 = .ok (.bipush 8, 2) := bd00_44.2.2.2.2
theorem bd00_45 : (((decode cX4_readRains 29 = .ok (.if_icmp .ge 28, 3) ∧ decode cX4_readRains 32 = .ok (.aload_n 0, 1)) ∧ (decode cX4_readRains 33 = .ok (.getfield 40, 3) ∧ decode cX4_readRains 36 = .ok (.ifCond .ne 21, 3))) ∧ ((decode cX4_readRains 39 = .ok (.aload_n 0, 1) ∧ decode cX4_readRains 40 = .ok (.getfield 37, 3)) ∧ (decode cX4_readRains 43 = .ok (.iconst 2, 1)))) ∧ (((decode cX4_readRains 44 = .ok (.if_icmp .ne 13, 3) ∧ decode cX4_readRains 47 = .ok (.aload_n 0, 1)) ∧ (decode cX4_readRains 48 = .ok (.invokevirtual 170, 3))) ∧ ((decode cX4_readRains 51 = .ok (.iinc 1 1, 3) ∧ decode cX4_readRains 54 = .ok (.goto (-28), 3)) ∧ (decode cX4_readRains 57 = .ok (.return_, 1)))) := by decide +kernel
theorem dX4_readRains_29 : decode cX4_readRains 29 = .ok (.if_icmp .ge 28, 3) := bd00_45.1.1.1.1
theorem dX4_readRains_32 : decode cX4_readRains 32 = .ok (.aload_n 0, 1) := bd00_45.1.1.1.2
theorem dX4_readRains_33 : decode cX4_readRains 33 = .ok (.getfield 40, 3) := bd00_45.1.1.2.1
theorem dX4_readRains_36 : decode cX4_readRains 36 = .ok (.ifCond .ne 21, 3) := bd00_45.1.1.2.2
theorem dX4_readRains_39 : decode cX4_readRains 39 = .ok (.aload_n 0, 1) := bd00_45.1.2.1.1
theorem dX4_readRains_40 : decode cX4_readRains 40 = .ok (.getfield 37, 3) := bd00_45.1.2.1.2
theorem dX4_readRains_43 : decode cX4_readRains 43 = .ok (.iconst 2, 1) := bd00_45.1.2.2
theorem dX4_readRains_44 : decode cX4_readRains 44 = .ok (.if_icmp .ne 13, 3) := bd00_45.2.1.1.1
theorem dX4_readRains_47 : decode cX4_readRains 47 = .ok (.aload_n 0, 1) := bd00_45.2.1.1.2
theorem dX4_readRains_48 : decode cX4_readRains 48 = .ok (.invokevirtual 170, 3) := bd00_45.2.1.2
theorem dX4_readRains_51 : decode cX4_readRains 51 = .ok (.iinc 1 1, 3) := bd00_45.2.2.1.1
theorem dX4_readRains_54 : decode cX4_readRains 54 = .ok (.goto (-28), 3) := bd00_45.2.2.1.2
theorem dX4_readRains_57 : decode cX4_readRains 57 = .ok (.return_, 1) := bd00_45.2.2.2
theorem bd00_46 : (((decode cX4_readRain 0 = .ok (.aload_n 0, 1) ∧ decode cX4_readRain 1 = .ok (.getfield 12, 3)) ∧ (decode cX4_readRain 4 = .ok (.getfield 167, 3) ∧ decode cX4_readRain 7 = .ok (.bipush 8, 2))) ∧ ((decode cX4_readRain 9 = .ok (.if_icmp .lt 9, 3) ∧ decode cX4_readRain 12 = .ok (.aload_n 0, 1)) ∧ (decode cX4_readRain 13 = .ok (.iconst 2, 1) ∧ decode cX4_readRain 14 = .ok (.invokevirtual 85, 3)))) ∧ (((decode cX4_readRain 17 = .ok (.return_, 1) ∧ decode cX4_readRain 18 = .ok (.aload_n 0, 1)) ∧ (decode cX4_readRain 19 = .ok (.getfield 12, 3) ∧ decode cX4_readRain 22 = .ok (.getfield 173, 3))) ∧ ((decode cX4_readRain 25 = .ok (.aload_n 0, 1) ∧ decode cX4_readRain 26 = .ok (.getfield 12, 3)) ∧ (decode cX4_readRain 29 = .ok (.getfield 167, 3) ∧ decode cX4_readRain 32 = .ok (.aload_n 0, 1)))) := by decide +kernel
theorem dX4_readRain_0 : decode cX4_readRain 0 = .ok (.aload_n 0, 1) := bd00_46.1.1.1.1
theorem dX4_readRain_1 : decode cX4_readRain 1 = .ok (.getfield 12, 3) := bd00_46.1.1.1.2
theorem dX4_readRain_4 : decode cX4_readRain 4 = .ok (.getfield 167, 3) := bd00_46.1.1.2.1
theorem dX4_readRain_7 : decode cX4_readRain 7 = .ok (.bipush 8, 2) := bd00_46.1.1.2.2
theorem dX4_readRain_9 : decode cX4_readRain 9 = .ok (.if_icmp .lt 9, 3) := bd00_46.1.2.1.1
theorem dX4_readRain_12 : decode cX4_readRain 12 = .ok (.aload_n 0, 1) := bd00_46.1.2.1.2
theorem dX4_readRain_13 : decode cX4_readRain 13 = .ok (.iconst 2, 1) := bd00_46.1.2.2.1
theorem dX4_readRain_14 : decode cX4_readRain 14 = .ok (.invokevirtual 85, 3) := bd00_46.1.2.2.2
theorem dX4_readRain_17 : decode cX4_readRain 17 = .ok (.return_, 1) := bd00_46.2.1.1.1
theorem dX4_readRain_18 : decode cX4_readRain 18 = .ok (.aload_n 0, 1) := bd00_46.2.1.1.2
theorem dX4_readRain_19 : decode cX4_readRain 19 = .ok (.getfield 12, 3) := bd00_46.2.1.2.1
theorem dX4_readRain_22 : decode cX4_readRain 22 = .ok (.getfield 173, 3) := bd00_46.2.1.2.2
theorem dX4_readRain_25 : decode cX4_readRain 25 = .ok (.aload_n 0, 1) := bd00_46.2.2.1.1
theorem dX4_readRain_26 : decode cX4_readRain 26 = .ok (.getfield 12, 3) := bd00_46.2.2.1.2
theorem dX4_readRain_29 : decode cX4_readRain 29 = .ok (.getfield 167, 3) := bd00_46.2.2.2.1
theorem dX4_readRain_32 : decode cX4_readRain 32 = .ok (.aload_n 0, 1) := bd00_46.2.2.2.2
theorem bd00_47 : (((decode cX4_readRain 33 = .ok (.bipush 9, 2) ∧ decode cX4_readRain 35 = .ok (.invokevirtual 127, 3)) ∧ (decode cX4_readRain 38 = .ok (.iastore, 1))) ∧ ((decode cX4_readRain 39 = .ok (.aload_n 0, 1) ∧ decode cX4_readRain 40 = .ok (.getfield 12, 3)) ∧ (decode cX4_readRain 43 = .ok (.dup, 1)))) ∧ (((decode cX4_readRain 44 = .ok (.getfield 167, 3) ∧ decode cX4_readRain 47 = .ok (.iconst 1, 1)) ∧ (decode cX4_readRain 48 = .ok (.iadd, 1))) ∧ (decode cX4_readRain 49 = .ok (.putfield 167, 3) ∧ decode cX4_readRain 52 = .ok (.return_, 1))) := by decide +kernel
theorem dX4_readRain_33 : decode cX4_readRain 33 = .ok (.bipush 9, 2) := bd00_47.1.1.1.1
theorem dX4_readRain_35 : decode cX4_readRain 35 = .ok (.invokevirtual 127, 3) := bd00_47.1.1.1.2
theorem dX4_readRain_38 : decode cX4_readRain 38 = .ok (.iastore, 1) := bd00_47.1.1.2
theorem dX4_readRain_39 : decode cX4_readRain 39 = .ok (.aload_n 0, 1) := bd00_47.1.2.1.1
theorem dX4_readRain_40 : decode cX4_readRain 40 = .ok (.getfield 12, 3) := bd00_47.1.2.1.2
theorem dX4_readRain_43 : decode cX4_readRain 43 = .ok (.dup, 1) := bd00_47.1.2.2
theorem dX4_readRain_44 : decode cX4_readRain 44 = .ok (.getfield 167, 3) := bd00_47.2.1.1.1
theorem dX4_readRain_47 : decode cX4_readRain 47 = .ok (.iconst 1, 1) := bd00_47.2.1.1.2
theorem dX4_readRain_48 : decode cX4_readRain 48 = .ok (.iadd, 1) := bd00_47.2.1.2
theorem dX4_readRain_49 : decode cX4_readRain 49 = .ok (.putfield 167, 3) := bd00_47.2.2.1
theorem dX4_readRain_52 : decode cX4_readRain 52 = .ok (.return_, 1) := bd00_47.2.2.2
theorem bd00_48 : (((decode cX4_readCertain 0 = .ok (.aload_n 0, 1) ∧ decode cX4_readCertain 1 = .ok (.getfield 12, 3)) ∧ (decode cX4_readCertain 4 = .ok (.getfield 176, 3) ∧ decode cX4_readCertain 7 = .ok (.ifCond .eq 9, 3))) ∧ ((decode cX4_readCertain 10 = .ok (.aload_n 0, 1) ∧ decode cX4_readCertain 11 = .ok (.iconst 5, 1)) ∧ (decode cX4_readCertain 12 = .ok (.invokevirtual 85, 3) ∧ decode cX4_readCertain 15 = .ok (.return_, 1)))) ∧ (((decode cX4_readCertain 16 = .ok (.aload_n 0, 1) ∧ decode cX4_readCertain 17 = .ok (.invokevirtual 110, 3)) ∧ (decode cX4_readCertain 20 = .ok (.aload_n 0, 1) ∧ decode cX4_readCertain 21 = .ok (.getfield 12, 3))) ∧ ((decode cX4_readCertain 24 = .ok (.iconst 1, 1) ∧ decode cX4_readCertain 25 = .ok (.putfield 176, 3)) ∧ (decode cX4_readCertain 28 = .ok (.aload_n 0, 1) ∧ decode cX4_readCertain 29 = .ok (.getfield 12, 3)))) := by decide +kernel
theorem dX4_readCertain_0 : decode cX4_readCertain 0 = .ok (.aload_n 0, 1) := bd00_48.1.1.1.1
theorem dX4_readCertain_1 : decode cX4_readCertain 1 = .ok (.getfield 12, 3) := bd00_48.1.1.1.2
theorem dX4_readCertain_4 : decode cX4_readCertain 4 = .ok (.getfield 176, 3) := bd00_48.1.1.2.1
theorem dX4_readCertain_7 : decode cX4_readCertain 7 = .ok (.ifCond .eq 9, 3) := bd00_48.1.1.2.2
theorem dX4_readCertain_10 : decode cX4_readCertain 10 = .ok (.aload_n 0, 1) := bd00_48.1.2.1.1
theorem dX4_readCertain_11 : decode cX4_readCertain 11 = .ok (.iconst 5, 1) := bd00_48.1.2.1.2
theorem dX4_readCertain_12 : decode cX4_readCertain 12 = .ok (.invokevirtual 85, 3) := bd00_48.1.2.2.1
theorem dX4_readCertain_15 : decode cX4_readCertain 15 = .ok (.return_, 1) := bd00_48.1.2.2.2
theorem dX4_readCertain_16 : decode cX4_readCertain 16 = .ok (.aload_n 0, 1) := bd00_48.2.1.1.1
theorem dX4_readCertain_17 : decode cX4_readCertain 17 = .ok (.invokevirtual 110, 3) := bd00_48.2.1.1.2
theorem dX4_readCertain_20 : decode cX4_readCertain 20 = .ok (.aload_n 0, 1) := bd00_48.2.1.2.1
theorem dX4_readCertain_21 : decode cX4_readCertain 21 = .ok (.getfield 12, 3) := bd00_48.2.1.2.2
theorem dX4_readCertain_24 : decode cX4_readCertain 24 = .ok (.iconst 1, 1) := bd00_48.2.2.1.1
theorem dX4_readCertain_25 : decode cX4_readCertain 25 = .ok (.putfield 176, 3) := bd00_48.2.2.1.2
theorem dX4_readCertain_28 : decode cX4_readCertain 28 = .ok (.aload_n 0, 1) := bd00_48.2.2.2.1
theorem dX4_readCertain_29 : decode cX4_readCertain 29 = .ok (.getfield 12, 3) := bd00_48.2.2.2.2
theorem bd00_49 : ((decode cX4_readCertain 32 = .ok (.aload_n 0, 1) ∧ decode cX4_readCertain 33 = .ok (.bipush 99, 2)) ∧ (decode cX4_readCertain 35 = .ok (.invokevirtual 127, 3) ∧ decode cX4_readCertain 38 = .ok (.putfield 180, 3))) ∧ ((decode cX4_readCertain 41 = .ok (.return_, 1) ∧ decode cX4_readRule 0 = .ok (.aload_n 0, 1)) ∧ (decode cX4_readRule 1 = .ok (.aload_n 0, 1) ∧ decode cX4_readRule 2 = .ok (.getfield 43, 3))) := by decide +kernel
theorem dX4_readCertain_32 : decode cX4_readCertain 32 = .ok (.aload_n 0, 1) := bd00_49.1.1.1
theorem dX4_readCertain_33 : decode cX4_readCertain 33 = .ok (.bipush 99, 2) := bd00_49.1.1.2
theorem dX4_readCertain_35 : decode cX4_readCertain 35 = .ok (.invokevirtual 127, 3) := bd00_49.1.2.1
theorem dX4_readCertain_38 : decode cX4_readCertain 38 = .ok (.putfield 180, 3) := bd00_49.1.2.2
theorem dX4_readCertain_41 : decode cX4_readCertain 41 = .ok (.return_, 1) := bd00_49.2.1.1
theorem dX4_readRule_0 : decode cX4_readRule 0 = .ok (.aload_n 0, 1) := bd00_49.2.1.2
theorem dX4_readRule_1 : decode cX4_readRule 1 = .ok (.aload_n 0, 1) := bd00_49.2.2.1
theorem dX4_readRule_2 : decode cX4_readRule 2 = .ok (.getfield 43, 3) := bd00_49.2.2.2
theorem bd00_50 : (((decode cX4_readRule 5 = .ok (.getstatic 76, 3) ∧ decode cX4_readRule 8 = .ok (.if_acmp .ne 13, 3)) ∧ (decode cX4_readRule 11 = .ok (.aload_n 0, 1) ∧ decode cX4_readRule 12 = .ok (.getfield 12, 3))) ∧ ((decode cX4_readRule 15 = .ok (.getfield 26, 3) ∧ decode cX4_readRule 18 = .ok (.goto 10, 3)) ∧ (decode cX4_readRule 21 = .ok (.aload_n 0, 1) ∧ decode cX4_readRule 22 = .ok (.getfield 12, 3)))) ∧ (((decode cX4_readRule 25 = .ok (.getfield 183, 3) ∧ decode cX4_readRule 28 = .ok (.putfield 30, 3)) ∧ (decode cX4_readRule 31 = .ok (.aload_n 0, 1) ∧ decode cX4_readRule 32 = .ok (.getfield 30, 3))) ∧ ((decode cX4_readRule 35 = .ok (.getfield 186, 3) ∧ decode cX4_readRule 38 = .ok (.ifCond .le 9, 3)) ∧ (decode cX4_readRule 41 = .ok (.aload_n 0, 1) ∧ decode cX4_readRule 42 = .ok (.iconst 5, 1)))) := by decide +kernel
theorem dX4_readRule_5 : decode cX4_readRule 5 = .ok (.getstatic 76, 3) := bd00_50.1.1.1.1
theorem dX4_readRule_8 : decode cX4_readRule 8 = .ok (.if_acmp .ne 13, 3) := bd00_50.1.1.1.2
theorem dX4_readRule_11 : decode cX4_readRule 11 = .ok (.aload_n 0, 1) := bd00_50.1.1.2.1
theorem dX4_readRule_12 : decode cX4_readRule 12 = .ok (.getfield 12, 3) := bd00_50.1.1.2.2
theorem dX4_readRule_15 : decode cX4_readRule 15 = .ok (.getfield 26, 3) := bd00_50.1.2.1.1
theorem dX4_readRule_18 : decode cX4_readRule 18 = .ok (.goto 10, 3) := bd00_50.1.2.1.2
theorem dX4_readRule_21 : decode cX4_readRule 21 = .ok (.aload_n 0, 1) := bd00_50.1.2.2.1
theorem dX4_readRule_22 : decode cX4_readRule 22 = .ok (.getfield 12, 3) := bd00_50.1.2.2.2
theorem dX4_readRule_25 : decode cX4_readRule 25 = .ok (.getfield 183, 3) := bd00_50.2.1.1.1
theorem dX4_readRule_28 : decode cX4_readRule 28 = .ok (.putfield 30, 3) := bd00_50.2.1.1.2
theorem dX4_readRule_31 : decode cX4_readRule 31 = .ok (.aload_n 0, 1) := bd00_50.2.1.2.1
theorem dX4_readRule_32 : decode cX4_readRule 32 = .ok (.getfield 30, 3) := bd00_50.2.1.2.2
theorem dX4_readRule_35 : decode cX4_readRule 35 = .ok (.getfield 186, 3) := bd00_50.2.2.1.1
theorem dX4_readRule_38 : decode cX4_readRule 38 = .ok (.ifCond .le 9, 3) := bd00_50.2.2.1.2
theorem dX4_readRule_41 : decode cX4_readRule 41 = .ok (.aload_n 0, 1) := bd00_50.2.2.2.1
theorem dX4_readRule_42 : decode cX4_readRule 42 = .ok (.iconst 5, 1) := bd00_50.2.2.2.2
theorem bd00_51 : ((decode cX4_readRule 43 = .ok (.invokevirtual 85, 3) ∧ decode cX4_readRule 46 = .ok (.return_, 1)) ∧ (decode cX4_readRule 47 = .ok (.aload_n 0, 1) ∧ decode cX4_readRule 48 = .ok (.invokevirtual 110, 3))) ∧ ((decode cX4_readRule 51 = .ok (.aload_n 0, 1) ∧ decode cX4_readRule 52 = .ok (.iconst 0, 1)) ∧ (decode cX4_readRule 53 = .ok (.invokevirtual 187, 3) ∧ decode cX4_readRule 56 = .ok (.return_, 1))) := by decide +kernel
theorem dX4_readRule_43 : decode cX4_readRule 43 = .ok (.invokevirtual 85, 3) := bd00_51.1.1.1
theorem dX4_readRule_46 : decode cX4_readRule 46 = .ok (.return_, 1) := bd00_51.1.1.2
theorem dX4_readRule_47 : decode cX4_readRule 47 = .ok (.aload_n 0, 1) := bd00_51.1.2.1
theorem dX4_readRule_48 : decode cX4_readRule 48 = .ok (.invokevirtual 110, 3) := bd00_51.1.2.2
theorem dX4_readRule_51 : decode cX4_readRule 51 = .ok (.aload_n 0, 1) := bd00_51.2.1.1
theorem dX4_readRule_52 : decode cX4_readRule 52 = .ok (.iconst 0, 1) := bd00_51.2.1.2
theorem dX4_readRule_53 : decode cX4_readRule 53 = .ok (.invokevirtual 187, 3) := bd00_51.2.2.1
theorem dX4_readRule_56 : decode cX4_readRule 56 = .ok (.return_, 1) := bd00_51.2.2.2
theorem bd00_52 : (((decode cX4_readExpr 0 = .ok (.iload_n 1, 1) ∧ decode cX4_readExpr 1 = .ok (.bipush 6, 2)) ∧ (decode cX4_readExpr 3 = .ok (.if_icmp .lt 48, 3) ∧ decode cX4_readExpr 6 = .ok (.aload_n 0, 1))) ∧ ((decode cX4_readExpr 7 = .ok (.getfield 37, 3) ∧ decode cX4_readExpr 10 = .ok (.iconst 2, 1)) ∧ (decode cX4_readExpr 11 = .ok (.if_icmp .eq 20, 3) ∧ decode cX4_readExpr 14 = .ok (.aload_n 0, 1)))) ∧ (((decode cX4_readExpr 15 = .ok (.getfield 37, 3) ∧ decode cX4_readExpr 18 = .ok (.iconst 1, 1)) ∧ (decode cX4_readExpr 19 = .ok (.if_icmp .eq 12, 3) ∧ decode cX4_readExpr 22 = .ok (.aload_n 0, 1))) ∧ ((decode cX4_readExpr 23 = .ok (.getfield 37, 3) ∧ decode cX4_readExpr 26 = .ok (.bipush 40, 2)) ∧ (decode cX4_readExpr 28 = .ok (.if_icmp .ne 7, 3) ∧ decode cX4_readExpr 31 = .ok (.iconst 1, 1)))) := by decide +kernel
theorem dX4_readExpr_0 : decode cX4_readExpr 0 = .ok (.iload_n 1, 1) := bd00_52.1.1.1.1
theorem dX4_readExpr_1 : decode cX4_readExpr 1 = .ok (.bipush 6, 2) := bd00_52.1.1.1.2
theorem dX4_readExpr_3 : decode cX4_readExpr 3 = .ok (.if_icmp .lt 48, 3) := bd00_52.1.1.2.1
theorem dX4_readExpr_6 : decode cX4_readExpr 6 = .ok (.aload_n 0, 1) := bd00_52.1.1.2.2
theorem dX4_readExpr_7 : decode cX4_readExpr 7 = .ok (.getfield 37, 3) := bd00_52.1.2.1.1
theorem dX4_readExpr_10 : decode cX4_readExpr 10 = .ok (.iconst 2, 1) := bd00_52.1.2.1.2
theorem dX4_readExpr_11 : decode cX4_readExpr 11 = .ok (.if_icmp .eq 20, 3) := bd00_52.1.2.2.1
theorem dX4_readExpr_14 : decode cX4_readExpr 14 = .ok (.aload_n 0, 1) := bd00_52.1.2.2.2
theorem dX4_readExpr_15 : decode cX4_readExpr 15 = .ok (.getfield 37, 3) := bd00_52.2.1.1.1
theorem dX4_readExpr_18 : decode cX4_readExpr 18 = .ok (.iconst 1, 1) := bd00_52.2.1.1.2
theorem dX4_readExpr_19 : decode cX4_readExpr 19 = .ok (.if_icmp .eq 12, 3) := bd00_52.2.1.2.1
theorem dX4_readExpr_22 : decode cX4_readExpr 22 = .ok (.aload_n 0, 1) := bd00_52.2.1.2.2
theorem dX4_readExpr_23 : decode cX4_readExpr 23 = .ok (.getfield 37, 3) := bd00_52.2.2.1.1
theorem dX4_readExpr_26 : decode cX4_readExpr 26 = .ok (.bipush 40, 2) := bd00_52.2.2.1.2
theorem dX4_readExpr_28 : decode cX4_readExpr 28 = .ok (.if_icmp .ne 7, 3) := bd00_52.2.2.2.1
theorem dX4_readExpr_31 : decode cX4_readExpr 31 = .ok (.iconst 1, 1) := bd00_52.2.2.2.2
theorem bd00_53 : (((decode cX4_readExpr 32 = .ok (.goto 4, 3) ∧ decode cX4_readExpr 35 = .ok (.iconst 0, 1)) ∧ (decode cX4_readExpr 36 = .ok (.istore_n 2, 1) ∧ decode cX4_readExpr 37 = .ok (.aload_n 0, 1))) ∧ ((decode cX4_readExpr 38 = .ok (.iload_n 2, 1) ∧ decode cX4_readExpr 39 = .ok (.ifCond .eq 7, 3)) ∧ (decode cX4_readExpr 42 = .ok (.iconst 2, 1) ∧ decode cX4_readExpr 43 = .ok (.goto 4, 3)))) ∧ (((decode cX4_readExpr 46 = .ok (.iconst 1, 1) ∧ decode cX4_readExpr 47 = .ok (.invokevirtual 85, 3)) ∧ (decode cX4_readExpr 50 = .ok (.return_, 1) ∧ decode cX4_readExpr 51 = .ok (.aload_n 0, 1))) ∧ ((decode cX4_readExpr 52 = .ok (.iload_n 1, 1) ∧ decode cX4_readExpr 53 = .ok (.invokevirtual 190, 3)) ∧ (decode cX4_readExpr 56 = .ok (.iconst 0, 1) ∧ decode cX4_readExpr 57 = .ok (.istore_n 2, 1)))) := by decide +kernel
theorem dX4_readExpr_32 : decode cX4_readExpr 32 = .ok (.goto 4, 3) := bd00_53.1.1.1.1
theorem dX4_readExpr_35 : decode cX4_readExpr 35 = .ok (.iconst 0, 1) := bd00_53.1.1.1.2
theorem dX4_readExpr_36 : decode cX4_readExpr 36 = .ok (.istore_n 2, 1) := bd00_53.1.1.2.1
theorem dX4_readExpr_37 : decode cX4_readExpr 37 = .ok (.aload_n 0, 1) := bd00_53.1.1.2.2
theorem dX4_readExpr_38 : decode cX4_readExpr 38 = .ok (.iload_n 2, 1) := bd00_53.1.2.1.1
theorem dX4_readExpr_39 : decode cX4_readExpr 39 = .ok (.ifCond .eq 7, 3) := bd00_53.1.2.1.2
theorem dX4_readExpr_42 : decode cX4_readExpr 42 = .ok (.iconst 2, 1) := bd00_53.1.2.2.1
theorem dX4_readExpr_43 : decode cX4_readExpr 43 = .ok (.goto 4, 3) := bd00_53.1.2.2.2
theorem dX4_readExpr_46 : decode cX4_readExpr 46 = .ok (.iconst 1, 1) := bd00_53.2.1.1.1
theorem dX4_readExpr_47 : decode cX4_readExpr 47 = .ok (.invokevirtual 85, 3) := bd00_53.2.1.1.2
theorem dX4_readExpr_50 : decode cX4_readExpr 50 = .ok (.return_, 1) := bd00_53.2.1.2.1
theorem dX4_readExpr_51 : decode cX4_readExpr 51 = .ok (.aload_n 0, 1) := bd00_53.2.1.2.2
theorem dX4_readExpr_52 : decode cX4_readExpr 52 = .ok (.iload_n 1, 1) := bd00_53.2.2.1.1
theorem dX4_readExpr_53 : decode cX4_readExpr 53 = .ok (.invokevirtual 190, 3) := bd00_53.2.2.1.2
theorem dX4_readExpr_56 : decode cX4_readExpr 56 = .ok (.iconst 0, 1) := bd00_53.2.2.2.1
theorem dX4_readExpr_57 : decode cX4_readExpr 57 = .ok (.istore_n 2, 1) := bd00_53.2.2.2.2
theorem bd00_54 : (((decode cX4_readExpr 58 = .ok (.iload_n 2, 1) ∧ decode cX4_readExpr 59 = .ok (.sipush 700, 3)) ∧ (decode cX4_readExpr 62 = .ok (.if_icmp .ge 43, 3) ∧ decode cX4_readExpr 65 = .ok (.aload_n 0, 1))) ∧ ((decode cX4_readExpr 66 = .ok (.getfield 40, 3) ∧ decode cX4_readExpr 69 = .ok (.ifCond .ne 36, 3)) ∧ (decode cX4_readExpr 72 = .ok (.aload_n 0, 1) ∧ decode cX4_readExpr 73 = .ok (.getfield 43, 3)))) ∧ (((decode cX4_readExpr 76 = .ok (.getstatic 193, 3) ∧ decode cX4_readExpr 79 = .ok (.if_acmp .ne 26, 3)) ∧ (decode cX4_readExpr 82 = .ok (.aload_n 0, 1) ∧ decode cX4_readExpr 83 = .ok (.invokevirtual 110, 3))) ∧ ((decode cX4_readExpr 86 = .ok (.aload_n 0, 1) ∧ decode cX4_readExpr 87 = .ok (.iload_n 1, 1)) ∧ (decode cX4_readExpr 88 = .ok (.invokevirtual 190, 3) ∧ decode cX4_readExpr 91 = .ok (.aload_n 0, 1)))) := by decide +kernel
theorem dX4_readExpr_58 : decode cX4_readExpr 58 = .ok (.iload_n 2, 1) := bd00_54.1.1.1.1
theorem dX4_readExpr_59 : decode cX4_readExpr 59 = .ok (.sipush 700, 3) := bd00_54.1.1.1.2
theorem dX4_readExpr_62 : decode cX4_readExpr 62 = .ok (.if_icmp .ge 43, 3) := bd00_54.1.1.2.1
theorem dX4_readExpr_65 : decode cX4_readExpr 65 = .ok (.aload_n 0, 1) := bd00_54.1.1.2.2
theorem dX4_readExpr_66 : decode cX4_readExpr 66 = .ok (.getfield 40, 3) := bd00_54.1.2.1.1
theorem dX4_readExpr_69 : decode cX4_readExpr 69 = .ok (.ifCond .ne 36, 3) := bd00_54.1.2.1.2
theorem dX4_readExpr_72 : decode cX4_readExpr 72 = .ok (.aload_n 0, 1) := bd00_54.1.2.2.1
theorem dX4_readExpr_73 : decode cX4_readExpr 73 = .ok (.getfield 43, 3) := bd00_54.1.2.2.2
theorem dX4_readExpr_76 : decode cX4_readExpr 76 = .ok (.getstatic 193, 3) := bd00_54.2.1.1.1
theorem dX4_readExpr_79 : decode cX4_readExpr 79 = .ok (.if_acmp .ne 26, 3) := bd00_54.2.1.1.2
theorem dX4_readExpr_82 : decode cX4_readExpr 82 = .ok (.aload_n 0, 1) := bd00_54.2.1.2.1
theorem dX4_readExpr_83 : decode cX4_readExpr 83 = .ok (.invokevirtual 110, 3) := bd00_54.2.1.2.2
theorem dX4_readExpr_86 : decode cX4_readExpr 86 = .ok (.aload_n 0, 1) := bd00_54.2.2.1.1
theorem dX4_readExpr_87 : decode cX4_readExpr 87 = .ok (.iload_n 1, 1) := bd00_54.2.2.1.2
theorem dX4_readExpr_88 : decode cX4_readExpr 88 = .ok (.invokevirtual 190, 3) := bd00_54.2.2.2.1
theorem dX4_readExpr_91 : decode cX4_readExpr 91 = .ok (.aload_n 0, 1) := bd00_54.2.2.2.2
theorem bd00_55 : ((decode cX4_readExpr 92 = .ok (.getfield 30, 3) ∧ decode cX4_readExpr 95 = .ok (.iconst (-1), 1)) ∧ (decode cX4_readExpr 96 = .ok (.invokevirtual 196, 3) ∧ decode cX4_readExpr 99 = .ok (.iinc 2 1, 3))) ∧ ((decode cX4_readExpr 102 = .ok (.goto (-44), 3) ∧ decode cX4_readExpr 105 = .ok (.return_, 1)) ∧ (decode cX4_readAnd 0 = .ok (.aload_n 0, 1) ∧ decode cX4_readAnd 1 = .ok (.iload_n 1, 1))) := by decide +kernel
theorem dX4_readExpr_92 : decode cX4_readExpr 92 = .ok (.getfield 30, 3) := bd00_55.1.1.1
theorem dX4_readExpr_95 : decode cX4_readExpr 95 = .ok (.iconst (-1), 1) := bd00_55.1.1.2
theorem dX4_readExpr_96 : decode cX4_readExpr 96 = .ok (.invokevirtual 196, 3) := bd00_55.1.2.1
theorem dX4_readExpr_99 : decode cX4_readExpr 99 = .ok (.iinc 2 1, 3) := bd00_55.1.2.2
theorem dX4_readExpr_102 : decode cX4_readExpr 102 = .ok (.goto (-44), 3) := bd00_55.2.1.1
theorem dX4_readExpr_105 : decode cX4_readExpr 105 = .ok (.return_, 1) := bd00_55.2.1.2
theorem dX4_readAnd_0 : decode cX4_readAnd 0 = .ok (.aload_n 0, 1) := bd00_55.2.2.1
theorem dX4_readAnd_1 : decode cX4_readAnd 1 = .ok (.iload_n 1, 1) := bd00_55.2.2.2
theorem bd00_56 : (((decode cX4_readAnd 2 = .ok (.invokevirtual 199, 3) ∧ decode cX4_readAnd 5 = .ok (.iconst 0, 1)) ∧ (decode cX4_readAnd 6 = .ok (.istore_n 2, 1) ∧ decode cX4_readAnd 7 = .ok (.iload_n 2, 1))) ∧ ((decode cX4_readAnd 8 = .ok (.sipush 700, 3) ∧ decode cX4_readAnd 11 = .ok (.if_icmp .ge 44, 3)) ∧ (decode cX4_readAnd 14 = .ok (.aload_n 0, 1) ∧ decode cX4_readAnd 15 = .ok (.getfield 40, 3)))) ∧ (((decode cX4_readAnd 18 = .ok (.ifCond .ne 37, 3) ∧ decode cX4_readAnd 21 = .ok (.aload_n 0, 1)) ∧ (decode cX4_readAnd 22 = .ok (.getfield 43, 3) ∧ decode cX4_readAnd 25 = .ok (.getstatic 202, 3))) ∧ ((decode cX4_readAnd 28 = .ok (.if_acmp .ne 27, 3) ∧ decode cX4_readAnd 31 = .ok (.aload_n 0, 1)) ∧ (decode cX4_readAnd 32 = .ok (.invokevirtual 110, 3) ∧ decode cX4_readAnd 35 = .ok (.aload_n 0, 1)))) := by decide +kernel
theorem dX4_readAnd_2 : decode cX4_readAnd 2 = .ok (.invokevirtual 199, 3) := bd00_56.1.1.1.1
theorem dX4_readAnd_5 : decode cX4_readAnd 5 = .ok (.iconst 0, 1) := bd00_56.1.1.1.2
theorem dX4_readAnd_6 : decode cX4_readAnd 6 = .ok (.istore_n 2, 1) := bd00_56.1.1.2.1
theorem dX4_readAnd_7 : decode cX4_readAnd 7 = .ok (.iload_n 2, 1) := bd00_56.1.1.2.2
theorem dX4_readAnd_8 : decode cX4_readAnd 8 = .ok (.sipush 700, 3) := bd00_56.1.2.1.1
theorem dX4_readAnd_11 : decode cX4_readAnd 11 = .ok (.if_icmp .ge 44, 3) := bd00_56.1.2.1.2
theorem dX4_readAnd_14 : decode cX4_readAnd 14 = .ok (.aload_n 0, 1) := bd00_56.1.2.2.1
theorem dX4_readAnd_15 : decode cX4_readAnd 15 = .ok (.getfield 40, 3) := bd00_56.1.2.2.2
theorem dX4_readAnd_18 : decode cX4_readAnd 18 = .ok (.ifCond .ne 37, 3) := bd00_56.2.1.1.1
theorem dX4_readAnd_21 : decode cX4_readAnd 21 = .ok (.aload_n 0, 1) := bd00_56.2.1.1.2
theorem dX4_readAnd_22 : decode cX4_readAnd 22 = .ok (.getfield 43, 3) := bd00_56.2.1.2.1
theorem dX4_readAnd_25 : decode cX4_readAnd 25 = .ok (.getstatic 202, 3) := bd00_56.2.1.2.2
theorem dX4_readAnd_28 : decode cX4_readAnd 28 = .ok (.if_acmp .ne 27, 3) := bd00_56.2.2.1.1
theorem dX4_readAnd_31 : decode cX4_readAnd 31 = .ok (.aload_n 0, 1) := bd00_56.2.2.1.2
theorem dX4_readAnd_32 : decode cX4_readAnd 32 = .ok (.invokevirtual 110, 3) := bd00_56.2.2.2.1
theorem dX4_readAnd_35 : decode cX4_readAnd 35 = .ok (.aload_n 0, 1) := bd00_56.2.2.2.2
theorem bd00_57 : (((decode cX4_readAnd 36 = .ok (.iload_n 1, 1) ∧ decode cX4_readAnd 37 = .ok (.invokevirtual 199, 3)) ∧ (decode cX4_readAnd 40 = .ok (.aload_n 0, 1))) ∧ (decode cX4_readAnd 41 = .ok (.getfield 30, 3) ∧ decode cX4_readAnd 44 = .ok (.bipush (-2), 2))) ∧ ((decode cX4_readAnd 46 = .ok (.invokevirtual 196, 3) ∧ decode cX4_readAnd 49 = .ok (.iinc 2 1, 3)) ∧ (decode cX4_readAnd 52 = .ok (.goto (-45), 3) ∧ decode cX4_readAnd 55 = .ok (.return_, 1))) := by decide +kernel
theorem dX4_readAnd_36 : decode cX4_readAnd 36 = .ok (.iload_n 1, 1) := bd00_57.1.1.1.1
theorem dX4_readAnd_37 : decode cX4_readAnd 37 = .ok (.invokevirtual 199, 3) := bd00_57.1.1.1.2
theorem dX4_readAnd_40 : decode cX4_readAnd 40 = .ok (.aload_n 0, 1) := bd00_57.1.1.2
theorem dX4_readAnd_41 : decode cX4_readAnd 41 = .ok (.getfield 30, 3) := bd00_57.1.2.1
theorem dX4_readAnd_44 : decode cX4_readAnd 44 = .ok (.bipush (-2), 2) := bd00_57.1.2.2
theorem dX4_readAnd_46 : decode cX4_readAnd 46 = .ok (.invokevirtual 196, 3) := bd00_57.2.1.1
theorem dX4_readAnd_49 : decode cX4_readAnd 49 = .ok (.iinc 2 1, 3) := bd00_57.2.1.2
theorem dX4_readAnd_52 : decode cX4_readAnd 52 = .ok (.goto (-45), 3) := bd00_57.2.2.1
theorem dX4_readAnd_55 : decode cX4_readAnd 55 = .ok (.return_, 1) := bd00_57.2.2.2
theorem bd00_58 : (((decode cX4_readNot 0 = .ok (.iconst 0, 1) ∧ decode cX4_readNot 1 = .ok (.istore_n 2, 1)) ∧ (decode cX4_readNot 2 = .ok (.iload_n 2, 1) ∧ decode cX4_readNot 3 = .ok (.bipush 6, 2))) ∧ ((decode cX4_readNot 5 = .ok (.if_icmp .ge 23, 3) ∧ decode cX4_readNot 8 = .ok (.aload_n 0, 1)) ∧ (decode cX4_readNot 9 = .ok (.getfield 43, 3) ∧ decode cX4_readNot 12 = .ok (.getstatic 205, 3)))) ∧ (((decode cX4_readNot 15 = .ok (.if_acmp .ne 13, 3) ∧ decode cX4_readNot 18 = .ok (.aload_n 0, 1)) ∧ (decode cX4_readNot 19 = .ok (.invokevirtual 110, 3) ∧ decode cX4_readNot 22 = .ok (.iinc 2 1, 3))) ∧ ((decode cX4_readNot 25 = .ok (.goto (-23), 3) ∧ decode cX4_readNot 28 = .ok (.aload_n 0, 1)) ∧ (decode cX4_readNot 29 = .ok (.getfield 43, 3) ∧ decode cX4_readNot 32 = .ok (.getstatic 205, 3)))) := by decide +kernel
theorem dX4_readNot_0 : decode cX4_readNot 0 = .ok (.iconst 0, 1) := bd00_58.1.1.1.1
theorem dX4_readNot_1 : decode cX4_readNot 1 = .ok (.istore_n 2, 1) := bd00_58.1.1.1.2
theorem dX4_readNot_2 : decode cX4_readNot 2 = .ok (.iload_n 2, 1) := bd00_58.1.1.2.1
theorem dX4_readNot_3 : decode cX4_readNot 3 = .ok (.bipush 6, 2) := bd00_58.1.1.2.2
theorem dX4_readNot_5 : decode cX4_readNot 5 = .ok (.if_icmp .ge 23, 3) := bd00_58.1.2.1.1
theorem dX4_readNot_8 : decode cX4_readNot 8 = .ok (.aload_n 0, 1) := bd00_58.1.2.1.2
theorem dX4_readNot_9 : decode cX4_readNot 9 = .ok (.getfield 43, 3) := bd00_58.1.2.2.1
theorem dX4_readNot_12 : decode cX4_readNot 12 = .ok (.getstatic 205, 3) := bd00_58.1.2.2.2
theorem dX4_readNot_15 : decode cX4_readNot 15 = .ok (.if_acmp .ne 13, 3) := bd00_58.2.1.1.1
theorem dX4_readNot_18 : decode cX4_readNot 18 = .ok (.aload_n 0, 1) := bd00_58.2.1.1.2
theorem dX4_readNot_19 : decode cX4_readNot 19 = .ok (.invokevirtual 110, 3) := bd00_58.2.1.2.1
theorem dX4_readNot_22 : decode cX4_readNot 22 = .ok (.iinc 2 1, 3) := bd00_58.2.1.2.2
theorem dX4_readNot_25 : decode cX4_readNot 25 = .ok (.goto (-23), 3) := bd00_58.2.2.1.1
theorem dX4_readNot_28 : decode cX4_readNot 28 = .ok (.aload_n 0, 1) := bd00_58.2.2.1.2
theorem dX4_readNot_29 : decode cX4_readNot 29 = .ok (.getfield 43, 3) := bd00_58.2.2.2.1
theorem dX4_readNot_32 : decode cX4_readNot 32 = .ok (.getstatic 205, 3) := bd00_58.2.2.2.2
theorem bd00_59 : (((decode cX4_readNot 35 = .ok (.if_acmp .ne 9, 3) ∧ decode cX4_readNot 38 = .ok (.aload_n 0, 1)) ∧ (decode cX4_readNot 39 = .ok (.iconst 2, 1) ∧ decode cX4_readNot 40 = .ok (.invokevirtual 85, 3))) ∧ ((decode cX4_readNot 43 = .ok (.return_, 1) ∧ decode cX4_readNot 44 = .ok (.aload_n 0, 1)) ∧ (decode cX4_readNot 45 = .ok (.iload_n 1, 1) ∧ decode cX4_readNot 46 = .ok (.invokevirtual 208, 3)))) ∧ (((decode cX4_readNot 49 = .ok (.iconst 0, 1) ∧ decode cX4_readNot 50 = .ok (.istore_n 3, 1)) ∧ (decode cX4_readNot 51 = .ok (.iload_n 3, 1) ∧ decode cX4_readNot 52 = .ok (.iload_n 2, 1))) ∧ ((decode cX4_readNot 53 = .ok (.if_icmp .ge 18, 3) ∧ decode cX4_readNot 56 = .ok (.aload_n 0, 1)) ∧ (decode cX4_readNot 57 = .ok (.getfield 30, 3) ∧ decode cX4_readNot 60 = .ok (.bipush (-3), 2)))) := by decide +kernel
theorem dX4_readNot_35 : decode cX4_readNot 35 = .ok (.if_acmp .ne 9, 3) := bd00_59.1.1.1.1
theorem dX4_readNot_38 : decode cX4_readNot 38 = .ok (.aload_n 0, 1) := bd00_59.1.1.1.2
theorem dX4_readNot_39 : decode cX4_readNot 39 = .ok (.iconst 2, 1) := bd00_59.1.1.2.1
theorem dX4_readNot_40 : decode cX4_readNot 40 = .ok (.invokevirtual 85, 3) := bd00_59.1.1.2.2
theorem dX4_readNot_43 : decode cX4_readNot 43 = .ok (.return_, 1) := bd00_59.1.2.1.1
theorem dX4_readNot_44 : decode cX4_readNot 44 = .ok (.aload_n 0, 1) := bd00_59.1.2.1.2
theorem dX4_readNot_45 : decode cX4_readNot 45 = .ok (.iload_n 1, 1) := bd00_59.1.2.2.1
theorem dX4_readNot_46 : decode cX4_readNot 46 = .ok (.invokevirtual 208, 3) := bd00_59.1.2.2.2
theorem dX4_readNot_49 : decode cX4_readNot 49 = .ok (.iconst 0, 1) := bd00_59.2.1.1.1
theorem dX4_readNot_50 : decode cX4_readNot 50 = .ok (.istore_n 3, 1) := bd00_59.2.1.1.2
theorem dX4_readNot_51 : decode cX4_readNot 51 = .ok (.iload_n 3, 1) := bd00_59.2.1.2.1
theorem dX4_readNot_52 : decode cX4_readNot 52 = .ok (.iload_n 2, 1) := bd00_59.2.1.2.2
theorem dX4_readNot_53 : decode cX4_readNot 53 = .ok (.if_icmp .ge 18, 3) := bd00_59.2.2.1.1
theorem dX4_readNot_56 : decode cX4_readNot 56 = .ok (.aload_n 0, 1) := bd00_59.2.2.1.2
theorem dX4_readNot_57 : decode cX4_readNot 57 = .ok (.getfield 30, 3) := bd00_59.2.2.2.1
theorem dX4_readNot_60 : decode cX4_readNot 60 = .ok (.bipush (-3), 2) := bd00_59.2.2.2.2
theorem bd00_60 : ((decode cX4_readNot 62 = .ok (.invokevirtual 196, 3) ∧ decode cX4_readNot 65 = .ok (.iinc 3 1, 3)) ∧ (decode cX4_readNot 68 = .ok (.goto (-17), 3) ∧ decode cX4_readNot 71 = .ok (.return_, 1))) ∧ ((decode cX4_readTest 0 = .ok (.aload_n 0, 1) ∧ decode cX4_readTest 1 = .ok (.iload_n 1, 1)) ∧ (decode cX4_readTest 2 = .ok (.invokevirtual 211, 3) ∧ decode cX4_readTest 5 = .ok (.aload_n 0, 1))) := by decide +kernel
theorem dX4_readNot_62 : decode cX4_readNot 62 = .ok (.invokevirtual 196, 3) := bd00_60.1.1.1
theorem dX4_readNot_65 : decode cX4_readNot 65 = .ok (.iinc 3 1, 3) := bd00_60.1.1.2
theorem dX4_readNot_68 : decode cX4_readNot 68 = .ok (.goto (-17), 3) := bd00_60.1.2.1
theorem dX4_readNot_71 : decode cX4_readNot 71 = .ok (.return_, 1) := bd00_60.1.2.2
theorem dX4_readTest_0 : decode cX4_readTest 0 = .ok (.aload_n 0, 1) := bd00_60.2.1.1
theorem dX4_readTest_1 : decode cX4_readTest 1 = .ok (.iload_n 1, 1) := bd00_60.2.1.2
theorem dX4_readTest_2 : decode cX4_readTest 2 = .ok (.invokevirtual 211, 3) := bd00_60.2.2.1
theorem dX4_readTest_5 : decode cX4_readTest 5 = .ok (.aload_n 0, 1) := bd00_60.2.2.2
theorem bd00_61 : (((decode cX4_readTest 6 = .ok (.getfield 40, 3) ∧ decode cX4_readTest 9 = .ok (.ifCond .ne 55, 3)) ∧ (decode cX4_readTest 12 = .ok (.aload_n 0, 1) ∧ decode cX4_readTest 13 = .ok (.getfield 37, 3))) ∧ ((decode cX4_readTest 16 = .ok (.bipush 60, 2) ∧ decode cX4_readTest 18 = .ok (.if_icmp .eq 12, 3)) ∧ (decode cX4_readTest 21 = .ok (.aload_n 0, 1) ∧ decode cX4_readTest 22 = .ok (.getfield 37, 3)))) ∧ (((decode cX4_readTest 25 = .ok (.bipush 61, 2) ∧ decode cX4_readTest 27 = .ok (.if_icmp .ne 37, 3)) ∧ (decode cX4_readTest 30 = .ok (.aload_n 0, 1) ∧ decode cX4_readTest 31 = .ok (.getfield 37, 3))) ∧ ((decode cX4_readTest 34 = .ok (.bipush 60, 2) ∧ decode cX4_readTest 36 = .ok (.if_icmp .ne 8, 3)) ∧ (decode cX4_readTest 39 = .ok (.bipush (-4), 2) ∧ decode cX4_readTest 41 = .ok (.goto 5, 3)))) := by decide +kernel
theorem dX4_readTest_6 : decode cX4_readTest 6 = .ok (.getfield 40, 3) := bd00_61.1.1.1.1
theorem dX4_readTest_9 : decode cX4_readTest 9 = .ok (.ifCond .ne 55, 3) := bd00_61.1.1.1.2
theorem dX4_readTest_12 : decode cX4_readTest 12 = .ok (.aload_n 0, 1) := bd00_61.1.1.2.1
theorem dX4_readTest_13 : decode cX4_readTest 13 = .ok (.getfield 37, 3) := bd00_61.1.1.2.2
theorem dX4_readTest_16 : decode cX4_readTest 16 = .ok (.bipush 60, 2) := bd00_61.1.2.1.1
theorem dX4_readTest_18 : decode cX4_readTest 18 = .ok (.if_icmp .eq 12, 3) := bd00_61.1.2.1.2
theorem dX4_readTest_21 : decode cX4_readTest 21 = .ok (.aload_n 0, 1) := bd00_61.1.2.2.1
theorem dX4_readTest_22 : decode cX4_readTest 22 = .ok (.getfield 37, 3) := bd00_61.1.2.2.2
theorem dX4_readTest_25 : decode cX4_readTest 25 = .ok (.bipush 61, 2) := bd00_61.2.1.1.1
theorem dX4_readTest_27 : decode cX4_readTest 27 = .ok (.if_icmp .ne 37, 3) := bd00_61.2.1.1.2
theorem dX4_readTest_30 : decode cX4_readTest 30 = .ok (.aload_n 0, 1) := bd00_61.2.1.2.1
theorem dX4_readTest_31 : decode cX4_readTest 31 = .ok (.getfield 37, 3) := bd00_61.2.1.2.2
theorem dX4_readTest_34 : decode cX4_readTest 34 = .ok (.bipush 60, 2) := bd00_61.2.2.1.1
theorem dX4_readTest_36 : decode cX4_readTest 36 = .ok (.if_icmp .ne 8, 3) := bd00_61.2.2.1.2
theorem dX4_readTest_39 : decode cX4_readTest 39 = .ok (.bipush (-4), 2) := bd00_61.2.2.2.1
theorem dX4_readTest_41 : decode cX4_readTest 41 = .ok (.goto 5, 3) := bd00_61.2.2.2.2
theorem bd00_62 : (((decode cX4_readTest 44 = .ok (.bipush (-5), 2) ∧ decode cX4_readTest 46 = .ok (.istore_n 2, 1)) ∧ (decode cX4_readTest 47 = .ok (.aload_n 0, 1))) ∧ ((decode cX4_readTest 48 = .ok (.invokevirtual 110, 3) ∧ decode cX4_readTest 51 = .ok (.aload_n 0, 1)) ∧ (decode cX4_readTest 52 = .ok (.iload_n 1, 1)))) ∧ (((decode cX4_readTest 53 = .ok (.invokevirtual 211, 3) ∧ decode cX4_readTest 56 = .ok (.aload_n 0, 1)) ∧ (decode cX4_readTest 57 = .ok (.getfield 30, 3))) ∧ ((decode cX4_readTest 60 = .ok (.iload_n 2, 1) ∧ decode cX4_readTest 61 = .ok (.invokevirtual 196, 3)) ∧ (decode cX4_readTest 64 = .ok (.return_, 1)))) := by decide +kernel
theorem dX4_readTest_44 : decode cX4_readTest 44 = .ok (.bipush (-5), 2) := bd00_62.1.1.1.1
theorem dX4_readTest_46 : decode cX4_readTest 46 = .ok (.istore_n 2, 1) := bd00_62.1.1.1.2
theorem dX4_readTest_47 : decode cX4_readTest 47 = .ok (.aload_n 0, 1) := bd00_62.1.1.2
theorem dX4_readTest_48 : decode cX4_readTest 48 = .ok (.invokevirtual 110, 3) := bd00_62.1.2.1.1
theorem dX4_readTest_51 : decode cX4_readTest 51 = .ok (.aload_n 0, 1) := bd00_62.1.2.1.2
theorem dX4_readTest_52 : decode cX4_readTest 52 = .ok (.iload_n 1, 1) := bd00_62.1.2.2
theorem dX4_readTest_53 : decode cX4_readTest 53 = .ok (.invokevirtual 211, 3) := bd00_62.2.1.1.1
theorem dX4_readTest_56 : decode cX4_readTest 56 = .ok (.aload_n 0, 1) := bd00_62.2.1.1.2
theorem dX4_readTest_57 : decode cX4_readTest 57 = .ok (.getfield 30, 3) := bd00_62.2.1.2
theorem dX4_readTest_60 : decode cX4_readTest 60 = .ok (.iload_n 2, 1) := bd00_62.2.2.1.1
theorem dX4_readTest_61 : decode cX4_readTest 61 = .ok (.invokevirtual 196, 3) := bd00_62.2.2.1.2
theorem dX4_readTest_64 : decode cX4_readTest 64 = .ok (.return_, 1) := bd00_62.2.2.2
theorem bd00_63 : (((decode cX4_readSum 0 = .ok (.aload_n 0, 1) ∧ decode cX4_readSum 1 = .ok (.iload_n 1, 1)) ∧ (decode cX4_readSum 2 = .ok (.invokevirtual 214, 3) ∧ decode cX4_readSum 5 = .ok (.iconst 0, 1))) ∧ ((decode cX4_readSum 6 = .ok (.istore_n 2, 1) ∧ decode cX4_readSum 7 = .ok (.iload_n 2, 1)) ∧ (decode cX4_readSum 8 = .ok (.sipush 700, 3) ∧ decode cX4_readSum 11 = .ok (.if_icmp .ge 68, 3)))) ∧ (((decode cX4_readSum 14 = .ok (.aload_n 0, 1) ∧ decode cX4_readSum 15 = .ok (.getfield 40, 3)) ∧ (decode cX4_readSum 18 = .ok (.ifCond .ne 61, 3) ∧ decode cX4_readSum 21 = .ok (.aload_n 0, 1))) ∧ ((decode cX4_readSum 22 = .ok (.getfield 37, 3) ∧ decode cX4_readSum 25 = .ok (.bipush 43, 2)) ∧ (decode cX4_readSum 27 = .ok (.if_icmp .eq 12, 3) ∧ decode cX4_readSum 30 = .ok (.aload_n 0, 1)))) := by decide +kernel
theorem dX4_readSum_0 : decode cX4_readSum 0 = .ok (.aload_n 0, 1) := bd00_63.1.1.1.1
theorem dX4_readSum_1 : decode cX4_readSum 1 = .ok (.iload_n 1, 1) := bd00_63.1.1.1.2
theorem dX4_readSum_2 : decode cX4_readSum 2 = .ok (.invokevirtual 214, 3) := bd00_63.1.1.2.1
theorem dX4_readSum_5 : decode cX4_readSum 5 = .ok (.iconst 0, 1) := bd00_63.1.1.2.2
theorem dX4_readSum_6 : decode cX4_readSum 6 = .ok (.istore_n 2, 1) := bd00_63.1.2.1.1
theorem dX4_readSum_7 : decode cX4_readSum 7 = .ok (.iload_n 2, 1) := bd00_63.1.2.1.2
theorem dX4_readSum_8 : decode cX4_readSum 8 = .ok (.sipush 700, 3) := bd00_63.1.2.2.1
theorem dX4_readSum_11 : decode cX4_readSum 11 = .ok (.if_icmp .ge 68, 3) := bd00_63.1.2.2.2
theorem dX4_readSum_14 : decode cX4_readSum 14 = .ok (.aload_n 0, 1) := bd00_63.2.1.1.1
theorem dX4_readSum_15 : decode cX4_readSum 15 = .ok (.getfield 40, 3) := bd00_63.2.1.1.2
theorem dX4_readSum_18 : decode cX4_readSum 18 = .ok (.ifCond .ne 61, 3) := bd00_63.2.1.2.1
theorem dX4_readSum_21 : decode cX4_readSum 21 = .ok (.aload_n 0, 1) := bd00_63.2.1.2.2
theorem dX4_readSum_22 : decode cX4_readSum 22 = .ok (.getfield 37, 3) := bd00_63.2.2.1.1
theorem dX4_readSum_25 : decode cX4_readSum 25 = .ok (.bipush 43, 2) := bd00_63.2.2.1.2
theorem dX4_readSum_27 : decode cX4_readSum 27 = .ok (.if_icmp .eq 12, 3) := bd00_63.2.2.2.1
theorem dX4_readSum_30 : decode cX4_readSum 30 = .ok (.aload_n 0, 1) := bd00_63.2.2.2.2
theorem bd00_64 : (((decode cX4_readSum 31 = .ok (.getfield 37, 3) ∧ decode cX4_readSum 34 = .ok (.bipush 45, 2)) ∧ (decode cX4_readSum 36 = .ok (.if_icmp .ne 43, 3) ∧ decode cX4_readSum 39 = .ok (.aload_n 0, 1))) ∧ ((decode cX4_readSum 40 = .ok (.getfield 37, 3) ∧ decode cX4_readSum 43 = .ok (.bipush 43, 2)) ∧ (decode cX4_readSum 45 = .ok (.if_icmp .ne 8, 3) ∧ decode cX4_readSum 48 = .ok (.bipush (-6), 2)))) ∧ (((decode cX4_readSum 50 = .ok (.goto 5, 3) ∧ decode cX4_readSum 53 = .ok (.bipush (-7), 2)) ∧ (decode cX4_readSum 55 = .ok (.istore_n 3, 1) ∧ decode cX4_readSum 56 = .ok (.aload_n 0, 1))) ∧ ((decode cX4_readSum 57 = .ok (.invokevirtual 110, 3) ∧ decode cX4_readSum 60 = .ok (.aload_n 0, 1)) ∧ (decode cX4_readSum 61 = .ok (.iload_n 1, 1) ∧ decode cX4_readSum 62 = .ok (.invokevirtual 214, 3)))) := by decide +kernel
theorem dX4_readSum_31 : decode cX4_readSum 31 = .ok (.getfield 37, 3) := bd00_64.1.1.1.1
theorem dX4_readSum_34 : decode cX4_readSum 34 = .ok (.bipush 45, 2) := bd00_64.1.1.1.2
theorem dX4_readSum_36 : decode cX4_readSum 36 = .ok (.if_icmp .ne 43, 3) := bd00_64.1.1.2.1
theorem dX4_readSum_39 : decode cX4_readSum 39 = .ok (.aload_n 0, 1) := bd00_64.1.1.2.2
theorem dX4_readSum_40 : decode cX4_readSum 40 = .ok (.getfield 37, 3) := bd00_64.1.2.1.1
theorem dX4_readSum_43 : decode cX4_readSum 43 = .ok (.bipush 43, 2) := bd00_64.1.2.1.2
theorem dX4_readSum_45 : decode cX4_readSum 45 = .ok (.if_icmp .ne 8, 3) := bd00_64.1.2.2.1
theorem dX4_readSum_48 : decode cX4_readSum 48 = .ok (.bipush (-6), 2) := bd00_64.1.2.2.2
theorem dX4_readSum_50 : decode cX4_readSum 50 = .ok (.goto 5, 3) := bd00_64.2.1.1.1
theorem dX4_readSum_53 : decode cX4_readSum 53 = .ok (.bipush (-7), 2) := bd00_64.2.1.1.2
theorem dX4_readSum_55 : decode cX4_readSum 55 = .ok (.istore_n 3, 1) := bd00_64.2.1.2.1
theorem dX4_readSum_56 : decode cX4_readSum 56 = .ok (.aload_n 0, 1) := bd00_64.2.1.2.2
theorem dX4_readSum_57 : decode cX4_readSum 57 = .ok (.invokevirtual 110, 3) := bd00_64.2.2.1.1
theorem dX4_readSum_60 : decode cX4_readSum 60 = .ok (.aload_n 0, 1) := bd00_64.2.2.1.2
theorem dX4_readSum_61 : decode cX4_readSum 61 = .ok (.iload_n 1, 1) := bd00_64.2.2.2.1
theorem dX4_readSum_62 : decode cX4_readSum 62 = .ok (.invokevirtual 214, 3) := bd00_64.2.2.2.2
theorem bd00_65 : ((decode cX4_readSum 65 = .ok (.aload_n 0, 1) ∧ decode cX4_readSum 66 = .ok (.getfield 30, 3)) ∧ (decode cX4_readSum 69 = .ok (.iload_n 3, 1) ∧ decode cX4_readSum 70 = .ok (.invokevirtual 196, 3))) ∧ ((decode cX4_readSum 73 = .ok (.iinc 2 1, 3) ∧ decode cX4_readSum 76 = .ok (.goto (-69), 3)) ∧ (decode cX4_readSum 79 = .ok (.return_, 1) ∧ decode cX4_readProduct 0 = .ok (.aload_n 0, 1))) := by decide +kernel
theorem dX4_readSum_65 : decode cX4_readSum 65 = .ok (.aload_n 0, 1) := bd00_65.1.1.1
theorem dX4_readSum_66 : decode cX4_readSum 66 = .ok (.getfield 30, 3) := bd00_65.1.1.2
theorem dX4_readSum_69 : decode cX4_readSum 69 = .ok (.iload_n 3, 1) := bd00_65.1.2.1
theorem dX4_readSum_70 : decode cX4_readSum 70 = .ok (.invokevirtual 196, 3) := bd00_65.1.2.2
theorem dX4_readSum_73 : decode cX4_readSum 73 = .ok (.iinc 2 1, 3) := bd00_65.2.1.1
theorem dX4_readSum_76 : decode cX4_readSum 76 = .ok (.goto (-69), 3) := bd00_65.2.1.2
theorem dX4_readSum_79 : decode cX4_readSum 79 = .ok (.return_, 1) := bd00_65.2.2.1
theorem dX4_readProduct_0 : decode cX4_readProduct 0 = .ok (.aload_n 0, 1) := bd00_65.2.2.2
theorem bd00_66 : (((decode cX4_readProduct 1 = .ok (.iload_n 1, 1) ∧ decode cX4_readProduct 2 = .ok (.invokevirtual 217, 3)) ∧ (decode cX4_readProduct 5 = .ok (.iconst 0, 1) ∧ decode cX4_readProduct 6 = .ok (.istore_n 2, 1))) ∧ ((decode cX4_readProduct 7 = .ok (.iload_n 2, 1) ∧ decode cX4_readProduct 8 = .ok (.sipush 700, 3)) ∧ (decode cX4_readProduct 11 = .ok (.if_icmp .ge 68, 3) ∧ decode cX4_readProduct 14 = .ok (.aload_n 0, 1)))) ∧ (((decode cX4_readProduct 15 = .ok (.getfield 40, 3) ∧ decode cX4_readProduct 18 = .ok (.ifCond .ne 61, 3)) ∧ (decode cX4_readProduct 21 = .ok (.aload_n 0, 1) ∧ decode cX4_readProduct 22 = .ok (.getfield 37, 3))) ∧ ((decode cX4_readProduct 25 = .ok (.bipush 42, 2) ∧ decode cX4_readProduct 27 = .ok (.if_icmp .eq 12, 3)) ∧ (decode cX4_readProduct 30 = .ok (.aload_n 0, 1) ∧ decode cX4_readProduct 31 = .ok (.getfield 37, 3)))) := by decide +kernel
theorem dX4_readProduct_1 : decode cX4_readProduct 1 = .ok (.iload_n 1, 1) := bd00_66.1.1.1.1
theorem dX4_readProduct_2 : decode cX4_readProduct 2 = .ok (.invokevirtual 217, 3) := bd00_66.1.1.1.2
theorem dX4_readProduct_5 : decode cX4_readProduct 5 = .ok (.iconst 0, 1) := bd00_66.1.1.2.1
theorem dX4_readProduct_6 : decode cX4_readProduct 6 = .ok (.istore_n 2, 1) := bd00_66.1.1.2.2
theorem dX4_readProduct_7 : decode cX4_readProduct 7 = .ok (.iload_n 2, 1) := bd00_66.1.2.1.1
theorem dX4_readProduct_8 : decode cX4_readProduct 8 = .ok (.sipush 700, 3) := bd00_66.1.2.1.2
theorem dX4_readProduct_11 : decode cX4_readProduct 11 = .ok (.if_icmp .ge 68, 3) := bd00_66.1.2.2.1
theorem dX4_readProduct_14 : decode cX4_readProduct 14 = .ok (.aload_n 0, 1) := bd00_66.1.2.2.2
theorem dX4_readProduct_15 : decode cX4_readProduct 15 = .ok (.getfield 40, 3) := bd00_66.2.1.1.1
theorem dX4_readProduct_18 : decode cX4_readProduct 18 = .ok (.ifCond .ne 61, 3) := bd00_66.2.1.1.2
theorem dX4_readProduct_21 : decode cX4_readProduct 21 = .ok (.aload_n 0, 1) := bd00_66.2.1.2.1
theorem dX4_readProduct_22 : decode cX4_readProduct 22 = .ok (.getfield 37, 3) := bd00_66.2.1.2.2
theorem dX4_readProduct_25 : decode cX4_readProduct 25 = .ok (.bipush 42, 2) := bd00_66.2.2.1.1
theorem dX4_readProduct_27 : decode cX4_readProduct 27 = .ok (.if_icmp .eq 12, 3) := bd00_66.2.2.1.2
theorem dX4_readProduct_30 : decode cX4_readProduct 30 = .ok (.aload_n 0, 1) := bd00_66.2.2.2.1
theorem dX4_readProduct_31 : decode cX4_readProduct 31 = .ok (.getfield 37, 3) := bd00_66.2.2.2.2
theorem bd00_67 : (((decode cX4_readProduct 34 = .ok (.bipush 47, 2) ∧ decode cX4_readProduct 36 = .ok (.if_icmp .ne 43, 3)) ∧ (decode cX4_readProduct 39 = .ok (.aload_n 0, 1) ∧ decode cX4_readProduct 40 = .ok (.getfield 37, 3))) ∧ ((decode cX4_readProduct 43 = .ok (.bipush 42, 2) ∧ decode cX4_readProduct 45 = .ok (.if_icmp .ne 8, 3)) ∧ (decode cX4_readProduct 48 = .ok (.bipush (-8), 2) ∧ decode cX4_readProduct 50 = .ok (.goto 5, 3)))) ∧ (((decode cX4_readProduct 53 = .ok (.bipush (-9), 2) ∧ decode cX4_readProduct 55 = .ok (.istore_n 3, 1)) ∧ (decode cX4_readProduct 56 = .ok (.aload_n 0, 1) ∧ decode cX4_readProduct 57 = .ok (.invokevirtual 110, 3))) ∧ ((decode cX4_readProduct 60 = .ok (.aload_n 0, 1) ∧ decode cX4_readProduct 61 = .ok (.iload_n 1, 1)) ∧ (decode cX4_readProduct 62 = .ok (.invokevirtual 217, 3) ∧ decode cX4_readProduct 65 = .ok (.aload_n 0, 1)))) := by decide +kernel
theorem dX4_readProduct_34 : decode cX4_readProduct 34 = .ok (.bipush 47, 2) := bd00_67.1.1.1.1
theorem dX4_readProduct_36 : decode cX4_readProduct 36 = .ok (.if_icmp .ne 43, 3) := bd00_67.1.1.1.2
theorem dX4_readProduct_39 : decode cX4_readProduct 39 = .ok (.aload_n 0, 1) := bd00_67.1.1.2.1
theorem dX4_readProduct_40 : decode cX4_readProduct 40 = .ok (.getfield 37, 3) := bd00_67.1.1.2.2
theorem dX4_readProduct_43 : decode cX4_readProduct 43 = .ok (.bipush 42, 2) := bd00_67.1.2.1.1
theorem dX4_readProduct_45 : decode cX4_readProduct 45 = .ok (.if_icmp .ne 8, 3) := bd00_67.1.2.1.2
theorem dX4_readProduct_48 : decode cX4_readProduct 48 = .ok (.bipush (-8), 2) := bd00_67.1.2.2.1
theorem dX4_readProduct_50 : decode cX4_readProduct 50 = .ok (.goto 5, 3) := bd00_67.1.2.2.2
theorem dX4_readProduct_53 : decode cX4_readProduct 53 = .ok (.bipush (-9), 2) := bd00_67.2.1.1.1
theorem dX4_readProduct_55 : decode cX4_readProduct 55 = .ok (.istore_n 3, 1) := bd00_67.2.1.1.2
theorem dX4_readProduct_56 : decode cX4_readProduct 56 = .ok (.aload_n 0, 1) := bd00_67.2.1.2.1
theorem dX4_readProduct_57 : decode cX4_readProduct 57 = .ok (.invokevirtual 110, 3) := bd00_67.2.1.2.2
theorem dX4_readProduct_60 : decode cX4_readProduct 60 = .ok (.aload_n 0, 1) := bd00_67.2.2.1.1
theorem dX4_readProduct_61 : decode cX4_readProduct 61 = .ok (.iload_n 1, 1) := bd00_67.2.2.1.2
theorem dX4_readProduct_62 : decode cX4_readProduct 62 = .ok (.invokevirtual 217, 3) := bd00_67.2.2.2.1
theorem dX4_readProduct_65 : decode cX4_readProduct 65 = .ok (.aload_n 0, 1) := bd00_67.2.2.2.2
theorem bd00_68 : ((decode cX4_readProduct 66 = .ok (.getfield 30, 3) ∧ decode cX4_readProduct 69 = .ok (.iload_n 3, 1)) ∧ (decode cX4_readProduct 70 = .ok (.invokevirtual 196, 3) ∧ decode cX4_readProduct 73 = .ok (.iinc 2 1, 3))) ∧ ((decode cX4_readProduct 76 = .ok (.goto (-69), 3) ∧ decode cX4_readProduct 79 = .ok (.return_, 1)) ∧ (decode cX4_readPart 0 = .ok (.aload_n 0, 1) ∧ decode cX4_readPart 1 = .ok (.getfield 37, 3))) := by decide +kernel
theorem dX4_readProduct_66 : decode cX4_readProduct 66 = .ok (.getfield 30, 3) := bd00_68.1.1.1
theorem dX4_readProduct_69 : decode cX4_readProduct 69 = .ok (.iload_n 3, 1) := bd00_68.1.1.2
theorem dX4_readProduct_70 : decode cX4_readProduct 70 = .ok (.invokevirtual 196, 3) := bd00_68.1.2.1
theorem dX4_readProduct_73 : decode cX4_readProduct 73 = .ok (.iinc 2 1, 3) := bd00_68.1.2.2
theorem dX4_readProduct_76 : decode cX4_readProduct 76 = .ok (.goto (-69), 3) := bd00_68.2.1.1
theorem dX4_readProduct_79 : decode cX4_readProduct 79 = .ok (.return_, 1) := bd00_68.2.1.2
theorem dX4_readPart_0 : decode cX4_readPart 0 = .ok (.aload_n 0, 1) := bd00_68.2.2.1
theorem dX4_readPart_1 : decode cX4_readPart 1 = .ok (.getfield 37, 3) := bd00_68.2.2.2
theorem bd00_69 : (((decode cX4_readPart 4 = .ok (.bipush 40, 2) ∧ decode cX4_readPart 6 = .ok (.if_icmp .ne 23, 3)) ∧ (decode cX4_readPart 9 = .ok (.aload_n 0, 1) ∧ decode cX4_readPart 10 = .ok (.invokevirtual 110, 3))) ∧ ((decode cX4_readPart 13 = .ok (.aload_n 0, 1) ∧ decode cX4_readPart 14 = .ok (.iload_n 1, 1)) ∧ (decode cX4_readPart 15 = .ok (.iconst 1, 1) ∧ decode cX4_readPart 16 = .ok (.iadd, 1)))) ∧ (((decode cX4_readPart 17 = .ok (.invokevirtual 187, 3) ∧ decode cX4_readPart 20 = .ok (.aload_n 0, 1)) ∧ (decode cX4_readPart 21 = .ok (.bipush 41, 2) ∧ decode cX4_readPart 23 = .ok (.invokevirtual 88, 3))) ∧ ((decode cX4_readPart 26 = .ok (.goto 32, 3) ∧ decode cX4_readPart 29 = .ok (.aload_n 0, 1)) ∧ (decode cX4_readPart 30 = .ok (.getfield 37, 3) ∧ decode cX4_readPart 33 = .ok (.iconst 1, 1)))) := by decide +kernel
theorem dX4_readPart_4 : decode cX4_readPart 4 = .ok (.bipush 40, 2) := bd00_69.1.1.1.1
theorem dX4_readPart_6 : decode cX4_readPart 6 = .ok (.if_icmp .ne 23, 3) := bd00_69.1.1.1.2
theorem dX4_readPart_9 : decode cX4_readPart 9 = .ok (.aload_n 0, 1) := bd00_69.1.1.2.1
theorem dX4_readPart_10 : decode cX4_readPart 10 = .ok (.invokevirtual 110, 3) := bd00_69.1.1.2.2
theorem dX4_readPart_13 : decode cX4_readPart 13 = .ok (.aload_n 0, 1) := bd00_69.1.2.1.1
theorem dX4_readPart_14 : decode cX4_readPart 14 = .ok (.iload_n 1, 1) := bd00_69.1.2.1.2
theorem dX4_readPart_15 : decode cX4_readPart 15 = .ok (.iconst 1, 1) := bd00_69.1.2.2.1
theorem dX4_readPart_16 : decode cX4_readPart 16 = .ok (.iadd, 1) := bd00_69.1.2.2.2
theorem dX4_readPart_17 : decode cX4_readPart 17 = .ok (.invokevirtual 187, 3) := bd00_69.2.1.1.1
theorem dX4_readPart_20 : decode cX4_readPart 20 = .ok (.aload_n 0, 1) := bd00_69.2.1.1.2
theorem dX4_readPart_21 : decode cX4_readPart 21 = .ok (.bipush 41, 2) := bd00_69.2.1.2.1
theorem dX4_readPart_23 : decode cX4_readPart 23 = .ok (.invokevirtual 88, 3) := bd00_69.2.1.2.2
theorem dX4_readPart_26 : decode cX4_readPart 26 = .ok (.goto 32, 3) := bd00_69.2.2.1.1
theorem dX4_readPart_29 : decode cX4_readPart 29 = .ok (.aload_n 0, 1) := bd00_69.2.2.1.2
theorem dX4_readPart_30 : decode cX4_readPart 30 = .ok (.getfield 37, 3) := bd00_69.2.2.2.1
theorem dX4_readPart_33 : decode cX4_readPart 33 = .ok (.iconst 1, 1) := bd00_69.2.2.2.2
theorem bd00_70 : (((decode cX4_readPart 34 = .ok (.if_icmp .ne 10, 3) ∧ decode cX4_readPart 37 = .ok (.aload_n 0, 1)) ∧ (decode cX4_readPart 38 = .ok (.invokevirtual 220, 3))) ∧ ((decode cX4_readPart 41 = .ok (.goto 17, 3) ∧ decode cX4_readPart 44 = .ok (.aload_n 0, 1)) ∧ (decode cX4_readPart 45 = .ok (.getfield 30, 3)))) ∧ (((decode cX4_readPart 48 = .ok (.aload_n 0, 1) ∧ decode cX4_readPart 49 = .ok (.sipush 9999, 3)) ∧ (decode cX4_readPart 52 = .ok (.invokevirtual 127, 3))) ∧ (decode cX4_readPart 55 = .ok (.invokevirtual 196, 3) ∧ decode cX4_readPart 58 = .ok (.return_, 1))) := by decide +kernel
theorem dX4_readPart_34 : decode cX4_readPart 34 = .ok (.if_icmp .ne 10, 3) := bd00_70.1.1.1.1
theorem dX4_readPart_37 : decode cX4_readPart 37 = .ok (.aload_n 0, 1) := bd00_70.1.1.1.2
theorem dX4_readPart_38 : decode cX4_readPart 38 = .ok (.invokevirtual 220, 3) := bd00_70.1.1.2
theorem dX4_readPart_41 : decode cX4_readPart 41 = .ok (.goto 17, 3) := bd00_70.1.2.1.1
theorem dX4_readPart_44 : decode cX4_readPart 44 = .ok (.aload_n 0, 1) := bd00_70.1.2.1.2
theorem dX4_readPart_45 : decode cX4_readPart 45 = .ok (.getfield 30, 3) := bd00_70.1.2.2
theorem dX4_readPart_48 : decode cX4_readPart 48 = .ok (.aload_n 0, 1) := bd00_70.2.1.1.1
theorem dX4_readPart_49 : decode cX4_readPart 49 = .ok (.sipush 9999, 3) := bd00_70.2.1.1.2
theorem dX4_readPart_52 : decode cX4_readPart 52 = .ok (.invokevirtual 127, 3) := bd00_70.2.1.2
theorem dX4_readPart_55 : decode cX4_readPart 55 = .ok (.invokevirtual 196, 3) := bd00_70.2.2.1
theorem dX4_readPart_58 : decode cX4_readPart 58 = .ok (.return_, 1) := bd00_70.2.2.2
theorem bd00_71 : (((decode cX4_readValue 0 = .ok (.aload_n 0, 1) ∧ decode cX4_readValue 1 = .ok (.getfield 43, 3)) ∧ (decode cX4_readValue 4 = .ok (.ifnull 44, 3) ∧ decode cX4_readValue 7 = .ok (.aload_n 0, 1))) ∧ ((decode cX4_readValue 8 = .ok (.getfield 30, 3) ∧ decode cX4_readValue 11 = .ok (.aload_n 0, 1)) ∧ (decode cX4_readValue 12 = .ok (.getfield 12, 3) ∧ decode cX4_readValue 15 = .ok (.getfield 26, 3)))) ∧ (((decode cX4_readValue 18 = .ok (.if_acmp .ne 16, 3) ∧ decode cX4_readValue 21 = .ok (.aload_n 0, 1)) ∧ (decode cX4_readValue 22 = .ok (.getfield 43, 3) ∧ decode cX4_readValue 25 = .ok (.getfield 223, 3))) ∧ ((decode cX4_readValue 28 = .ok (.ifCond .eq 20, 3) ∧ decode cX4_readValue 31 = .ok (.goto 13, 3)) ∧ (decode cX4_readValue 34 = .ok (.aload_n 0, 1) ∧ decode cX4_readValue 35 = .ok (.getfield 43, 3)))) := by decide +kernel
theorem dX4_readValue_0 : decode cX4_readValue 0 = .ok (.aload_n 0, 1) := bd00_71.1.1.1.1
theorem dX4_readValue_1 : decode cX4_readValue 1 = .ok (.getfield 43, 3) := bd00_71.1.1.1.2
theorem dX4_readValue_4 : decode cX4_readValue 4 = .ok (.ifnull 44, 3) := bd00_71.1.1.2.1
theorem dX4_readValue_7 : decode cX4_readValue 7 = .ok (.aload_n 0, 1) := bd00_71.1.1.2.2
theorem dX4_readValue_8 : decode cX4_readValue 8 = .ok (.getfield 30, 3) := bd00_71.1.2.1.1
theorem dX4_readValue_11 : decode cX4_readValue 11 = .ok (.aload_n 0, 1) := bd00_71.1.2.1.2
theorem dX4_readValue_12 : decode cX4_readValue 12 = .ok (.getfield 12, 3) := bd00_71.1.2.2.1
theorem dX4_readValue_15 : decode cX4_readValue 15 = .ok (.getfield 26, 3) := bd00_71.1.2.2.2
theorem dX4_readValue_18 : decode cX4_readValue 18 = .ok (.if_acmp .ne 16, 3) := bd00_71.2.1.1.1
theorem dX4_readValue_21 : decode cX4_readValue 21 = .ok (.aload_n 0, 1) := bd00_71.2.1.1.2
theorem dX4_readValue_22 : decode cX4_readValue 22 = .ok (.getfield 43, 3) := bd00_71.2.1.2.1
theorem dX4_readValue_25 : decode cX4_readValue 25 = .ok (.getfield 223, 3) := bd00_71.2.1.2.2
theorem dX4_readValue_28 : decode cX4_readValue 28 = .ok (.ifCond .eq 20, 3) := bd00_71.2.2.1.1
theorem dX4_readValue_31 : decode cX4_readValue 31 = .ok (.goto 13, 3) := bd00_71.2.2.1.2
theorem dX4_readValue_34 : decode cX4_readValue 34 = .ok (.aload_n 0, 1) := bd00_71.2.2.2.1
theorem dX4_readValue_35 : decode cX4_readValue 35 = .ok (.getfield 43, 3) := bd00_71.2.2.2.2
theorem bd00_72 : (((decode cX4_readValue 38 = .ok (.getfield 226, 3) ∧ decode cX4_readValue 41 = .ok (.ifCond .eq 7, 3)) ∧ (decode cX4_readValue 44 = .ok (.iconst 1, 1) ∧ decode cX4_readValue 45 = .ok (.goto 4, 3))) ∧ ((decode cX4_readValue 48 = .ok (.iconst 0, 1) ∧ decode cX4_readValue 49 = .ok (.istore_n 1, 1)) ∧ (decode cX4_readValue 50 = .ok (.iload_n 1, 1) ∧ decode cX4_readValue 51 = .ok (.ifCond .ne 9, 3)))) ∧ (((decode cX4_readValue 54 = .ok (.aload_n 0, 1) ∧ decode cX4_readValue 55 = .ok (.iconst 3, 1)) ∧ (decode cX4_readValue 56 = .ok (.invokevirtual 85, 3) ∧ decode cX4_readValue 59 = .ok (.return_, 1))) ∧ ((decode cX4_readValue 60 = .ok (.aload_n 0, 1) ∧ decode cX4_readValue 61 = .ok (.getfield 30, 3)) ∧ (decode cX4_readValue 64 = .ok (.sipush 10000, 3) ∧ decode cX4_readValue 67 = .ok (.aload_n 0, 1)))) := by decide +kernel
theorem dX4_readValue_38 : decode cX4_readValue 38 = .ok (.getfield 226, 3) := bd00_72.1.1.1.1
theorem dX4_readValue_41 : decode cX4_readValue 41 = .ok (.ifCond .eq 7, 3) := bd00_72.1.1.1.2
theorem dX4_readValue_44 : decode cX4_readValue 44 = .ok (.iconst 1, 1) := bd00_72.1.1.2.1
theorem dX4_readValue_45 : decode cX4_readValue 45 = .ok (.goto 4, 3) := bd00_72.1.1.2.2
theorem dX4_readValue_48 : decode cX4_readValue 48 = .ok (.iconst 0, 1) := bd00_72.1.2.1.1
theorem dX4_readValue_49 : decode cX4_readValue 49 = .ok (.istore_n 1, 1) := bd00_72.1.2.1.2
theorem dX4_readValue_50 : decode cX4_readValue 50 = .ok (.iload_n 1, 1) := bd00_72.1.2.2.1
theorem dX4_readValue_51 : decode cX4_readValue 51 = .ok (.ifCond .ne 9, 3) := bd00_72.1.2.2.2
theorem dX4_readValue_54 : decode cX4_readValue 54 = .ok (.aload_n 0, 1) := bd00_72.2.1.1.1
theorem dX4_readValue_55 : decode cX4_readValue 55 = .ok (.iconst 3, 1) := bd00_72.2.1.1.2
theorem dX4_readValue_56 : decode cX4_readValue 56 = .ok (.invokevirtual 85, 3) := bd00_72.2.1.2.1
theorem dX4_readValue_59 : decode cX4_readValue 59 = .ok (.return_, 1) := bd00_72.2.1.2.2
theorem dX4_readValue_60 : decode cX4_readValue 60 = .ok (.aload_n 0, 1) := bd00_72.2.2.1.1
theorem dX4_readValue_61 : decode cX4_readValue 61 = .ok (.getfield 30, 3) := bd00_72.2.2.1.2
theorem dX4_readValue_64 : decode cX4_readValue 64 = .ok (.sipush 10000, 3) := bd00_72.2.2.2.1
theorem dX4_readValue_67 : decode cX4_readValue 67 = .ok (.aload_n 0, 1) := bd00_72.2.2.2.2
theorem bd00_73 : decode cX4_readValue 68 = .ok (.getfield 43, 3) ∧ decode cX4_readValue 71 = .ok (.getfield 229, 3) := by decide +kernel
theorem dX4_readValue_68 : decode cX4_readValue 68 = .ok (.getfield 43, 3) := bd00_73.1
theorem dX4_readValue_71 : decode cX4_readValue 71 = .ok (.getfield 229, 3) := bd00_73.2
set_option maxRecDepth 20000 in
theorem ggX0_keep_X8_writeTo : GoodIn wsX0_keep wsX8_writeTo := goodIn_r _ [11, 12, 13, 4, 5, 6, 14, 15, 16, 17, 18, 19, 22, 23, 24, 25, 26, 27, 28, 29, 30] (by first | rfl | decide +kernel) (by decide +kernel)
set_option maxRecDepth 20000 in
theorem gX0_keep_X8_writeTo : GoodIn wsX0_keep (wsV RX0 27 RX8 yX8_writeTo wsX8_writeTo) := goodIn_app (goodIn_of _ (by decide +kernel)) ggX0_keep_X8_writeTo
set_option maxRecDepth 20000 in
theorem ggX0_takeBack_X8_readFrom : GoodIn wsX0_takeBack wsX8_readFrom := goodIn_r _ [7, 8, 9, 10, 11, 12, 13, 14, 15, 16, 17, 18, 21, 22, 23, 24, 25, 26, 27, 28, 29] (by first | rfl | decide +kernel) (by decide +kernel)
set_option maxRecDepth 20000 in
theorem gX0_takeBack_X8_readFrom : GoodIn wsX0_takeBack (wsV RX0 31 RX8 yX8_readFrom wsX8_readFrom) := goodIn_app (goodIn_of _ (by decide +kernel)) ggX0_takeBack_X8_readFrom
set_option maxRecDepth 20000 in
theorem ggX2_init_X8_init : GoodIn wsX2_init wsX8_init := goodIn_r _ [19, 20, 2, 3, 16, 21, 22, 23, 24, 25, 26, 37, 38, 39, 40, 41, 42, 43, 44, 45] (by first | rfl | decide +kernel) (by decide +kernel)
set_option maxRecDepth 20000 in
theorem gX2_init_X8_init_n9 : GoodIn wsX2_init (wsX8_init) := ggX2_init_X8_init
set_option maxRecDepth 20000 in
theorem ggX2_init_X0_init : GoodIn wsX2_init wsX0_init := goodIn_r _ [28, 29, 2, 3, 16, 30, 50, 51] (by first | rfl | decide +kernel) (by decide +kernel)
set_option maxRecDepth 20000 in
theorem gX2_init_X0_init_n18 : GoodIn wsX2_init (wsX0_init) := ggX2_init_X0_init
set_option maxRecDepth 20000 in
theorem ggX2_init_X7_init : GoodIn wsX2_init wsX7_init := goodIn_r _ [32, 33, 2, 3, 16, 34, 35, 36, 52, 53, 54, 55] (by first | rfl | decide +kernel) (by decide +kernel)
set_option maxRecDepth 20000 in
theorem gX2_init_X7_init_n25 : GoodIn wsX2_init (wsX7_init) := ggX2_init_X7_init
set_option maxRecDepth 20000 in
theorem ggX2_beginAnew_X8_copyFrom : GoodIn wsX2_beginAnew wsX8_copyFrom := goodIn_r _ [10, 11, 12, 13, 14, 15, 16, 17, 18, 19, 20, 21, 22, 23, 34, 35, 36, 37, 38, 39, 40, 41, 42] (by first | rfl | decide +kernel) (by decide +kernel)
set_option maxRecDepth 20000 in
theorem gX2_beginAnew_X8_copyFrom : GoodIn wsX2_beginAnew (wsV RX2 34 RX8 yX8_copyFrom wsX8_copyFrom) := goodIn_app (goodIn_of _ (by decide +kernel)) ggX2_beginAnew_X8_copyFrom
set_option maxRecDepth 20000 in
theorem ggX2_copyFrom_X8_copyFrom : GoodIn wsX2_copyFrom wsX8_copyFrom := goodIn_r _ [13, 14, 15, 16, 17, 18, 6, 7, 8, 19, 20, 21, 22, 23, 46, 47, 48, 49, 50, 51, 52, 53, 54] (by first | rfl | decide +kernel) (by decide +kernel)
set_option maxRecDepth 20000 in
theorem gX2_copyFrom_X8_copyFrom : GoodIn wsX2_copyFrom (wsV RX2 34 RX8 yX8_copyFrom wsX8_copyFrom) := goodIn_app (goodIn_of _ (by decide +kernel)) ggX2_copyFrom_X8_copyFrom
set_option maxRecDepth 20000 in
theorem ggX2_copyFrom_X0_copyFrom : GoodIn wsX2_copyFrom wsX0_copyFrom := goodIn_r _ [28, 29, 30, 31, 6, 7, 8, 55, 56] (by first | rfl | decide +kernel) (by decide +kernel)
set_option maxRecDepth 20000 in
theorem gX2_copyFrom_X0_copyFrom : GoodIn wsX2_copyFrom (wsV RX2 43 RX0 yX0_copyFrom wsX0_copyFrom) := goodIn_app (goodIn_of _ (by decide +kernel)) ggX2_copyFrom_X0_copyFrom
set_option maxRecDepth 20000 in
theorem ggX2_copyFrom_X7_copyFrom : GoodIn wsX2_copyFrom wsX7_copyFrom := goodIn_r _ [36, 37, 38, 39, 6, 7, 8, 40, 41, 57, 58, 59, 60] (by first | rfl | decide +kernel) (by decide +kernel)
set_option maxRecDepth 20000 in
theorem gX2_copyFrom_X7_copyFrom : GoodIn wsX2_copyFrom (wsV RX2 46 RX7 yX7_copyFrom wsX7_copyFrom) := goodIn_app (goodIn_of _ (by decide +kernel)) ggX2_copyFrom_X7_copyFrom
set_option maxRecDepth 20000 in
theorem ggX3_init_X8_init : GoodIn wsX3_init wsX8_init := goodIn_r _ [17, 18, 2, 3, 8, 19, 20, 21, 22, 23, 24, 29, 30, 31, 32, 33, 34, 35, 36, 37] (by first | rfl | decide +kernel) (by decide +kernel)
set_option maxRecDepth 20000 in
theorem gX3_init_X8_init_n11 : GoodIn wsX3_init (wsX8_init) := ggX3_init_X8_init
set_option maxRecDepth 20000 in
theorem ggX3_init_X5_init : GoodIn wsX3_init wsX5_init := goodIn_r _ [26, 27, 2, 3, 8, 28, 46, 47] (by first | rfl | decide +kernel) (by decide +kernel)
set_option maxRecDepth 20000 in
theorem gX3_init_X5_init_n28 : GoodIn wsX3_init (wsX5_init) := ggX3_init_X5_init
set_option maxRecDepth 20000 in
theorem ggX3_copyFrom_X8_copyFrom : GoodIn wsX3_copyFrom wsX8_copyFrom := goodIn_r _ [17, 18, 19, 20, 21, 22, 5, 6, 7, 23, 24, 25, 26, 27, 44, 45, 46, 47, 48, 49, 50, 51, 52] (by first | rfl | decide +kernel) (by decide +kernel)
set_option maxRecDepth 20000 in
theorem gX3_copyFrom_X8_copyFrom : GoodIn wsX3_copyFrom (wsV RX3 58 RX8 yX8_copyFrom wsX8_copyFrom) := goodIn_app (goodIn_of _ (by decide +kernel)) ggX3_copyFrom_X8_copyFrom
set_option maxRecDepth 20000 in
theorem ggX3_copyFrom_X5_copyFrom : GoodIn wsX3_copyFrom wsX5_copyFrom := goodIn_r _ [32, 33, 34, 35, 5, 6, 7, 53, 54] (by first | rfl | decide +kernel) (by decide +kernel)
set_option maxRecDepth 20000 in
theorem gX3_copyFrom_X5_copyFrom : GoodIn wsX3_copyFrom (wsV RX3 68 RX5 yX5_copyFrom wsX5_copyFrom) := goodIn_app (goodIn_of _ (by decide +kernel)) ggX3_copyFrom_X5_copyFrom
set_option maxRecDepth 20000 in
theorem ggX4_init_X3_init : GoodIn wsX4_init wsX3_init := goodIn_r _ [13, 14, 2, 3, 15, 16, 17, 18, 19, 20, 21, 22, 23, 24, 25, 26, 27, 28, 29, 30, 31, 32, 33, 34, 35, 36, 37, 38, 39, 59, 60, 61, 62, 63, 64, 65, 66, 67, 40, 41, 42, 43, 44, 45, 46, 47, 68, 69] (by first | rfl | decide +kernel) (by decide +kernel)
set_option maxRecDepth 20000 in
theorem gX4_init_X3_init_n11 : GoodIn wsX4_init (wsX3_init) := ggX4_init_X3_init
set_option maxRecDepth 20000 in
theorem ggX4_readTower_X4_begin : GoodIn wsX4_readTower wsX4_begin := goodIn_r _ [15, 16, 17, 18, 19, 20, 21, 22, 23, 24, 25, 26, 2, 27, 28, 29, 30, 31, 32, 33, 34, 35, 36, 37, 38, 39, 40, 41, 42, 43, 44, 45, 46, 14, 47, 48, 3, 1, 49, 50, 51, 52, 53, 54, 55, 56, 57, 58, 59, 60, 61, 62, 63, 64, 65, 66, 67, 68, 69, 70, 71, 72, 73, 74, 75, 76, 77, 78, 79, 80, 81, 82, 83, 84, 85, 86, 87, 88, 89, 90, 91, 92, 93, 94, 95, 96, 97, 98, 99, 100, 101, 102, 103, 104, 105, 106, 107, 108, 109, 110, 111, 112, 113, 114, 115, 234, 235, 236, 237, 238, 239, 240, 241, 242, 243, 244, 245, 246, 247, 248, 249, 250, 251, 252, 253, 254, 255, 256, 257, 258, 259, 260, 261, 262, 263] (by first | rfl | decide +kernel) (by decide +kernel)
set_option maxRecDepth 20000 in
theorem gX4_readTower_X4_begin : GoodIn wsX4_readTower (wsV RX4 33 RX4 yX4_begin wsX4_begin) := goodIn_app (goodIn_of _ (by decide +kernel)) ggX4_readTower_X4_begin
set_option maxRecDepth 20000 in
theorem ggX4_readTower_X4_readGargoyle : GoodIn wsX4_readTower wsX4_readGargoyle := goodIn_r _ [119, 26, 120, 121, 122, 123, 124, 14, 125, 2, 48, 27, 44, 45, 46, 47, 25, 3, 24, 1, 16, 49, 50, 51, 52, 53, 54, 55, 56, 57, 58, 59, 60, 61, 62, 63, 64, 65, 66, 67, 68, 69, 70, 71, 72, 73, 74, 75, 76, 77, 78, 79, 80, 81, 82, 83, 84, 85, 86, 87, 88, 89, 90, 91, 92, 93, 94, 95, 96, 97, 98, 99, 100, 101, 102, 103, 104, 105, 106, 107, 108, 109, 110, 111, 112, 113, 114, 115, 126, 127, 128, 129, 130, 131, 132, 133, 134, 135, 136, 137, 138, 139, 140, 141, 142, 22, 19, 23, 143, 234, 235, 236, 237, 238, 239, 240, 241, 242, 243, 244, 245, 246, 247, 248, 249, 250, 251, 252, 253, 254, 255, 256, 257, 258, 259, 260, 261] (by first | rfl | decide +kernel) (by decide +kernel)
set_option maxRecDepth 20000 in
theorem gX4_readTower_X4_readGargoyle : GoodIn wsX4_readTower (wsV RX4 52 RX4 yX4_readGargoyle wsX4_readGargoyle) := goodIn_app (goodIn_of _ (by decide +kernel)) ggX4_readTower_X4_readGargoyle
set_option maxRecDepth 20000 in
theorem ggX4_readTower_X4_readPerson : GoodIn wsX4_readTower wsX4_readPerson := goodIn_r _ [147, 26, 120, 148, 149, 3, 6, 150, 151, 152, 153, 122, 123, 124, 14, 125, 2, 48, 27, 44, 45, 46, 47, 25, 24, 1, 16, 49, 50, 51, 52, 53, 54, 55, 56, 57, 58, 59, 60, 61, 62, 63, 64, 65, 66, 67, 68, 69, 70, 71, 72, 73, 74, 75, 76, 77, 78, 79, 80, 81, 82, 83, 84, 85, 86, 87, 88, 89, 90, 91, 92, 93, 94, 95, 96, 97, 98, 99, 100, 101, 102, 103, 104, 105, 106, 107, 108, 109, 110, 111, 112, 113, 114, 115, 126, 127, 128, 129, 154, 155, 133, 156, 130, 131, 132, 134, 135, 136, 157, 158, 159, 160, 121, 234, 235, 236, 237, 238, 239, 240, 241, 242, 243, 244, 245, 246, 247, 248, 249, 250, 251, 252, 253, 254, 255, 256, 257, 258, 259, 260, 261] (by first | rfl | decide +kernel) (by decide +kernel)
set_option maxRecDepth 20000 in
theorem gX4_readTower_X4_readPerson : GoodIn wsX4_readTower (wsV RX4 61 RX4 yX4_readPerson wsX4_readPerson) := goodIn_app (goodIn_of _ (by decide +kernel)) ggX4_readTower_X4_readPerson
set_option maxRecDepth 20000 in
theorem ggX4_readTower_X4_readRains : GoodIn wsX4_readTower wsX4_readRains := goodIn_r _ [164, 26, 165, 2, 1, 122, 123, 124, 14, 125, 48, 27, 44, 45, 46, 47, 25, 3, 24, 16, 49, 50, 51, 52, 53, 54, 55, 56, 57, 58, 59, 60, 61, 62, 63, 64, 65, 66, 67, 68, 69, 70, 71, 72, 73, 74, 75, 76, 77, 78, 79, 80, 81, 82, 83, 84, 85, 86, 87, 88, 89, 90, 91, 92, 93, 94, 95, 96, 97, 98, 99, 100, 101, 102, 103, 104, 105, 106, 107, 108, 109, 110, 111, 112, 113, 114, 115, 166, 167, 168, 169, 170, 126, 127, 128, 129, 234, 235, 236, 237, 238, 239, 240, 241, 242, 243, 244, 245, 246, 247, 248, 249, 250, 251, 252] (by first | rfl | decide +kernel) (by decide +kernel)
set_option maxRecDepth 20000 in
theorem gX4_readTower_X4_readRains : GoodIn wsX4_readTower (wsV RX4 67 RX4 yX4_readRains wsX4_readRains) := goodIn_app (goodIn_of _ (by decide +kernel)) ggX4_readTower_X4_readRains
set_option maxRecDepth 20000 in
theorem ggX4_readTower_X4_readCertain : GoodIn wsX4_readTower wsX4_readCertain := goodIn_r _ [174, 26, 175, 176, 122, 123, 124, 14, 125, 2, 48, 27, 44, 45, 46, 47, 25, 3, 24, 1, 16, 49, 50, 51, 52, 53, 54, 55, 56, 57, 58, 59, 60, 61, 62, 63, 64, 65, 66, 67, 68, 69, 70, 71, 72, 73, 74, 75, 76, 77, 78, 79, 80, 81, 82, 83, 84, 85, 86, 87, 88, 89, 90, 91, 92, 93, 94, 95, 96, 97, 98, 99, 100, 101, 102, 103, 104, 105, 106, 107, 108, 109, 110, 111, 112, 113, 114, 115, 126, 127, 128, 129, 234, 235, 236, 237, 238, 239, 240, 241, 242, 243, 244, 245, 246, 247, 248, 249, 250, 251, 252] (by first | rfl | decide +kernel) (by decide +kernel)
set_option maxRecDepth 20000 in
theorem gX4_readTower_X4_readCertain : GoodIn wsX4_readTower (wsV RX4 73 RX4 yX4_readCertain wsX4_readCertain) := goodIn_app (goodIn_of _ (by decide +kernel)) ggX4_readTower_X4_readCertain
set_option maxRecDepth 20000 in
theorem ggX4_readTower_X4_readRule : GoodIn wsX4_readTower wsX4_readRule := goodIn_r _ [180, 3, 9, 26, 181, 182, 183, 184, 122, 123, 124, 14, 125, 2, 48, 27, 44, 45, 46, 47, 25, 24, 1, 16, 49, 50, 51, 52, 53, 54, 55, 56, 57, 58, 59, 60, 61, 62, 63, 64, 65, 66, 67, 68, 69, 70, 71, 72, 73, 74, 75, 76, 77, 78, 79, 80, 81, 82, 83, 84, 85, 86, 87, 88, 89, 90, 91, 92, 93, 94, 95, 96, 97, 98, 99, 100, 101, 102, 103, 104, 105, 106, 107, 108, 109, 110, 111, 112, 113, 114, 115, 185, 186, 187, 188, 189, 190, 191, 192, 193, 194, 195, 196, 197, 198, 199, 200, 201, 202, 203, 204, 205, 206, 207, 208, 209, 210, 211, 212, 213, 214, 215, 216, 217, 218, 219, 220, 221, 126, 127, 128, 129, 222, 223, 224, 225, 226, 227, 228, 229, 230, 231, 232, 233, 234, 235, 236, 237, 238, 239, 240, 241, 242, 243, 244, 245, 246, 247, 248, 249, 250, 251, 252, 262, 263] (by first | rfl | decide +kernel) (by decide +kernel)
set_option maxRecDepth 20000 in
theorem gX4_readTower_X4_readRule : GoodIn wsX4_readTower (wsV RX4 82 RX4 yX4_readRule wsX4_readRule) := goodIn_app (goodIn_of _ (by decide +kernel)) ggX4_readTower_X4_readRule
set_option maxRecDepth 20000 in
theorem ggX4_readTower_X4_refuse : GoodIn wsX4_readTower wsX4_refuse := goodIn_r _ [125, 2, 48, 27, 234, 235, 236, 237, 238, 239, 240, 241, 242, 243, 244] (by first | rfl | decide +kernel) (by decide +kernel)
set_option maxRecDepth 20000 in
theorem gX4_readTower_X4_refuse : GoodIn wsX4_readTower (wsV RX4 85 RX4 yX4_refuse wsX4_refuse) := goodIn_app (goodIn_of _ (by decide +kernel)) ggX4_readTower_X4_refuse
set_option maxRecDepth 20000 in
theorem ggX4_readTower_X4_skip : GoodIn wsX4_readTower wsX4_skip := goodIn_r _ [214, 1, 2, 122, 123, 124, 14, 125, 48, 27, 44, 45, 46, 47, 25, 3, 24, 16, 49, 50, 51, 52, 53, 54, 55, 56, 57, 58, 59, 60, 61, 62, 63, 64, 65, 66, 67, 68, 69, 70, 71, 72, 73, 74, 75, 76, 77, 78, 79, 80, 81, 82, 83, 84, 85, 86, 87, 88, 89, 90, 91, 92, 93, 94, 95, 96, 97, 98, 99, 100, 101, 102, 103, 104, 105, 106, 107, 108, 109, 110, 111, 112, 113, 114, 115, 234, 235, 236, 237, 238, 239, 240, 241, 242, 243, 244] (by first | rfl | decide +kernel) (by decide +kernel)
set_option maxRecDepth 20000 in
theorem gX4_readTower_X4_skip : GoodIn wsX4_readTower (wsV RX4 88 RX4 yX4_skip wsX4_skip) := goodIn_app (goodIn_of _ (by decide +kernel)) ggX4_readTower_X4_skip
set_option maxRecDepth 20000 in
theorem ggX4_begin_X3_clear : GoodIn wsX4_begin wsX3_clear := goodIn_r _ [18, 19, 20, 21, 22, 23, 24, 25, 26, 27, 28, 29, 116, 117, 118, 119, 120, 121, 122, 123, 124, 125, 126, 127, 128, 129, 130, 131, 132, 133, 134] (by first | rfl | decide +kernel) (by decide +kernel)
set_option maxRecDepth 20000 in
theorem gX4_begin_X3_clear : GoodIn wsX4_begin (wsV RX4 107 RX3 yX3_clear wsX3_clear) := goodIn_app (goodIn_of _ (by decide +kernel)) ggX4_begin_X3_clear
set_option maxRecDepth 20000 in
theorem ggX4_begin_X4_advance : GoodIn wsX4_begin wsX4_advance := goodIn_r _ [34, 10, 35, 36, 9, 37, 1, 38, 39, 40, 41, 33, 42, 43, 44, 45, 46, 47, 48, 49, 50, 51, 52, 53, 54, 55, 56, 57, 58, 59, 60, 61, 62, 63, 64, 65, 66, 67, 68, 69, 70, 71, 72, 73, 74, 75, 76, 77, 78, 79, 80, 81, 82, 83, 84, 85, 86, 87, 88, 89, 90, 91, 92, 93, 94, 95, 96, 97, 98, 99, 100, 101, 102, 103, 104, 105, 106, 107, 108, 109, 110, 111, 112, 113, 114, 115] (by first | rfl | decide +kernel) (by decide +kernel)
set_option maxRecDepth 20000 in
theorem gX4_begin_X4_advance : GoodIn wsX4_begin (wsV RX4 110 RX4 yX4_advance wsX4_advance) := goodIn_app (goodIn_of _ (by decide +kernel)) ggX4_begin_X4_advance
set_option maxRecDepth 20000 in
theorem ggX4_skip_X4_refuse : GoodIn wsX4_skip wsX4_refuse := goodIn_r _ [7, 2, 8, 9, 85, 86, 87, 88, 89, 90, 91, 92, 93, 94, 95] (by first | rfl | decide +kernel) (by decide +kernel)
set_option maxRecDepth 20000 in
theorem gX4_skip_X4_refuse : GoodIn wsX4_skip (wsV RX4 85 RX4 yX4_refuse wsX4_refuse) := goodIn_app (goodIn_of _ (by decide +kernel)) ggX4_skip_X4_refuse
set_option maxRecDepth 20000 in
theorem ggX4_skip_X4_advance : GoodIn wsX4_skip wsX4_advance := goodIn_r _ [13, 14, 8, 15, 16, 1, 17, 18, 19, 20, 21, 6, 22, 23, 24, 25, 26, 27, 28, 29, 30, 31, 32, 33, 34, 35, 36, 37, 38, 39, 40, 41, 42, 43, 44, 45, 46, 47, 48, 49, 50, 51, 52, 53, 54, 55, 56, 57, 58, 59, 60, 61, 62, 63, 64, 65, 66, 67, 68, 69, 70, 71, 72, 73, 74, 75, 76, 77, 78, 79, 80, 81, 82, 83, 84, 85, 86, 87, 88, 89, 90, 91, 92, 93, 94, 95] (by first | rfl | decide +kernel) (by decide +kernel)
set_option maxRecDepth 20000 in
theorem gX4_skip_X4_advance : GoodIn wsX4_skip (wsV RX4 110 RX4 yX4_advance wsX4_advance) := goodIn_app (goodIn_of _ (by decide +kernel)) ggX4_skip_X4_advance
set_option maxRecDepth 20000 in
theorem ggX4_takeNumber_X4_refuse : GoodIn wsX4_takeNumber wsX4_refuse := goodIn_r _ [8, 3, 9, 10, 85, 86, 87, 88, 89, 90, 91, 92, 93, 94, 95] (by first | rfl | decide +kernel) (by decide +kernel)
set_option maxRecDepth 20000 in
theorem gX4_takeNumber_X4_refuse : GoodIn wsX4_takeNumber (wsV RX4 85 RX4 yX4_refuse wsX4_refuse) := goodIn_app (goodIn_of _ (by decide +kernel)) ggX4_takeNumber_X4_refuse
set_option maxRecDepth 20000 in
theorem ggX4_takeNumber_X4_advance : GoodIn wsX4_takeNumber wsX4_advance := goodIn_r _ [14, 15, 9, 16, 17, 2, 18, 1, 19, 20, 21, 7, 22, 23, 24, 25, 26, 27, 28, 29, 30, 31, 32, 33, 34, 35, 36, 37, 38, 39, 40, 41, 42, 43, 44, 45, 46, 47, 48, 49, 50, 51, 52, 53, 54, 55, 56, 57, 58, 59, 60, 61, 62, 63, 64, 65, 66, 67, 68, 69, 70, 71, 72, 73, 74, 75, 76, 77, 78, 79, 80, 81, 82, 83, 84, 85, 86, 87, 88, 89, 90, 91, 92, 93, 94, 95] (by first | rfl | decide +kernel) (by decide +kernel)
set_option maxRecDepth 20000 in
theorem gX4_takeNumber_X4_advance : GoodIn wsX4_takeNumber (wsV RX4 110 RX4 yX4_advance wsX4_advance) := goodIn_app (goodIn_of _ (by decide +kernel)) ggX4_takeNumber_X4_advance
set_option maxRecDepth 20000 in
theorem ggX4_readGargoyle_X4_refuse : GoodIn wsX4_readGargoyle wsX4_refuse := goodIn_r _ [8, 9, 10, 11, 109, 110, 111, 112, 113, 114, 115, 116, 117, 118, 119] (by first | rfl | decide +kernel) (by decide +kernel)
set_option maxRecDepth 20000 in
theorem gX4_readGargoyle_X4_refuse : GoodIn wsX4_readGargoyle (wsV RX4 85 RX4 yX4_refuse wsX4_refuse) := goodIn_app (goodIn_of _ (by decide +kernel)) ggX4_readGargoyle_X4_refuse
set_option maxRecDepth 20000 in
theorem ggX4_readGargoyle_X4_advance : GoodIn wsX4_readGargoyle wsX4_advance := goodIn_r _ [15, 16, 10, 17, 18, 19, 20, 21, 22, 23, 24, 7, 25, 26, 27, 28, 29, 30, 31, 32, 33, 34, 35, 36, 37, 38, 39, 40, 41, 42, 43, 44, 45, 46, 47, 48, 49, 50, 51, 52, 53, 54, 55, 56, 57, 58, 59, 60, 61, 62, 63, 64, 65, 66, 67, 68, 69, 70, 71, 72, 73, 74, 75, 76, 77, 78, 79, 80, 81, 82, 83, 84, 85, 86, 87, 109, 110, 111, 112, 113, 114, 115, 116, 117, 118, 119] (by first | rfl | decide +kernel) (by decide +kernel)
set_option maxRecDepth 20000 in
theorem gX4_readGargoyle_X4_advance : GoodIn wsX4_readGargoyle (wsV RX4 110 RX4 yX4_advance wsX4_advance) := goodIn_app (goodIn_of _ (by decide +kernel)) ggX4_readGargoyle_X4_advance
set_option maxRecDepth 20000 in
theorem ggX4_readGargoyle_X4_takeNumber : GoodIn wsX4_readGargoyle wsX4_takeNumber := goodIn_r _ [91, 21, 19, 9, 4, 5, 6, 7, 8, 10, 11, 12, 13, 14, 15, 16, 17, 18, 20, 22, 23, 24, 25, 26, 27, 28, 29, 30, 31, 32, 33, 34, 35, 36, 37, 38, 39, 40, 41, 42, 43, 44, 45, 46, 47, 48, 49, 50, 51, 52, 53, 54, 55, 56, 57, 58, 59, 60, 61, 62, 63, 64, 65, 66, 67, 68, 69, 70, 71, 72, 73, 74, 75, 76, 77, 78, 79, 80, 81, 82, 83, 84, 85, 86, 87, 109, 110, 111, 112, 113, 114, 115, 116, 117, 118, 119] (by first | rfl | decide +kernel) (by decide +kernel)
set_option maxRecDepth 20000 in
theorem gX4_readGargoyle_X4_takeNumber : GoodIn wsX4_readGargoyle (wsV RX4 127 RX4 yX4_takeNumber wsX4_takeNumber) := goodIn_app (goodIn_of _ (by decide +kernel)) ggX4_readGargoyle_X4_takeNumber
set_option maxRecDepth 20000 in
theorem ggX4_readGargoyle_X8_setFace : GoodIn wsX4_readGargoyle wsX8_setFace := goodIn_r _ [96, 97, 98, 128, 129, 130, 131, 132, 133, 134, 135, 136] (by first | rfl | decide +kernel) (by decide +kernel)
set_option maxRecDepth 20000 in
theorem gX4_readGargoyle_X8_setFace : GoodIn wsX4_readGargoyle (wsV RX4 131 RX8 yX8_setFace wsX8_setFace) := goodIn_app (goodIn_of _ (by decide +kernel)) ggX4_readGargoyle_X8_setFace
set_option maxRecDepth 20000 in
theorem ggX4_readGargoyle_X8_setStone : GoodIn wsX4_readGargoyle wsX8_setStone := goodIn_r _ [102, 103, 104, 105, 106, 107, 108, 93, 94, 95, 96, 97, 98, 128, 129, 130, 131, 132, 133, 134, 135, 136] (by first | rfl | decide +kernel) (by decide +kernel)
set_option maxRecDepth 20000 in
theorem gX4_readGargoyle_X8_setStone : GoodIn wsX4_readGargoyle (wsV RX4 135 RX8 yX8_setStone wsX8_setStone) := goodIn_app (goodIn_of _ (by decide +kernel)) ggX4_readGargoyle_X8_setStone
set_option maxRecDepth 20000 in
theorem ggX4_readPerson_X4_refuse : GoodIn wsX4_readPerson wsX4_refuse := goodIn_r _ [15, 16, 17, 18, 113, 114, 115, 116, 117, 118, 119, 120, 121, 122, 123] (by first | rfl | decide +kernel) (by decide +kernel)
set_option maxRecDepth 20000 in
theorem gX4_readPerson_X4_refuse : GoodIn wsX4_readPerson (wsV RX4 85 RX4 yX4_refuse wsX4_refuse) := goodIn_app (goodIn_of _ (by decide +kernel)) ggX4_readPerson_X4_refuse
set_option maxRecDepth 20000 in
theorem ggX4_readPerson_X4_advance : GoodIn wsX4_readPerson wsX4_advance := goodIn_r _ [22, 23, 17, 5, 24, 25, 26, 27, 28, 29, 30, 14, 31, 32, 33, 34, 35, 36, 37, 38, 39, 40, 41, 42, 43, 44, 45, 46, 47, 48, 49, 50, 51, 52, 53, 54, 55, 56, 57, 58, 59, 60, 61, 62, 63, 64, 65, 66, 67, 68, 69, 70, 71, 72, 73, 74, 75, 76, 77, 78, 79, 80, 81, 82, 83, 84, 85, 86, 87, 88, 89, 90, 91, 92, 93, 113, 114, 115, 116, 117, 118, 119, 120, 121, 122, 123] (by first | rfl | decide +kernel) (by decide +kernel)
set_option maxRecDepth 20000 in
theorem gX4_readPerson_X4_advance : GoodIn wsX4_readPerson (wsV RX4 110 RX4 yX4_advance wsX4_advance) := goodIn_app (goodIn_of _ (by decide +kernel)) ggX4_readPerson_X4_advance
set_option maxRecDepth 20000 in
theorem ggX4_readPerson_X4_takeNumber : GoodIn wsX4_readPerson wsX4_takeNumber := goodIn_r _ [97, 27, 25, 16, 11, 12, 13, 14, 15, 17, 18, 19, 20, 21, 22, 23, 5, 24, 26, 28, 29, 30, 31, 32, 33, 34, 35, 36, 37, 38, 39, 40, 41, 42, 43, 44, 45, 46, 47, 48, 49, 50, 51, 52, 53, 54, 55, 56, 57, 58, 59, 60, 61, 62, 63, 64, 65, 66, 67, 68, 69, 70, 71, 72, 73, 74, 75, 76, 77, 78, 79, 80, 81, 82, 83, 84, 85, 86, 87, 88, 89, 90, 91, 92, 93, 113, 114, 115, 116, 117, 118, 119, 120, 121, 122, 123] (by first | rfl | decide +kernel) (by decide +kernel)
set_option maxRecDepth 20000 in
theorem gX4_readPerson_X4_takeNumber : GoodIn wsX4_readPerson (wsV RX4 127 RX4 yX4_takeNumber wsX4_takeNumber) := goodIn_app (goodIn_of _ (by decide +kernel)) ggX4_readPerson_X4_takeNumber
set_option maxRecDepth 20000 in
theorem ggX4_readPerson_X8_faceOf : GoodIn wsX4_readPerson wsX8_faceOf := goodIn_r _ [101] (by first | rfl | decide +kernel) (by decide +kernel)
set_option maxRecDepth 20000 in
theorem gX4_readPerson_X8_faceOf : GoodIn wsX4_readPerson (va_wsS RX4 145 yX8_faceOf wsX8_faceOf) := goodIn_app (goodIn_of _ (by decide +kernel)) ggX4_readPerson_X8_faceOf
set_option maxRecDepth 20000 in
theorem ggX4_readPerson_X8_setFace : GoodIn wsX4_readPerson wsX8_setFace := goodIn_r _ [105, 106, 107, 132, 133, 134, 135, 136, 137, 138, 139, 140] (by first | rfl | decide +kernel) (by decide +kernel)
set_option maxRecDepth 20000 in
theorem gX4_readPerson_X8_setFace : GoodIn wsX4_readPerson (wsV RX4 131 RX8 yX8_setFace wsX8_setFace) := goodIn_app (goodIn_of _ (by decide +kernel)) ggX4_readPerson_X8_setFace
set_option maxRecDepth 20000 in
theorem ggX4_readPerson_X4_takeFamily : GoodIn wsX4_readPerson wsX4_takeFamily := goodIn_r _ [111, 16, 25, 27, 1, 2, 112, 19, 20, 21, 14, 22, 23, 17, 5, 24, 26, 28, 29, 30, 31, 32, 33, 34, 35, 36, 37, 38, 39, 40, 41, 42, 43, 44, 45, 46, 47, 48, 49, 50, 51, 52, 53, 54, 55, 56, 57, 58, 59, 60, 61, 62, 63, 64, 65, 66, 67, 68, 69, 70, 71, 72, 73, 74, 75, 76, 77, 78, 79, 80, 81, 82, 83, 84, 85, 86, 87, 88, 89, 90, 91, 92, 93, 11, 12, 13, 15, 18, 94, 95, 96, 97, 113, 114, 115, 116, 117, 118, 119, 120, 121, 122, 123, 124, 125, 126, 127, 128, 129, 130, 131, 132, 133, 134, 135, 136, 137, 138, 139, 140] (by first | rfl | decide +kernel) (by decide +kernel)
set_option maxRecDepth 20000 in
theorem gX4_readPerson_X4_takeFamily : GoodIn wsX4_readPerson (wsV RX4 158 RX4 yX4_takeFamily wsX4_takeFamily) := goodIn_app (goodIn_of _ (by decide +kernel)) ggX4_readPerson_X4_takeFamily
set_option maxRecDepth 20000 in
theorem ggX4_takeFamily_X4_advance : GoodIn wsX4_takeFamily wsX4_advance := goodIn_r _ [11, 12, 13, 14, 15, 2, 16, 3, 17, 18, 19, 10, 20, 21, 22, 23, 24, 25, 26, 27, 28, 29, 30, 31, 32, 33, 34, 35, 36, 37, 38, 39, 40, 41, 42, 43, 44, 45, 46, 47, 48, 49, 50, 51, 52, 53, 54, 55, 56, 57, 58, 59, 60, 61, 62, 63, 64, 65, 66, 67, 68, 69, 70, 71, 72, 73, 74, 75, 76, 77, 78, 79, 80, 81, 82, 92, 93, 94, 95, 96, 97, 98, 99, 100, 101, 102] (by first | rfl | decide +kernel) (by decide +kernel)
set_option maxRecDepth 20000 in
theorem gX4_takeFamily_X4_advance : GoodIn wsX4_takeFamily (wsV RX4 110 RX4 yX4_advance wsX4_advance) := goodIn_app (goodIn_of _ (by decide +kernel)) ggX4_takeFamily_X4_advance
set_option maxRecDepth 20000 in
theorem ggX4_takeFamily_X4_refuse : GoodIn wsX4_takeFamily wsX4_refuse := goodIn_r _ [86, 1, 13, 87, 92, 93, 94, 95, 96, 97, 98, 99, 100, 101, 102] (by first | rfl | decide +kernel) (by decide +kernel)
set_option maxRecDepth 20000 in
theorem gX4_takeFamily_X4_refuse : GoodIn wsX4_takeFamily (wsV RX4 85 RX4 yX4_refuse wsX4_refuse) := goodIn_app (goodIn_of _ (by decide +kernel)) ggX4_takeFamily_X4_refuse
set_option maxRecDepth 20000 in
theorem ggX4_takeFamily_X4_takeNumber : GoodIn wsX4_takeFamily wsX4_takeNumber := goodIn_r _ [91, 3, 2, 1, 83, 84, 85, 10, 86, 13, 87, 7, 8, 9, 11, 12, 14, 15, 16, 17, 18, 19, 20, 21, 22, 23, 24, 25, 26, 27, 28, 29, 30, 31, 32, 33, 34, 35, 36, 37, 38, 39, 40, 41, 42, 43, 44, 45, 46, 47, 48, 49, 50, 51, 52, 53, 54, 55, 56, 57, 58, 59, 60, 61, 62, 63, 64, 65, 66, 67, 68, 69, 70, 71, 72, 73, 74, 75, 76, 77, 78, 79, 80, 81, 82, 92, 93, 94, 95, 96, 97, 98, 99, 100, 101, 102] (by first | rfl | decide +kernel) (by decide +kernel)
set_option maxRecDepth 20000 in
theorem gX4_takeFamily_X4_takeNumber : GoodIn wsX4_takeFamily (wsV RX4 127 RX4 yX4_takeNumber wsX4_takeNumber) := goodIn_app (goodIn_of _ (by decide +kernel)) ggX4_takeFamily_X4_takeNumber
set_option maxRecDepth 20000 in
theorem ggX4_readRains_X4_refuse : GoodIn wsX4_readRains wsX4_refuse := goodIn_r _ [9, 3, 10, 11, 96, 97, 98, 99, 100, 101, 102, 103, 104, 105, 106] (by first | rfl | decide +kernel) (by decide +kernel)
set_option maxRecDepth 20000 in
theorem gX4_readRains_X4_refuse : GoodIn wsX4_readRains (wsV RX4 85 RX4 yX4_refuse wsX4_refuse) := goodIn_app (goodIn_of _ (by decide +kernel)) ggX4_readRains_X4_refuse
set_option maxRecDepth 20000 in
theorem ggX4_readRains_X4_advance : GoodIn wsX4_readRains wsX4_advance := goodIn_r _ [15, 16, 10, 17, 18, 4, 19, 20, 21, 22, 23, 8, 24, 25, 26, 27, 28, 29, 30, 31, 32, 33, 34, 35, 36, 37, 38, 39, 40, 41, 42, 43, 44, 45, 46, 47, 48, 49, 50, 51, 52, 53, 54, 55, 56, 57, 58, 59, 60, 61, 62, 63, 64, 65, 66, 67, 68, 69, 70, 71, 72, 73, 74, 75, 76, 77, 78, 79, 80, 81, 82, 83, 84, 85, 86, 96, 97, 98, 99, 100, 101, 102, 103, 104, 105, 106] (by first | rfl | decide +kernel) (by decide +kernel)
set_option maxRecDepth 20000 in
theorem gX4_readRains_X4_advance : GoodIn wsX4_readRains (wsV RX4 110 RX4 yX4_advance wsX4_advance) := goodIn_app (goodIn_of _ (by decide +kernel)) ggX4_readRains_X4_advance
set_option maxRecDepth 20000 in
theorem ggX4_readRains_X4_readRain : GoodIn wsX4_readRains wsX4_readRain := goodIn_r _ [90, 1, 2, 91, 5, 6, 7, 8, 9, 3, 10, 11, 92, 93, 94, 95, 20, 4, 12, 13, 14, 15, 16, 17, 18, 19, 21, 22, 23, 24, 25, 26, 27, 28, 29, 30, 31, 32, 33, 34, 35, 36, 37, 38, 39, 40, 41, 42, 43, 44, 45, 46, 47, 48, 49, 50, 51, 52, 53, 54, 55, 56, 57, 58, 59, 60, 61, 62, 63, 64, 65, 66, 67, 68, 69, 70, 71, 72, 73, 74, 75, 76, 77, 78, 79, 80, 81, 82, 83, 84, 85, 86, 96, 97, 98, 99, 100, 101, 102, 103, 104, 105, 106, 107, 108, 109, 110, 111, 112, 113, 114] (by first | rfl | decide +kernel) (by decide +kernel)
set_option maxRecDepth 20000 in
theorem gX4_readRains_X4_readRain : GoodIn wsX4_readRains (wsV RX4 170 RX4 yX4_readRain wsX4_readRain) := goodIn_app (goodIn_of _ (by decide +kernel)) ggX4_readRains_X4_readRain
set_option maxRecDepth 20000 in
theorem ggX4_readRain_X4_refuse : GoodIn wsX4_readRain wsX4_refuse := goodIn_r _ [8, 9, 10, 11, 92, 93, 94, 95, 96, 97, 98, 99, 100, 101, 102] (by first | rfl | decide +kernel) (by decide +kernel)
set_option maxRecDepth 20000 in
theorem gX4_readRain_X4_refuse : GoodIn wsX4_readRain (wsV RX4 85 RX4 yX4_refuse wsX4_refuse) := goodIn_app (goodIn_of _ (by decide +kernel)) ggX4_readRain_X4_refuse
set_option maxRecDepth 20000 in
theorem ggX4_readRain_X4_takeNumber : GoodIn wsX4_readRain wsX4_takeNumber := goodIn_r _ [15, 16, 17, 9, 4, 5, 6, 7, 8, 10, 11, 18, 19, 20, 21, 22, 23, 24, 25, 26, 27, 28, 29, 30, 31, 32, 33, 34, 35, 36, 37, 38, 39, 40, 41, 42, 43, 44, 45, 46, 47, 48, 49, 50, 51, 52, 53, 54, 55, 56, 57, 58, 59, 60, 61, 62, 63, 64, 65, 66, 67, 68, 69, 70, 71, 72, 73, 74, 75, 76, 77, 78, 79, 80, 81, 82, 83, 84, 85, 86, 87, 88, 89, 90, 91, 92, 93, 94, 95, 96, 97, 98, 99, 100, 101, 102] (by first | rfl | decide +kernel) (by decide +kernel)
set_option maxRecDepth 20000 in
theorem gX4_readRain_X4_takeNumber : GoodIn wsX4_readRain (wsV RX4 127 RX4 yX4_takeNumber wsX4_takeNumber) := goodIn_app (goodIn_of _ (by decide +kernel)) ggX4_readRain_X4_takeNumber
set_option maxRecDepth 20000 in
theorem ggX4_readCertain_X4_refuse : GoodIn wsX4_readCertain wsX4_refuse := goodIn_r _ [8, 9, 10, 11, 92, 93, 94, 95, 96, 97, 98, 99, 100, 101, 102] (by first | rfl | decide +kernel) (by decide +kernel)
set_option maxRecDepth 20000 in
theorem gX4_readCertain_X4_refuse : GoodIn wsX4_readCertain (wsV RX4 85 RX4 yX4_refuse wsX4_refuse) := goodIn_app (goodIn_of _ (by decide +kernel)) ggX4_readCertain_X4_refuse
set_option maxRecDepth 20000 in
theorem ggX4_readCertain_X4_advance : GoodIn wsX4_readCertain wsX4_advance := goodIn_r _ [15, 16, 10, 17, 18, 19, 20, 21, 22, 23, 24, 7, 25, 26, 27, 28, 29, 30, 31, 32, 33, 34, 35, 36, 37, 38, 39, 40, 41, 42, 43, 44, 45, 46, 47, 48, 49, 50, 51, 52, 53, 54, 55, 56, 57, 58, 59, 60, 61, 62, 63, 64, 65, 66, 67, 68, 69, 70, 71, 72, 73, 74, 75, 76, 77, 78, 79, 80, 81, 82, 83, 84, 85, 86, 87, 92, 93, 94, 95, 96, 97, 98, 99, 100, 101, 102] (by first | rfl | decide +kernel) (by decide +kernel)
set_option maxRecDepth 20000 in
theorem gX4_readCertain_X4_advance : GoodIn wsX4_readCertain (wsV RX4 110 RX4 yX4_advance wsX4_advance) := goodIn_app (goodIn_of _ (by decide +kernel)) ggX4_readCertain_X4_advance
set_option maxRecDepth 20000 in
theorem ggX4_readCertain_X4_takeNumber : GoodIn wsX4_readCertain wsX4_takeNumber := goodIn_r _ [91, 21, 19, 9, 4, 5, 6, 7, 8, 10, 11, 12, 13, 14, 15, 16, 17, 18, 20, 22, 23, 24, 25, 26, 27, 28, 29, 30, 31, 32, 33, 34, 35, 36, 37, 38, 39, 40, 41, 42, 43, 44, 45, 46, 47, 48, 49, 50, 51, 52, 53, 54, 55, 56, 57, 58, 59, 60, 61, 62, 63, 64, 65, 66, 67, 68, 69, 70, 71, 72, 73, 74, 75, 76, 77, 78, 79, 80, 81, 82, 83, 84, 85, 86, 87, 92, 93, 94, 95, 96, 97, 98, 99, 100, 101, 102] (by first | rfl | decide +kernel) (by decide +kernel)
set_option maxRecDepth 20000 in
theorem gX4_readCertain_X4_takeNumber : GoodIn wsX4_readCertain (wsV RX4 127 RX4 yX4_takeNumber wsX4_takeNumber) := goodIn_app (goodIn_of _ (by decide +kernel)) ggX4_readCertain_X4_takeNumber
set_option maxRecDepth 20000 in
theorem ggX4_readRule_X4_refuse : GoodIn wsX4_readRule wsX4_refuse := goodIn_r _ [12, 13, 14, 15, 144, 145, 146, 147, 148, 149, 150, 151, 152, 153, 154] (by first | rfl | decide +kernel) (by decide +kernel)
set_option maxRecDepth 20000 in
theorem gX4_readRule_X4_refuse : GoodIn wsX4_readRule (wsV RX4 85 RX4 yX4_refuse wsX4_refuse) := goodIn_app (goodIn_of _ (by decide +kernel)) ggX4_readRule_X4_refuse
set_option maxRecDepth 20000 in
theorem ggX4_readRule_X4_advance : GoodIn wsX4_readRule wsX4_advance := goodIn_r _ [19, 20, 14, 1, 21, 22, 23, 24, 25, 26, 27, 11, 28, 29, 30, 31, 32, 33, 34, 35, 36, 37, 38, 39, 40, 41, 42, 43, 44, 45, 46, 47, 48, 49, 50, 51, 52, 53, 54, 55, 56, 57, 58, 59, 60, 61, 62, 63, 64, 65, 66, 67, 68, 69, 70, 71, 72, 73, 74, 75, 76, 77, 78, 79, 80, 81, 82, 83, 84, 85, 86, 87, 88, 89, 90, 144, 145, 146, 147, 148, 149, 150, 151, 152, 153, 154] (by first | rfl | decide +kernel) (by decide +kernel)
set_option maxRecDepth 20000 in
theorem gX4_readRule_X4_advance : GoodIn wsX4_readRule (wsV RX4 110 RX4 yX4_advance wsX4_advance) := goodIn_app (goodIn_of _ (by decide +kernel)) ggX4_readRule_X4_advance
set_option maxRecDepth 20000 in
theorem ggX4_readRule_X4_readExpr : GoodIn wsX4_readRule wsX4_readExpr := goodIn_r _ [94, 22, 13, 1, 95, 6, 8, 9, 10, 11, 12, 14, 15, 96, 97, 98, 16, 17, 18, 19, 20, 21, 23, 24, 25, 26, 27, 28, 29, 30, 31, 32, 33, 34, 35, 36, 37, 38, 39, 40, 41, 42, 43, 44, 45, 46, 47, 48, 49, 50, 51, 52, 53, 54, 55, 56, 57, 58, 59, 60, 61, 62, 63, 64, 65, 66, 67, 68, 69, 70, 71, 72, 73, 74, 75, 76, 77, 78, 79, 80, 81, 82, 83, 84, 85, 86, 87, 88, 89, 90, 99, 100, 101, 102, 103, 104, 105, 106, 107, 108, 109, 110, 111, 112, 113, 114, 115, 116, 91, 92, 93, 117, 118, 119, 120, 121, 122, 123, 124, 3, 4, 125, 126, 127, 128, 129, 130, 131, 132, 133, 134, 135, 136, 137, 138, 139, 140, 141, 142, 143, 144, 145, 146, 147, 148, 149, 150, 151, 152, 153, 154, 163, 164, 155, 156, 157, 158, 159, 160, 161, 162] (by first | rfl | decide +kernel) (by decide +kernel)
set_option maxRecDepth 20000 in
theorem gX4_readRule_X4_readExpr : GoodIn wsX4_readRule (wsV RX4 187 RX4 yX4_readExpr wsX4_readExpr) := goodIn_app (goodIn_of _ (by decide +kernel)) ggX4_readRule_X4_readExpr
set_option maxRecDepth 20000 in
theorem ggX4_readExpr_X4_refuse : GoodIn wsX4_readExpr wsX4_refuse := goodIn_r _ [10, 2, 11, 12, 140, 141, 142, 143, 144, 145, 146, 147, 148, 149, 150] (by first | rfl | decide +kernel) (by decide +kernel)
set_option maxRecDepth 20000 in
theorem gX4_readExpr_X4_refuse : GoodIn wsX4_readExpr (wsV RX4 85 RX4 yX4_refuse wsX4_refuse) := goodIn_app (goodIn_of _ (by decide +kernel)) ggX4_readExpr_X4_refuse
set_option maxRecDepth 20000 in
theorem ggX4_readExpr_X4_readAnd : GoodIn wsX4_readExpr wsX4_readAnd := goodIn_r _ [97, 2, 3, 98, 5, 99, 100, 101, 9, 16, 17, 18, 19, 20, 11, 21, 1, 22, 23, 24, 25, 26, 27, 28, 29, 30, 31, 32, 33, 34, 35, 36, 37, 38, 39, 40, 41, 42, 43, 44, 45, 46, 47, 48, 49, 50, 51, 52, 53, 54, 55, 56, 57, 58, 59, 60, 61, 62, 63, 64, 65, 66, 67, 68, 69, 70, 71, 72, 73, 74, 75, 76, 77, 78, 79, 80, 81, 82, 83, 84, 85, 86, 87, 88, 89, 90, 91, 92, 93, 94, 95, 96, 0, 4, 6, 7, 8, 10, 12, 13, 14, 15, 102, 103, 104, 105, 106, 107, 108, 109, 110, 111, 112, 113, 114, 115, 116, 117, 118, 119, 120, 121, 122, 123, 124, 125, 126, 127, 128, 129, 130, 131, 132, 133, 134, 135, 136, 137, 138, 139, 140, 141, 142, 143, 144, 145, 146, 147, 148, 149, 150, 151, 152, 153, 154, 155, 156, 157, 158, 159, 160] (by first | rfl | decide +kernel) (by decide +kernel)
set_option maxRecDepth 20000 in
theorem gX4_readExpr_X4_readAnd : GoodIn wsX4_readExpr (wsV RX4 190 RX4 yX4_readAnd wsX4_readAnd) := goodIn_app (goodIn_of _ (by decide +kernel)) ggX4_readExpr_X4_readAnd
set_option maxRecDepth 20000 in
theorem ggX4_readExpr_X4_advance : GoodIn wsX4_readExpr wsX4_advance := goodIn_r _ [19, 20, 11, 3, 21, 1, 22, 23, 24, 25, 26, 9, 27, 28, 29, 30, 31, 32, 33, 34, 35, 36, 37, 38, 39, 40, 41, 42, 43, 44, 45, 46, 47, 48, 49, 50, 51, 52, 53, 54, 55, 56, 57, 58, 59, 60, 61, 62, 63, 64, 65, 66, 67, 68, 69, 70, 71, 72, 73, 74, 75, 76, 77, 78, 79, 80, 81, 82, 83, 84, 85, 86, 87, 88, 89, 140, 141, 142, 143, 144, 145, 146, 147, 148, 149, 150] (by first | rfl | decide +kernel) (by decide +kernel)
set_option maxRecDepth 20000 in
theorem gX4_readExpr_X4_advance : GoodIn wsX4_readExpr (wsV RX4 110 RX4 yX4_advance wsX4_advance) := goodIn_app (goodIn_of _ (by decide +kernel)) ggX4_readExpr_X4_advance
set_option maxRecDepth 20000 in
theorem ggX4_readExpr_X5_add : GoodIn wsX4_readExpr wsX5_add := goodIn_r _ [94, 95, 96, 151, 152] (by first | rfl | decide +kernel) (by decide +kernel)
set_option maxRecDepth 20000 in
theorem gX4_readExpr_X5_add : GoodIn wsX4_readExpr (wsV RX4 196 RX5 yX5_add wsX5_add) := goodIn_app (goodIn_of _ (by decide +kernel)) ggX4_readExpr_X5_add
set_option maxRecDepth 20000 in
theorem ggX4_readAnd_X4_readNot : GoodIn wsX4_readAnd wsX4_readNot := goodIn_r _ [102, 2, 103, 4, 9, 10, 11, 8, 12, 13, 14, 15, 16, 17, 18, 19, 20, 21, 22, 23, 24, 25, 26, 27, 28, 29, 30, 31, 32, 33, 34, 35, 36, 37, 38, 39, 40, 41, 42, 43, 44, 45, 46, 47, 48, 49, 50, 51, 52, 53, 54, 55, 56, 57, 58, 59, 60, 61, 62, 63, 64, 65, 66, 67, 68, 69, 70, 71, 72, 73, 74, 75, 76, 77, 78, 79, 80, 81, 82, 83, 84, 94, 95, 96, 97, 1, 98, 104, 105, 106, 85, 86, 87, 88, 89, 90, 91, 0, 3, 5, 6, 7, 92, 93, 99, 100, 101, 107, 108, 109, 110, 111, 112, 113, 114, 115, 116, 117, 118, 119, 120, 121, 122, 123, 124, 125, 126, 127, 128, 129, 130, 131, 132, 133, 134, 135, 136, 137, 138, 139, 140, 141, 142, 143, 144, 145, 146, 147, 148, 149, 150, 151, 152, 153, 154, 155, 156, 157, 158, 159, 160] (by first | rfl | decide +kernel) (by decide +kernel)
set_option maxRecDepth 20000 in
theorem gX4_readAnd_X4_readNot : GoodIn wsX4_readAnd (wsV RX4 199 RX4 yX4_readNot wsX4_readNot) := goodIn_app (goodIn_of _ (by decide +kernel)) ggX4_readAnd_X4_readNot
set_option maxRecDepth 20000 in
theorem ggX4_readAnd_X4_advance : GoodIn wsX4_readAnd wsX4_advance := goodIn_r _ [12, 13, 14, 2, 15, 16, 17, 18, 19, 20, 21, 8, 22, 23, 24, 25, 26, 27, 28, 29, 30, 31, 32, 33, 34, 35, 36, 37, 38, 39, 40, 41, 42, 43, 44, 45, 46, 47, 48, 49, 50, 51, 52, 53, 54, 55, 56, 57, 58, 59, 60, 61, 62, 63, 64, 65, 66, 67, 68, 69, 70, 71, 72, 73, 74, 75, 76, 77, 78, 79, 80, 81, 82, 83, 84, 140, 141, 142, 143, 144, 145, 146, 147, 148, 149, 150] (by first | rfl | decide +kernel) (by decide +kernel)
set_option maxRecDepth 20000 in
theorem gX4_readAnd_X4_advance : GoodIn wsX4_readAnd (wsV RX4 110 RX4 yX4_advance wsX4_advance) := goodIn_app (goodIn_of _ (by decide +kernel)) ggX4_readAnd_X4_advance
set_option maxRecDepth 20000 in
theorem ggX4_readAnd_X5_add : GoodIn wsX4_readAnd wsX5_add := goodIn_r _ [89, 90, 91, 151, 152] (by first | rfl | decide +kernel) (by decide +kernel)
set_option maxRecDepth 20000 in
theorem gX4_readAnd_X5_add : GoodIn wsX4_readAnd (wsV RX4 196 RX5 yX5_add wsX5_add) := goodIn_app (goodIn_of _ (by decide +kernel)) ggX4_readAnd_X5_add
set_option maxRecDepth 20000 in
theorem ggX4_readNot_X4_advance : GoodIn wsX4_readNot wsX4_advance := goodIn_r _ [8, 9, 10, 1, 11, 12, 13, 14, 15, 16, 17, 7, 18, 19, 20, 21, 22, 23, 24, 25, 26, 27, 28, 29, 30, 31, 32, 33, 34, 35, 36, 37, 38, 39, 40, 41, 42, 43, 44, 45, 46, 47, 48, 49, 50, 51, 52, 53, 54, 55, 56, 57, 58, 59, 60, 61, 62, 63, 64, 65, 66, 67, 68, 69, 70, 71, 72, 73, 74, 75, 76, 77, 78, 79, 80, 140, 141, 142, 143, 144, 145, 146, 147, 148, 149, 150] (by first | rfl | decide +kernel) (by decide +kernel)
set_option maxRecDepth 20000 in
theorem gX4_readNot_X4_advance : GoodIn wsX4_readNot (wsV RX4 110 RX4 yX4_advance wsX4_advance) := goodIn_app (goodIn_of _ (by decide +kernel)) ggX4_readNot_X4_advance
set_option maxRecDepth 20000 in
theorem ggX4_readNot_X4_refuse : GoodIn wsX4_readNot wsX4_refuse := goodIn_r _ [84, 85, 10, 86, 140, 141, 142, 143, 144, 145, 146, 147, 148, 149, 150] (by first | rfl | decide +kernel) (by decide +kernel)
set_option maxRecDepth 20000 in
theorem gX4_readNot_X4_refuse : GoodIn wsX4_readNot (wsV RX4 85 RX4 yX4_refuse wsX4_refuse) := goodIn_app (goodIn_of _ (by decide +kernel)) ggX4_readNot_X4_refuse
set_option maxRecDepth 20000 in
theorem ggX4_readNot_X4_readTest : GoodIn wsX4_readNot wsX4_readTest := goodIn_r _ [136, 85, 12, 3, 137, 138, 139, 7, 4, 5, 6, 8, 9, 10, 1, 11, 13, 14, 15, 16, 17, 18, 19, 20, 21, 22, 23, 24, 25, 26, 27, 28, 29, 30, 31, 32, 33, 34, 35, 36, 37, 38, 39, 40, 41, 42, 43, 44, 45, 46, 47, 48, 49, 50, 51, 52, 53, 54, 55, 56, 57, 58, 59, 60, 61, 62, 63, 64, 65, 66, 67, 68, 69, 70, 71, 72, 73, 74, 75, 76, 77, 78, 79, 80, 90, 91, 92, 93, 94, 95, 96, 97, 98, 99, 100, 101, 102, 103, 81, 82, 83, 84, 86, 104, 105, 106, 0, 2, 87, 88, 89, 107, 108, 109, 110, 111, 112, 113, 114, 115, 116, 117, 118, 119, 120, 121, 122, 123, 124, 125, 126, 127, 128, 129, 130, 131, 132, 133, 134, 135, 140, 141, 142, 143, 144, 145, 146, 147, 148, 149, 150, 151, 152, 153, 154, 155, 156, 157, 158, 159, 160] (by first | rfl | decide +kernel) (by decide +kernel)
set_option maxRecDepth 20000 in
theorem gX4_readNot_X4_readTest : GoodIn wsX4_readNot (wsV RX4 208 RX4 yX4_readTest wsX4_readTest) := goodIn_app (goodIn_of _ (by decide +kernel)) ggX4_readNot_X4_readTest
set_option maxRecDepth 20000 in
theorem ggX4_readNot_X5_add : GoodIn wsX4_readNot wsX5_add := goodIn_r _ [94, 95, 96, 151, 152] (by first | rfl | decide +kernel) (by decide +kernel)
set_option maxRecDepth 20000 in
theorem gX4_readNot_X5_add : GoodIn wsX4_readNot (wsV RX4 196 RX5 yX5_add wsX5_add) := goodIn_app (goodIn_of _ (by decide +kernel)) ggX4_readNot_X5_add
set_option maxRecDepth 20000 in
theorem ggX4_readTest_X4_readSum : GoodIn wsX4_readTest wsX4_readSum := goodIn_r _ [136, 1, 2, 3, 137, 138, 139, 7, 8, 9, 10, 11, 12, 13, 14, 15, 16, 17, 18, 19, 20, 21, 22, 23, 24, 25, 26, 27, 28, 29, 30, 31, 32, 33, 34, 35, 36, 37, 38, 39, 40, 41, 42, 43, 44, 45, 46, 47, 48, 49, 50, 51, 52, 53, 54, 55, 56, 57, 58, 59, 60, 61, 62, 63, 64, 65, 66, 67, 68, 69, 70, 71, 72, 73, 74, 75, 76, 77, 78, 79, 80, 81, 82, 83, 84, 85, 86, 87, 88, 89, 90, 91, 92, 93, 94, 95, 96, 97, 98, 99, 100, 101, 102, 103, 104, 105, 106, 107, 108, 109, 110, 111, 112, 113, 114, 115, 116, 117, 118, 119, 120, 121, 122, 123, 124, 125, 126, 127, 128, 129, 130, 131, 132, 133, 134, 135, 0, 4, 5, 6, 140, 141, 142, 143, 144, 145, 146, 147, 148, 149, 150, 151, 152, 153, 154, 155, 156, 157, 158, 159, 160] (by first | rfl | decide +kernel) (by decide +kernel)
set_option maxRecDepth 20000 in
theorem gX4_readTest_X4_readSum : GoodIn wsX4_readTest (wsV RX4 211 RX4 yX4_readSum wsX4_readSum) := goodIn_app (goodIn_of _ (by decide +kernel)) ggX4_readTest_X4_readSum
set_option maxRecDepth 20000 in
theorem ggX4_readTest_X4_advance : GoodIn wsX4_readTest wsX4_advance := goodIn_r _ [11, 12, 13, 14, 15, 2, 16, 17, 18, 19, 20, 7, 21, 22, 23, 24, 25, 26, 27, 28, 29, 30, 31, 32, 33, 34, 35, 36, 37, 38, 39, 40, 41, 42, 43, 44, 45, 46, 47, 48, 49, 50, 51, 52, 53, 54, 55, 56, 57, 58, 59, 60, 61, 62, 63, 64, 65, 66, 67, 68, 69, 70, 71, 72, 73, 74, 75, 76, 77, 78, 79, 80, 81, 82, 83, 140, 141, 142, 143, 144, 145, 146, 147, 148, 149, 150] (by first | rfl | decide +kernel) (by decide +kernel)
set_option maxRecDepth 20000 in
theorem gX4_readTest_X4_advance : GoodIn wsX4_readTest (wsV RX4 110 RX4 yX4_advance wsX4_advance) := goodIn_app (goodIn_of _ (by decide +kernel)) ggX4_readTest_X4_advance
set_option maxRecDepth 20000 in
theorem ggX4_readTest_X5_add : GoodIn wsX4_readTest wsX5_add := goodIn_r _ [88, 89, 90, 151, 152] (by first | rfl | decide +kernel) (by decide +kernel)
set_option maxRecDepth 20000 in
theorem gX4_readTest_X5_add : GoodIn wsX4_readTest (wsV RX4 196 RX5 yX5_add wsX5_add) := goodIn_app (goodIn_of _ (by decide +kernel)) ggX4_readTest_X5_add
set_option maxRecDepth 20000 in
theorem ggX4_readSum_X4_readProduct : GoodIn wsX4_readSum wsX4_readProduct := goodIn_r _ [132, 1, 2, 3, 133, 134, 135, 7, 8, 9, 10, 11, 12, 13, 14, 15, 16, 17, 18, 19, 20, 21, 22, 23, 24, 25, 26, 27, 28, 29, 30, 31, 32, 33, 34, 35, 36, 37, 38, 39, 40, 41, 42, 43, 44, 45, 46, 47, 48, 49, 50, 51, 52, 53, 54, 55, 56, 57, 58, 59, 60, 61, 62, 63, 64, 65, 66, 67, 68, 69, 70, 71, 72, 73, 74, 75, 76, 77, 78, 79, 80, 81, 82, 83, 84, 85, 86, 87, 88, 89, 90, 91, 92, 93, 94, 95, 96, 97, 98, 99, 100, 101, 102, 103, 104, 105, 106, 107, 108, 109, 110, 111, 112, 113, 114, 115, 116, 117, 118, 119, 120, 121, 122, 123, 124, 125, 126, 127, 128, 129, 130, 131, 0, 4, 5, 6, 136, 137, 138, 139, 140, 141, 142, 143, 144, 145, 146, 147, 148, 149, 150, 151, 152, 153, 154, 155, 156, 157, 158, 159, 160] (by first | rfl | decide +kernel) (by decide +kernel)
set_option maxRecDepth 20000 in
theorem gX4_readSum_X4_readProduct : GoodIn wsX4_readSum (wsV RX4 214 RX4 yX4_readProduct wsX4_readProduct) := goodIn_app (goodIn_of _ (by decide +kernel)) ggX4_readSum_X4_readProduct
set_option maxRecDepth 20000 in
theorem ggX4_readSum_X4_advance : GoodIn wsX4_readSum wsX4_advance := goodIn_r _ [11, 12, 13, 14, 15, 2, 16, 17, 18, 19, 20, 7, 21, 22, 23, 24, 25, 26, 27, 28, 29, 30, 31, 32, 33, 34, 35, 36, 37, 38, 39, 40, 41, 42, 43, 44, 45, 46, 47, 48, 49, 50, 51, 52, 53, 54, 55, 56, 57, 58, 59, 60, 61, 62, 63, 64, 65, 66, 67, 68, 69, 70, 71, 72, 73, 74, 75, 76, 77, 78, 79, 80, 81, 82, 83, 140, 141, 142, 143, 144, 145, 146, 147, 148, 149, 150] (by first | rfl | decide +kernel) (by decide +kernel)
set_option maxRecDepth 20000 in
theorem gX4_readSum_X4_advance : GoodIn wsX4_readSum (wsV RX4 110 RX4 yX4_advance wsX4_advance) := goodIn_app (goodIn_of _ (by decide +kernel)) ggX4_readSum_X4_advance
set_option maxRecDepth 20000 in
theorem ggX4_readSum_X5_add : GoodIn wsX4_readSum wsX5_add := goodIn_r _ [88, 89, 90, 151, 152] (by first | rfl | decide +kernel) (by decide +kernel)
set_option maxRecDepth 20000 in
theorem gX4_readSum_X5_add : GoodIn wsX4_readSum (wsV RX4 196 RX5 yX5_add wsX5_add) := goodIn_app (goodIn_of _ (by decide +kernel)) ggX4_readSum_X5_add
set_option maxRecDepth 20000 in
theorem ggX4_readProduct_X4_readPart : GoodIn wsX4_readProduct wsX4_readPart := goodIn_r _ [111, 2, 3, 8, 9, 10, 7, 11, 12, 13, 14, 15, 16, 17, 18, 19, 20, 21, 22, 23, 24, 25, 26, 27, 28, 29, 30, 31, 32, 33, 34, 35, 36, 37, 38, 39, 40, 41, 42, 43, 44, 45, 46, 47, 48, 49, 50, 51, 52, 53, 54, 55, 56, 57, 58, 59, 60, 61, 62, 63, 64, 65, 66, 67, 68, 69, 70, 71, 72, 73, 74, 75, 76, 77, 78, 79, 80, 81, 82, 83, 112, 113, 114, 115, 116, 117, 118, 1, 98, 99, 100, 101, 102, 119, 120, 121, 122, 123, 124, 125, 126, 127, 84, 85, 86, 87, 88, 89, 90, 128, 129, 130, 131, 91, 92, 93, 94, 95, 96, 97, 103, 104, 105, 106, 107, 108, 109, 110, 0, 4, 5, 6, 132, 133, 134, 135, 136, 137, 138, 139, 140, 141, 142, 143, 144, 145, 146, 147, 148, 149, 150, 151, 152, 153, 154, 155, 156, 157, 158, 159, 160] (by first | rfl | decide +kernel) (by decide +kernel)
set_option maxRecDepth 20000 in
theorem gX4_readProduct_X4_readPart : GoodIn wsX4_readProduct (wsV RX4 217 RX4 yX4_readPart wsX4_readPart) := goodIn_app (goodIn_of _ (by decide +kernel)) ggX4_readProduct_X4_readPart
set_option maxRecDepth 20000 in
theorem ggX4_readProduct_X4_advance : GoodIn wsX4_readProduct wsX4_advance := goodIn_r _ [11, 12, 13, 14, 15, 2, 16, 17, 18, 19, 20, 7, 21, 22, 23, 24, 25, 26, 27, 28, 29, 30, 31, 32, 33, 34, 35, 36, 37, 38, 39, 40, 41, 42, 43, 44, 45, 46, 47, 48, 49, 50, 51, 52, 53, 54, 55, 56, 57, 58, 59, 60, 61, 62, 63, 64, 65, 66, 67, 68, 69, 70, 71, 72, 73, 74, 75, 76, 77, 78, 79, 80, 81, 82, 83, 140, 141, 142, 143, 144, 145, 146, 147, 148, 149, 150] (by first | rfl | decide +kernel) (by decide +kernel)
set_option maxRecDepth 20000 in
theorem gX4_readProduct_X4_advance : GoodIn wsX4_readProduct (wsV RX4 110 RX4 yX4_advance wsX4_advance) := goodIn_app (goodIn_of _ (by decide +kernel)) ggX4_readProduct_X4_advance
set_option maxRecDepth 20000 in
theorem ggX4_readProduct_X5_add : GoodIn wsX4_readProduct wsX5_add := goodIn_r _ [88, 89, 90, 151, 152] (by first | rfl | decide +kernel) (by decide +kernel)
set_option maxRecDepth 20000 in
theorem gX4_readProduct_X5_add : GoodIn wsX4_readProduct (wsV RX4 196 RX5 yX5_add wsX5_add) := goodIn_app (goodIn_of _ (by decide +kernel)) ggX4_readProduct_X5_add
set_option maxRecDepth 20000 in
theorem ggX4_readPart_X4_advance : GoodIn wsX4_readPart wsX4_advance := goodIn_r _ [7, 8, 9, 10, 11, 1, 12, 13, 14, 15, 16, 6, 17, 18, 19, 20, 21, 22, 23, 24, 25, 26, 27, 28, 29, 30, 31, 32, 33, 34, 35, 36, 37, 38, 39, 40, 41, 42, 43, 44, 45, 46, 47, 48, 49, 50, 51, 52, 53, 54, 55, 56, 57, 58, 59, 60, 61, 62, 63, 64, 65, 66, 67, 68, 69, 70, 71, 72, 73, 74, 75, 76, 77, 78, 79, 140, 141, 142, 143, 144, 145, 146, 147, 148, 149, 150] (by first | rfl | decide +kernel) (by decide +kernel)
set_option maxRecDepth 20000 in
theorem gX4_readPart_X4_advance : GoodIn wsX4_readPart (wsV RX4 110 RX4 yX4_advance wsX4_advance) := goodIn_app (goodIn_of _ (by decide +kernel)) ggX4_readPart_X4_advance
set_option maxRecDepth 20000 in
theorem ggX4_readPart_X4_readExpr : GoodIn wsX4_readPart wsX4_readExpr := goodIn_r _ [118, 1, 87, 10, 119, 2, 88, 89, 90, 6, 91, 9, 92, 120, 121, 122, 3, 4, 5, 7, 8, 11, 12, 13, 14, 15, 16, 17, 18, 19, 20, 21, 22, 23, 24, 25, 26, 27, 28, 29, 30, 31, 32, 33, 34, 35, 36, 37, 38, 39, 40, 41, 42, 43, 44, 45, 46, 47, 48, 49, 50, 51, 52, 53, 54, 55, 56, 57, 58, 59, 60, 61, 62, 63, 64, 65, 66, 67, 68, 69, 70, 71, 72, 73, 74, 75, 76, 77, 78, 79, 102, 103, 104, 105, 106, 107, 108, 113, 114, 115, 116, 117, 123, 124, 125, 126, 127, 0, 80, 81, 82, 83, 84, 85, 86, 93, 94, 95, 96, 97, 98, 99, 100, 101, 109, 110, 111, 112, 128, 129, 130, 131, 132, 133, 134, 135, 136, 137, 138, 139, 140, 141, 142, 143, 144, 145, 146, 147, 148, 149, 150, 151, 152, 153, 154, 155, 156, 157, 158, 159, 160] (by first | rfl | decide +kernel) (by decide +kernel)
set_option maxRecDepth 20000 in
theorem gX4_readPart_X4_readExpr : GoodIn wsX4_readPart (wsV RX4 187 RX4 yX4_readExpr wsX4_readExpr) := goodIn_app (goodIn_of _ (by decide +kernel)) ggX4_readPart_X4_readExpr
set_option maxRecDepth 20000 in
theorem ggX4_readPart_X4_skip : GoodIn wsX4_readPart wsX4_skip := goodIn_r _ [86, 1, 87, 88, 89, 90, 6, 91, 9, 92, 3, 4, 5, 7, 8, 10, 11, 12, 13, 14, 15, 16, 17, 18, 19, 20, 21, 22, 23, 24, 25, 26, 27, 28, 29, 30, 31, 32, 33, 34, 35, 36, 37, 38, 39, 40, 41, 42, 43, 44, 45, 46, 47, 48, 49, 50, 51, 52, 53, 54, 55, 56, 57, 58, 59, 60, 61, 62, 63, 64, 65, 66, 67, 68, 69, 70, 71, 72, 73, 74, 75, 76, 77, 78, 79, 140, 141, 142, 143, 144, 145, 146, 147, 148, 149, 150] (by first | rfl | decide +kernel) (by decide +kernel)
set_option maxRecDepth 20000 in
theorem gX4_readPart_X4_skip : GoodIn wsX4_readPart (wsV RX4 88 RX4 yX4_skip wsX4_skip) := goodIn_app (goodIn_of _ (by decide +kernel)) ggX4_readPart_X4_skip
set_option maxRecDepth 20000 in
theorem ggX4_readPart_X4_readValue : GoodIn wsX4_readPart wsX4_readValue := goodIn_r _ [96, 10, 2, 97, 98, 99, 100, 101, 88, 89, 90, 6, 91, 87, 9, 92, 102, 103, 104, 105, 106, 107, 108, 3, 4, 5, 7, 8, 11, 1, 12, 13, 14, 15, 16, 17, 18, 19, 20, 21, 22, 23, 24, 25, 26, 27, 28, 29, 30, 31, 32, 33, 34, 35, 36, 37, 38, 39, 40, 41, 42, 43, 44, 45, 46, 47, 48, 49, 50, 51, 52, 53, 54, 55, 56, 57, 58, 59, 60, 61, 62, 63, 64, 65, 66, 67, 68, 69, 70, 71, 72, 73, 74, 75, 76, 77, 78, 79, 140, 141, 142, 143, 144, 145, 146, 147, 148, 149, 150, 153, 154, 155, 156, 157, 158, 159, 160, 151, 152] (by first | rfl | decide +kernel) (by decide +kernel)
set_option maxRecDepth 20000 in
theorem gX4_readPart_X4_readValue : GoodIn wsX4_readPart (wsV RX4 220 RX4 yX4_readValue wsX4_readValue) := goodIn_app (goodIn_of _ (by decide +kernel)) ggX4_readPart_X4_readValue
set_option maxRecDepth 20000 in
theorem ggX4_readPart_X4_takeNumber : GoodIn wsX4_readPart wsX4_takeNumber := goodIn_r _ [112, 13, 1, 87, 88, 89, 90, 6, 91, 9, 92, 3, 4, 5, 7, 8, 10, 11, 12, 14, 15, 16, 17, 18, 19, 20, 21, 22, 23, 24, 25, 26, 27, 28, 29, 30, 31, 32, 33, 34, 35, 36, 37, 38, 39, 40, 41, 42, 43, 44, 45, 46, 47, 48, 49, 50, 51, 52, 53, 54, 55, 56, 57, 58, 59, 60, 61, 62, 63, 64, 65, 66, 67, 68, 69, 70, 71, 72, 73, 74, 75, 76, 77, 78, 79, 140, 141, 142, 143, 144, 145, 146, 147, 148, 149, 150] (by first | rfl | decide +kernel) (by decide +kernel)
set_option maxRecDepth 20000 in
theorem gX4_readPart_X4_takeNumber : GoodIn wsX4_readPart (wsV RX4 127 RX4 yX4_takeNumber wsX4_takeNumber) := goodIn_app (goodIn_of _ (by decide +kernel)) ggX4_readPart_X4_takeNumber
set_option maxRecDepth 20000 in
theorem ggX4_readPart_X5_add : GoodIn wsX4_readPart wsX5_add := goodIn_r _ [106, 107, 108, 151, 152] (by first | rfl | decide +kernel) (by decide +kernel)
set_option maxRecDepth 20000 in
theorem gX4_readPart_X5_add : GoodIn wsX4_readPart (wsV RX4 196 RX5 yX5_add wsX5_add) := goodIn_app (goodIn_of _ (by decide +kernel)) ggX4_readPart_X5_add
set_option maxRecDepth 20000 in
theorem ggX4_readValue_X4_refuse : GoodIn wsX4_readValue wsX4_refuse := goodIn_r _ [12, 13, 14, 15, 98, 99, 100, 101, 102, 103, 104, 105, 106, 107, 108] (by first | rfl | decide +kernel) (by decide +kernel)
set_option maxRecDepth 20000 in
theorem gX4_readValue_X4_refuse : GoodIn wsX4_readValue (wsV RX4 85 RX4 yX4_refuse wsX4_refuse) := goodIn_app (goodIn_of _ (by decide +kernel)) ggX4_readValue_X4_refuse
set_option maxRecDepth 20000 in
theorem ggX4_readValue_X5_add : GoodIn wsX4_readValue wsX5_add := goodIn_r _ [20, 21, 22, 117, 118] (by first | rfl | decide +kernel) (by decide +kernel)
set_option maxRecDepth 20000 in
theorem gX4_readValue_X5_add : GoodIn wsX4_readValue (wsV RX4 196 RX5 yX5_add wsX5_add) := goodIn_app (goodIn_of _ (by decide +kernel)) ggX4_readValue_X5_add
set_option maxRecDepth 20000 in
theorem ggX4_readValue_X4_advance : GoodIn wsX4_readValue wsX4_advance := goodIn_r _ [26, 27, 14, 1, 28, 29, 30, 31, 32, 33, 34, 11, 35, 36, 37, 38, 39, 40, 41, 42, 43, 44, 45, 46, 47, 48, 49, 50, 51, 52, 53, 54, 55, 56, 57, 58, 59, 60, 61, 62, 63, 64, 65, 66, 67, 68, 69, 70, 71, 72, 73, 74, 75, 76, 77, 78, 79, 80, 81, 82, 83, 84, 85, 86, 87, 88, 89, 90, 91, 92, 93, 94, 95, 96, 97, 98, 99, 100, 101, 102, 103, 104, 105, 106, 107, 108] (by first | rfl | decide +kernel) (by decide +kernel)
set_option maxRecDepth 20000 in
theorem gX4_readValue_X4_advance : GoodIn wsX4_readValue (wsV RX4 110 RX4 yX4_advance wsX4_advance) := goodIn_app (goodIn_of _ (by decide +kernel)) ggX4_readValue_X4_advance
