theorem bh00_0 : (((decode cL_tower 0 = .ok (.aload_n 2, 1) ∧ decode cL_tower 1 = .ok (.iconst 0, 1)) ∧ (decode cL_tower 2 = .ok (.aload_n 0, 1) ∧ decode cL_tower 3 = .ok (.iload_n 1, 1))) ∧ ((decode cL_tower 4 = .ok (.invokevirtual 7, 3) ∧ decode cL_tower 7 = .ok (.i2l, 1)) ∧ (decode cL_tower 8 = .ok (.lastore, 1)))) ∧ (((decode cL_tower 9 = .ok (.goto 6, 3) ∧ decode cL_tower 12 = .ok (.astore_n 3, 1)) ∧ (decode cL_tower 13 = .ok (.iconst 1, 1))) ∧ ((decode cL_tower 14 = .ok (.ireturn, 1) ∧ decode cL_tower 15 = .ok (.iconst 0, 1)) ∧ (decode cL_tower 16 = .ok (.ireturn, 1)))) := by decide +kernel
theorem dL_tower_0 : decode cL_tower 0 = .ok (.aload_n 2, 1) := bh00_0.1.1.1.1
theorem dL_tower_1 : decode cL_tower 1 = .ok (.iconst 0, 1) := bh00_0.1.1.1.2
theorem dL_tower_2 : decode cL_tower 2 = .ok (.aload_n 0, 1) := bh00_0.1.1.2.1
theorem dL_tower_3 : decode cL_tower 3 = .ok (.iload_n 1, 1) := bh00_0.1.1.2.2
theorem dL_tower_4 : decode cL_tower 4 = .ok (.invokevirtual 7, 3) := bh00_0.1.2.1.1
theorem dL_tower_7 : decode cL_tower 7 = .ok (.i2l, 1) := bh00_0.1.2.1.2
theorem dL_tower_8 : decode cL_tower 8 = .ok (.lastore, 1) := bh00_0.1.2.2
theorem dL_tower_9 : decode cL_tower 9 = .ok (.goto 6, 3) := bh00_0.2.1.1.1
theorem dL_tower_12 : decode cL_tower 12 = .ok (.astore_n 3, 1) := bh00_0.2.1.1.2
theorem dL_tower_13 : decode cL_tower 13 = .ok (.iconst 1, 1) := bh00_0.2.1.2
theorem dL_tower_14 : decode cL_tower 14 = .ok (.ireturn, 1) := bh00_0.2.2.1.1
theorem dL_tower_15 : decode cL_tower 15 = .ok (.iconst 0, 1) := bh00_0.2.2.1.2
theorem dL_tower_16 : decode cL_tower 16 = .ok (.ireturn, 1) := bh00_0.2.2.2
theorem bh00_1 : (((decode cL_count 0 = .ok (.aload_n 2, 1) ∧ decode cL_count 1 = .ok (.iconst 0, 1)) ∧ (decode cL_count 2 = .ok (.aload_n 0, 1) ∧ decode cL_count 3 = .ok (.iload_n 1, 1))) ∧ ((decode cL_count 4 = .ok (.invokevirtual 15, 3) ∧ decode cL_count 7 = .ok (.i2l, 1)) ∧ (decode cL_count 8 = .ok (.lastore, 1)))) ∧ (((decode cL_count 9 = .ok (.goto 6, 3) ∧ decode cL_count 12 = .ok (.astore_n 3, 1)) ∧ (decode cL_count 13 = .ok (.iconst 1, 1))) ∧ ((decode cL_count 14 = .ok (.ireturn, 1) ∧ decode cL_count 15 = .ok (.iconst 0, 1)) ∧ (decode cL_count 16 = .ok (.ireturn, 1)))) := by decide +kernel
theorem dL_count_0 : decode cL_count 0 = .ok (.aload_n 2, 1) := bh00_1.1.1.1.1
theorem dL_count_1 : decode cL_count 1 = .ok (.iconst 0, 1) := bh00_1.1.1.1.2
theorem dL_count_2 : decode cL_count 2 = .ok (.aload_n 0, 1) := bh00_1.1.1.2.1
theorem dL_count_3 : decode cL_count 3 = .ok (.iload_n 1, 1) := bh00_1.1.1.2.2
theorem dL_count_4 : decode cL_count 4 = .ok (.invokevirtual 15, 3) := bh00_1.1.2.1.1
theorem dL_count_7 : decode cL_count 7 = .ok (.i2l, 1) := bh00_1.1.2.1.2
theorem dL_count_8 : decode cL_count 8 = .ok (.lastore, 1) := bh00_1.1.2.2
theorem dL_count_9 : decode cL_count 9 = .ok (.goto 6, 3) := bh00_1.2.1.1.1
theorem dL_count_12 : decode cL_count 12 = .ok (.astore_n 3, 1) := bh00_1.2.1.1.2
theorem dL_count_13 : decode cL_count 13 = .ok (.iconst 1, 1) := bh00_1.2.1.2
theorem dL_count_14 : decode cL_count 14 = .ok (.ireturn, 1) := bh00_1.2.2.1.1
theorem dL_count_15 : decode cL_count 15 = .ok (.iconst 0, 1) := bh00_1.2.2.1.2
theorem dL_count_16 : decode cL_count 16 = .ok (.ireturn, 1) := bh00_1.2.2.2
theorem bh00_2 : (((decode cL_gargoyle 0 = .ok (.aload_n 3, 1) ∧ decode cL_gargoyle 1 = .ok (.iconst 0, 1)) ∧ (decode cL_gargoyle 2 = .ok (.aload_n 0, 1) ∧ decode cL_gargoyle 3 = .ok (.iload_n 1, 1))) ∧ ((decode cL_gargoyle 4 = .ok (.iload_n 2, 1) ∧ decode cL_gargoyle 5 = .ok (.invokevirtual 20, 3)) ∧ (decode cL_gargoyle 8 = .ok (.i2l, 1)))) ∧ (((decode cL_gargoyle 9 = .ok (.lastore, 1) ∧ decode cL_gargoyle 10 = .ok (.goto 7, 3)) ∧ (decode cL_gargoyle 13 = .ok (.astore 4, 2) ∧ decode cL_gargoyle 15 = .ok (.iconst 1, 1))) ∧ ((decode cL_gargoyle 16 = .ok (.ireturn, 1) ∧ decode cL_gargoyle 17 = .ok (.iconst 0, 1)) ∧ (decode cL_gargoyle 18 = .ok (.ireturn, 1)))) := by decide +kernel
theorem dL_gargoyle_0 : decode cL_gargoyle 0 = .ok (.aload_n 3, 1) := bh00_2.1.1.1.1
theorem dL_gargoyle_1 : decode cL_gargoyle 1 = .ok (.iconst 0, 1) := bh00_2.1.1.1.2
theorem dL_gargoyle_2 : decode cL_gargoyle 2 = .ok (.aload_n 0, 1) := bh00_2.1.1.2.1
theorem dL_gargoyle_3 : decode cL_gargoyle 3 = .ok (.iload_n 1, 1) := bh00_2.1.1.2.2
theorem dL_gargoyle_4 : decode cL_gargoyle 4 = .ok (.iload_n 2, 1) := bh00_2.1.2.1.1
theorem dL_gargoyle_5 : decode cL_gargoyle 5 = .ok (.invokevirtual 20, 3) := bh00_2.1.2.1.2
theorem dL_gargoyle_8 : decode cL_gargoyle 8 = .ok (.i2l, 1) := bh00_2.1.2.2
theorem dL_gargoyle_9 : decode cL_gargoyle 9 = .ok (.lastore, 1) := bh00_2.2.1.1.1
theorem dL_gargoyle_10 : decode cL_gargoyle 10 = .ok (.goto 7, 3) := bh00_2.2.1.1.2
theorem dL_gargoyle_13 : decode cL_gargoyle 13 = .ok (.astore 4, 2) := bh00_2.2.1.2.1
theorem dL_gargoyle_15 : decode cL_gargoyle 15 = .ok (.iconst 1, 1) := bh00_2.2.1.2.2
theorem dL_gargoyle_16 : decode cL_gargoyle 16 = .ok (.ireturn, 1) := bh00_2.2.2.1.1
theorem dL_gargoyle_17 : decode cL_gargoyle 17 = .ok (.iconst 0, 1) := bh00_2.2.2.1.2
theorem dL_gargoyle_18 : decode cL_gargoyle 18 = .ok (.ireturn, 1) := bh00_2.2.2.2
theorem bh00_3 : (((decode cL_person 0 = .ok (.aload_n 3, 1) ∧ decode cL_person 1 = .ok (.iconst 0, 1)) ∧ (decode cL_person 2 = .ok (.aload_n 0, 1) ∧ decode cL_person 3 = .ok (.iload_n 1, 1))) ∧ ((decode cL_person 4 = .ok (.iload_n 2, 1) ∧ decode cL_person 5 = .ok (.invokevirtual 24, 3)) ∧ (decode cL_person 8 = .ok (.i2l, 1)))) ∧ (((decode cL_person 9 = .ok (.lastore, 1) ∧ decode cL_person 10 = .ok (.goto 7, 3)) ∧ (decode cL_person 13 = .ok (.astore 4, 2) ∧ decode cL_person 15 = .ok (.iconst 1, 1))) ∧ ((decode cL_person 16 = .ok (.ireturn, 1) ∧ decode cL_person 17 = .ok (.iconst 0, 1)) ∧ (decode cL_person 18 = .ok (.ireturn, 1)))) := by decide +kernel
theorem dL_person_0 : decode cL_person 0 = .ok (.aload_n 3, 1) := bh00_3.1.1.1.1
theorem dL_person_1 : decode cL_person 1 = .ok (.iconst 0, 1) := bh00_3.1.1.1.2
theorem dL_person_2 : decode cL_person 2 = .ok (.aload_n 0, 1) := bh00_3.1.1.2.1
theorem dL_person_3 : decode cL_person 3 = .ok (.iload_n 1, 1) := bh00_3.1.1.2.2
theorem dL_person_4 : decode cL_person 4 = .ok (.iload_n 2, 1) := bh00_3.1.2.1.1
theorem dL_person_5 : decode cL_person 5 = .ok (.invokevirtual 24, 3) := bh00_3.1.2.1.2
theorem dL_person_8 : decode cL_person 8 = .ok (.i2l, 1) := bh00_3.1.2.2
theorem dL_person_9 : decode cL_person 9 = .ok (.lastore, 1) := bh00_3.2.1.1.1
theorem dL_person_10 : decode cL_person 10 = .ok (.goto 7, 3) := bh00_3.2.1.1.2
theorem dL_person_13 : decode cL_person 13 = .ok (.astore 4, 2) := bh00_3.2.1.2.1
theorem dL_person_15 : decode cL_person 15 = .ok (.iconst 1, 1) := bh00_3.2.1.2.2
theorem dL_person_16 : decode cL_person 16 = .ok (.ireturn, 1) := bh00_3.2.2.1.1
theorem dL_person_17 : decode cL_person 17 = .ok (.iconst 0, 1) := bh00_3.2.2.1.2
theorem dL_person_18 : decode cL_person 18 = .ok (.ireturn, 1) := bh00_3.2.2.2
theorem bh00_4 : (((decode cL_cut 0 = .ok (.aload 4, 2) ∧ decode cL_cut 2 = .ok (.iconst 0, 1)) ∧ (decode cL_cut 3 = .ok (.aload_n 0, 1) ∧ decode cL_cut 4 = .ok (.iload_n 1, 1))) ∧ ((decode cL_cut 5 = .ok (.iload_n 2, 1) ∧ decode cL_cut 6 = .ok (.iload_n 3, 1)) ∧ (decode cL_cut 7 = .ok (.invokevirtual 27, 3) ∧ decode cL_cut 10 = .ok (.i2l, 1)))) ∧ (((decode cL_cut 11 = .ok (.lastore, 1) ∧ decode cL_cut 12 = .ok (.goto 7, 3)) ∧ (decode cL_cut 15 = .ok (.astore 5, 2) ∧ decode cL_cut 17 = .ok (.iconst 1, 1))) ∧ ((decode cL_cut 18 = .ok (.ireturn, 1) ∧ decode cL_cut 19 = .ok (.iconst 0, 1)) ∧ (decode cL_cut 20 = .ok (.ireturn, 1)))) := by decide +kernel
theorem dL_cut_0 : decode cL_cut 0 = .ok (.aload 4, 2) := bh00_4.1.1.1.1
theorem dL_cut_2 : decode cL_cut 2 = .ok (.iconst 0, 1) := bh00_4.1.1.1.2
theorem dL_cut_3 : decode cL_cut 3 = .ok (.aload_n 0, 1) := bh00_4.1.1.2.1
theorem dL_cut_4 : decode cL_cut 4 = .ok (.iload_n 1, 1) := bh00_4.1.1.2.2
theorem dL_cut_5 : decode cL_cut 5 = .ok (.iload_n 2, 1) := bh00_4.1.2.1.1
theorem dL_cut_6 : decode cL_cut 6 = .ok (.iload_n 3, 1) := bh00_4.1.2.1.2
theorem dL_cut_7 : decode cL_cut 7 = .ok (.invokevirtual 27, 3) := bh00_4.1.2.2.1
theorem dL_cut_10 : decode cL_cut 10 = .ok (.i2l, 1) := bh00_4.1.2.2.2
theorem dL_cut_11 : decode cL_cut 11 = .ok (.lastore, 1) := bh00_4.2.1.1.1
theorem dL_cut_12 : decode cL_cut 12 = .ok (.goto 7, 3) := bh00_4.2.1.1.2
theorem dL_cut_15 : decode cL_cut 15 = .ok (.astore 5, 2) := bh00_4.2.1.2.1
theorem dL_cut_17 : decode cL_cut 17 = .ok (.iconst 1, 1) := bh00_4.2.1.2.2
theorem dL_cut_18 : decode cL_cut 18 = .ok (.ireturn, 1) := bh00_4.2.2.1.1
theorem dL_cut_19 : decode cL_cut 19 = .ok (.iconst 0, 1) := bh00_4.2.2.1.2
theorem dL_cut_20 : decode cL_cut 20 = .ok (.ireturn, 1) := bh00_4.2.2.2
theorem bh00_5 : (((decode cL_call 0 = .ok (.aload_n 2, 1) ∧ decode cL_call 1 = .ok (.iconst 0, 1)) ∧ (decode cL_call 2 = .ok (.aload_n 0, 1) ∧ decode cL_call 3 = .ok (.iload_n 1, 1))) ∧ ((decode cL_call 4 = .ok (.invokevirtual 31, 3) ∧ decode cL_call 7 = .ok (.i2l, 1)) ∧ (decode cL_call 8 = .ok (.lastore, 1)))) ∧ (((decode cL_call 9 = .ok (.goto 6, 3) ∧ decode cL_call 12 = .ok (.astore_n 3, 1)) ∧ (decode cL_call 13 = .ok (.iconst 1, 1))) ∧ ((decode cL_call 14 = .ok (.ireturn, 1) ∧ decode cL_call 15 = .ok (.iconst 0, 1)) ∧ (decode cL_call 16 = .ok (.ireturn, 1)))) := by decide +kernel
theorem dL_call_0 : decode cL_call 0 = .ok (.aload_n 2, 1) := bh00_5.1.1.1.1
theorem dL_call_1 : decode cL_call 1 = .ok (.iconst 0, 1) := bh00_5.1.1.1.2
theorem dL_call_2 : decode cL_call 2 = .ok (.aload_n 0, 1) := bh00_5.1.1.2.1
theorem dL_call_3 : decode cL_call 3 = .ok (.iload_n 1, 1) := bh00_5.1.1.2.2
theorem dL_call_4 : decode cL_call 4 = .ok (.invokevirtual 31, 3) := bh00_5.1.2.1.1
theorem dL_call_7 : decode cL_call 7 = .ok (.i2l, 1) := bh00_5.1.2.1.2
theorem dL_call_8 : decode cL_call 8 = .ok (.lastore, 1) := bh00_5.1.2.2
theorem dL_call_9 : decode cL_call 9 = .ok (.goto 6, 3) := bh00_5.2.1.1.1
theorem dL_call_12 : decode cL_call 12 = .ok (.astore_n 3, 1) := bh00_5.2.1.1.2
theorem dL_call_13 : decode cL_call 13 = .ok (.iconst 1, 1) := bh00_5.2.1.2
theorem dL_call_14 : decode cL_call 14 = .ok (.ireturn, 1) := bh00_5.2.2.1.1
theorem dL_call_15 : decode cL_call 15 = .ok (.iconst 0, 1) := bh00_5.2.2.1.2
theorem dL_call_16 : decode cL_call 16 = .ok (.ireturn, 1) := bh00_5.2.2.2
theorem bh00_6 : (((decode cL_lift 0 = .ok (.aload_n 3, 1) ∧ decode cL_lift 1 = .ok (.iconst 0, 1)) ∧ (decode cL_lift 2 = .ok (.aload_n 0, 1) ∧ decode cL_lift 3 = .ok (.iload_n 1, 1))) ∧ ((decode cL_lift 4 = .ok (.iload_n 2, 1) ∧ decode cL_lift 5 = .ok (.invokevirtual 34, 3)) ∧ (decode cL_lift 8 = .ok (.ifCond .eq 7, 3) ∧ decode cL_lift 11 = .ok (.lconst 1, 1)))) ∧ (((decode cL_lift 12 = .ok (.goto 4, 3) ∧ decode cL_lift 15 = .ok (.lconst 0, 1)) ∧ (decode cL_lift 16 = .ok (.lastore, 1) ∧ decode cL_lift 17 = .ok (.goto 7, 3))) ∧ ((decode cL_lift 20 = .ok (.astore 4, 2) ∧ decode cL_lift 22 = .ok (.iconst 1, 1)) ∧ (decode cL_lift 23 = .ok (.ireturn, 1) ∧ decode cL_lift 24 = .ok (.iconst 0, 1)))) := by decide +kernel
theorem dL_lift_0 : decode cL_lift 0 = .ok (.aload_n 3, 1) := bh00_6.1.1.1.1
theorem dL_lift_1 : decode cL_lift 1 = .ok (.iconst 0, 1) := bh00_6.1.1.1.2
theorem dL_lift_2 : decode cL_lift 2 = .ok (.aload_n 0, 1) := bh00_6.1.1.2.1
theorem dL_lift_3 : decode cL_lift 3 = .ok (.iload_n 1, 1) := bh00_6.1.1.2.2
theorem dL_lift_4 : decode cL_lift 4 = .ok (.iload_n 2, 1) := bh00_6.1.2.1.1
theorem dL_lift_5 : decode cL_lift 5 = .ok (.invokevirtual 34, 3) := bh00_6.1.2.1.2
theorem dL_lift_8 : decode cL_lift 8 = .ok (.ifCond .eq 7, 3) := bh00_6.1.2.2.1
theorem dL_lift_11 : decode cL_lift 11 = .ok (.lconst 1, 1) := bh00_6.1.2.2.2
theorem dL_lift_12 : decode cL_lift 12 = .ok (.goto 4, 3) := bh00_6.2.1.1.1
theorem dL_lift_15 : decode cL_lift 15 = .ok (.lconst 0, 1) := bh00_6.2.1.1.2
theorem dL_lift_16 : decode cL_lift 16 = .ok (.lastore, 1) := bh00_6.2.1.2.1
theorem dL_lift_17 : decode cL_lift 17 = .ok (.goto 7, 3) := bh00_6.2.1.2.2
theorem dL_lift_20 : decode cL_lift 20 = .ok (.astore 4, 2) := bh00_6.2.2.1.1
theorem dL_lift_22 : decode cL_lift 22 = .ok (.iconst 1, 1) := bh00_6.2.2.1.2
theorem dL_lift_23 : decode cL_lift 23 = .ok (.ireturn, 1) := bh00_6.2.2.2.1
theorem dL_lift_24 : decode cL_lift 24 = .ok (.iconst 0, 1) := bh00_6.2.2.2.2
theorem bh00_7 : ((decode cL_lift 25 = .ok (.ireturn, 1) ∧ decode cL_leave 0 = .ok (.aload_n 3, 1)) ∧ (decode cL_leave 1 = .ok (.iconst 0, 1) ∧ decode cL_leave 2 = .ok (.aload_n 0, 1))) ∧ ((decode cL_leave 3 = .ok (.iload_n 1, 1) ∧ decode cL_leave 4 = .ok (.iload_n 2, 1)) ∧ (decode cL_leave 5 = .ok (.invokevirtual 38, 3) ∧ decode cL_leave 8 = .ok (.i2l, 1))) := by decide +kernel
theorem dL_lift_25 : decode cL_lift 25 = .ok (.ireturn, 1) := bh00_7.1.1.1
theorem dL_leave_0 : decode cL_leave 0 = .ok (.aload_n 3, 1) := bh00_7.1.1.2
theorem dL_leave_1 : decode cL_leave 1 = .ok (.iconst 0, 1) := bh00_7.1.2.1
theorem dL_leave_2 : decode cL_leave 2 = .ok (.aload_n 0, 1) := bh00_7.1.2.2
theorem dL_leave_3 : decode cL_leave 3 = .ok (.iload_n 1, 1) := bh00_7.2.1.1
theorem dL_leave_4 : decode cL_leave 4 = .ok (.iload_n 2, 1) := bh00_7.2.1.2
theorem dL_leave_5 : decode cL_leave 5 = .ok (.invokevirtual 38, 3) := bh00_7.2.2.1
theorem dL_leave_8 : decode cL_leave 8 = .ok (.i2l, 1) := bh00_7.2.2.2
theorem bh00_8 : ((decode cL_leave 9 = .ok (.lastore, 1) ∧ decode cL_leave 10 = .ok (.goto 7, 3)) ∧ (decode cL_leave 13 = .ok (.astore 4, 2) ∧ decode cL_leave 15 = .ok (.iconst 1, 1))) ∧ ((decode cL_leave 16 = .ok (.ireturn, 1) ∧ decode cL_leave 17 = .ok (.iconst 0, 1)) ∧ (decode cL_leave 18 = .ok (.ireturn, 1) ∧ decode cL_then 0 = .ok (.aload 4, 2))) := by decide +kernel
theorem dL_leave_9 : decode cL_leave 9 = .ok (.lastore, 1) := bh00_8.1.1.1
theorem dL_leave_10 : decode cL_leave 10 = .ok (.goto 7, 3) := bh00_8.1.1.2
theorem dL_leave_13 : decode cL_leave 13 = .ok (.astore 4, 2) := bh00_8.1.2.1
theorem dL_leave_15 : decode cL_leave 15 = .ok (.iconst 1, 1) := bh00_8.1.2.2
theorem dL_leave_16 : decode cL_leave 16 = .ok (.ireturn, 1) := bh00_8.2.1.1
theorem dL_leave_17 : decode cL_leave 17 = .ok (.iconst 0, 1) := bh00_8.2.1.2
theorem dL_leave_18 : decode cL_leave 18 = .ok (.ireturn, 1) := bh00_8.2.2.1
theorem dL_then_0 : decode cL_then 0 = .ok (.aload 4, 2) := bh00_8.2.2.2
theorem bh00_9 : (((decode cL_then 2 = .ok (.iconst 0, 1) ∧ decode cL_then 3 = .ok (.aload_n 0, 1)) ∧ (decode cL_then 4 = .ok (.iload_n 1, 1) ∧ decode cL_then 5 = .ok (.iload_n 2, 1))) ∧ ((decode cL_then 6 = .ok (.iload_n 3, 1) ∧ decode cL_then 7 = .ok (.invokevirtual 41, 3)) ∧ (decode cL_then 10 = .ok (.i2l, 1) ∧ decode cL_then 11 = .ok (.lastore, 1)))) ∧ (((decode cL_then 12 = .ok (.goto 11, 3) ∧ decode cL_then 15 = .ok (.astore 5, 2)) ∧ (decode cL_then 17 = .ok (.iconst 1, 1) ∧ decode cL_then 18 = .ok (.ireturn, 1))) ∧ ((decode cL_then 19 = .ok (.astore 5, 2) ∧ decode cL_then 21 = .ok (.iconst 2, 1)) ∧ (decode cL_then 22 = .ok (.ireturn, 1) ∧ decode cL_then 23 = .ok (.iconst 0, 1)))) := by decide +kernel
theorem dL_then_2 : decode cL_then 2 = .ok (.iconst 0, 1) := bh00_9.1.1.1.1
theorem dL_then_3 : decode cL_then 3 = .ok (.aload_n 0, 1) := bh00_9.1.1.1.2
theorem dL_then_4 : decode cL_then 4 = .ok (.iload_n 1, 1) := bh00_9.1.1.2.1
theorem dL_then_5 : decode cL_then 5 = .ok (.iload_n 2, 1) := bh00_9.1.1.2.2
theorem dL_then_6 : decode cL_then 6 = .ok (.iload_n 3, 1) := bh00_9.1.2.1.1
theorem dL_then_7 : decode cL_then 7 = .ok (.invokevirtual 41, 3) := bh00_9.1.2.1.2
theorem dL_then_10 : decode cL_then 10 = .ok (.i2l, 1) := bh00_9.1.2.2.1
theorem dL_then_11 : decode cL_then 11 = .ok (.lastore, 1) := bh00_9.1.2.2.2
theorem dL_then_12 : decode cL_then 12 = .ok (.goto 11, 3) := bh00_9.2.1.1.1
theorem dL_then_15 : decode cL_then 15 = .ok (.astore 5, 2) := bh00_9.2.1.1.2
theorem dL_then_17 : decode cL_then 17 = .ok (.iconst 1, 1) := bh00_9.2.1.2.1
theorem dL_then_18 : decode cL_then 18 = .ok (.ireturn, 1) := bh00_9.2.1.2.2
theorem dL_then_19 : decode cL_then 19 = .ok (.astore 5, 2) := bh00_9.2.2.1.1
theorem dL_then_21 : decode cL_then 21 = .ok (.iconst 2, 1) := bh00_9.2.2.1.2
theorem dL_then_22 : decode cL_then 22 = .ok (.ireturn, 1) := bh00_9.2.2.2.1
theorem dL_then_23 : decode cL_then 23 = .ok (.iconst 0, 1) := bh00_9.2.2.2.2
theorem bh00_10 : ((decode cL_then 24 = .ok (.ireturn, 1) ∧ decode cL_where 0 = .ok (.aload 4, 2)) ∧ (decode cL_where 2 = .ok (.iconst 0, 1) ∧ decode cL_where 3 = .ok (.aload_n 0, 1))) ∧ ((decode cL_where 4 = .ok (.iload_n 1, 1) ∧ decode cL_where 5 = .ok (.iload_n 2, 1)) ∧ (decode cL_where 6 = .ok (.iload_n 3, 1) ∧ decode cL_where 7 = .ok (.invokevirtual 44, 3))) := by decide +kernel
theorem dL_then_24 : decode cL_then 24 = .ok (.ireturn, 1) := bh00_10.1.1.1
theorem dL_where_0 : decode cL_where 0 = .ok (.aload 4, 2) := bh00_10.1.1.2
theorem dL_where_2 : decode cL_where 2 = .ok (.iconst 0, 1) := bh00_10.1.2.1
theorem dL_where_3 : decode cL_where 3 = .ok (.aload_n 0, 1) := bh00_10.1.2.2
theorem dL_where_4 : decode cL_where 4 = .ok (.iload_n 1, 1) := bh00_10.2.1.1
theorem dL_where_5 : decode cL_where 5 = .ok (.iload_n 2, 1) := bh00_10.2.1.2
theorem dL_where_6 : decode cL_where 6 = .ok (.iload_n 3, 1) := bh00_10.2.2.1
theorem dL_where_7 : decode cL_where 7 = .ok (.invokevirtual 44, 3) := bh00_10.2.2.2
theorem bh00_11 : (((decode cL_where 10 = .ok (.i2l, 1) ∧ decode cL_where 11 = .ok (.lastore, 1)) ∧ (decode cL_where 12 = .ok (.goto 11, 3))) ∧ ((decode cL_where 15 = .ok (.astore 5, 2) ∧ decode cL_where 17 = .ok (.iconst 1, 1)) ∧ (decode cL_where 18 = .ok (.ireturn, 1)))) ∧ (((decode cL_where 19 = .ok (.astore 5, 2) ∧ decode cL_where 21 = .ok (.iconst 2, 1)) ∧ (decode cL_where 22 = .ok (.ireturn, 1))) ∧ (decode cL_where 23 = .ok (.iconst 0, 1) ∧ decode cL_where 24 = .ok (.ireturn, 1))) := by decide +kernel
theorem dL_where_10 : decode cL_where 10 = .ok (.i2l, 1) := bh00_11.1.1.1.1
theorem dL_where_11 : decode cL_where 11 = .ok (.lastore, 1) := bh00_11.1.1.1.2
theorem dL_where_12 : decode cL_where 12 = .ok (.goto 11, 3) := bh00_11.1.1.2
theorem dL_where_15 : decode cL_where 15 = .ok (.astore 5, 2) := bh00_11.1.2.1.1
theorem dL_where_17 : decode cL_where 17 = .ok (.iconst 1, 1) := bh00_11.1.2.1.2
theorem dL_where_18 : decode cL_where 18 = .ok (.ireturn, 1) := bh00_11.1.2.2
theorem dL_where_19 : decode cL_where 19 = .ok (.astore 5, 2) := bh00_11.2.1.1.1
theorem dL_where_21 : decode cL_where 21 = .ok (.iconst 2, 1) := bh00_11.2.1.1.2
theorem dL_where_22 : decode cL_where 22 = .ok (.ireturn, 1) := bh00_11.2.1.2
theorem dL_where_23 : decode cL_where 23 = .ok (.iconst 0, 1) := bh00_11.2.2.1
theorem dL_where_24 : decode cL_where 24 = .ok (.ireturn, 1) := bh00_11.2.2.2
theorem bh00_12 : (((decode cL_loaf 0 = .ok (.aload_n 2, 1) ∧ decode cL_loaf 1 = .ok (.iconst 0, 1)) ∧ (decode cL_loaf 2 = .ok (.aload_n 0, 1) ∧ decode cL_loaf 3 = .ok (.iload_n 1, 1))) ∧ ((decode cL_loaf 4 = .ok (.invokevirtual 47, 3) ∧ decode cL_loaf 7 = .ok (.i2l, 1)) ∧ (decode cL_loaf 8 = .ok (.lastore, 1)))) ∧ (((decode cL_loaf 9 = .ok (.goto 6, 3) ∧ decode cL_loaf 12 = .ok (.astore_n 3, 1)) ∧ (decode cL_loaf 13 = .ok (.iconst 1, 1))) ∧ ((decode cL_loaf 14 = .ok (.ireturn, 1) ∧ decode cL_loaf 15 = .ok (.iconst 0, 1)) ∧ (decode cL_loaf 16 = .ok (.ireturn, 1)))) := by decide +kernel
theorem dL_loaf_0 : decode cL_loaf 0 = .ok (.aload_n 2, 1) := bh00_12.1.1.1.1
theorem dL_loaf_1 : decode cL_loaf 1 = .ok (.iconst 0, 1) := bh00_12.1.1.1.2
theorem dL_loaf_2 : decode cL_loaf 2 = .ok (.aload_n 0, 1) := bh00_12.1.1.2.1
theorem dL_loaf_3 : decode cL_loaf 3 = .ok (.iload_n 1, 1) := bh00_12.1.1.2.2
theorem dL_loaf_4 : decode cL_loaf 4 = .ok (.invokevirtual 47, 3) := bh00_12.1.2.1.1
theorem dL_loaf_7 : decode cL_loaf 7 = .ok (.i2l, 1) := bh00_12.1.2.1.2
theorem dL_loaf_8 : decode cL_loaf 8 = .ok (.lastore, 1) := bh00_12.1.2.2
theorem dL_loaf_9 : decode cL_loaf 9 = .ok (.goto 6, 3) := bh00_12.2.1.1.1
theorem dL_loaf_12 : decode cL_loaf 12 = .ok (.astore_n 3, 1) := bh00_12.2.1.1.2
theorem dL_loaf_13 : decode cL_loaf 13 = .ok (.iconst 1, 1) := bh00_12.2.1.2
theorem dL_loaf_14 : decode cL_loaf 14 = .ok (.ireturn, 1) := bh00_12.2.2.1.1
theorem dL_loaf_15 : decode cL_loaf 15 = .ok (.iconst 0, 1) := bh00_12.2.2.1.2
theorem dL_loaf_16 : decode cL_loaf 16 = .ok (.ireturn, 1) := bh00_12.2.2.2
theorem bh00_13 : (((decode cL_later 0 = .ok (.aload_n 3, 1) ∧ decode cL_later 1 = .ok (.iconst 0, 1)) ∧ (decode cL_later 2 = .ok (.aload_n 0, 1) ∧ decode cL_later 3 = .ok (.iload_n 1, 1))) ∧ ((decode cL_later 4 = .ok (.iload_n 2, 1) ∧ decode cL_later 5 = .ok (.invokevirtual 50, 3)) ∧ (decode cL_later 8 = .ok (.i2l, 1) ∧ decode cL_later 9 = .ok (.lastore, 1)))) ∧ (((decode cL_later 10 = .ok (.goto 11, 3) ∧ decode cL_later 13 = .ok (.astore 4, 2)) ∧ (decode cL_later 15 = .ok (.iconst 1, 1) ∧ decode cL_later 16 = .ok (.ireturn, 1))) ∧ ((decode cL_later 17 = .ok (.astore 4, 2) ∧ decode cL_later 19 = .ok (.iconst 2, 1)) ∧ (decode cL_later 20 = .ok (.ireturn, 1) ∧ decode cL_later 21 = .ok (.iconst 0, 1)))) := by decide +kernel
theorem dL_later_0 : decode cL_later 0 = .ok (.aload_n 3, 1) := bh00_13.1.1.1.1
theorem dL_later_1 : decode cL_later 1 = .ok (.iconst 0, 1) := bh00_13.1.1.1.2
theorem dL_later_2 : decode cL_later 2 = .ok (.aload_n 0, 1) := bh00_13.1.1.2.1
theorem dL_later_3 : decode cL_later 3 = .ok (.iload_n 1, 1) := bh00_13.1.1.2.2
theorem dL_later_4 : decode cL_later 4 = .ok (.iload_n 2, 1) := bh00_13.1.2.1.1
theorem dL_later_5 : decode cL_later 5 = .ok (.invokevirtual 50, 3) := bh00_13.1.2.1.2
theorem dL_later_8 : decode cL_later 8 = .ok (.i2l, 1) := bh00_13.1.2.2.1
theorem dL_later_9 : decode cL_later 9 = .ok (.lastore, 1) := bh00_13.1.2.2.2
theorem dL_later_10 : decode cL_later 10 = .ok (.goto 11, 3) := bh00_13.2.1.1.1
theorem dL_later_13 : decode cL_later 13 = .ok (.astore 4, 2) := bh00_13.2.1.1.2
theorem dL_later_15 : decode cL_later 15 = .ok (.iconst 1, 1) := bh00_13.2.1.2.1
theorem dL_later_16 : decode cL_later 16 = .ok (.ireturn, 1) := bh00_13.2.1.2.2
theorem dL_later_17 : decode cL_later 17 = .ok (.astore 4, 2) := bh00_13.2.2.1.1
theorem dL_later_19 : decode cL_later 19 = .ok (.iconst 2, 1) := bh00_13.2.2.1.2
theorem dL_later_20 : decode cL_later 20 = .ok (.ireturn, 1) := bh00_13.2.2.2.1
theorem dL_later_21 : decode cL_later 21 = .ok (.iconst 0, 1) := bh00_13.2.2.2.2
theorem bh00_14 : ((decode cL_later 22 = .ok (.ireturn, 1) ∧ decode cL_sat 0 = .ok (.aload_n 3, 1)) ∧ (decode cL_sat 1 = .ok (.iconst 0, 1) ∧ decode cL_sat 2 = .ok (.aload_n 0, 1))) ∧ ((decode cL_sat 3 = .ok (.iload_n 1, 1) ∧ decode cL_sat 4 = .ok (.iload_n 2, 1)) ∧ (decode cL_sat 5 = .ok (.invokevirtual 53, 3) ∧ decode cL_sat 8 = .ok (.i2l, 1))) := by decide +kernel
theorem dL_later_22 : decode cL_later 22 = .ok (.ireturn, 1) := bh00_14.1.1.1
theorem dL_sat_0 : decode cL_sat 0 = .ok (.aload_n 3, 1) := bh00_14.1.1.2
theorem dL_sat_1 : decode cL_sat 1 = .ok (.iconst 0, 1) := bh00_14.1.2.1
theorem dL_sat_2 : decode cL_sat 2 = .ok (.aload_n 0, 1) := bh00_14.1.2.2
theorem dL_sat_3 : decode cL_sat 3 = .ok (.iload_n 1, 1) := bh00_14.2.1.1
theorem dL_sat_4 : decode cL_sat 4 = .ok (.iload_n 2, 1) := bh00_14.2.1.2
theorem dL_sat_5 : decode cL_sat 5 = .ok (.invokevirtual 53, 3) := bh00_14.2.2.1
theorem dL_sat_8 : decode cL_sat 8 = .ok (.i2l, 1) := bh00_14.2.2.2
theorem bh00_15 : (((decode cL_sat 9 = .ok (.lastore, 1) ∧ decode cL_sat 10 = .ok (.goto 11, 3)) ∧ (decode cL_sat 13 = .ok (.astore 4, 2))) ∧ (decode cL_sat 15 = .ok (.iconst 1, 1) ∧ decode cL_sat 16 = .ok (.ireturn, 1))) ∧ (((decode cL_sat 17 = .ok (.astore 4, 2) ∧ decode cL_sat 19 = .ok (.iconst 2, 1)) ∧ (decode cL_sat 20 = .ok (.ireturn, 1))) ∧ (decode cL_sat 21 = .ok (.iconst 0, 1) ∧ decode cL_sat 22 = .ok (.ireturn, 1))) := by decide +kernel
theorem dL_sat_9 : decode cL_sat 9 = .ok (.lastore, 1) := bh00_15.1.1.1.1
theorem dL_sat_10 : decode cL_sat 10 = .ok (.goto 11, 3) := bh00_15.1.1.1.2
theorem dL_sat_13 : decode cL_sat 13 = .ok (.astore 4, 2) := bh00_15.1.1.2
theorem dL_sat_15 : decode cL_sat 15 = .ok (.iconst 1, 1) := bh00_15.1.2.1
theorem dL_sat_16 : decode cL_sat 16 = .ok (.ireturn, 1) := bh00_15.1.2.2
theorem dL_sat_17 : decode cL_sat 17 = .ok (.astore 4, 2) := bh00_15.2.1.1.1
theorem dL_sat_19 : decode cL_sat 19 = .ok (.iconst 2, 1) := bh00_15.2.1.1.2
theorem dL_sat_20 : decode cL_sat 20 = .ok (.ireturn, 1) := bh00_15.2.1.2
theorem dL_sat_21 : decode cL_sat 21 = .ok (.iconst 0, 1) := bh00_15.2.2.1
theorem dL_sat_22 : decode cL_sat 22 = .ok (.ireturn, 1) := bh00_15.2.2.2
theorem bh00_16 : (((decode cL_fits 0 = .ok (.aload_n 3, 1) ∧ decode cL_fits 1 = .ok (.iconst 0, 1)) ∧ (decode cL_fits 2 = .ok (.aload_n 0, 1) ∧ decode cL_fits 3 = .ok (.iload_n 1, 1))) ∧ ((decode cL_fits 4 = .ok (.iload_n 2, 1) ∧ decode cL_fits 5 = .ok (.invokevirtual 56, 3)) ∧ (decode cL_fits 8 = .ok (.i2l, 1)))) ∧ (((decode cL_fits 9 = .ok (.lastore, 1) ∧ decode cL_fits 10 = .ok (.goto 7, 3)) ∧ (decode cL_fits 13 = .ok (.astore 4, 2) ∧ decode cL_fits 15 = .ok (.iconst 1, 1))) ∧ ((decode cL_fits 16 = .ok (.ireturn, 1) ∧ decode cL_fits 17 = .ok (.iconst 0, 1)) ∧ (decode cL_fits 18 = .ok (.ireturn, 1)))) := by decide +kernel
theorem dL_fits_0 : decode cL_fits 0 = .ok (.aload_n 3, 1) := bh00_16.1.1.1.1
theorem dL_fits_1 : decode cL_fits 1 = .ok (.iconst 0, 1) := bh00_16.1.1.1.2
theorem dL_fits_2 : decode cL_fits 2 = .ok (.aload_n 0, 1) := bh00_16.1.1.2.1
theorem dL_fits_3 : decode cL_fits 3 = .ok (.iload_n 1, 1) := bh00_16.1.1.2.2
theorem dL_fits_4 : decode cL_fits 4 = .ok (.iload_n 2, 1) := bh00_16.1.2.1.1
theorem dL_fits_5 : decode cL_fits 5 = .ok (.invokevirtual 56, 3) := bh00_16.1.2.1.2
theorem dL_fits_8 : decode cL_fits 8 = .ok (.i2l, 1) := bh00_16.1.2.2
theorem dL_fits_9 : decode cL_fits 9 = .ok (.lastore, 1) := bh00_16.2.1.1.1
theorem dL_fits_10 : decode cL_fits 10 = .ok (.goto 7, 3) := bh00_16.2.1.1.2
theorem dL_fits_13 : decode cL_fits 13 = .ok (.astore 4, 2) := bh00_16.2.1.2.1
theorem dL_fits_15 : decode cL_fits 15 = .ok (.iconst 1, 1) := bh00_16.2.1.2.2
theorem dL_fits_16 : decode cL_fits 16 = .ok (.ireturn, 1) := bh00_16.2.2.1.1
theorem dL_fits_17 : decode cL_fits 17 = .ok (.iconst 0, 1) := bh00_16.2.2.1.2
theorem dL_fits_18 : decode cL_fits 18 = .ok (.ireturn, 1) := bh00_16.2.2.2
theorem bh00_17 : (((decode cL_unlike 0 = .ok (.aload 4, 2) ∧ decode cL_unlike 2 = .ok (.iconst 0, 1)) ∧ (decode cL_unlike 3 = .ok (.aload_n 0, 1) ∧ decode cL_unlike 4 = .ok (.iload_n 1, 1))) ∧ ((decode cL_unlike 5 = .ok (.iload_n 2, 1) ∧ decode cL_unlike 6 = .ok (.iload_n 3, 1)) ∧ (decode cL_unlike 7 = .ok (.invokevirtual 59, 3) ∧ decode cL_unlike 10 = .ok (.i2l, 1)))) ∧ (((decode cL_unlike 11 = .ok (.lastore, 1) ∧ decode cL_unlike 12 = .ok (.goto 7, 3)) ∧ (decode cL_unlike 15 = .ok (.astore 5, 2) ∧ decode cL_unlike 17 = .ok (.iconst 1, 1))) ∧ ((decode cL_unlike 18 = .ok (.ireturn, 1) ∧ decode cL_unlike 19 = .ok (.iconst 0, 1)) ∧ (decode cL_unlike 20 = .ok (.ireturn, 1)))) := by decide +kernel
theorem dL_unlike_0 : decode cL_unlike 0 = .ok (.aload 4, 2) := bh00_17.1.1.1.1
theorem dL_unlike_2 : decode cL_unlike 2 = .ok (.iconst 0, 1) := bh00_17.1.1.1.2
theorem dL_unlike_3 : decode cL_unlike 3 = .ok (.aload_n 0, 1) := bh00_17.1.1.2.1
theorem dL_unlike_4 : decode cL_unlike 4 = .ok (.iload_n 1, 1) := bh00_17.1.1.2.2
theorem dL_unlike_5 : decode cL_unlike 5 = .ok (.iload_n 2, 1) := bh00_17.1.2.1.1
theorem dL_unlike_6 : decode cL_unlike 6 = .ok (.iload_n 3, 1) := bh00_17.1.2.1.2
theorem dL_unlike_7 : decode cL_unlike 7 = .ok (.invokevirtual 59, 3) := bh00_17.1.2.2.1
theorem dL_unlike_10 : decode cL_unlike 10 = .ok (.i2l, 1) := bh00_17.1.2.2.2
theorem dL_unlike_11 : decode cL_unlike 11 = .ok (.lastore, 1) := bh00_17.2.1.1.1
theorem dL_unlike_12 : decode cL_unlike 12 = .ok (.goto 7, 3) := bh00_17.2.1.1.2
theorem dL_unlike_15 : decode cL_unlike 15 = .ok (.astore 5, 2) := bh00_17.2.1.2.1
theorem dL_unlike_17 : decode cL_unlike 17 = .ok (.iconst 1, 1) := bh00_17.2.1.2.2
theorem dL_unlike_18 : decode cL_unlike 18 = .ok (.ireturn, 1) := bh00_17.2.2.1.1
theorem dL_unlike_19 : decode cL_unlike 19 = .ok (.iconst 0, 1) := bh00_17.2.2.1.2
theorem dL_unlike_20 : decode cL_unlike 20 = .ok (.ireturn, 1) := bh00_17.2.2.2
theorem bh00_18 : (((decode cL_seats 0 = .ok (.aload_n 2, 1) ∧ decode cL_seats 1 = .ok (.iconst 0, 1)) ∧ (decode cL_seats 2 = .ok (.aload_n 0, 1) ∧ decode cL_seats 3 = .ok (.iload_n 1, 1))) ∧ ((decode cL_seats 4 = .ok (.invokevirtual 62, 3) ∧ decode cL_seats 7 = .ok (.i2l, 1)) ∧ (decode cL_seats 8 = .ok (.lastore, 1)))) ∧ (((decode cL_seats 9 = .ok (.goto 6, 3) ∧ decode cL_seats 12 = .ok (.astore_n 3, 1)) ∧ (decode cL_seats 13 = .ok (.iconst 1, 1))) ∧ ((decode cL_seats 14 = .ok (.ireturn, 1) ∧ decode cL_seats 15 = .ok (.iconst 0, 1)) ∧ (decode cL_seats 16 = .ok (.ireturn, 1)))) := by decide +kernel
theorem dL_seats_0 : decode cL_seats 0 = .ok (.aload_n 2, 1) := bh00_18.1.1.1.1
theorem dL_seats_1 : decode cL_seats 1 = .ok (.iconst 0, 1) := bh00_18.1.1.1.2
theorem dL_seats_2 : decode cL_seats 2 = .ok (.aload_n 0, 1) := bh00_18.1.1.2.1
theorem dL_seats_3 : decode cL_seats 3 = .ok (.iload_n 1, 1) := bh00_18.1.1.2.2
theorem dL_seats_4 : decode cL_seats 4 = .ok (.invokevirtual 62, 3) := bh00_18.1.2.1.1
theorem dL_seats_7 : decode cL_seats 7 = .ok (.i2l, 1) := bh00_18.1.2.1.2
theorem dL_seats_8 : decode cL_seats 8 = .ok (.lastore, 1) := bh00_18.1.2.2
theorem dL_seats_9 : decode cL_seats 9 = .ok (.goto 6, 3) := bh00_18.2.1.1.1
theorem dL_seats_12 : decode cL_seats 12 = .ok (.astore_n 3, 1) := bh00_18.2.1.1.2
theorem dL_seats_13 : decode cL_seats 13 = .ok (.iconst 1, 1) := bh00_18.2.1.2
theorem dL_seats_14 : decode cL_seats 14 = .ok (.ireturn, 1) := bh00_18.2.2.1.1
theorem dL_seats_15 : decode cL_seats 15 = .ok (.iconst 0, 1) := bh00_18.2.2.1.2
theorem dL_seats_16 : decode cL_seats 16 = .ok (.ireturn, 1) := bh00_18.2.2.2
theorem bh00_19 : (((decode cL_turn 0 = .ok (.aload_n 2, 1) ∧ decode cL_turn 1 = .ok (.iconst 0, 1)) ∧ (decode cL_turn 2 = .ok (.aload_n 0, 1) ∧ decode cL_turn 3 = .ok (.iload_n 1, 1))) ∧ ((decode cL_turn 4 = .ok (.invokevirtual 65, 3) ∧ decode cL_turn 7 = .ok (.i2l, 1)) ∧ (decode cL_turn 8 = .ok (.lastore, 1)))) ∧ (((decode cL_turn 9 = .ok (.goto 6, 3) ∧ decode cL_turn 12 = .ok (.astore_n 3, 1)) ∧ (decode cL_turn 13 = .ok (.iconst 1, 1))) ∧ ((decode cL_turn 14 = .ok (.ireturn, 1) ∧ decode cL_turn 15 = .ok (.iconst 0, 1)) ∧ (decode cL_turn 16 = .ok (.ireturn, 1)))) := by decide +kernel
theorem dL_turn_0 : decode cL_turn 0 = .ok (.aload_n 2, 1) := bh00_19.1.1.1.1
theorem dL_turn_1 : decode cL_turn 1 = .ok (.iconst 0, 1) := bh00_19.1.1.1.2
theorem dL_turn_2 : decode cL_turn 2 = .ok (.aload_n 0, 1) := bh00_19.1.1.2.1
theorem dL_turn_3 : decode cL_turn 3 = .ok (.iload_n 1, 1) := bh00_19.1.1.2.2
theorem dL_turn_4 : decode cL_turn 4 = .ok (.invokevirtual 65, 3) := bh00_19.1.2.1.1
theorem dL_turn_7 : decode cL_turn 7 = .ok (.i2l, 1) := bh00_19.1.2.1.2
theorem dL_turn_8 : decode cL_turn 8 = .ok (.lastore, 1) := bh00_19.1.2.2
theorem dL_turn_9 : decode cL_turn 9 = .ok (.goto 6, 3) := bh00_19.2.1.1.1
theorem dL_turn_12 : decode cL_turn 12 = .ok (.astore_n 3, 1) := bh00_19.2.1.1.2
theorem dL_turn_13 : decode cL_turn 13 = .ok (.iconst 1, 1) := bh00_19.2.1.2
theorem dL_turn_14 : decode cL_turn 14 = .ok (.ireturn, 1) := bh00_19.2.2.1.1
theorem dL_turn_15 : decode cL_turn 15 = .ok (.iconst 0, 1) := bh00_19.2.2.1.2
theorem dL_turn_16 : decode cL_turn 16 = .ok (.ireturn, 1) := bh00_19.2.2.2
theorem bh00_20 : (((decode cL_lasts 0 = .ok (.aload_n 3, 1) ∧ decode cL_lasts 1 = .ok (.iconst 0, 1)) ∧ (decode cL_lasts 2 = .ok (.aload_n 0, 1) ∧ decode cL_lasts 3 = .ok (.iload_n 1, 1))) ∧ ((decode cL_lasts 4 = .ok (.iload_n 2, 1) ∧ decode cL_lasts 5 = .ok (.invokevirtual 68, 3)) ∧ (decode cL_lasts 8 = .ok (.i2l, 1)))) ∧ (((decode cL_lasts 9 = .ok (.lastore, 1) ∧ decode cL_lasts 10 = .ok (.goto 7, 3)) ∧ (decode cL_lasts 13 = .ok (.astore 4, 2) ∧ decode cL_lasts 15 = .ok (.iconst 1, 1))) ∧ ((decode cL_lasts 16 = .ok (.ireturn, 1) ∧ decode cL_lasts 17 = .ok (.iconst 0, 1)) ∧ (decode cL_lasts 18 = .ok (.ireturn, 1)))) := by decide +kernel
theorem dL_lasts_0 : decode cL_lasts 0 = .ok (.aload_n 3, 1) := bh00_20.1.1.1.1
theorem dL_lasts_1 : decode cL_lasts 1 = .ok (.iconst 0, 1) := bh00_20.1.1.1.2
theorem dL_lasts_2 : decode cL_lasts 2 = .ok (.aload_n 0, 1) := bh00_20.1.1.2.1
theorem dL_lasts_3 : decode cL_lasts 3 = .ok (.iload_n 1, 1) := bh00_20.1.1.2.2
theorem dL_lasts_4 : decode cL_lasts 4 = .ok (.iload_n 2, 1) := bh00_20.1.2.1.1
theorem dL_lasts_5 : decode cL_lasts 5 = .ok (.invokevirtual 68, 3) := bh00_20.1.2.1.2
theorem dL_lasts_8 : decode cL_lasts 8 = .ok (.i2l, 1) := bh00_20.1.2.2
theorem dL_lasts_9 : decode cL_lasts 9 = .ok (.lastore, 1) := bh00_20.2.1.1.1
theorem dL_lasts_10 : decode cL_lasts 10 = .ok (.goto 7, 3) := bh00_20.2.1.1.2
theorem dL_lasts_13 : decode cL_lasts 13 = .ok (.astore 4, 2) := bh00_20.2.1.2.1
theorem dL_lasts_15 : decode cL_lasts 15 = .ok (.iconst 1, 1) := bh00_20.2.1.2.2
theorem dL_lasts_16 : decode cL_lasts 16 = .ok (.ireturn, 1) := bh00_20.2.2.1.1
theorem dL_lasts_17 : decode cL_lasts 17 = .ok (.iconst 0, 1) := bh00_20.2.2.1.2
theorem dL_lasts_18 : decode cL_lasts 18 = .ok (.ireturn, 1) := bh00_20.2.2.2
theorem bh00_21 : (((decode cL_best 0 = .ok (.aload 4, 2) ∧ decode cL_best 2 = .ok (.iconst 0, 1)) ∧ (decode cL_best 3 = .ok (.aload_n 0, 1) ∧ decode cL_best 4 = .ok (.iload_n 1, 1))) ∧ ((decode cL_best 5 = .ok (.iload_n 2, 1) ∧ decode cL_best 6 = .ok (.iload_n 3, 1)) ∧ (decode cL_best 7 = .ok (.invokevirtual 71, 3) ∧ decode cL_best 10 = .ok (.i2l, 1)))) ∧ (((decode cL_best 11 = .ok (.lastore, 1) ∧ decode cL_best 12 = .ok (.goto 11, 3)) ∧ (decode cL_best 15 = .ok (.astore 5, 2) ∧ decode cL_best 17 = .ok (.iconst 1, 1))) ∧ ((decode cL_best 18 = .ok (.ireturn, 1) ∧ decode cL_best 19 = .ok (.astore 5, 2)) ∧ (decode cL_best 21 = .ok (.iconst 2, 1) ∧ decode cL_best 22 = .ok (.ireturn, 1)))) := by decide +kernel
theorem dL_best_0 : decode cL_best 0 = .ok (.aload 4, 2) := bh00_21.1.1.1.1
theorem dL_best_2 : decode cL_best 2 = .ok (.iconst 0, 1) := bh00_21.1.1.1.2
theorem dL_best_3 : decode cL_best 3 = .ok (.aload_n 0, 1) := bh00_21.1.1.2.1
theorem dL_best_4 : decode cL_best 4 = .ok (.iload_n 1, 1) := bh00_21.1.1.2.2
theorem dL_best_5 : decode cL_best 5 = .ok (.iload_n 2, 1) := bh00_21.1.2.1.1
theorem dL_best_6 : decode cL_best 6 = .ok (.iload_n 3, 1) := bh00_21.1.2.1.2
theorem dL_best_7 : decode cL_best 7 = .ok (.invokevirtual 71, 3) := bh00_21.1.2.2.1
theorem dL_best_10 : decode cL_best 10 = .ok (.i2l, 1) := bh00_21.1.2.2.2
theorem dL_best_11 : decode cL_best 11 = .ok (.lastore, 1) := bh00_21.2.1.1.1
theorem dL_best_12 : decode cL_best 12 = .ok (.goto 11, 3) := bh00_21.2.1.1.2
theorem dL_best_15 : decode cL_best 15 = .ok (.astore 5, 2) := bh00_21.2.1.2.1
theorem dL_best_17 : decode cL_best 17 = .ok (.iconst 1, 1) := bh00_21.2.1.2.2
theorem dL_best_18 : decode cL_best 18 = .ok (.ireturn, 1) := bh00_21.2.2.1.1
theorem dL_best_19 : decode cL_best 19 = .ok (.astore 5, 2) := bh00_21.2.2.1.2
theorem dL_best_21 : decode cL_best 21 = .ok (.iconst 2, 1) := bh00_21.2.2.2.1
theorem dL_best_22 : decode cL_best 22 = .ok (.ireturn, 1) := bh00_21.2.2.2.2
theorem bh00_22 : ((decode cL_best 23 = .ok (.iconst 0, 1) ∧ decode cL_best 24 = .ok (.ireturn, 1)) ∧ (decode cL_greatest 0 = .ok (.aload_n 3, 1) ∧ decode cL_greatest 1 = .ok (.iconst 0, 1))) ∧ ((decode cL_greatest 2 = .ok (.aload_n 0, 1) ∧ decode cL_greatest 3 = .ok (.iload_n 1, 1)) ∧ (decode cL_greatest 4 = .ok (.iload_n 2, 1) ∧ decode cL_greatest 5 = .ok (.invokevirtual 74, 3))) := by decide +kernel
theorem dL_best_23 : decode cL_best 23 = .ok (.iconst 0, 1) := bh00_22.1.1.1
theorem dL_best_24 : decode cL_best 24 = .ok (.ireturn, 1) := bh00_22.1.1.2
theorem dL_greatest_0 : decode cL_greatest 0 = .ok (.aload_n 3, 1) := bh00_22.1.2.1
theorem dL_greatest_1 : decode cL_greatest 1 = .ok (.iconst 0, 1) := bh00_22.1.2.2
theorem dL_greatest_2 : decode cL_greatest 2 = .ok (.aload_n 0, 1) := bh00_22.2.1.1
theorem dL_greatest_3 : decode cL_greatest 3 = .ok (.iload_n 1, 1) := bh00_22.2.1.2
theorem dL_greatest_4 : decode cL_greatest 4 = .ok (.iload_n 2, 1) := bh00_22.2.2.1
theorem dL_greatest_5 : decode cL_greatest 5 = .ok (.invokevirtual 74, 3) := bh00_22.2.2.2
theorem bh00_23 : (((decode cL_greatest 8 = .ok (.i2l, 1) ∧ decode cL_greatest 9 = .ok (.lastore, 1)) ∧ (decode cL_greatest 10 = .ok (.goto 11, 3))) ∧ ((decode cL_greatest 13 = .ok (.astore 4, 2) ∧ decode cL_greatest 15 = .ok (.iconst 1, 1)) ∧ (decode cL_greatest 16 = .ok (.ireturn, 1)))) ∧ (((decode cL_greatest 17 = .ok (.astore 4, 2) ∧ decode cL_greatest 19 = .ok (.iconst 2, 1)) ∧ (decode cL_greatest 20 = .ok (.ireturn, 1))) ∧ (decode cL_greatest 21 = .ok (.iconst 0, 1) ∧ decode cL_greatest 22 = .ok (.ireturn, 1))) := by decide +kernel
theorem dL_greatest_8 : decode cL_greatest 8 = .ok (.i2l, 1) := bh00_23.1.1.1.1
theorem dL_greatest_9 : decode cL_greatest 9 = .ok (.lastore, 1) := bh00_23.1.1.1.2
theorem dL_greatest_10 : decode cL_greatest 10 = .ok (.goto 11, 3) := bh00_23.1.1.2
theorem dL_greatest_13 : decode cL_greatest 13 = .ok (.astore 4, 2) := bh00_23.1.2.1.1
theorem dL_greatest_15 : decode cL_greatest 15 = .ok (.iconst 1, 1) := bh00_23.1.2.1.2
theorem dL_greatest_16 : decode cL_greatest 16 = .ok (.ireturn, 1) := bh00_23.1.2.2
theorem dL_greatest_17 : decode cL_greatest 17 = .ok (.astore 4, 2) := bh00_23.2.1.1.1
theorem dL_greatest_19 : decode cL_greatest 19 = .ok (.iconst 2, 1) := bh00_23.2.1.1.2
theorem dL_greatest_20 : decode cL_greatest 20 = .ok (.ireturn, 1) := bh00_23.2.1.2
theorem dL_greatest_21 : decode cL_greatest 21 = .ok (.iconst 0, 1) := bh00_23.2.2.1
theorem dL_greatest_22 : decode cL_greatest 22 = .ok (.ireturn, 1) := bh00_23.2.2.2
theorem bh00_24 : (((decode cL_empty 0 = .ok (.aload_n 2, 1) ∧ decode cL_empty 1 = .ok (.iconst 0, 1)) ∧ (decode cL_empty 2 = .ok (.aload_n 0, 1) ∧ decode cL_empty 3 = .ok (.iload_n 1, 1))) ∧ ((decode cL_empty 4 = .ok (.invokevirtual 77, 3) ∧ decode cL_empty 7 = .ok (.i2l, 1)) ∧ (decode cL_empty 8 = .ok (.lastore, 1)))) ∧ (((decode cL_empty 9 = .ok (.goto 6, 3) ∧ decode cL_empty 12 = .ok (.astore_n 3, 1)) ∧ (decode cL_empty 13 = .ok (.iconst 1, 1))) ∧ ((decode cL_empty 14 = .ok (.ireturn, 1) ∧ decode cL_empty 15 = .ok (.iconst 0, 1)) ∧ (decode cL_empty 16 = .ok (.ireturn, 1)))) := by decide +kernel
theorem dL_empty_0 : decode cL_empty 0 = .ok (.aload_n 2, 1) := bh00_24.1.1.1.1
theorem dL_empty_1 : decode cL_empty 1 = .ok (.iconst 0, 1) := bh00_24.1.1.1.2
theorem dL_empty_2 : decode cL_empty 2 = .ok (.aload_n 0, 1) := bh00_24.1.1.2.1
theorem dL_empty_3 : decode cL_empty 3 = .ok (.iload_n 1, 1) := bh00_24.1.1.2.2
theorem dL_empty_4 : decode cL_empty 4 = .ok (.invokevirtual 77, 3) := bh00_24.1.2.1.1
theorem dL_empty_7 : decode cL_empty 7 = .ok (.i2l, 1) := bh00_24.1.2.1.2
theorem dL_empty_8 : decode cL_empty 8 = .ok (.lastore, 1) := bh00_24.1.2.2
theorem dL_empty_9 : decode cL_empty 9 = .ok (.goto 6, 3) := bh00_24.2.1.1.1
theorem dL_empty_12 : decode cL_empty 12 = .ok (.astore_n 3, 1) := bh00_24.2.1.1.2
theorem dL_empty_13 : decode cL_empty 13 = .ok (.iconst 1, 1) := bh00_24.2.1.2
theorem dL_empty_14 : decode cL_empty 14 = .ok (.ireturn, 1) := bh00_24.2.2.1.1
theorem dL_empty_15 : decode cL_empty 15 = .ok (.iconst 0, 1) := bh00_24.2.2.1.2
theorem dL_empty_16 : decode cL_empty 16 = .ok (.ireturn, 1) := bh00_24.2.2.2
theorem bh00_25 : (((decode cL_see 0 = .ok (.aload 4, 2) ∧ decode cL_see 2 = .ok (.iconst 0, 1)) ∧ (decode cL_see 3 = .ok (.aload_n 0, 1) ∧ decode cL_see 4 = .ok (.iload_n 1, 1))) ∧ ((decode cL_see 5 = .ok (.iload_n 2, 1) ∧ decode cL_see 6 = .ok (.iload_n 3, 1)) ∧ (decode cL_see 7 = .ok (.invokevirtual 80, 3) ∧ decode cL_see 10 = .ok (.i2l, 1)))) ∧ (((decode cL_see 11 = .ok (.lastore, 1) ∧ decode cL_see 12 = .ok (.goto 7, 3)) ∧ (decode cL_see 15 = .ok (.astore 5, 2) ∧ decode cL_see 17 = .ok (.iconst 1, 1))) ∧ ((decode cL_see 18 = .ok (.ireturn, 1) ∧ decode cL_see 19 = .ok (.iconst 0, 1)) ∧ (decode cL_see 20 = .ok (.ireturn, 1)))) := by decide +kernel
theorem dL_see_0 : decode cL_see 0 = .ok (.aload 4, 2) := bh00_25.1.1.1.1
theorem dL_see_2 : decode cL_see 2 = .ok (.iconst 0, 1) := bh00_25.1.1.1.2
theorem dL_see_3 : decode cL_see 3 = .ok (.aload_n 0, 1) := bh00_25.1.1.2.1
theorem dL_see_4 : decode cL_see 4 = .ok (.iload_n 1, 1) := bh00_25.1.1.2.2
theorem dL_see_5 : decode cL_see 5 = .ok (.iload_n 2, 1) := bh00_25.1.2.1.1
theorem dL_see_6 : decode cL_see 6 = .ok (.iload_n 3, 1) := bh00_25.1.2.1.2
theorem dL_see_7 : decode cL_see 7 = .ok (.invokevirtual 80, 3) := bh00_25.1.2.2.1
theorem dL_see_10 : decode cL_see 10 = .ok (.i2l, 1) := bh00_25.1.2.2.2
theorem dL_see_11 : decode cL_see 11 = .ok (.lastore, 1) := bh00_25.2.1.1.1
theorem dL_see_12 : decode cL_see 12 = .ok (.goto 7, 3) := bh00_25.2.1.1.2
theorem dL_see_15 : decode cL_see 15 = .ok (.astore 5, 2) := bh00_25.2.1.2.1
theorem dL_see_17 : decode cL_see 17 = .ok (.iconst 1, 1) := bh00_25.2.1.2.2
theorem dL_see_18 : decode cL_see 18 = .ok (.ireturn, 1) := bh00_25.2.2.1.1
theorem dL_see_19 : decode cL_see 19 = .ok (.iconst 0, 1) := bh00_25.2.2.1.2
theorem dL_see_20 : decode cL_see 20 = .ok (.ireturn, 1) := bh00_25.2.2.2
theorem bh00_26 : (((decode cL_old 0 = .ok (.aload_n 2, 1) ∧ decode cL_old 1 = .ok (.iconst 0, 1)) ∧ (decode cL_old 2 = .ok (.aload_n 0, 1) ∧ decode cL_old 3 = .ok (.iload_n 1, 1))) ∧ ((decode cL_old 4 = .ok (.invokevirtual 83, 3) ∧ decode cL_old 7 = .ok (.i2l, 1)) ∧ (decode cL_old 8 = .ok (.lastore, 1)))) ∧ (((decode cL_old 9 = .ok (.goto 6, 3) ∧ decode cL_old 12 = .ok (.astore_n 3, 1)) ∧ (decode cL_old 13 = .ok (.iconst 1, 1))) ∧ ((decode cL_old 14 = .ok (.ireturn, 1) ∧ decode cL_old 15 = .ok (.iconst 0, 1)) ∧ (decode cL_old 16 = .ok (.ireturn, 1)))) := by decide +kernel
theorem dL_old_0 : decode cL_old 0 = .ok (.aload_n 2, 1) := bh00_26.1.1.1.1
theorem dL_old_1 : decode cL_old 1 = .ok (.iconst 0, 1) := bh00_26.1.1.1.2
theorem dL_old_2 : decode cL_old 2 = .ok (.aload_n 0, 1) := bh00_26.1.1.2.1
theorem dL_old_3 : decode cL_old 3 = .ok (.iload_n 1, 1) := bh00_26.1.1.2.2
theorem dL_old_4 : decode cL_old 4 = .ok (.invokevirtual 83, 3) := bh00_26.1.2.1.1
theorem dL_old_7 : decode cL_old 7 = .ok (.i2l, 1) := bh00_26.1.2.1.2
theorem dL_old_8 : decode cL_old 8 = .ok (.lastore, 1) := bh00_26.1.2.2
theorem dL_old_9 : decode cL_old 9 = .ok (.goto 6, 3) := bh00_26.2.1.1.1
theorem dL_old_12 : decode cL_old 12 = .ok (.astore_n 3, 1) := bh00_26.2.1.1.2
theorem dL_old_13 : decode cL_old 13 = .ok (.iconst 1, 1) := bh00_26.2.1.2
theorem dL_old_14 : decode cL_old 14 = .ok (.ireturn, 1) := bh00_26.2.2.1.1
theorem dL_old_15 : decode cL_old 15 = .ok (.iconst 0, 1) := bh00_26.2.2.1.2
theorem dL_old_16 : decode cL_old 16 = .ok (.ireturn, 1) := bh00_26.2.2.2
theorem bh00_27 : (((decode cL_look 0 = .ok (.aload_n 2, 1) ∧ decode cL_look 1 = .ok (.iconst 0, 1)) ∧ (decode cL_look 2 = .ok (.aload_n 0, 1) ∧ decode cL_look 3 = .ok (.iload_n 1, 1))) ∧ ((decode cL_look 4 = .ok (.invokevirtual 86, 3) ∧ decode cL_look 7 = .ok (.i2l, 1)) ∧ (decode cL_look 8 = .ok (.lastore, 1)))) ∧ (((decode cL_look 9 = .ok (.goto 6, 3) ∧ decode cL_look 12 = .ok (.astore_n 3, 1)) ∧ (decode cL_look 13 = .ok (.iconst 1, 1))) ∧ ((decode cL_look 14 = .ok (.ireturn, 1) ∧ decode cL_look 15 = .ok (.iconst 0, 1)) ∧ (decode cL_look 16 = .ok (.ireturn, 1)))) := by decide +kernel
theorem dL_look_0 : decode cL_look 0 = .ok (.aload_n 2, 1) := bh00_27.1.1.1.1
theorem dL_look_1 : decode cL_look 1 = .ok (.iconst 0, 1) := bh00_27.1.1.1.2
theorem dL_look_2 : decode cL_look 2 = .ok (.aload_n 0, 1) := bh00_27.1.1.2.1
theorem dL_look_3 : decode cL_look 3 = .ok (.iload_n 1, 1) := bh00_27.1.1.2.2
theorem dL_look_4 : decode cL_look 4 = .ok (.invokevirtual 86, 3) := bh00_27.1.2.1.1
theorem dL_look_7 : decode cL_look 7 = .ok (.i2l, 1) := bh00_27.1.2.1.2
theorem dL_look_8 : decode cL_look 8 = .ok (.lastore, 1) := bh00_27.1.2.2
theorem dL_look_9 : decode cL_look 9 = .ok (.goto 6, 3) := bh00_27.2.1.1.1
theorem dL_look_12 : decode cL_look 12 = .ok (.astore_n 3, 1) := bh00_27.2.1.1.2
theorem dL_look_13 : decode cL_look 13 = .ok (.iconst 1, 1) := bh00_27.2.1.2
theorem dL_look_14 : decode cL_look 14 = .ok (.ireturn, 1) := bh00_27.2.2.1.1
theorem dL_look_15 : decode cL_look 15 = .ok (.iconst 0, 1) := bh00_27.2.2.1.2
theorem dL_look_16 : decode cL_look 16 = .ok (.ireturn, 1) := bh00_27.2.2.2
theorem bh00_28 : (((decode cL_wet 0 = .ok (.aload 4, 2) ∧ decode cL_wet 2 = .ok (.iconst 0, 1)) ∧ (decode cL_wet 3 = .ok (.aload_n 0, 1) ∧ decode cL_wet 4 = .ok (.iload_n 1, 1))) ∧ ((decode cL_wet 5 = .ok (.iload_n 2, 1) ∧ decode cL_wet 6 = .ok (.iload_n 3, 1)) ∧ (decode cL_wet 7 = .ok (.invokevirtual 89, 3) ∧ decode cL_wet 10 = .ok (.i2l, 1)))) ∧ (((decode cL_wet 11 = .ok (.lastore, 1) ∧ decode cL_wet 12 = .ok (.goto 11, 3)) ∧ (decode cL_wet 15 = .ok (.astore 5, 2) ∧ decode cL_wet 17 = .ok (.iconst 1, 1))) ∧ ((decode cL_wet 18 = .ok (.ireturn, 1) ∧ decode cL_wet 19 = .ok (.astore 5, 2)) ∧ (decode cL_wet 21 = .ok (.iconst 2, 1) ∧ decode cL_wet 22 = .ok (.ireturn, 1)))) := by decide +kernel
theorem dL_wet_0 : decode cL_wet 0 = .ok (.aload 4, 2) := bh00_28.1.1.1.1
theorem dL_wet_2 : decode cL_wet 2 = .ok (.iconst 0, 1) := bh00_28.1.1.1.2
theorem dL_wet_3 : decode cL_wet 3 = .ok (.aload_n 0, 1) := bh00_28.1.1.2.1
theorem dL_wet_4 : decode cL_wet 4 = .ok (.iload_n 1, 1) := bh00_28.1.1.2.2
theorem dL_wet_5 : decode cL_wet 5 = .ok (.iload_n 2, 1) := bh00_28.1.2.1.1
theorem dL_wet_6 : decode cL_wet 6 = .ok (.iload_n 3, 1) := bh00_28.1.2.1.2
theorem dL_wet_7 : decode cL_wet 7 = .ok (.invokevirtual 89, 3) := bh00_28.1.2.2.1
theorem dL_wet_10 : decode cL_wet 10 = .ok (.i2l, 1) := bh00_28.1.2.2.2
theorem dL_wet_11 : decode cL_wet 11 = .ok (.lastore, 1) := bh00_28.2.1.1.1
theorem dL_wet_12 : decode cL_wet 12 = .ok (.goto 11, 3) := bh00_28.2.1.1.2
theorem dL_wet_15 : decode cL_wet 15 = .ok (.astore 5, 2) := bh00_28.2.1.2.1
theorem dL_wet_17 : decode cL_wet 17 = .ok (.iconst 1, 1) := bh00_28.2.1.2.2
theorem dL_wet_18 : decode cL_wet 18 = .ok (.ireturn, 1) := bh00_28.2.2.1.1
theorem dL_wet_19 : decode cL_wet 19 = .ok (.astore 5, 2) := bh00_28.2.2.1.2
theorem dL_wet_21 : decode cL_wet 21 = .ok (.iconst 2, 1) := bh00_28.2.2.2.1
theorem dL_wet_22 : decode cL_wet 22 = .ok (.ireturn, 1) := bh00_28.2.2.2.2
theorem bh00_29 : ((decode cL_wet 23 = .ok (.iconst 0, 1) ∧ decode cL_wet 24 = .ok (.ireturn, 1)) ∧ (decode cL_game 0 = .ok (.aload 4, 2) ∧ decode cL_game 2 = .ok (.iconst 0, 1))) ∧ ((decode cL_game 3 = .ok (.aload_n 0, 1) ∧ decode cL_game 4 = .ok (.iload_n 1, 1)) ∧ (decode cL_game 5 = .ok (.iload_n 2, 1) ∧ decode cL_game 6 = .ok (.iload_n 3, 1))) := by decide +kernel
theorem dL_wet_23 : decode cL_wet 23 = .ok (.iconst 0, 1) := bh00_29.1.1.1
theorem dL_wet_24 : decode cL_wet 24 = .ok (.ireturn, 1) := bh00_29.1.1.2
theorem dL_game_0 : decode cL_game 0 = .ok (.aload 4, 2) := bh00_29.1.2.1
theorem dL_game_2 : decode cL_game 2 = .ok (.iconst 0, 1) := bh00_29.1.2.2
theorem dL_game_3 : decode cL_game 3 = .ok (.aload_n 0, 1) := bh00_29.2.1.1
theorem dL_game_4 : decode cL_game 4 = .ok (.iload_n 1, 1) := bh00_29.2.1.2
theorem dL_game_5 : decode cL_game 5 = .ok (.iload_n 2, 1) := bh00_29.2.2.1
theorem dL_game_6 : decode cL_game 6 = .ok (.iload_n 3, 1) := bh00_29.2.2.2
theorem bh00_30 : (((decode cL_game 7 = .ok (.invokevirtual 92, 3) ∧ decode cL_game 10 = .ok (.i2l, 1)) ∧ (decode cL_game 11 = .ok (.lastore, 1))) ∧ ((decode cL_game 12 = .ok (.goto 11, 3) ∧ decode cL_game 15 = .ok (.astore 5, 2)) ∧ (decode cL_game 17 = .ok (.iconst 1, 1)))) ∧ (((decode cL_game 18 = .ok (.ireturn, 1) ∧ decode cL_game 19 = .ok (.astore 5, 2)) ∧ (decode cL_game 21 = .ok (.iconst 2, 1))) ∧ ((decode cL_game 22 = .ok (.ireturn, 1) ∧ decode cL_game 23 = .ok (.iconst 0, 1)) ∧ (decode cL_game 24 = .ok (.ireturn, 1)))) := by decide +kernel
theorem dL_game_7 : decode cL_game 7 = .ok (.invokevirtual 92, 3) := bh00_30.1.1.1.1
theorem dL_game_10 : decode cL_game 10 = .ok (.i2l, 1) := bh00_30.1.1.1.2
theorem dL_game_11 : decode cL_game 11 = .ok (.lastore, 1) := bh00_30.1.1.2
theorem dL_game_12 : decode cL_game 12 = .ok (.goto 11, 3) := bh00_30.1.2.1.1
theorem dL_game_15 : decode cL_game 15 = .ok (.astore 5, 2) := bh00_30.1.2.1.2
theorem dL_game_17 : decode cL_game 17 = .ok (.iconst 1, 1) := bh00_30.1.2.2
theorem dL_game_18 : decode cL_game 18 = .ok (.ireturn, 1) := bh00_30.2.1.1.1
theorem dL_game_19 : decode cL_game 19 = .ok (.astore 5, 2) := bh00_30.2.1.1.2
theorem dL_game_21 : decode cL_game 21 = .ok (.iconst 2, 1) := bh00_30.2.1.2
theorem dL_game_22 : decode cL_game 22 = .ok (.ireturn, 1) := bh00_30.2.2.1.1
theorem dL_game_23 : decode cL_game 23 = .ok (.iconst 0, 1) := bh00_30.2.2.1.2
theorem dL_game_24 : decode cL_game 24 = .ok (.ireturn, 1) := bh00_30.2.2.2
theorem bh00_31 : (((decode cL_ages 0 = .ok (.aload 4, 2) ∧ decode cL_ages 2 = .ok (.iconst 0, 1)) ∧ (decode cL_ages 3 = .ok (.aload_n 0, 1) ∧ decode cL_ages 4 = .ok (.iload_n 1, 1))) ∧ ((decode cL_ages 5 = .ok (.iload_n 2, 1) ∧ decode cL_ages 6 = .ok (.iload_n 3, 1)) ∧ (decode cL_ages 7 = .ok (.invokevirtual 95, 3) ∧ decode cL_ages 10 = .ok (.i2l, 1)))) ∧ (((decode cL_ages 11 = .ok (.lastore, 1) ∧ decode cL_ages 12 = .ok (.goto 11, 3)) ∧ (decode cL_ages 15 = .ok (.astore 5, 2) ∧ decode cL_ages 17 = .ok (.iconst 1, 1))) ∧ ((decode cL_ages 18 = .ok (.ireturn, 1) ∧ decode cL_ages 19 = .ok (.astore 5, 2)) ∧ (decode cL_ages 21 = .ok (.iconst 2, 1) ∧ decode cL_ages 22 = .ok (.ireturn, 1)))) := by decide +kernel
theorem dL_ages_0 : decode cL_ages 0 = .ok (.aload 4, 2) := bh00_31.1.1.1.1
theorem dL_ages_2 : decode cL_ages 2 = .ok (.iconst 0, 1) := bh00_31.1.1.1.2
theorem dL_ages_3 : decode cL_ages 3 = .ok (.aload_n 0, 1) := bh00_31.1.1.2.1
theorem dL_ages_4 : decode cL_ages 4 = .ok (.iload_n 1, 1) := bh00_31.1.1.2.2
theorem dL_ages_5 : decode cL_ages 5 = .ok (.iload_n 2, 1) := bh00_31.1.2.1.1
theorem dL_ages_6 : decode cL_ages 6 = .ok (.iload_n 3, 1) := bh00_31.1.2.1.2
theorem dL_ages_7 : decode cL_ages 7 = .ok (.invokevirtual 95, 3) := bh00_31.1.2.2.1
theorem dL_ages_10 : decode cL_ages 10 = .ok (.i2l, 1) := bh00_31.1.2.2.2
theorem dL_ages_11 : decode cL_ages 11 = .ok (.lastore, 1) := bh00_31.2.1.1.1
theorem dL_ages_12 : decode cL_ages 12 = .ok (.goto 11, 3) := bh00_31.2.1.1.2
theorem dL_ages_15 : decode cL_ages 15 = .ok (.astore 5, 2) := bh00_31.2.1.2.1
theorem dL_ages_17 : decode cL_ages 17 = .ok (.iconst 1, 1) := bh00_31.2.1.2.2
theorem dL_ages_18 : decode cL_ages 18 = .ok (.ireturn, 1) := bh00_31.2.2.1.1
theorem dL_ages_19 : decode cL_ages 19 = .ok (.astore 5, 2) := bh00_31.2.2.1.2
theorem dL_ages_21 : decode cL_ages 21 = .ok (.iconst 2, 1) := bh00_31.2.2.2.1
theorem dL_ages_22 : decode cL_ages 22 = .ok (.ireturn, 1) := bh00_31.2.2.2.2
theorem bh00_32 : ((decode cL_ages 23 = .ok (.iconst 0, 1) ∧ decode cL_ages 24 = .ok (.ireturn, 1)) ∧ (decode cL_law 0 = .ok (.new 8, 3) ∧ decode cL_law 3 = .ok (.dup, 1))) ∧ ((decode cL_law 4 = .ok (.invokespecial 98, 3) ∧ decode cL_law 7 = .ok (.astore_n 1, 1)) ∧ (decode cL_law 8 = .ok (.new 99, 3) ∧ decode cL_law 11 = .ok (.dup, 1))) := by decide +kernel
theorem dL_ages_23 : decode cL_ages 23 = .ok (.iconst 0, 1) := bh00_32.1.1.1
theorem dL_ages_24 : decode cL_ages 24 = .ok (.ireturn, 1) := bh00_32.1.1.2
theorem dL_law_0 : decode cL_law 0 = .ok (.new 8, 3) := bh00_32.1.2.1
theorem dL_law_3 : decode cL_law 3 = .ok (.dup, 1) := bh00_32.1.2.2
theorem dL_law_4 : decode cL_law 4 = .ok (.invokespecial 98, 3) := bh00_32.2.1.1
theorem dL_law_7 : decode cL_law 7 = .ok (.astore_n 1, 1) := bh00_32.2.1.2
theorem dL_law_8 : decode cL_law 8 = .ok (.new 99, 3) := bh00_32.2.2.1
theorem dL_law_11 : decode cL_law 11 = .ok (.dup, 1) := bh00_32.2.2.2
theorem bh00_33 : (((decode cL_law 12 = .ok (.invokespecial 101, 3) ∧ decode cL_law 15 = .ok (.astore_n 2, 1)) ∧ (decode cL_law 16 = .ok (.iconst 1, 1) ∧ decode cL_law 17 = .ok (.newarray .long, 2))) ∧ ((decode cL_law 19 = .ok (.astore_n 3, 1) ∧ decode cL_law 20 = .ok (.iconst 0, 1)) ∧ (decode cL_law 21 = .ok (.istore 4, 2) ∧ decode cL_law 23 = .ok (.iload 4, 2)))) ∧ (((decode cL_law 25 = .ok (.aload_n 0, 1) ∧ decode cL_law 26 = .ok (.arraylength, 1)) ∧ (decode cL_law 27 = .ok (.bipush 6, 2) ∧ decode cL_law 29 = .ok (.isub, 1))) ∧ ((decode cL_law 30 = .ok (.if_icmp .gt 1424, 3) ∧ decode cL_law 33 = .ok (.aload_n 0, 1)) ∧ (decode cL_law 34 = .ok (.iload 4, 2) ∧ decode cL_law 36 = .ok (.iaload, 1)))) := by decide +kernel
theorem dL_law_12 : decode cL_law 12 = .ok (.invokespecial 101, 3) := bh00_33.1.1.1.1
theorem dL_law_15 : decode cL_law 15 = .ok (.astore_n 2, 1) := bh00_33.1.1.1.2
theorem dL_law_16 : decode cL_law 16 = .ok (.iconst 1, 1) := bh00_33.1.1.2.1
theorem dL_law_17 : decode cL_law 17 = .ok (.newarray .long, 2) := bh00_33.1.1.2.2
theorem dL_law_19 : decode cL_law 19 = .ok (.astore_n 3, 1) := bh00_33.1.2.1.1
theorem dL_law_20 : decode cL_law 20 = .ok (.iconst 0, 1) := bh00_33.1.2.1.2
theorem dL_law_21 : decode cL_law 21 = .ok (.istore 4, 2) := bh00_33.1.2.2.1
theorem dL_law_23 : decode cL_law 23 = .ok (.iload 4, 2) := bh00_33.1.2.2.2
theorem dL_law_25 : decode cL_law 25 = .ok (.aload_n 0, 1) := bh00_33.2.1.1.1
theorem dL_law_26 : decode cL_law 26 = .ok (.arraylength, 1) := bh00_33.2.1.1.2
theorem dL_law_27 : decode cL_law 27 = .ok (.bipush 6, 2) := bh00_33.2.1.2.1
theorem dL_law_29 : decode cL_law 29 = .ok (.isub, 1) := bh00_33.2.1.2.2
theorem dL_law_30 : decode cL_law 30 = .ok (.if_icmp .gt 1424, 3) := bh00_33.2.2.1.1
theorem dL_law_33 : decode cL_law 33 = .ok (.aload_n 0, 1) := bh00_33.2.2.1.2
theorem dL_law_34 : decode cL_law 34 = .ok (.iload 4, 2) := bh00_33.2.2.2.1
theorem dL_law_36 : decode cL_law 36 = .ok (.iaload, 1) := bh00_33.2.2.2.2
theorem bh00_34 : (((decode cL_law 37 = .ok (.bipush 63, 2) ∧ decode cL_law 39 = .ok (.iand, 1)) ∧ (decode cL_law 40 = .ok (.tableswitch 1408 0 34 #[156, 229, 257, 270, 298, 338, 378, 403, 455, 483, 523, 563, 576, 628, 680, 708, 748, 788, 828, 880, 908, 936, 976, 1028, 1068, 1096, 1109, 1161, 1189, 1217, 1228, 1280, 1332, 1384, 1395], 156) ∧ decode cL_law 196 = .ok (.aload_n 1, 1))) ∧ ((decode cL_law 197 = .ok (.aload_n 0, 1) ∧ decode cL_law 198 = .ok (.iload 4, 2)) ∧ (decode cL_law 200 = .ok (.iconst 1, 1) ∧ decode cL_law 201 = .ok (.iadd, 1)))) ∧ (((decode cL_law 202 = .ok (.iaload, 1) ∧ decode cL_law 203 = .ok (.aload_n 0, 1)) ∧ (decode cL_law 204 = .ok (.iload 4, 2) ∧ decode cL_law 206 = .ok (.iconst 2, 1))) ∧ ((decode cL_law 207 = .ok (.iadd, 1) ∧ decode cL_law 208 = .ok (.iaload, 1)) ∧ (decode cL_law 209 = .ok (.aload_n 0, 1) ∧ decode cL_law 210 = .ok (.iload 4, 2)))) := by decide +kernel
theorem dL_law_37 : decode cL_law 37 = .ok (.bipush 63, 2) := bh00_34.1.1.1.1
theorem dL_law_39 : decode cL_law 39 = .ok (.iand, 1) := bh00_34.1.1.1.2
theorem dL_law_40 : decode cL_law 40 = .ok (.tableswitch 1408 0 34 #[156, 229, 257, 270, 298, 338, 378, 403, 455, 483, 523, 563, 576, 628, 680, 708, 748, 788, 828, 880, 908, 936, 976, 1028, 1068, 1096, 1109, 1161, 1189, 1217, 1228, 1280, 1332, 1384, 1395], 156) := bh00_34.1.1.2.1
theorem dL_law_196 : decode cL_law 196 = .ok (.aload_n 1, 1) := bh00_34.1.1.2.2
theorem dL_law_197 : decode cL_law 197 = .ok (.aload_n 0, 1) := bh00_34.1.2.1.1
theorem dL_law_198 : decode cL_law 198 = .ok (.iload 4, 2) := bh00_34.1.2.1.2
theorem dL_law_200 : decode cL_law 200 = .ok (.iconst 1, 1) := bh00_34.1.2.2.1
theorem dL_law_201 : decode cL_law 201 = .ok (.iadd, 1) := bh00_34.1.2.2.2
theorem dL_law_202 : decode cL_law 202 = .ok (.iaload, 1) := bh00_34.2.1.1.1
theorem dL_law_203 : decode cL_law 203 = .ok (.aload_n 0, 1) := bh00_34.2.1.1.2
theorem dL_law_204 : decode cL_law 204 = .ok (.iload 4, 2) := bh00_34.2.1.2.1
theorem dL_law_206 : decode cL_law 206 = .ok (.iconst 2, 1) := bh00_34.2.1.2.2
theorem dL_law_207 : decode cL_law 207 = .ok (.iadd, 1) := bh00_34.2.2.1.1
theorem dL_law_208 : decode cL_law 208 = .ok (.iaload, 1) := bh00_34.2.2.1.2
theorem dL_law_209 : decode cL_law 209 = .ok (.aload_n 0, 1) := bh00_34.2.2.2.1
theorem dL_law_210 : decode cL_law 210 = .ok (.iload 4, 2) := bh00_34.2.2.2.2
theorem bh00_35 : (((decode cL_law 212 = .ok (.iconst 3, 1) ∧ decode cL_law 213 = .ok (.iadd, 1)) ∧ (decode cL_law 214 = .ok (.iaload, 1) ∧ decode cL_law 215 = .ok (.aload_n 0, 1))) ∧ ((decode cL_law 216 = .ok (.iload 4, 2) ∧ decode cL_law 218 = .ok (.iconst 4, 1)) ∧ (decode cL_law 219 = .ok (.iadd, 1) ∧ decode cL_law 220 = .ok (.iaload, 1)))) ∧ (((decode cL_law 221 = .ok (.aload_n 0, 1) ∧ decode cL_law 222 = .ok (.iload 4, 2)) ∧ (decode cL_law 224 = .ok (.iconst 5, 1) ∧ decode cL_law 225 = .ok (.iadd, 1))) ∧ ((decode cL_law 226 = .ok (.iaload, 1) ∧ decode cL_law 227 = .ok (.invokevirtual 102, 3)) ∧ (decode cL_law 230 = .ok (.pop, 1) ∧ decode cL_law 231 = .ok (.aload_n 2, 1)))) := by decide +kernel
theorem dL_law_212 : decode cL_law 212 = .ok (.iconst 3, 1) := bh00_35.1.1.1.1
theorem dL_law_213 : decode cL_law 213 = .ok (.iadd, 1) := bh00_35.1.1.1.2
theorem dL_law_214 : decode cL_law 214 = .ok (.iaload, 1) := bh00_35.1.1.2.1
theorem dL_law_215 : decode cL_law 215 = .ok (.aload_n 0, 1) := bh00_35.1.1.2.2
theorem dL_law_216 : decode cL_law 216 = .ok (.iload 4, 2) := bh00_35.1.2.1.1
theorem dL_law_218 : decode cL_law 218 = .ok (.iconst 4, 1) := bh00_35.1.2.1.2
theorem dL_law_219 : decode cL_law 219 = .ok (.iadd, 1) := bh00_35.1.2.2.1
theorem dL_law_220 : decode cL_law 220 = .ok (.iaload, 1) := bh00_35.1.2.2.2
theorem dL_law_221 : decode cL_law 221 = .ok (.aload_n 0, 1) := bh00_35.2.1.1.1
theorem dL_law_222 : decode cL_law 222 = .ok (.iload 4, 2) := bh00_35.2.1.1.2
theorem dL_law_224 : decode cL_law 224 = .ok (.iconst 5, 1) := bh00_35.2.1.2.1
theorem dL_law_225 : decode cL_law 225 = .ok (.iadd, 1) := bh00_35.2.1.2.2
theorem dL_law_226 : decode cL_law 226 = .ok (.iaload, 1) := bh00_35.2.2.1.1
theorem dL_law_227 : decode cL_law 227 = .ok (.invokevirtual 102, 3) := bh00_35.2.2.1.2
theorem dL_law_230 : decode cL_law 230 = .ok (.pop, 1) := bh00_35.2.2.2.1
theorem dL_law_231 : decode cL_law 231 = .ok (.aload_n 2, 1) := bh00_35.2.2.2.2
theorem bh00_36 : (((decode cL_law 232 = .ok (.aload_n 0, 1) ∧ decode cL_law 233 = .ok (.iload 4, 2)) ∧ (decode cL_law 235 = .ok (.iconst 1, 1) ∧ decode cL_law 236 = .ok (.iadd, 1))) ∧ ((decode cL_law 237 = .ok (.iaload, 1) ∧ decode cL_law 238 = .ok (.aload_n 0, 1)) ∧ (decode cL_law 239 = .ok (.iload 4, 2) ∧ decode cL_law 241 = .ok (.iconst 2, 1)))) ∧ (((decode cL_law 242 = .ok (.iadd, 1) ∧ decode cL_law 243 = .ok (.iaload, 1)) ∧ (decode cL_law 244 = .ok (.aload_n 0, 1) ∧ decode cL_law 245 = .ok (.iload 4, 2))) ∧ ((decode cL_law 247 = .ok (.iconst 3, 1) ∧ decode cL_law 248 = .ok (.iadd, 1)) ∧ (decode cL_law 249 = .ok (.iaload, 1) ∧ decode cL_law 250 = .ok (.aload_n 0, 1)))) := by decide +kernel
theorem dL_law_232 : decode cL_law 232 = .ok (.aload_n 0, 1) := bh00_36.1.1.1.1
theorem dL_law_233 : decode cL_law 233 = .ok (.iload 4, 2) := bh00_36.1.1.1.2
theorem dL_law_235 : decode cL_law 235 = .ok (.iconst 1, 1) := bh00_36.1.1.2.1
theorem dL_law_236 : decode cL_law 236 = .ok (.iadd, 1) := bh00_36.1.1.2.2
theorem dL_law_237 : decode cL_law 237 = .ok (.iaload, 1) := bh00_36.1.2.1.1
theorem dL_law_238 : decode cL_law 238 = .ok (.aload_n 0, 1) := bh00_36.1.2.1.2
theorem dL_law_239 : decode cL_law 239 = .ok (.iload 4, 2) := bh00_36.1.2.2.1
theorem dL_law_241 : decode cL_law 241 = .ok (.iconst 2, 1) := bh00_36.1.2.2.2
theorem dL_law_242 : decode cL_law 242 = .ok (.iadd, 1) := bh00_36.2.1.1.1
theorem dL_law_243 : decode cL_law 243 = .ok (.iaload, 1) := bh00_36.2.1.1.2
theorem dL_law_244 : decode cL_law 244 = .ok (.aload_n 0, 1) := bh00_36.2.1.2.1
theorem dL_law_245 : decode cL_law 245 = .ok (.iload 4, 2) := bh00_36.2.1.2.2
theorem dL_law_247 : decode cL_law 247 = .ok (.iconst 3, 1) := bh00_36.2.2.1.1
theorem dL_law_248 : decode cL_law 248 = .ok (.iadd, 1) := bh00_36.2.2.1.2
theorem dL_law_249 : decode cL_law 249 = .ok (.iaload, 1) := bh00_36.2.2.2.1
theorem dL_law_250 : decode cL_law 250 = .ok (.aload_n 0, 1) := bh00_36.2.2.2.2
theorem bh00_37 : (((decode cL_law 251 = .ok (.iload 4, 2) ∧ decode cL_law 253 = .ok (.iconst 4, 1)) ∧ (decode cL_law 254 = .ok (.iadd, 1) ∧ decode cL_law 255 = .ok (.iaload, 1))) ∧ ((decode cL_law 256 = .ok (.aload_n 0, 1) ∧ decode cL_law 257 = .ok (.iload 4, 2)) ∧ (decode cL_law 259 = .ok (.iconst 5, 1) ∧ decode cL_law 260 = .ok (.iadd, 1)))) ∧ (((decode cL_law 261 = .ok (.iaload, 1) ∧ decode cL_law 262 = .ok (.invokevirtual 106, 3)) ∧ (decode cL_law 265 = .ok (.pop, 1) ∧ decode cL_law 266 = .ok (.goto 1182, 3))) ∧ ((decode cL_law 269 = .ok (.aload_n 1, 1) ∧ decode cL_law 270 = .ok (.aload_n 0, 1)) ∧ (decode cL_law 271 = .ok (.iload 4, 2) ∧ decode cL_law 273 = .ok (.iconst 1, 1)))) := by decide +kernel
theorem dL_law_251 : decode cL_law 251 = .ok (.iload 4, 2) := bh00_37.1.1.1.1
theorem dL_law_253 : decode cL_law 253 = .ok (.iconst 4, 1) := bh00_37.1.1.1.2
theorem dL_law_254 : decode cL_law 254 = .ok (.iadd, 1) := bh00_37.1.1.2.1
theorem dL_law_255 : decode cL_law 255 = .ok (.iaload, 1) := bh00_37.1.1.2.2
theorem dL_law_256 : decode cL_law 256 = .ok (.aload_n 0, 1) := bh00_37.1.2.1.1
theorem dL_law_257 : decode cL_law 257 = .ok (.iload 4, 2) := bh00_37.1.2.1.2
theorem dL_law_259 : decode cL_law 259 = .ok (.iconst 5, 1) := bh00_37.1.2.2.1
theorem dL_law_260 : decode cL_law 260 = .ok (.iadd, 1) := bh00_37.1.2.2.2
theorem dL_law_261 : decode cL_law 261 = .ok (.iaload, 1) := bh00_37.2.1.1.1
theorem dL_law_262 : decode cL_law 262 = .ok (.invokevirtual 106, 3) := bh00_37.2.1.1.2
theorem dL_law_265 : decode cL_law 265 = .ok (.pop, 1) := bh00_37.2.1.2.1
theorem dL_law_266 : decode cL_law 266 = .ok (.goto 1182, 3) := bh00_37.2.1.2.2
theorem dL_law_269 : decode cL_law 269 = .ok (.aload_n 1, 1) := bh00_37.2.2.1.1
theorem dL_law_270 : decode cL_law 270 = .ok (.aload_n 0, 1) := bh00_37.2.2.1.2
theorem dL_law_271 : decode cL_law 271 = .ok (.iload 4, 2) := bh00_37.2.2.2.1
theorem dL_law_273 : decode cL_law 273 = .ok (.iconst 1, 1) := bh00_37.2.2.2.2
theorem bh00_38 : (((decode cL_law 274 = .ok (.iadd, 1) ∧ decode cL_law 275 = .ok (.iaload, 1)) ∧ (decode cL_law 276 = .ok (.aload_n 3, 1) ∧ decode cL_law 277 = .ok (.invokestatic 107, 3))) ∧ ((decode cL_law 280 = .ok (.istore 5, 2) ∧ decode cL_law 282 = .ok (.aload_n 2, 1)) ∧ (decode cL_law 283 = .ok (.aload_n 0, 1) ∧ decode cL_law 284 = .ok (.iload 4, 2)))) ∧ (((decode cL_law 286 = .ok (.iconst 1, 1) ∧ decode cL_law 287 = .ok (.iadd, 1)) ∧ (decode cL_law 288 = .ok (.iaload, 1) ∧ decode cL_law 289 = .ok (.invokevirtual 112, 3))) ∧ ((decode cL_law 292 = .ok (.istore 6, 2) ∧ decode cL_law 294 = .ok (.goto 1154, 3)) ∧ (decode cL_law 297 = .ok (.aload_n 1, 1) ∧ decode cL_law 298 = .ok (.invokevirtual 113, 3)))) := by decide +kernel
theorem dL_law_274 : decode cL_law 274 = .ok (.iadd, 1) := bh00_38.1.1.1.1
theorem dL_law_275 : decode cL_law 275 = .ok (.iaload, 1) := bh00_38.1.1.1.2
theorem dL_law_276 : decode cL_law 276 = .ok (.aload_n 3, 1) := bh00_38.1.1.2.1
theorem dL_law_277 : decode cL_law 277 = .ok (.invokestatic 107, 3) := bh00_38.1.1.2.2
theorem dL_law_280 : decode cL_law 280 = .ok (.istore 5, 2) := bh00_38.1.2.1.1
theorem dL_law_282 : decode cL_law 282 = .ok (.aload_n 2, 1) := bh00_38.1.2.1.2
theorem dL_law_283 : decode cL_law 283 = .ok (.aload_n 0, 1) := bh00_38.1.2.2.1
theorem dL_law_284 : decode cL_law 284 = .ok (.iload 4, 2) := bh00_38.1.2.2.2
theorem dL_law_286 : decode cL_law 286 = .ok (.iconst 1, 1) := bh00_38.2.1.1.1
theorem dL_law_287 : decode cL_law 287 = .ok (.iadd, 1) := bh00_38.2.1.1.2
theorem dL_law_288 : decode cL_law 288 = .ok (.iaload, 1) := bh00_38.2.1.2.1
theorem dL_law_289 : decode cL_law 289 = .ok (.invokevirtual 112, 3) := bh00_38.2.1.2.2
theorem dL_law_292 : decode cL_law 292 = .ok (.istore 6, 2) := bh00_38.2.2.1.1
theorem dL_law_294 : decode cL_law 294 = .ok (.goto 1154, 3) := bh00_38.2.2.1.2
theorem dL_law_297 : decode cL_law 297 = .ok (.aload_n 1, 1) := bh00_38.2.2.2.1
theorem dL_law_298 : decode cL_law 298 = .ok (.invokevirtual 113, 3) := bh00_38.2.2.2.2
theorem bh00_39 : (((decode cL_law 301 = .ok (.pop, 1) ∧ decode cL_law 302 = .ok (.aload_n 2, 1)) ∧ (decode cL_law 303 = .ok (.invokevirtual 117, 3) ∧ decode cL_law 306 = .ok (.pop, 1))) ∧ ((decode cL_law 307 = .ok (.goto 1141, 3) ∧ decode cL_law 310 = .ok (.aload_n 1, 1)) ∧ (decode cL_law 311 = .ok (.aload_n 0, 1) ∧ decode cL_law 312 = .ok (.iload 4, 2)))) ∧ (((decode cL_law 314 = .ok (.iconst 1, 1) ∧ decode cL_law 315 = .ok (.iadd, 1)) ∧ (decode cL_law 316 = .ok (.iaload, 1) ∧ decode cL_law 317 = .ok (.aload_n 3, 1))) ∧ ((decode cL_law 318 = .ok (.invokestatic 118, 3) ∧ decode cL_law 321 = .ok (.istore 5, 2)) ∧ (decode cL_law 323 = .ok (.aload_n 2, 1) ∧ decode cL_law 324 = .ok (.aload_n 0, 1)))) := by decide +kernel
theorem dL_law_301 : decode cL_law 301 = .ok (.pop, 1) := bh00_39.1.1.1.1
theorem dL_law_302 : decode cL_law 302 = .ok (.aload_n 2, 1) := bh00_39.1.1.1.2
theorem dL_law_303 : decode cL_law 303 = .ok (.invokevirtual 117, 3) := bh00_39.1.1.2.1
theorem dL_law_306 : decode cL_law 306 = .ok (.pop, 1) := bh00_39.1.1.2.2
theorem dL_law_307 : decode cL_law 307 = .ok (.goto 1141, 3) := bh00_39.1.2.1.1
theorem dL_law_310 : decode cL_law 310 = .ok (.aload_n 1, 1) := bh00_39.1.2.1.2
theorem dL_law_311 : decode cL_law 311 = .ok (.aload_n 0, 1) := bh00_39.1.2.2.1
theorem dL_law_312 : decode cL_law 312 = .ok (.iload 4, 2) := bh00_39.1.2.2.2
theorem dL_law_314 : decode cL_law 314 = .ok (.iconst 1, 1) := bh00_39.2.1.1.1
theorem dL_law_315 : decode cL_law 315 = .ok (.iadd, 1) := bh00_39.2.1.1.2
theorem dL_law_316 : decode cL_law 316 = .ok (.iaload, 1) := bh00_39.2.1.2.1
theorem dL_law_317 : decode cL_law 317 = .ok (.aload_n 3, 1) := bh00_39.2.1.2.2
theorem dL_law_318 : decode cL_law 318 = .ok (.invokestatic 118, 3) := bh00_39.2.2.1.1
theorem dL_law_321 : decode cL_law 321 = .ok (.istore 5, 2) := bh00_39.2.2.1.2
theorem dL_law_323 : decode cL_law 323 = .ok (.aload_n 2, 1) := bh00_39.2.2.2.1
theorem dL_law_324 : decode cL_law 324 = .ok (.aload_n 0, 1) := bh00_39.2.2.2.2
theorem bh00_40 : (((decode cL_law 325 = .ok (.iload 4, 2) ∧ decode cL_law 327 = .ok (.iconst 1, 1)) ∧ (decode cL_law 328 = .ok (.iadd, 1) ∧ decode cL_law 329 = .ok (.iaload, 1))) ∧ ((decode cL_law 330 = .ok (.invokevirtual 120, 3) ∧ decode cL_law 333 = .ok (.istore 6, 2)) ∧ (decode cL_law 335 = .ok (.goto 1113, 3) ∧ decode cL_law 338 = .ok (.aload_n 1, 1)))) ∧ (((decode cL_law 339 = .ok (.aload_n 0, 1) ∧ decode cL_law 340 = .ok (.iload 4, 2)) ∧ (decode cL_law 342 = .ok (.iconst 1, 1) ∧ decode cL_law 343 = .ok (.iadd, 1))) ∧ ((decode cL_law 344 = .ok (.iaload, 1) ∧ decode cL_law 345 = .ok (.aload_n 0, 1)) ∧ (decode cL_law 346 = .ok (.iload 4, 2) ∧ decode cL_law 348 = .ok (.iconst 2, 1)))) := by decide +kernel
theorem dL_law_325 : decode cL_law 325 = .ok (.iload 4, 2) := bh00_40.1.1.1.1
theorem dL_law_327 : decode cL_law 327 = .ok (.iconst 1, 1) := bh00_40.1.1.1.2
theorem dL_law_328 : decode cL_law 328 = .ok (.iadd, 1) := bh00_40.1.1.2.1
theorem dL_law_329 : decode cL_law 329 = .ok (.iaload, 1) := bh00_40.1.1.2.2
theorem dL_law_330 : decode cL_law 330 = .ok (.invokevirtual 120, 3) := bh00_40.1.2.1.1
theorem dL_law_333 : decode cL_law 333 = .ok (.istore 6, 2) := bh00_40.1.2.1.2
theorem dL_law_335 : decode cL_law 335 = .ok (.goto 1113, 3) := bh00_40.1.2.2.1
theorem dL_law_338 : decode cL_law 338 = .ok (.aload_n 1, 1) := bh00_40.1.2.2.2
theorem dL_law_339 : decode cL_law 339 = .ok (.aload_n 0, 1) := bh00_40.2.1.1.1
theorem dL_law_340 : decode cL_law 340 = .ok (.iload 4, 2) := bh00_40.2.1.1.2
theorem dL_law_342 : decode cL_law 342 = .ok (.iconst 1, 1) := bh00_40.2.1.2.1
theorem dL_law_343 : decode cL_law 343 = .ok (.iadd, 1) := bh00_40.2.1.2.2
theorem dL_law_344 : decode cL_law 344 = .ok (.iaload, 1) := bh00_40.2.2.1.1
theorem dL_law_345 : decode cL_law 345 = .ok (.aload_n 0, 1) := bh00_40.2.2.1.2
theorem dL_law_346 : decode cL_law 346 = .ok (.iload 4, 2) := bh00_40.2.2.2.1
theorem dL_law_348 : decode cL_law 348 = .ok (.iconst 2, 1) := bh00_40.2.2.2.2
theorem bh00_41 : (((decode cL_law 349 = .ok (.iadd, 1) ∧ decode cL_law 350 = .ok (.iaload, 1)) ∧ (decode cL_law 351 = .ok (.aload_n 3, 1) ∧ decode cL_law 352 = .ok (.invokestatic 121, 3))) ∧ ((decode cL_law 355 = .ok (.istore 5, 2) ∧ decode cL_law 357 = .ok (.aload_n 2, 1)) ∧ (decode cL_law 358 = .ok (.aload_n 0, 1) ∧ decode cL_law 359 = .ok (.iload 4, 2)))) ∧ (((decode cL_law 361 = .ok (.iconst 1, 1) ∧ decode cL_law 362 = .ok (.iadd, 1)) ∧ (decode cL_law 363 = .ok (.iaload, 1) ∧ decode cL_law 364 = .ok (.aload_n 0, 1))) ∧ ((decode cL_law 365 = .ok (.iload 4, 2) ∧ decode cL_law 367 = .ok (.iconst 2, 1)) ∧ (decode cL_law 368 = .ok (.iadd, 1) ∧ decode cL_law 369 = .ok (.iaload, 1)))) := by decide +kernel
theorem dL_law_349 : decode cL_law 349 = .ok (.iadd, 1) := bh00_41.1.1.1.1
theorem dL_law_350 : decode cL_law 350 = .ok (.iaload, 1) := bh00_41.1.1.1.2
theorem dL_law_351 : decode cL_law 351 = .ok (.aload_n 3, 1) := bh00_41.1.1.2.1
theorem dL_law_352 : decode cL_law 352 = .ok (.invokestatic 121, 3) := bh00_41.1.1.2.2
theorem dL_law_355 : decode cL_law 355 = .ok (.istore 5, 2) := bh00_41.1.2.1.1
theorem dL_law_357 : decode cL_law 357 = .ok (.aload_n 2, 1) := bh00_41.1.2.1.2
theorem dL_law_358 : decode cL_law 358 = .ok (.aload_n 0, 1) := bh00_41.1.2.2.1
theorem dL_law_359 : decode cL_law 359 = .ok (.iload 4, 2) := bh00_41.1.2.2.2
theorem dL_law_361 : decode cL_law 361 = .ok (.iconst 1, 1) := bh00_41.2.1.1.1
theorem dL_law_362 : decode cL_law 362 = .ok (.iadd, 1) := bh00_41.2.1.1.2
theorem dL_law_363 : decode cL_law 363 = .ok (.iaload, 1) := bh00_41.2.1.2.1
theorem dL_law_364 : decode cL_law 364 = .ok (.aload_n 0, 1) := bh00_41.2.1.2.2
theorem dL_law_365 : decode cL_law 365 = .ok (.iload 4, 2) := bh00_41.2.2.1.1
theorem dL_law_367 : decode cL_law 367 = .ok (.iconst 2, 1) := bh00_41.2.2.1.2
theorem dL_law_368 : decode cL_law 368 = .ok (.iadd, 1) := bh00_41.2.2.2.1
theorem dL_law_369 : decode cL_law 369 = .ok (.iaload, 1) := bh00_41.2.2.2.2
theorem bh00_42 : (((decode cL_law 370 = .ok (.invokevirtual 124, 3) ∧ decode cL_law 373 = .ok (.istore 6, 2)) ∧ (decode cL_law 375 = .ok (.goto 1073, 3) ∧ decode cL_law 378 = .ok (.aload_n 1, 1))) ∧ ((decode cL_law 379 = .ok (.aload_n 0, 1) ∧ decode cL_law 380 = .ok (.iload 4, 2)) ∧ (decode cL_law 382 = .ok (.iconst 1, 1) ∧ decode cL_law 383 = .ok (.iadd, 1)))) ∧ (((decode cL_law 384 = .ok (.iaload, 1) ∧ decode cL_law 385 = .ok (.aload_n 0, 1)) ∧ (decode cL_law 386 = .ok (.iload 4, 2) ∧ decode cL_law 388 = .ok (.iconst 2, 1))) ∧ ((decode cL_law 389 = .ok (.iadd, 1) ∧ decode cL_law 390 = .ok (.iaload, 1)) ∧ (decode cL_law 391 = .ok (.aload_n 3, 1) ∧ decode cL_law 392 = .ok (.invokestatic 125, 3)))) := by decide +kernel
theorem dL_law_370 : decode cL_law 370 = .ok (.invokevirtual 124, 3) := bh00_42.1.1.1.1
theorem dL_law_373 : decode cL_law 373 = .ok (.istore 6, 2) := bh00_42.1.1.1.2
theorem dL_law_375 : decode cL_law 375 = .ok (.goto 1073, 3) := bh00_42.1.1.2.1
theorem dL_law_378 : decode cL_law 378 = .ok (.aload_n 1, 1) := bh00_42.1.1.2.2
theorem dL_law_379 : decode cL_law 379 = .ok (.aload_n 0, 1) := bh00_42.1.2.1.1
theorem dL_law_380 : decode cL_law 380 = .ok (.iload 4, 2) := bh00_42.1.2.1.2
theorem dL_law_382 : decode cL_law 382 = .ok (.iconst 1, 1) := bh00_42.1.2.2.1
theorem dL_law_383 : decode cL_law 383 = .ok (.iadd, 1) := bh00_42.1.2.2.2
theorem dL_law_384 : decode cL_law 384 = .ok (.iaload, 1) := bh00_42.2.1.1.1
theorem dL_law_385 : decode cL_law 385 = .ok (.aload_n 0, 1) := bh00_42.2.1.1.2
theorem dL_law_386 : decode cL_law 386 = .ok (.iload 4, 2) := bh00_42.2.1.2.1
theorem dL_law_388 : decode cL_law 388 = .ok (.iconst 2, 1) := bh00_42.2.1.2.2
theorem dL_law_389 : decode cL_law 389 = .ok (.iadd, 1) := bh00_42.2.2.1.1
theorem dL_law_390 : decode cL_law 390 = .ok (.iaload, 1) := bh00_42.2.2.1.2
theorem dL_law_391 : decode cL_law 391 = .ok (.aload_n 3, 1) := bh00_42.2.2.2.1
theorem dL_law_392 : decode cL_law 392 = .ok (.invokestatic 125, 3) := bh00_42.2.2.2.2
theorem bh00_43 : (((decode cL_law 395 = .ok (.istore 5, 2) ∧ decode cL_law 397 = .ok (.aload_n 2, 1)) ∧ (decode cL_law 398 = .ok (.aload_n 0, 1) ∧ decode cL_law 399 = .ok (.iload 4, 2))) ∧ ((decode cL_law 401 = .ok (.iconst 1, 1) ∧ decode cL_law 402 = .ok (.iadd, 1)) ∧ (decode cL_law 403 = .ok (.iaload, 1) ∧ decode cL_law 404 = .ok (.aload_n 0, 1)))) ∧ (((decode cL_law 405 = .ok (.iload 4, 2) ∧ decode cL_law 407 = .ok (.iconst 2, 1)) ∧ (decode cL_law 408 = .ok (.iadd, 1) ∧ decode cL_law 409 = .ok (.iaload, 1))) ∧ ((decode cL_law 410 = .ok (.invokevirtual 127, 3) ∧ decode cL_law 413 = .ok (.istore 6, 2)) ∧ (decode cL_law 415 = .ok (.goto 1033, 3) ∧ decode cL_law 418 = .ok (.aload_n 1, 1)))) := by decide +kernel
theorem dL_law_395 : decode cL_law 395 = .ok (.istore 5, 2) := bh00_43.1.1.1.1
theorem dL_law_397 : decode cL_law 397 = .ok (.aload_n 2, 1) := bh00_43.1.1.1.2
theorem dL_law_398 : decode cL_law 398 = .ok (.aload_n 0, 1) := bh00_43.1.1.2.1
theorem dL_law_399 : decode cL_law 399 = .ok (.iload 4, 2) := bh00_43.1.1.2.2
theorem dL_law_401 : decode cL_law 401 = .ok (.iconst 1, 1) := bh00_43.1.2.1.1
theorem dL_law_402 : decode cL_law 402 = .ok (.iadd, 1) := bh00_43.1.2.1.2
theorem dL_law_403 : decode cL_law 403 = .ok (.iaload, 1) := bh00_43.1.2.2.1
theorem dL_law_404 : decode cL_law 404 = .ok (.aload_n 0, 1) := bh00_43.1.2.2.2
theorem dL_law_405 : decode cL_law 405 = .ok (.iload 4, 2) := bh00_43.2.1.1.1
theorem dL_law_407 : decode cL_law 407 = .ok (.iconst 2, 1) := bh00_43.2.1.1.2
theorem dL_law_408 : decode cL_law 408 = .ok (.iadd, 1) := bh00_43.2.1.2.1
theorem dL_law_409 : decode cL_law 409 = .ok (.iaload, 1) := bh00_43.2.1.2.2
theorem dL_law_410 : decode cL_law 410 = .ok (.invokevirtual 127, 3) := bh00_43.2.2.1.1
theorem dL_law_413 : decode cL_law 413 = .ok (.istore 6, 2) := bh00_43.2.2.1.2
theorem dL_law_415 : decode cL_law 415 = .ok (.goto 1033, 3) := bh00_43.2.2.2.1
theorem dL_law_418 : decode cL_law 418 = .ok (.aload_n 1, 1) := bh00_43.2.2.2.2
theorem bh00_44 : (((decode cL_law 419 = .ok (.aload_n 0, 1) ∧ decode cL_law 420 = .ok (.iload 4, 2)) ∧ (decode cL_law 422 = .ok (.iconst 1, 1) ∧ decode cL_law 423 = .ok (.iadd, 1))) ∧ ((decode cL_law 424 = .ok (.iaload, 1) ∧ decode cL_law 425 = .ok (.invokevirtual 128, 3)) ∧ (decode cL_law 428 = .ok (.aload_n 2, 1) ∧ decode cL_law 429 = .ok (.aload_n 0, 1)))) ∧ (((decode cL_law 430 = .ok (.iload 4, 2) ∧ decode cL_law 432 = .ok (.iconst 1, 1)) ∧ (decode cL_law 433 = .ok (.iadd, 1) ∧ decode cL_law 434 = .ok (.iaload, 1))) ∧ ((decode cL_law 435 = .ok (.invokevirtual 131, 3) ∧ decode cL_law 438 = .ok (.if_icmp .eq 1010, 3)) ∧ (decode cL_law 443 = .ok (.aload_n 1, 1) ∧ decode cL_law 444 = .ok (.aload_n 0, 1)))) := by decide +kernel
theorem dL_law_419 : decode cL_law 419 = .ok (.aload_n 0, 1) := bh00_44.1.1.1.1
theorem dL_law_420 : decode cL_law 420 = .ok (.iload 4, 2) := bh00_44.1.1.1.2
theorem dL_law_422 : decode cL_law 422 = .ok (.iconst 1, 1) := bh00_44.1.1.2.1
theorem dL_law_423 : decode cL_law 423 = .ok (.iadd, 1) := bh00_44.1.1.2.2
theorem dL_law_424 : decode cL_law 424 = .ok (.iaload, 1) := bh00_44.1.2.1.1
theorem dL_law_425 : decode cL_law 425 = .ok (.invokevirtual 128, 3) := bh00_44.1.2.1.2
theorem dL_law_428 : decode cL_law 428 = .ok (.aload_n 2, 1) := bh00_44.1.2.2.1
theorem dL_law_429 : decode cL_law 429 = .ok (.aload_n 0, 1) := bh00_44.1.2.2.2
theorem dL_law_430 : decode cL_law 430 = .ok (.iload 4, 2) := bh00_44.2.1.1.1
theorem dL_law_432 : decode cL_law 432 = .ok (.iconst 1, 1) := bh00_44.2.1.1.2
theorem dL_law_433 : decode cL_law 433 = .ok (.iadd, 1) := bh00_44.2.1.2.1
theorem dL_law_434 : decode cL_law 434 = .ok (.iaload, 1) := bh00_44.2.1.2.2
theorem dL_law_435 : decode cL_law 435 = .ok (.invokevirtual 131, 3) := bh00_44.2.2.1.1
theorem dL_law_438 : decode cL_law 438 = .ok (.if_icmp .eq 1010, 3) := bh00_44.2.2.1.2
theorem dL_law_443 : decode cL_law 443 = .ok (.aload_n 1, 1) := bh00_44.2.2.2.1
theorem dL_law_444 : decode cL_law 444 = .ok (.aload_n 0, 1) := bh00_44.2.2.2.2
theorem bh00_45 : (((decode cL_law 445 = .ok (.iload 4, 2) ∧ decode cL_law 447 = .ok (.iconst 1, 1)) ∧ (decode cL_law 448 = .ok (.iadd, 1) ∧ decode cL_law 449 = .ok (.iaload, 1))) ∧ ((decode cL_law 450 = .ok (.aload_n 0, 1) ∧ decode cL_law 451 = .ok (.iload 4, 2)) ∧ (decode cL_law 453 = .ok (.iconst 2, 1) ∧ decode cL_law 454 = .ok (.iadd, 1)))) ∧ (((decode cL_law 455 = .ok (.iaload, 1) ∧ decode cL_law 456 = .ok (.aload_n 0, 1)) ∧ (decode cL_law 457 = .ok (.iload 4, 2) ∧ decode cL_law 459 = .ok (.iconst 3, 1))) ∧ ((decode cL_law 460 = .ok (.iadd, 1) ∧ decode cL_law 461 = .ok (.iaload, 1)) ∧ (decode cL_law 462 = .ok (.aload_n 3, 1) ∧ decode cL_law 463 = .ok (.invokestatic 132, 3)))) := by decide +kernel
theorem dL_law_445 : decode cL_law 445 = .ok (.iload 4, 2) := bh00_45.1.1.1.1
theorem dL_law_447 : decode cL_law 447 = .ok (.iconst 1, 1) := bh00_45.1.1.1.2
theorem dL_law_448 : decode cL_law 448 = .ok (.iadd, 1) := bh00_45.1.1.2.1
theorem dL_law_449 : decode cL_law 449 = .ok (.iaload, 1) := bh00_45.1.1.2.2
theorem dL_law_450 : decode cL_law 450 = .ok (.aload_n 0, 1) := bh00_45.1.2.1.1
theorem dL_law_451 : decode cL_law 451 = .ok (.iload 4, 2) := bh00_45.1.2.1.2
theorem dL_law_453 : decode cL_law 453 = .ok (.iconst 2, 1) := bh00_45.1.2.2.1
theorem dL_law_454 : decode cL_law 454 = .ok (.iadd, 1) := bh00_45.1.2.2.2
theorem dL_law_455 : decode cL_law 455 = .ok (.iaload, 1) := bh00_45.2.1.1.1
theorem dL_law_456 : decode cL_law 456 = .ok (.aload_n 0, 1) := bh00_45.2.1.1.2
theorem dL_law_457 : decode cL_law 457 = .ok (.iload 4, 2) := bh00_45.2.1.2.1
theorem dL_law_459 : decode cL_law 459 = .ok (.iconst 3, 1) := bh00_45.2.1.2.2
theorem dL_law_460 : decode cL_law 460 = .ok (.iadd, 1) := bh00_45.2.2.1.1
theorem dL_law_461 : decode cL_law 461 = .ok (.iaload, 1) := bh00_45.2.2.1.2
theorem dL_law_462 : decode cL_law 462 = .ok (.aload_n 3, 1) := bh00_45.2.2.2.1
theorem dL_law_463 : decode cL_law 463 = .ok (.invokestatic 132, 3) := bh00_45.2.2.2.2
theorem bh00_46 : (((decode cL_law 466 = .ok (.istore 5, 2) ∧ decode cL_law 468 = .ok (.aload_n 2, 1)) ∧ (decode cL_law 469 = .ok (.aload_n 0, 1) ∧ decode cL_law 470 = .ok (.iload 4, 2))) ∧ ((decode cL_law 472 = .ok (.iconst 1, 1) ∧ decode cL_law 473 = .ok (.iadd, 1)) ∧ (decode cL_law 474 = .ok (.iaload, 1) ∧ decode cL_law 475 = .ok (.aload_n 0, 1)))) ∧ (((decode cL_law 476 = .ok (.iload 4, 2) ∧ decode cL_law 478 = .ok (.iconst 2, 1)) ∧ (decode cL_law 479 = .ok (.iadd, 1) ∧ decode cL_law 480 = .ok (.iaload, 1))) ∧ ((decode cL_law 481 = .ok (.aload_n 0, 1) ∧ decode cL_law 482 = .ok (.iload 4, 2)) ∧ (decode cL_law 484 = .ok (.iconst 3, 1) ∧ decode cL_law 485 = .ok (.iadd, 1)))) := by decide +kernel
theorem dL_law_466 : decode cL_law 466 = .ok (.istore 5, 2) := bh00_46.1.1.1.1
theorem dL_law_468 : decode cL_law 468 = .ok (.aload_n 2, 1) := bh00_46.1.1.1.2
theorem dL_law_469 : decode cL_law 469 = .ok (.aload_n 0, 1) := bh00_46.1.1.2.1
theorem dL_law_470 : decode cL_law 470 = .ok (.iload 4, 2) := bh00_46.1.1.2.2
theorem dL_law_472 : decode cL_law 472 = .ok (.iconst 1, 1) := bh00_46.1.2.1.1
theorem dL_law_473 : decode cL_law 473 = .ok (.iadd, 1) := bh00_46.1.2.1.2
theorem dL_law_474 : decode cL_law 474 = .ok (.iaload, 1) := bh00_46.1.2.2.1
theorem dL_law_475 : decode cL_law 475 = .ok (.aload_n 0, 1) := bh00_46.1.2.2.2
theorem dL_law_476 : decode cL_law 476 = .ok (.iload 4, 2) := bh00_46.2.1.1.1
theorem dL_law_478 : decode cL_law 478 = .ok (.iconst 2, 1) := bh00_46.2.1.1.2
theorem dL_law_479 : decode cL_law 479 = .ok (.iadd, 1) := bh00_46.2.1.2.1
theorem dL_law_480 : decode cL_law 480 = .ok (.iaload, 1) := bh00_46.2.1.2.2
theorem dL_law_481 : decode cL_law 481 = .ok (.aload_n 0, 1) := bh00_46.2.2.1.1
theorem dL_law_482 : decode cL_law 482 = .ok (.iload 4, 2) := bh00_46.2.2.1.2
theorem dL_law_484 : decode cL_law 484 = .ok (.iconst 3, 1) := bh00_46.2.2.2.1
theorem dL_law_485 : decode cL_law 485 = .ok (.iadd, 1) := bh00_46.2.2.2.2
theorem bh00_47 : (((decode cL_law 486 = .ok (.iaload, 1) ∧ decode cL_law 487 = .ok (.invokevirtual 135, 3)) ∧ (decode cL_law 490 = .ok (.istore 6, 2) ∧ decode cL_law 492 = .ok (.goto 956, 3))) ∧ ((decode cL_law 495 = .ok (.aload_n 1, 1) ∧ decode cL_law 496 = .ok (.aload_n 0, 1)) ∧ (decode cL_law 497 = .ok (.iload 4, 2) ∧ decode cL_law 499 = .ok (.iconst 1, 1)))) ∧ (((decode cL_law 500 = .ok (.iadd, 1) ∧ decode cL_law 501 = .ok (.iaload, 1)) ∧ (decode cL_law 502 = .ok (.aload_n 3, 1) ∧ decode cL_law 503 = .ok (.invokestatic 136, 3))) ∧ ((decode cL_law 506 = .ok (.istore 5, 2) ∧ decode cL_law 508 = .ok (.aload_n 2, 1)) ∧ (decode cL_law 509 = .ok (.aload_n 0, 1) ∧ decode cL_law 510 = .ok (.iload 4, 2)))) := by decide +kernel
theorem dL_law_486 : decode cL_law 486 = .ok (.iaload, 1) := bh00_47.1.1.1.1
theorem dL_law_487 : decode cL_law 487 = .ok (.invokevirtual 135, 3) := bh00_47.1.1.1.2
theorem dL_law_490 : decode cL_law 490 = .ok (.istore 6, 2) := bh00_47.1.1.2.1
theorem dL_law_492 : decode cL_law 492 = .ok (.goto 956, 3) := bh00_47.1.1.2.2
theorem dL_law_495 : decode cL_law 495 = .ok (.aload_n 1, 1) := bh00_47.1.2.1.1
theorem dL_law_496 : decode cL_law 496 = .ok (.aload_n 0, 1) := bh00_47.1.2.1.2
theorem dL_law_497 : decode cL_law 497 = .ok (.iload 4, 2) := bh00_47.1.2.2.1
theorem dL_law_499 : decode cL_law 499 = .ok (.iconst 1, 1) := bh00_47.1.2.2.2
theorem dL_law_500 : decode cL_law 500 = .ok (.iadd, 1) := bh00_47.2.1.1.1
theorem dL_law_501 : decode cL_law 501 = .ok (.iaload, 1) := bh00_47.2.1.1.2
theorem dL_law_502 : decode cL_law 502 = .ok (.aload_n 3, 1) := bh00_47.2.1.2.1
theorem dL_law_503 : decode cL_law 503 = .ok (.invokestatic 136, 3) := bh00_47.2.1.2.2
theorem dL_law_506 : decode cL_law 506 = .ok (.istore 5, 2) := bh00_47.2.2.1.1
theorem dL_law_508 : decode cL_law 508 = .ok (.aload_n 2, 1) := bh00_47.2.2.1.2
theorem dL_law_509 : decode cL_law 509 = .ok (.aload_n 0, 1) := bh00_47.2.2.2.1
theorem dL_law_510 : decode cL_law 510 = .ok (.iload 4, 2) := bh00_47.2.2.2.2
theorem bh00_48 : (((decode cL_law 512 = .ok (.iconst 1, 1) ∧ decode cL_law 513 = .ok (.iadd, 1)) ∧ (decode cL_law 514 = .ok (.iaload, 1) ∧ decode cL_law 515 = .ok (.invokevirtual 138, 3))) ∧ ((decode cL_law 518 = .ok (.istore 6, 2) ∧ decode cL_law 520 = .ok (.goto 928, 3)) ∧ (decode cL_law 523 = .ok (.aload_n 1, 1) ∧ decode cL_law 524 = .ok (.aload_n 0, 1)))) ∧ (((decode cL_law 525 = .ok (.iload 4, 2) ∧ decode cL_law 527 = .ok (.iconst 1, 1)) ∧ (decode cL_law 528 = .ok (.iadd, 1) ∧ decode cL_law 529 = .ok (.iaload, 1))) ∧ ((decode cL_law 530 = .ok (.aload_n 0, 1) ∧ decode cL_law 531 = .ok (.iload 4, 2)) ∧ (decode cL_law 533 = .ok (.iconst 2, 1) ∧ decode cL_law 534 = .ok (.iadd, 1)))) := by decide +kernel
theorem dL_law_512 : decode cL_law 512 = .ok (.iconst 1, 1) := bh00_48.1.1.1.1
theorem dL_law_513 : decode cL_law 513 = .ok (.iadd, 1) := bh00_48.1.1.1.2
theorem dL_law_514 : decode cL_law 514 = .ok (.iaload, 1) := bh00_48.1.1.2.1
theorem dL_law_515 : decode cL_law 515 = .ok (.invokevirtual 138, 3) := bh00_48.1.1.2.2
theorem dL_law_518 : decode cL_law 518 = .ok (.istore 6, 2) := bh00_48.1.2.1.1
theorem dL_law_520 : decode cL_law 520 = .ok (.goto 928, 3) := bh00_48.1.2.1.2
theorem dL_law_523 : decode cL_law 523 = .ok (.aload_n 1, 1) := bh00_48.1.2.2.1
theorem dL_law_524 : decode cL_law 524 = .ok (.aload_n 0, 1) := bh00_48.1.2.2.2
theorem dL_law_525 : decode cL_law 525 = .ok (.iload 4, 2) := bh00_48.2.1.1.1
theorem dL_law_527 : decode cL_law 527 = .ok (.iconst 1, 1) := bh00_48.2.1.1.2
theorem dL_law_528 : decode cL_law 528 = .ok (.iadd, 1) := bh00_48.2.1.2.1
theorem dL_law_529 : decode cL_law 529 = .ok (.iaload, 1) := bh00_48.2.1.2.2
theorem dL_law_530 : decode cL_law 530 = .ok (.aload_n 0, 1) := bh00_48.2.2.1.1
theorem dL_law_531 : decode cL_law 531 = .ok (.iload 4, 2) := bh00_48.2.2.1.2
theorem dL_law_533 : decode cL_law 533 = .ok (.iconst 2, 1) := bh00_48.2.2.2.1
theorem dL_law_534 : decode cL_law 534 = .ok (.iadd, 1) := bh00_48.2.2.2.2
theorem bh00_49 : (((decode cL_law 535 = .ok (.iaload, 1) ∧ decode cL_law 536 = .ok (.aload_n 3, 1)) ∧ (decode cL_law 537 = .ok (.invokestatic 139, 3) ∧ decode cL_law 540 = .ok (.istore 5, 2))) ∧ ((decode cL_law 542 = .ok (.aload_n 2, 1) ∧ decode cL_law 543 = .ok (.aload_n 0, 1)) ∧ (decode cL_law 544 = .ok (.iload 4, 2) ∧ decode cL_law 546 = .ok (.iconst 1, 1)))) ∧ (((decode cL_law 547 = .ok (.iadd, 1) ∧ decode cL_law 548 = .ok (.iaload, 1)) ∧ (decode cL_law 549 = .ok (.aload_n 0, 1) ∧ decode cL_law 550 = .ok (.iload 4, 2))) ∧ ((decode cL_law 552 = .ok (.iconst 2, 1) ∧ decode cL_law 553 = .ok (.iadd, 1)) ∧ (decode cL_law 554 = .ok (.iaload, 1) ∧ decode cL_law 555 = .ok (.invokevirtual 141, 3)))) := by decide +kernel
theorem dL_law_535 : decode cL_law 535 = .ok (.iaload, 1) := bh00_49.1.1.1.1
theorem dL_law_536 : decode cL_law 536 = .ok (.aload_n 3, 1) := bh00_49.1.1.1.2
theorem dL_law_537 : decode cL_law 537 = .ok (.invokestatic 139, 3) := bh00_49.1.1.2.1
theorem dL_law_540 : decode cL_law 540 = .ok (.istore 5, 2) := bh00_49.1.1.2.2
theorem dL_law_542 : decode cL_law 542 = .ok (.aload_n 2, 1) := bh00_49.1.2.1.1
theorem dL_law_543 : decode cL_law 543 = .ok (.aload_n 0, 1) := bh00_49.1.2.1.2
theorem dL_law_544 : decode cL_law 544 = .ok (.iload 4, 2) := bh00_49.1.2.2.1
theorem dL_law_546 : decode cL_law 546 = .ok (.iconst 1, 1) := bh00_49.1.2.2.2
theorem dL_law_547 : decode cL_law 547 = .ok (.iadd, 1) := bh00_49.2.1.1.1
theorem dL_law_548 : decode cL_law 548 = .ok (.iaload, 1) := bh00_49.2.1.1.2
theorem dL_law_549 : decode cL_law 549 = .ok (.aload_n 0, 1) := bh00_49.2.1.2.1
theorem dL_law_550 : decode cL_law 550 = .ok (.iload 4, 2) := bh00_49.2.1.2.2
theorem dL_law_552 : decode cL_law 552 = .ok (.iconst 2, 1) := bh00_49.2.2.1.1
theorem dL_law_553 : decode cL_law 553 = .ok (.iadd, 1) := bh00_49.2.2.1.2
theorem dL_law_554 : decode cL_law 554 = .ok (.iaload, 1) := bh00_49.2.2.2.1
theorem dL_law_555 : decode cL_law 555 = .ok (.invokevirtual 141, 3) := bh00_49.2.2.2.2
theorem bh00_50 : (((decode cL_law 558 = .ok (.istore 6, 2) ∧ decode cL_law 560 = .ok (.goto 888, 3)) ∧ (decode cL_law 563 = .ok (.aload_n 1, 1) ∧ decode cL_law 564 = .ok (.aload_n 0, 1))) ∧ ((decode cL_law 565 = .ok (.iload 4, 2) ∧ decode cL_law 567 = .ok (.iconst 1, 1)) ∧ (decode cL_law 568 = .ok (.iadd, 1) ∧ decode cL_law 569 = .ok (.iaload, 1)))) ∧ (((decode cL_law 570 = .ok (.aload_n 0, 1) ∧ decode cL_law 571 = .ok (.iload 4, 2)) ∧ (decode cL_law 573 = .ok (.iconst 2, 1) ∧ decode cL_law 574 = .ok (.iadd, 1))) ∧ ((decode cL_law 575 = .ok (.iaload, 1) ∧ decode cL_law 576 = .ok (.aload_n 3, 1)) ∧ (decode cL_law 577 = .ok (.invokestatic 142, 3) ∧ decode cL_law 580 = .ok (.istore 5, 2)))) := by decide +kernel
theorem dL_law_558 : decode cL_law 558 = .ok (.istore 6, 2) := bh00_50.1.1.1.1
theorem dL_law_560 : decode cL_law 560 = .ok (.goto 888, 3) := bh00_50.1.1.1.2
theorem dL_law_563 : decode cL_law 563 = .ok (.aload_n 1, 1) := bh00_50.1.1.2.1
theorem dL_law_564 : decode cL_law 564 = .ok (.aload_n 0, 1) := bh00_50.1.1.2.2
theorem dL_law_565 : decode cL_law 565 = .ok (.iload 4, 2) := bh00_50.1.2.1.1
theorem dL_law_567 : decode cL_law 567 = .ok (.iconst 1, 1) := bh00_50.1.2.1.2
theorem dL_law_568 : decode cL_law 568 = .ok (.iadd, 1) := bh00_50.1.2.2.1
theorem dL_law_569 : decode cL_law 569 = .ok (.iaload, 1) := bh00_50.1.2.2.2
theorem dL_law_570 : decode cL_law 570 = .ok (.aload_n 0, 1) := bh00_50.2.1.1.1
theorem dL_law_571 : decode cL_law 571 = .ok (.iload 4, 2) := bh00_50.2.1.1.2
theorem dL_law_573 : decode cL_law 573 = .ok (.iconst 2, 1) := bh00_50.2.1.2.1
theorem dL_law_574 : decode cL_law 574 = .ok (.iadd, 1) := bh00_50.2.1.2.2
theorem dL_law_575 : decode cL_law 575 = .ok (.iaload, 1) := bh00_50.2.2.1.1
theorem dL_law_576 : decode cL_law 576 = .ok (.aload_n 3, 1) := bh00_50.2.2.1.2
theorem dL_law_577 : decode cL_law 577 = .ok (.invokestatic 142, 3) := bh00_50.2.2.2.1
theorem dL_law_580 : decode cL_law 580 = .ok (.istore 5, 2) := bh00_50.2.2.2.2
theorem bh00_51 : (((decode cL_law 582 = .ok (.aload_n 2, 1) ∧ decode cL_law 583 = .ok (.aload_n 0, 1)) ∧ (decode cL_law 584 = .ok (.iload 4, 2) ∧ decode cL_law 586 = .ok (.iconst 1, 1))) ∧ ((decode cL_law 587 = .ok (.iadd, 1) ∧ decode cL_law 588 = .ok (.iaload, 1)) ∧ (decode cL_law 589 = .ok (.aload_n 0, 1) ∧ decode cL_law 590 = .ok (.iload 4, 2)))) ∧ (((decode cL_law 592 = .ok (.iconst 2, 1) ∧ decode cL_law 593 = .ok (.iadd, 1)) ∧ (decode cL_law 594 = .ok (.iaload, 1) ∧ decode cL_law 595 = .ok (.invokevirtual 144, 3))) ∧ ((decode cL_law 598 = .ok (.istore 6, 2) ∧ decode cL_law 600 = .ok (.goto 848, 3)) ∧ (decode cL_law 603 = .ok (.aload_n 1, 1) ∧ decode cL_law 604 = .ok (.invokevirtual 145, 3)))) := by decide +kernel
theorem dL_law_582 : decode cL_law 582 = .ok (.aload_n 2, 1) := bh00_51.1.1.1.1
theorem dL_law_583 : decode cL_law 583 = .ok (.aload_n 0, 1) := bh00_51.1.1.1.2
theorem dL_law_584 : decode cL_law 584 = .ok (.iload 4, 2) := bh00_51.1.1.2.1
theorem dL_law_586 : decode cL_law 586 = .ok (.iconst 1, 1) := bh00_51.1.1.2.2
theorem dL_law_587 : decode cL_law 587 = .ok (.iadd, 1) := bh00_51.1.2.1.1
theorem dL_law_588 : decode cL_law 588 = .ok (.iaload, 1) := bh00_51.1.2.1.2
theorem dL_law_589 : decode cL_law 589 = .ok (.aload_n 0, 1) := bh00_51.1.2.2.1
theorem dL_law_590 : decode cL_law 590 = .ok (.iload 4, 2) := bh00_51.1.2.2.2
theorem dL_law_592 : decode cL_law 592 = .ok (.iconst 2, 1) := bh00_51.2.1.1.1
theorem dL_law_593 : decode cL_law 593 = .ok (.iadd, 1) := bh00_51.2.1.1.2
theorem dL_law_594 : decode cL_law 594 = .ok (.iaload, 1) := bh00_51.2.1.2.1
theorem dL_law_595 : decode cL_law 595 = .ok (.invokevirtual 144, 3) := bh00_51.2.1.2.2
theorem dL_law_598 : decode cL_law 598 = .ok (.istore 6, 2) := bh00_51.2.2.1.1
theorem dL_law_600 : decode cL_law 600 = .ok (.goto 848, 3) := bh00_51.2.2.1.2
theorem dL_law_603 : decode cL_law 603 = .ok (.aload_n 1, 1) := bh00_51.2.2.2.1
theorem dL_law_604 : decode cL_law 604 = .ok (.invokevirtual 145, 3) := bh00_51.2.2.2.2
theorem bh00_52 : (((decode cL_law 607 = .ok (.pop, 1) ∧ decode cL_law 608 = .ok (.aload_n 2, 1)) ∧ (decode cL_law 609 = .ok (.invokevirtual 148, 3) ∧ decode cL_law 612 = .ok (.pop, 1))) ∧ ((decode cL_law 613 = .ok (.goto 835, 3) ∧ decode cL_law 616 = .ok (.aload_n 1, 1)) ∧ (decode cL_law 617 = .ok (.aload_n 0, 1) ∧ decode cL_law 618 = .ok (.iload 4, 2)))) ∧ (((decode cL_law 620 = .ok (.iconst 1, 1) ∧ decode cL_law 621 = .ok (.iadd, 1)) ∧ (decode cL_law 622 = .ok (.iaload, 1) ∧ decode cL_law 623 = .ok (.aload_n 0, 1))) ∧ ((decode cL_law 624 = .ok (.iload 4, 2) ∧ decode cL_law 626 = .ok (.iconst 2, 1)) ∧ (decode cL_law 627 = .ok (.iadd, 1) ∧ decode cL_law 628 = .ok (.iaload, 1)))) := by decide +kernel
theorem dL_law_607 : decode cL_law 607 = .ok (.pop, 1) := bh00_52.1.1.1.1
theorem dL_law_608 : decode cL_law 608 = .ok (.aload_n 2, 1) := bh00_52.1.1.1.2
theorem dL_law_609 : decode cL_law 609 = .ok (.invokevirtual 148, 3) := bh00_52.1.1.2.1
theorem dL_law_612 : decode cL_law 612 = .ok (.pop, 1) := bh00_52.1.1.2.2
theorem dL_law_613 : decode cL_law 613 = .ok (.goto 835, 3) := bh00_52.1.2.1.1
theorem dL_law_616 : decode cL_law 616 = .ok (.aload_n 1, 1) := bh00_52.1.2.1.2
theorem dL_law_617 : decode cL_law 617 = .ok (.aload_n 0, 1) := bh00_52.1.2.2.1
theorem dL_law_618 : decode cL_law 618 = .ok (.iload 4, 2) := bh00_52.1.2.2.2
theorem dL_law_620 : decode cL_law 620 = .ok (.iconst 1, 1) := bh00_52.2.1.1.1
theorem dL_law_621 : decode cL_law 621 = .ok (.iadd, 1) := bh00_52.2.1.1.2
theorem dL_law_622 : decode cL_law 622 = .ok (.iaload, 1) := bh00_52.2.1.2.1
theorem dL_law_623 : decode cL_law 623 = .ok (.aload_n 0, 1) := bh00_52.2.1.2.2
theorem dL_law_624 : decode cL_law 624 = .ok (.iload 4, 2) := bh00_52.2.2.1.1
theorem dL_law_626 : decode cL_law 626 = .ok (.iconst 2, 1) := bh00_52.2.2.1.2
theorem dL_law_627 : decode cL_law 627 = .ok (.iadd, 1) := bh00_52.2.2.2.1
theorem dL_law_628 : decode cL_law 628 = .ok (.iaload, 1) := bh00_52.2.2.2.2
theorem bh00_53 : (((decode cL_law 629 = .ok (.aload_n 0, 1) ∧ decode cL_law 630 = .ok (.iload 4, 2)) ∧ (decode cL_law 632 = .ok (.iconst 3, 1) ∧ decode cL_law 633 = .ok (.iadd, 1))) ∧ ((decode cL_law 634 = .ok (.iaload, 1) ∧ decode cL_law 635 = .ok (.aload_n 3, 1)) ∧ (decode cL_law 636 = .ok (.invokestatic 149, 3) ∧ decode cL_law 639 = .ok (.istore 5, 2)))) ∧ (((decode cL_law 641 = .ok (.aload_n 2, 1) ∧ decode cL_law 642 = .ok (.aload_n 0, 1)) ∧ (decode cL_law 643 = .ok (.iload 4, 2) ∧ decode cL_law 645 = .ok (.iconst 1, 1))) ∧ ((decode cL_law 646 = .ok (.iadd, 1) ∧ decode cL_law 647 = .ok (.iaload, 1)) ∧ (decode cL_law 648 = .ok (.aload_n 0, 1) ∧ decode cL_law 649 = .ok (.iload 4, 2)))) := by decide +kernel
theorem dL_law_629 : decode cL_law 629 = .ok (.aload_n 0, 1) := bh00_53.1.1.1.1
theorem dL_law_630 : decode cL_law 630 = .ok (.iload 4, 2) := bh00_53.1.1.1.2
theorem dL_law_632 : decode cL_law 632 = .ok (.iconst 3, 1) := bh00_53.1.1.2.1
theorem dL_law_633 : decode cL_law 633 = .ok (.iadd, 1) := bh00_53.1.1.2.2
theorem dL_law_634 : decode cL_law 634 = .ok (.iaload, 1) := bh00_53.1.2.1.1
theorem dL_law_635 : decode cL_law 635 = .ok (.aload_n 3, 1) := bh00_53.1.2.1.2
theorem dL_law_636 : decode cL_law 636 = .ok (.invokestatic 149, 3) := bh00_53.1.2.2.1
theorem dL_law_639 : decode cL_law 639 = .ok (.istore 5, 2) := bh00_53.1.2.2.2
theorem dL_law_641 : decode cL_law 641 = .ok (.aload_n 2, 1) := bh00_53.2.1.1.1
theorem dL_law_642 : decode cL_law 642 = .ok (.aload_n 0, 1) := bh00_53.2.1.1.2
theorem dL_law_643 : decode cL_law 643 = .ok (.iload 4, 2) := bh00_53.2.1.2.1
theorem dL_law_645 : decode cL_law 645 = .ok (.iconst 1, 1) := bh00_53.2.1.2.2
theorem dL_law_646 : decode cL_law 646 = .ok (.iadd, 1) := bh00_53.2.2.1.1
theorem dL_law_647 : decode cL_law 647 = .ok (.iaload, 1) := bh00_53.2.2.1.2
theorem dL_law_648 : decode cL_law 648 = .ok (.aload_n 0, 1) := bh00_53.2.2.2.1
theorem dL_law_649 : decode cL_law 649 = .ok (.iload 4, 2) := bh00_53.2.2.2.2
theorem bh00_54 : (((decode cL_law 651 = .ok (.iconst 2, 1) ∧ decode cL_law 652 = .ok (.iadd, 1)) ∧ (decode cL_law 653 = .ok (.iaload, 1) ∧ decode cL_law 654 = .ok (.aload_n 0, 1))) ∧ ((decode cL_law 655 = .ok (.iload 4, 2) ∧ decode cL_law 657 = .ok (.iconst 3, 1)) ∧ (decode cL_law 658 = .ok (.iadd, 1) ∧ decode cL_law 659 = .ok (.iaload, 1)))) ∧ (((decode cL_law 660 = .ok (.invokevirtual 151, 3) ∧ decode cL_law 663 = .ok (.istore 6, 2)) ∧ (decode cL_law 665 = .ok (.goto 783, 3) ∧ decode cL_law 668 = .ok (.aload_n 1, 1))) ∧ ((decode cL_law 669 = .ok (.aload_n 0, 1) ∧ decode cL_law 670 = .ok (.iload 4, 2)) ∧ (decode cL_law 672 = .ok (.iconst 1, 1) ∧ decode cL_law 673 = .ok (.iadd, 1)))) := by decide +kernel
theorem dL_law_651 : decode cL_law 651 = .ok (.iconst 2, 1) := bh00_54.1.1.1.1
theorem dL_law_652 : decode cL_law 652 = .ok (.iadd, 1) := bh00_54.1.1.1.2
theorem dL_law_653 : decode cL_law 653 = .ok (.iaload, 1) := bh00_54.1.1.2.1
theorem dL_law_654 : decode cL_law 654 = .ok (.aload_n 0, 1) := bh00_54.1.1.2.2
theorem dL_law_655 : decode cL_law 655 = .ok (.iload 4, 2) := bh00_54.1.2.1.1
theorem dL_law_657 : decode cL_law 657 = .ok (.iconst 3, 1) := bh00_54.1.2.1.2
theorem dL_law_658 : decode cL_law 658 = .ok (.iadd, 1) := bh00_54.1.2.2.1
theorem dL_law_659 : decode cL_law 659 = .ok (.iaload, 1) := bh00_54.1.2.2.2
theorem dL_law_660 : decode cL_law 660 = .ok (.invokevirtual 151, 3) := bh00_54.2.1.1.1
theorem dL_law_663 : decode cL_law 663 = .ok (.istore 6, 2) := bh00_54.2.1.1.2
theorem dL_law_665 : decode cL_law 665 = .ok (.goto 783, 3) := bh00_54.2.1.2.1
theorem dL_law_668 : decode cL_law 668 = .ok (.aload_n 1, 1) := bh00_54.2.1.2.2
theorem dL_law_669 : decode cL_law 669 = .ok (.aload_n 0, 1) := bh00_54.2.2.1.1
theorem dL_law_670 : decode cL_law 670 = .ok (.iload 4, 2) := bh00_54.2.2.1.2
theorem dL_law_672 : decode cL_law 672 = .ok (.iconst 1, 1) := bh00_54.2.2.2.1
theorem dL_law_673 : decode cL_law 673 = .ok (.iadd, 1) := bh00_54.2.2.2.2
theorem bh00_55 : (((decode cL_law 674 = .ok (.iaload, 1) ∧ decode cL_law 675 = .ok (.aload_n 0, 1)) ∧ (decode cL_law 676 = .ok (.iload 4, 2) ∧ decode cL_law 678 = .ok (.iconst 2, 1))) ∧ ((decode cL_law 679 = .ok (.iadd, 1) ∧ decode cL_law 680 = .ok (.iaload, 1)) ∧ (decode cL_law 681 = .ok (.aload_n 0, 1) ∧ decode cL_law 682 = .ok (.iload 4, 2)))) ∧ (((decode cL_law 684 = .ok (.iconst 3, 1) ∧ decode cL_law 685 = .ok (.iadd, 1)) ∧ (decode cL_law 686 = .ok (.iaload, 1) ∧ decode cL_law 687 = .ok (.aload_n 3, 1))) ∧ ((decode cL_law 688 = .ok (.invokestatic 152, 3) ∧ decode cL_law 691 = .ok (.istore 5, 2)) ∧ (decode cL_law 693 = .ok (.aload_n 2, 1) ∧ decode cL_law 694 = .ok (.aload_n 0, 1)))) := by decide +kernel
theorem dL_law_674 : decode cL_law 674 = .ok (.iaload, 1) := bh00_55.1.1.1.1
theorem dL_law_675 : decode cL_law 675 = .ok (.aload_n 0, 1) := bh00_55.1.1.1.2
theorem dL_law_676 : decode cL_law 676 = .ok (.iload 4, 2) := bh00_55.1.1.2.1
theorem dL_law_678 : decode cL_law 678 = .ok (.iconst 2, 1) := bh00_55.1.1.2.2
theorem dL_law_679 : decode cL_law 679 = .ok (.iadd, 1) := bh00_55.1.2.1.1
theorem dL_law_680 : decode cL_law 680 = .ok (.iaload, 1) := bh00_55.1.2.1.2
theorem dL_law_681 : decode cL_law 681 = .ok (.aload_n 0, 1) := bh00_55.1.2.2.1
theorem dL_law_682 : decode cL_law 682 = .ok (.iload 4, 2) := bh00_55.1.2.2.2
theorem dL_law_684 : decode cL_law 684 = .ok (.iconst 3, 1) := bh00_55.2.1.1.1
theorem dL_law_685 : decode cL_law 685 = .ok (.iadd, 1) := bh00_55.2.1.1.2
theorem dL_law_686 : decode cL_law 686 = .ok (.iaload, 1) := bh00_55.2.1.2.1
theorem dL_law_687 : decode cL_law 687 = .ok (.aload_n 3, 1) := bh00_55.2.1.2.2
theorem dL_law_688 : decode cL_law 688 = .ok (.invokestatic 152, 3) := bh00_55.2.2.1.1
theorem dL_law_691 : decode cL_law 691 = .ok (.istore 5, 2) := bh00_55.2.2.1.2
theorem dL_law_693 : decode cL_law 693 = .ok (.aload_n 2, 1) := bh00_55.2.2.2.1
theorem dL_law_694 : decode cL_law 694 = .ok (.aload_n 0, 1) := bh00_55.2.2.2.2
theorem bh00_56 : (((decode cL_law 695 = .ok (.iload 4, 2) ∧ decode cL_law 697 = .ok (.iconst 1, 1)) ∧ (decode cL_law 698 = .ok (.iadd, 1) ∧ decode cL_law 699 = .ok (.iaload, 1))) ∧ ((decode cL_law 700 = .ok (.aload_n 0, 1) ∧ decode cL_law 701 = .ok (.iload 4, 2)) ∧ (decode cL_law 703 = .ok (.iconst 2, 1) ∧ decode cL_law 704 = .ok (.iadd, 1)))) ∧ (((decode cL_law 705 = .ok (.iaload, 1) ∧ decode cL_law 706 = .ok (.aload_n 0, 1)) ∧ (decode cL_law 707 = .ok (.iload 4, 2) ∧ decode cL_law 709 = .ok (.iconst 3, 1))) ∧ ((decode cL_law 710 = .ok (.iadd, 1) ∧ decode cL_law 711 = .ok (.iaload, 1)) ∧ (decode cL_law 712 = .ok (.invokevirtual 154, 3) ∧ decode cL_law 715 = .ok (.istore 6, 2)))) := by decide +kernel
theorem dL_law_695 : decode cL_law 695 = .ok (.iload 4, 2) := bh00_56.1.1.1.1
theorem dL_law_697 : decode cL_law 697 = .ok (.iconst 1, 1) := bh00_56.1.1.1.2
theorem dL_law_698 : decode cL_law 698 = .ok (.iadd, 1) := bh00_56.1.1.2.1
theorem dL_law_699 : decode cL_law 699 = .ok (.iaload, 1) := bh00_56.1.1.2.2
theorem dL_law_700 : decode cL_law 700 = .ok (.aload_n 0, 1) := bh00_56.1.2.1.1
theorem dL_law_701 : decode cL_law 701 = .ok (.iload 4, 2) := bh00_56.1.2.1.2
theorem dL_law_703 : decode cL_law 703 = .ok (.iconst 2, 1) := bh00_56.1.2.2.1
theorem dL_law_704 : decode cL_law 704 = .ok (.iadd, 1) := bh00_56.1.2.2.2
theorem dL_law_705 : decode cL_law 705 = .ok (.iaload, 1) := bh00_56.2.1.1.1
theorem dL_law_706 : decode cL_law 706 = .ok (.aload_n 0, 1) := bh00_56.2.1.1.2
theorem dL_law_707 : decode cL_law 707 = .ok (.iload 4, 2) := bh00_56.2.1.2.1
theorem dL_law_709 : decode cL_law 709 = .ok (.iconst 3, 1) := bh00_56.2.1.2.2
theorem dL_law_710 : decode cL_law 710 = .ok (.iadd, 1) := bh00_56.2.2.1.1
theorem dL_law_711 : decode cL_law 711 = .ok (.iaload, 1) := bh00_56.2.2.1.2
theorem dL_law_712 : decode cL_law 712 = .ok (.invokevirtual 154, 3) := bh00_56.2.2.2.1
theorem dL_law_715 : decode cL_law 715 = .ok (.istore 6, 2) := bh00_56.2.2.2.2
theorem bh00_57 : (((decode cL_law 717 = .ok (.goto 731, 3) ∧ decode cL_law 720 = .ok (.aload_n 1, 1)) ∧ (decode cL_law 721 = .ok (.aload_n 0, 1) ∧ decode cL_law 722 = .ok (.iload 4, 2))) ∧ ((decode cL_law 724 = .ok (.iconst 1, 1) ∧ decode cL_law 725 = .ok (.iadd, 1)) ∧ (decode cL_law 726 = .ok (.iaload, 1) ∧ decode cL_law 727 = .ok (.aload_n 3, 1)))) ∧ (((decode cL_law 728 = .ok (.invokestatic 155, 3) ∧ decode cL_law 731 = .ok (.istore 5, 2)) ∧ (decode cL_law 733 = .ok (.aload_n 2, 1) ∧ decode cL_law 734 = .ok (.aload_n 0, 1))) ∧ ((decode cL_law 735 = .ok (.iload 4, 2) ∧ decode cL_law 737 = .ok (.iconst 1, 1)) ∧ (decode cL_law 738 = .ok (.iadd, 1) ∧ decode cL_law 739 = .ok (.iaload, 1)))) := by decide +kernel
theorem dL_law_717 : decode cL_law 717 = .ok (.goto 731, 3) := bh00_57.1.1.1.1
theorem dL_law_720 : decode cL_law 720 = .ok (.aload_n 1, 1) := bh00_57.1.1.1.2
theorem dL_law_721 : decode cL_law 721 = .ok (.aload_n 0, 1) := bh00_57.1.1.2.1
theorem dL_law_722 : decode cL_law 722 = .ok (.iload 4, 2) := bh00_57.1.1.2.2
theorem dL_law_724 : decode cL_law 724 = .ok (.iconst 1, 1) := bh00_57.1.2.1.1
theorem dL_law_725 : decode cL_law 725 = .ok (.iadd, 1) := bh00_57.1.2.1.2
theorem dL_law_726 : decode cL_law 726 = .ok (.iaload, 1) := bh00_57.1.2.2.1
theorem dL_law_727 : decode cL_law 727 = .ok (.aload_n 3, 1) := bh00_57.1.2.2.2
theorem dL_law_728 : decode cL_law 728 = .ok (.invokestatic 155, 3) := bh00_57.2.1.1.1
theorem dL_law_731 : decode cL_law 731 = .ok (.istore 5, 2) := bh00_57.2.1.1.2
theorem dL_law_733 : decode cL_law 733 = .ok (.aload_n 2, 1) := bh00_57.2.1.2.1
theorem dL_law_734 : decode cL_law 734 = .ok (.aload_n 0, 1) := bh00_57.2.1.2.2
theorem dL_law_735 : decode cL_law 735 = .ok (.iload 4, 2) := bh00_57.2.2.1.1
theorem dL_law_737 : decode cL_law 737 = .ok (.iconst 1, 1) := bh00_57.2.2.1.2
theorem dL_law_738 : decode cL_law 738 = .ok (.iadd, 1) := bh00_57.2.2.2.1
theorem dL_law_739 : decode cL_law 739 = .ok (.iaload, 1) := bh00_57.2.2.2.2
theorem bh00_58 : (((decode cL_law 740 = .ok (.invokevirtual 157, 3) ∧ decode cL_law 743 = .ok (.istore 6, 2)) ∧ (decode cL_law 745 = .ok (.goto 703, 3) ∧ decode cL_law 748 = .ok (.aload_n 1, 1))) ∧ ((decode cL_law 749 = .ok (.aload_n 0, 1) ∧ decode cL_law 750 = .ok (.iload 4, 2)) ∧ (decode cL_law 752 = .ok (.iconst 1, 1) ∧ decode cL_law 753 = .ok (.iadd, 1)))) ∧ (((decode cL_law 754 = .ok (.iaload, 1) ∧ decode cL_law 755 = .ok (.aload_n 0, 1)) ∧ (decode cL_law 756 = .ok (.iload 4, 2) ∧ decode cL_law 758 = .ok (.iconst 2, 1))) ∧ ((decode cL_law 759 = .ok (.iadd, 1) ∧ decode cL_law 760 = .ok (.iaload, 1)) ∧ (decode cL_law 761 = .ok (.aload_n 3, 1) ∧ decode cL_law 762 = .ok (.invokestatic 158, 3)))) := by decide +kernel
theorem dL_law_740 : decode cL_law 740 = .ok (.invokevirtual 157, 3) := bh00_58.1.1.1.1
theorem dL_law_743 : decode cL_law 743 = .ok (.istore 6, 2) := bh00_58.1.1.1.2
theorem dL_law_745 : decode cL_law 745 = .ok (.goto 703, 3) := bh00_58.1.1.2.1
theorem dL_law_748 : decode cL_law 748 = .ok (.aload_n 1, 1) := bh00_58.1.1.2.2
theorem dL_law_749 : decode cL_law 749 = .ok (.aload_n 0, 1) := bh00_58.1.2.1.1
theorem dL_law_750 : decode cL_law 750 = .ok (.iload 4, 2) := bh00_58.1.2.1.2
theorem dL_law_752 : decode cL_law 752 = .ok (.iconst 1, 1) := bh00_58.1.2.2.1
theorem dL_law_753 : decode cL_law 753 = .ok (.iadd, 1) := bh00_58.1.2.2.2
theorem dL_law_754 : decode cL_law 754 = .ok (.iaload, 1) := bh00_58.2.1.1.1
theorem dL_law_755 : decode cL_law 755 = .ok (.aload_n 0, 1) := bh00_58.2.1.1.2
theorem dL_law_756 : decode cL_law 756 = .ok (.iload 4, 2) := bh00_58.2.1.2.1
theorem dL_law_758 : decode cL_law 758 = .ok (.iconst 2, 1) := bh00_58.2.1.2.2
theorem dL_law_759 : decode cL_law 759 = .ok (.iadd, 1) := bh00_58.2.2.1.1
theorem dL_law_760 : decode cL_law 760 = .ok (.iaload, 1) := bh00_58.2.2.1.2
theorem dL_law_761 : decode cL_law 761 = .ok (.aload_n 3, 1) := bh00_58.2.2.2.1
theorem dL_law_762 : decode cL_law 762 = .ok (.invokestatic 158, 3) := bh00_58.2.2.2.2
theorem bh00_59 : (((decode cL_law 765 = .ok (.istore 5, 2) ∧ decode cL_law 767 = .ok (.aload_n 2, 1)) ∧ (decode cL_law 768 = .ok (.aload_n 0, 1) ∧ decode cL_law 769 = .ok (.iload 4, 2))) ∧ ((decode cL_law 771 = .ok (.iconst 1, 1) ∧ decode cL_law 772 = .ok (.iadd, 1)) ∧ (decode cL_law 773 = .ok (.iaload, 1) ∧ decode cL_law 774 = .ok (.aload_n 0, 1)))) ∧ (((decode cL_law 775 = .ok (.iload 4, 2) ∧ decode cL_law 777 = .ok (.iconst 2, 1)) ∧ (decode cL_law 778 = .ok (.iadd, 1) ∧ decode cL_law 779 = .ok (.iaload, 1))) ∧ ((decode cL_law 780 = .ok (.invokevirtual 160, 3) ∧ decode cL_law 783 = .ok (.istore 6, 2)) ∧ (decode cL_law 785 = .ok (.goto 663, 3) ∧ decode cL_law 788 = .ok (.aload_n 1, 1)))) := by decide +kernel
theorem dL_law_765 : decode cL_law 765 = .ok (.istore 5, 2) := bh00_59.1.1.1.1
theorem dL_law_767 : decode cL_law 767 = .ok (.aload_n 2, 1) := bh00_59.1.1.1.2
theorem dL_law_768 : decode cL_law 768 = .ok (.aload_n 0, 1) := bh00_59.1.1.2.1
theorem dL_law_769 : decode cL_law 769 = .ok (.iload 4, 2) := bh00_59.1.1.2.2
theorem dL_law_771 : decode cL_law 771 = .ok (.iconst 1, 1) := bh00_59.1.2.1.1
theorem dL_law_772 : decode cL_law 772 = .ok (.iadd, 1) := bh00_59.1.2.1.2
theorem dL_law_773 : decode cL_law 773 = .ok (.iaload, 1) := bh00_59.1.2.2.1
theorem dL_law_774 : decode cL_law 774 = .ok (.aload_n 0, 1) := bh00_59.1.2.2.2
theorem dL_law_775 : decode cL_law 775 = .ok (.iload 4, 2) := bh00_59.2.1.1.1
theorem dL_law_777 : decode cL_law 777 = .ok (.iconst 2, 1) := bh00_59.2.1.1.2
theorem dL_law_778 : decode cL_law 778 = .ok (.iadd, 1) := bh00_59.2.1.2.1
theorem dL_law_779 : decode cL_law 779 = .ok (.iaload, 1) := bh00_59.2.1.2.2
theorem dL_law_780 : decode cL_law 780 = .ok (.invokevirtual 160, 3) := bh00_59.2.2.1.1
theorem dL_law_783 : decode cL_law 783 = .ok (.istore 6, 2) := bh00_59.2.2.1.2
theorem dL_law_785 : decode cL_law 785 = .ok (.goto 663, 3) := bh00_59.2.2.2.1
theorem dL_law_788 : decode cL_law 788 = .ok (.aload_n 1, 1) := bh00_59.2.2.2.2
theorem bh00_60 : (((decode cL_law 789 = .ok (.aload_n 0, 1) ∧ decode cL_law 790 = .ok (.iload 4, 2)) ∧ (decode cL_law 792 = .ok (.iconst 1, 1) ∧ decode cL_law 793 = .ok (.iadd, 1))) ∧ ((decode cL_law 794 = .ok (.iaload, 1) ∧ decode cL_law 795 = .ok (.aload_n 0, 1)) ∧ (decode cL_law 796 = .ok (.iload 4, 2) ∧ decode cL_law 798 = .ok (.iconst 2, 1)))) ∧ (((decode cL_law 799 = .ok (.iadd, 1) ∧ decode cL_law 800 = .ok (.iaload, 1)) ∧ (decode cL_law 801 = .ok (.aload_n 3, 1) ∧ decode cL_law 802 = .ok (.invokestatic 161, 3))) ∧ ((decode cL_law 805 = .ok (.istore 5, 2) ∧ decode cL_law 807 = .ok (.aload_n 2, 1)) ∧ (decode cL_law 808 = .ok (.aload_n 0, 1) ∧ decode cL_law 809 = .ok (.iload 4, 2)))) := by decide +kernel
theorem dL_law_789 : decode cL_law 789 = .ok (.aload_n 0, 1) := bh00_60.1.1.1.1
theorem dL_law_790 : decode cL_law 790 = .ok (.iload 4, 2) := bh00_60.1.1.1.2
theorem dL_law_792 : decode cL_law 792 = .ok (.iconst 1, 1) := bh00_60.1.1.2.1
theorem dL_law_793 : decode cL_law 793 = .ok (.iadd, 1) := bh00_60.1.1.2.2
theorem dL_law_794 : decode cL_law 794 = .ok (.iaload, 1) := bh00_60.1.2.1.1
theorem dL_law_795 : decode cL_law 795 = .ok (.aload_n 0, 1) := bh00_60.1.2.1.2
theorem dL_law_796 : decode cL_law 796 = .ok (.iload 4, 2) := bh00_60.1.2.2.1
theorem dL_law_798 : decode cL_law 798 = .ok (.iconst 2, 1) := bh00_60.1.2.2.2
theorem dL_law_799 : decode cL_law 799 = .ok (.iadd, 1) := bh00_60.2.1.1.1
theorem dL_law_800 : decode cL_law 800 = .ok (.iaload, 1) := bh00_60.2.1.1.2
theorem dL_law_801 : decode cL_law 801 = .ok (.aload_n 3, 1) := bh00_60.2.1.2.1
theorem dL_law_802 : decode cL_law 802 = .ok (.invokestatic 161, 3) := bh00_60.2.1.2.2
theorem dL_law_805 : decode cL_law 805 = .ok (.istore 5, 2) := bh00_60.2.2.1.1
theorem dL_law_807 : decode cL_law 807 = .ok (.aload_n 2, 1) := bh00_60.2.2.1.2
theorem dL_law_808 : decode cL_law 808 = .ok (.aload_n 0, 1) := bh00_60.2.2.2.1
theorem dL_law_809 : decode cL_law 809 = .ok (.iload 4, 2) := bh00_60.2.2.2.2
theorem bh00_61 : (((decode cL_law 811 = .ok (.iconst 1, 1) ∧ decode cL_law 812 = .ok (.iadd, 1)) ∧ (decode cL_law 813 = .ok (.iaload, 1) ∧ decode cL_law 814 = .ok (.aload_n 0, 1))) ∧ ((decode cL_law 815 = .ok (.iload 4, 2) ∧ decode cL_law 817 = .ok (.iconst 2, 1)) ∧ (decode cL_law 818 = .ok (.iadd, 1) ∧ decode cL_law 819 = .ok (.iaload, 1)))) ∧ (((decode cL_law 820 = .ok (.invokevirtual 163, 3) ∧ decode cL_law 823 = .ok (.istore 6, 2)) ∧ (decode cL_law 825 = .ok (.goto 623, 3) ∧ decode cL_law 828 = .ok (.aload_n 1, 1))) ∧ ((decode cL_law 829 = .ok (.aload_n 0, 1) ∧ decode cL_law 830 = .ok (.iload 4, 2)) ∧ (decode cL_law 832 = .ok (.iconst 1, 1) ∧ decode cL_law 833 = .ok (.iadd, 1)))) := by decide +kernel
theorem dL_law_811 : decode cL_law 811 = .ok (.iconst 1, 1) := bh00_61.1.1.1.1
theorem dL_law_812 : decode cL_law 812 = .ok (.iadd, 1) := bh00_61.1.1.1.2
theorem dL_law_813 : decode cL_law 813 = .ok (.iaload, 1) := bh00_61.1.1.2.1
theorem dL_law_814 : decode cL_law 814 = .ok (.aload_n 0, 1) := bh00_61.1.1.2.2
theorem dL_law_815 : decode cL_law 815 = .ok (.iload 4, 2) := bh00_61.1.2.1.1
theorem dL_law_817 : decode cL_law 817 = .ok (.iconst 2, 1) := bh00_61.1.2.1.2
theorem dL_law_818 : decode cL_law 818 = .ok (.iadd, 1) := bh00_61.1.2.2.1
theorem dL_law_819 : decode cL_law 819 = .ok (.iaload, 1) := bh00_61.1.2.2.2
theorem dL_law_820 : decode cL_law 820 = .ok (.invokevirtual 163, 3) := bh00_61.2.1.1.1
theorem dL_law_823 : decode cL_law 823 = .ok (.istore 6, 2) := bh00_61.2.1.1.2
theorem dL_law_825 : decode cL_law 825 = .ok (.goto 623, 3) := bh00_61.2.1.2.1
theorem dL_law_828 : decode cL_law 828 = .ok (.aload_n 1, 1) := bh00_61.2.1.2.2
theorem dL_law_829 : decode cL_law 829 = .ok (.aload_n 0, 1) := bh00_61.2.2.1.1
theorem dL_law_830 : decode cL_law 830 = .ok (.iload 4, 2) := bh00_61.2.2.1.2
theorem dL_law_832 : decode cL_law 832 = .ok (.iconst 1, 1) := bh00_61.2.2.2.1
theorem dL_law_833 : decode cL_law 833 = .ok (.iadd, 1) := bh00_61.2.2.2.2
theorem bh00_62 : (((decode cL_law 834 = .ok (.iaload, 1) ∧ decode cL_law 835 = .ok (.aload_n 0, 1)) ∧ (decode cL_law 836 = .ok (.iload 4, 2) ∧ decode cL_law 838 = .ok (.iconst 2, 1))) ∧ ((decode cL_law 839 = .ok (.iadd, 1) ∧ decode cL_law 840 = .ok (.iaload, 1)) ∧ (decode cL_law 841 = .ok (.aload_n 3, 1) ∧ decode cL_law 842 = .ok (.invokestatic 164, 3)))) ∧ (((decode cL_law 845 = .ok (.istore 5, 2) ∧ decode cL_law 847 = .ok (.aload_n 2, 1)) ∧ (decode cL_law 848 = .ok (.aload_n 0, 1) ∧ decode cL_law 849 = .ok (.iload 4, 2))) ∧ ((decode cL_law 851 = .ok (.iconst 1, 1) ∧ decode cL_law 852 = .ok (.iadd, 1)) ∧ (decode cL_law 853 = .ok (.iaload, 1) ∧ decode cL_law 854 = .ok (.aload_n 0, 1)))) := by decide +kernel
theorem dL_law_834 : decode cL_law 834 = .ok (.iaload, 1) := bh00_62.1.1.1.1
theorem dL_law_835 : decode cL_law 835 = .ok (.aload_n 0, 1) := bh00_62.1.1.1.2
theorem dL_law_836 : decode cL_law 836 = .ok (.iload 4, 2) := bh00_62.1.1.2.1
theorem dL_law_838 : decode cL_law 838 = .ok (.iconst 2, 1) := bh00_62.1.1.2.2
theorem dL_law_839 : decode cL_law 839 = .ok (.iadd, 1) := bh00_62.1.2.1.1
theorem dL_law_840 : decode cL_law 840 = .ok (.iaload, 1) := bh00_62.1.2.1.2
theorem dL_law_841 : decode cL_law 841 = .ok (.aload_n 3, 1) := bh00_62.1.2.2.1
theorem dL_law_842 : decode cL_law 842 = .ok (.invokestatic 164, 3) := bh00_62.1.2.2.2
theorem dL_law_845 : decode cL_law 845 = .ok (.istore 5, 2) := bh00_62.2.1.1.1
theorem dL_law_847 : decode cL_law 847 = .ok (.aload_n 2, 1) := bh00_62.2.1.1.2
theorem dL_law_848 : decode cL_law 848 = .ok (.aload_n 0, 1) := bh00_62.2.1.2.1
theorem dL_law_849 : decode cL_law 849 = .ok (.iload 4, 2) := bh00_62.2.1.2.2
theorem dL_law_851 : decode cL_law 851 = .ok (.iconst 1, 1) := bh00_62.2.2.1.1
theorem dL_law_852 : decode cL_law 852 = .ok (.iadd, 1) := bh00_62.2.2.1.2
theorem dL_law_853 : decode cL_law 853 = .ok (.iaload, 1) := bh00_62.2.2.2.1
theorem dL_law_854 : decode cL_law 854 = .ok (.aload_n 0, 1) := bh00_62.2.2.2.2
theorem bh00_63 : (((decode cL_law 855 = .ok (.iload 4, 2) ∧ decode cL_law 857 = .ok (.iconst 2, 1)) ∧ (decode cL_law 858 = .ok (.iadd, 1) ∧ decode cL_law 859 = .ok (.iaload, 1))) ∧ ((decode cL_law 860 = .ok (.invokevirtual 166, 3) ∧ decode cL_law 863 = .ok (.istore 6, 2)) ∧ (decode cL_law 865 = .ok (.goto 583, 3) ∧ decode cL_law 868 = .ok (.aload_n 1, 1)))) ∧ (((decode cL_law 869 = .ok (.aload_n 0, 1) ∧ decode cL_law 870 = .ok (.iload 4, 2)) ∧ (decode cL_law 872 = .ok (.iconst 1, 1) ∧ decode cL_law 873 = .ok (.iadd, 1))) ∧ ((decode cL_law 874 = .ok (.iaload, 1) ∧ decode cL_law 875 = .ok (.aload_n 0, 1)) ∧ (decode cL_law 876 = .ok (.iload 4, 2) ∧ decode cL_law 878 = .ok (.iconst 2, 1)))) := by decide +kernel
theorem dL_law_855 : decode cL_law 855 = .ok (.iload 4, 2) := bh00_63.1.1.1.1
theorem dL_law_857 : decode cL_law 857 = .ok (.iconst 2, 1) := bh00_63.1.1.1.2
theorem dL_law_858 : decode cL_law 858 = .ok (.iadd, 1) := bh00_63.1.1.2.1
theorem dL_law_859 : decode cL_law 859 = .ok (.iaload, 1) := bh00_63.1.1.2.2
theorem dL_law_860 : decode cL_law 860 = .ok (.invokevirtual 166, 3) := bh00_63.1.2.1.1
theorem dL_law_863 : decode cL_law 863 = .ok (.istore 6, 2) := bh00_63.1.2.1.2
theorem dL_law_865 : decode cL_law 865 = .ok (.goto 583, 3) := bh00_63.1.2.2.1
theorem dL_law_868 : decode cL_law 868 = .ok (.aload_n 1, 1) := bh00_63.1.2.2.2
theorem dL_law_869 : decode cL_law 869 = .ok (.aload_n 0, 1) := bh00_63.2.1.1.1
theorem dL_law_870 : decode cL_law 870 = .ok (.iload 4, 2) := bh00_63.2.1.1.2
theorem dL_law_872 : decode cL_law 872 = .ok (.iconst 1, 1) := bh00_63.2.1.2.1
theorem dL_law_873 : decode cL_law 873 = .ok (.iadd, 1) := bh00_63.2.1.2.2
theorem dL_law_874 : decode cL_law 874 = .ok (.iaload, 1) := bh00_63.2.2.1.1
theorem dL_law_875 : decode cL_law 875 = .ok (.aload_n 0, 1) := bh00_63.2.2.1.2
theorem dL_law_876 : decode cL_law 876 = .ok (.iload 4, 2) := bh00_63.2.2.2.1
theorem dL_law_878 : decode cL_law 878 = .ok (.iconst 2, 1) := bh00_63.2.2.2.2
theorem bh00_64 : (((decode cL_law 879 = .ok (.iadd, 1) ∧ decode cL_law 880 = .ok (.iaload, 1)) ∧ (decode cL_law 881 = .ok (.aload_n 0, 1) ∧ decode cL_law 882 = .ok (.iload 4, 2))) ∧ ((decode cL_law 884 = .ok (.iconst 3, 1) ∧ decode cL_law 885 = .ok (.iadd, 1)) ∧ (decode cL_law 886 = .ok (.iaload, 1) ∧ decode cL_law 887 = .ok (.aload_n 3, 1)))) ∧ (((decode cL_law 888 = .ok (.invokestatic 167, 3) ∧ decode cL_law 891 = .ok (.istore 5, 2)) ∧ (decode cL_law 893 = .ok (.aload_n 2, 1) ∧ decode cL_law 894 = .ok (.aload_n 0, 1))) ∧ ((decode cL_law 895 = .ok (.iload 4, 2) ∧ decode cL_law 897 = .ok (.iconst 1, 1)) ∧ (decode cL_law 898 = .ok (.iadd, 1) ∧ decode cL_law 899 = .ok (.iaload, 1)))) := by decide +kernel
theorem dL_law_879 : decode cL_law 879 = .ok (.iadd, 1) := bh00_64.1.1.1.1
theorem dL_law_880 : decode cL_law 880 = .ok (.iaload, 1) := bh00_64.1.1.1.2
theorem dL_law_881 : decode cL_law 881 = .ok (.aload_n 0, 1) := bh00_64.1.1.2.1
theorem dL_law_882 : decode cL_law 882 = .ok (.iload 4, 2) := bh00_64.1.1.2.2
theorem dL_law_884 : decode cL_law 884 = .ok (.iconst 3, 1) := bh00_64.1.2.1.1
theorem dL_law_885 : decode cL_law 885 = .ok (.iadd, 1) := bh00_64.1.2.1.2
theorem dL_law_886 : decode cL_law 886 = .ok (.iaload, 1) := bh00_64.1.2.2.1
theorem dL_law_887 : decode cL_law 887 = .ok (.aload_n 3, 1) := bh00_64.1.2.2.2
theorem dL_law_888 : decode cL_law 888 = .ok (.invokestatic 167, 3) := bh00_64.2.1.1.1
theorem dL_law_891 : decode cL_law 891 = .ok (.istore 5, 2) := bh00_64.2.1.1.2
theorem dL_law_893 : decode cL_law 893 = .ok (.aload_n 2, 1) := bh00_64.2.1.2.1
theorem dL_law_894 : decode cL_law 894 = .ok (.aload_n 0, 1) := bh00_64.2.1.2.2
theorem dL_law_895 : decode cL_law 895 = .ok (.iload 4, 2) := bh00_64.2.2.1.1
theorem dL_law_897 : decode cL_law 897 = .ok (.iconst 1, 1) := bh00_64.2.2.1.2
theorem dL_law_898 : decode cL_law 898 = .ok (.iadd, 1) := bh00_64.2.2.2.1
theorem dL_law_899 : decode cL_law 899 = .ok (.iaload, 1) := bh00_64.2.2.2.2
theorem bh00_65 : (((decode cL_law 900 = .ok (.aload_n 0, 1) ∧ decode cL_law 901 = .ok (.iload 4, 2)) ∧ (decode cL_law 903 = .ok (.iconst 2, 1) ∧ decode cL_law 904 = .ok (.iadd, 1))) ∧ ((decode cL_law 905 = .ok (.iaload, 1) ∧ decode cL_law 906 = .ok (.aload_n 0, 1)) ∧ (decode cL_law 907 = .ok (.iload 4, 2) ∧ decode cL_law 909 = .ok (.iconst 3, 1)))) ∧ (((decode cL_law 910 = .ok (.iadd, 1) ∧ decode cL_law 911 = .ok (.iaload, 1)) ∧ (decode cL_law 912 = .ok (.invokevirtual 169, 3) ∧ decode cL_law 915 = .ok (.istore 6, 2))) ∧ ((decode cL_law 917 = .ok (.goto 531, 3) ∧ decode cL_law 920 = .ok (.aload_n 1, 1)) ∧ (decode cL_law 921 = .ok (.aload_n 0, 1) ∧ decode cL_law 922 = .ok (.iload 4, 2)))) := by decide +kernel
theorem dL_law_900 : decode cL_law 900 = .ok (.aload_n 0, 1) := bh00_65.1.1.1.1
theorem dL_law_901 : decode cL_law 901 = .ok (.iload 4, 2) := bh00_65.1.1.1.2
theorem dL_law_903 : decode cL_law 903 = .ok (.iconst 2, 1) := bh00_65.1.1.2.1
theorem dL_law_904 : decode cL_law 904 = .ok (.iadd, 1) := bh00_65.1.1.2.2
theorem dL_law_905 : decode cL_law 905 = .ok (.iaload, 1) := bh00_65.1.2.1.1
theorem dL_law_906 : decode cL_law 906 = .ok (.aload_n 0, 1) := bh00_65.1.2.1.2
theorem dL_law_907 : decode cL_law 907 = .ok (.iload 4, 2) := bh00_65.1.2.2.1
theorem dL_law_909 : decode cL_law 909 = .ok (.iconst 3, 1) := bh00_65.1.2.2.2
theorem dL_law_910 : decode cL_law 910 = .ok (.iadd, 1) := bh00_65.2.1.1.1
theorem dL_law_911 : decode cL_law 911 = .ok (.iaload, 1) := bh00_65.2.1.1.2
theorem dL_law_912 : decode cL_law 912 = .ok (.invokevirtual 169, 3) := bh00_65.2.1.2.1
theorem dL_law_915 : decode cL_law 915 = .ok (.istore 6, 2) := bh00_65.2.1.2.2
theorem dL_law_917 : decode cL_law 917 = .ok (.goto 531, 3) := bh00_65.2.2.1.1
theorem dL_law_920 : decode cL_law 920 = .ok (.aload_n 1, 1) := bh00_65.2.2.1.2
theorem dL_law_921 : decode cL_law 921 = .ok (.aload_n 0, 1) := bh00_65.2.2.2.1
theorem dL_law_922 : decode cL_law 922 = .ok (.iload 4, 2) := bh00_65.2.2.2.2
theorem bh00_66 : (((decode cL_law 924 = .ok (.iconst 1, 1) ∧ decode cL_law 925 = .ok (.iadd, 1)) ∧ (decode cL_law 926 = .ok (.iaload, 1) ∧ decode cL_law 927 = .ok (.aload_n 3, 1))) ∧ ((decode cL_law 928 = .ok (.invokestatic 170, 3) ∧ decode cL_law 931 = .ok (.istore 5, 2)) ∧ (decode cL_law 933 = .ok (.aload_n 2, 1) ∧ decode cL_law 934 = .ok (.aload_n 0, 1)))) ∧ (((decode cL_law 935 = .ok (.iload 4, 2) ∧ decode cL_law 937 = .ok (.iconst 1, 1)) ∧ (decode cL_law 938 = .ok (.iadd, 1) ∧ decode cL_law 939 = .ok (.iaload, 1))) ∧ ((decode cL_law 940 = .ok (.invokevirtual 172, 3) ∧ decode cL_law 943 = .ok (.istore 6, 2)) ∧ (decode cL_law 945 = .ok (.goto 503, 3) ∧ decode cL_law 948 = .ok (.aload_n 1, 1)))) := by decide +kernel
theorem dL_law_924 : decode cL_law 924 = .ok (.iconst 1, 1) := bh00_66.1.1.1.1
theorem dL_law_925 : decode cL_law 925 = .ok (.iadd, 1) := bh00_66.1.1.1.2
theorem dL_law_926 : decode cL_law 926 = .ok (.iaload, 1) := bh00_66.1.1.2.1
theorem dL_law_927 : decode cL_law 927 = .ok (.aload_n 3, 1) := bh00_66.1.1.2.2
theorem dL_law_928 : decode cL_law 928 = .ok (.invokestatic 170, 3) := bh00_66.1.2.1.1
theorem dL_law_931 : decode cL_law 931 = .ok (.istore 5, 2) := bh00_66.1.2.1.2
theorem dL_law_933 : decode cL_law 933 = .ok (.aload_n 2, 1) := bh00_66.1.2.2.1
theorem dL_law_934 : decode cL_law 934 = .ok (.aload_n 0, 1) := bh00_66.1.2.2.2
theorem dL_law_935 : decode cL_law 935 = .ok (.iload 4, 2) := bh00_66.2.1.1.1
theorem dL_law_937 : decode cL_law 937 = .ok (.iconst 1, 1) := bh00_66.2.1.1.2
theorem dL_law_938 : decode cL_law 938 = .ok (.iadd, 1) := bh00_66.2.1.2.1
theorem dL_law_939 : decode cL_law 939 = .ok (.iaload, 1) := bh00_66.2.1.2.2
theorem dL_law_940 : decode cL_law 940 = .ok (.invokevirtual 172, 3) := bh00_66.2.2.1.1
theorem dL_law_943 : decode cL_law 943 = .ok (.istore 6, 2) := bh00_66.2.2.1.2
theorem dL_law_945 : decode cL_law 945 = .ok (.goto 503, 3) := bh00_66.2.2.2.1
theorem dL_law_948 : decode cL_law 948 = .ok (.aload_n 1, 1) := bh00_66.2.2.2.2
theorem bh00_67 : (((decode cL_law 949 = .ok (.aload_n 0, 1) ∧ decode cL_law 950 = .ok (.iload 4, 2)) ∧ (decode cL_law 952 = .ok (.iconst 1, 1) ∧ decode cL_law 953 = .ok (.iadd, 1))) ∧ ((decode cL_law 954 = .ok (.iaload, 1) ∧ decode cL_law 955 = .ok (.aload_n 3, 1)) ∧ (decode cL_law 956 = .ok (.invokestatic 173, 3) ∧ decode cL_law 959 = .ok (.istore 5, 2)))) ∧ (((decode cL_law 961 = .ok (.aload_n 2, 1) ∧ decode cL_law 962 = .ok (.aload_n 0, 1)) ∧ (decode cL_law 963 = .ok (.iload 4, 2) ∧ decode cL_law 965 = .ok (.iconst 1, 1))) ∧ ((decode cL_law 966 = .ok (.iadd, 1) ∧ decode cL_law 967 = .ok (.iaload, 1)) ∧ (decode cL_law 968 = .ok (.invokevirtual 175, 3) ∧ decode cL_law 971 = .ok (.istore 6, 2)))) := by decide +kernel
theorem dL_law_949 : decode cL_law 949 = .ok (.aload_n 0, 1) := bh00_67.1.1.1.1
theorem dL_law_950 : decode cL_law 950 = .ok (.iload 4, 2) := bh00_67.1.1.1.2
theorem dL_law_952 : decode cL_law 952 = .ok (.iconst 1, 1) := bh00_67.1.1.2.1
theorem dL_law_953 : decode cL_law 953 = .ok (.iadd, 1) := bh00_67.1.1.2.2
theorem dL_law_954 : decode cL_law 954 = .ok (.iaload, 1) := bh00_67.1.2.1.1
theorem dL_law_955 : decode cL_law 955 = .ok (.aload_n 3, 1) := bh00_67.1.2.1.2
theorem dL_law_956 : decode cL_law 956 = .ok (.invokestatic 173, 3) := bh00_67.1.2.2.1
theorem dL_law_959 : decode cL_law 959 = .ok (.istore 5, 2) := bh00_67.1.2.2.2
theorem dL_law_961 : decode cL_law 961 = .ok (.aload_n 2, 1) := bh00_67.2.1.1.1
theorem dL_law_962 : decode cL_law 962 = .ok (.aload_n 0, 1) := bh00_67.2.1.1.2
theorem dL_law_963 : decode cL_law 963 = .ok (.iload 4, 2) := bh00_67.2.1.2.1
theorem dL_law_965 : decode cL_law 965 = .ok (.iconst 1, 1) := bh00_67.2.1.2.2
theorem dL_law_966 : decode cL_law 966 = .ok (.iadd, 1) := bh00_67.2.2.1.1
theorem dL_law_967 : decode cL_law 967 = .ok (.iaload, 1) := bh00_67.2.2.1.2
theorem dL_law_968 : decode cL_law 968 = .ok (.invokevirtual 175, 3) := bh00_67.2.2.2.1
theorem dL_law_971 : decode cL_law 971 = .ok (.istore 6, 2) := bh00_67.2.2.2.2
theorem bh00_68 : (((decode cL_law 973 = .ok (.goto 475, 3) ∧ decode cL_law 976 = .ok (.aload_n 1, 1)) ∧ (decode cL_law 977 = .ok (.aload_n 0, 1) ∧ decode cL_law 978 = .ok (.iload 4, 2))) ∧ ((decode cL_law 980 = .ok (.iconst 1, 1) ∧ decode cL_law 981 = .ok (.iadd, 1)) ∧ (decode cL_law 982 = .ok (.iaload, 1) ∧ decode cL_law 983 = .ok (.aload_n 0, 1)))) ∧ (((decode cL_law 984 = .ok (.iload 4, 2) ∧ decode cL_law 986 = .ok (.iconst 2, 1)) ∧ (decode cL_law 987 = .ok (.iadd, 1) ∧ decode cL_law 988 = .ok (.iaload, 1))) ∧ ((decode cL_law 989 = .ok (.aload_n 3, 1) ∧ decode cL_law 990 = .ok (.invokestatic 176, 3)) ∧ (decode cL_law 993 = .ok (.istore 5, 2) ∧ decode cL_law 995 = .ok (.aload_n 2, 1)))) := by decide +kernel
theorem dL_law_973 : decode cL_law 973 = .ok (.goto 475, 3) := bh00_68.1.1.1.1
theorem dL_law_976 : decode cL_law 976 = .ok (.aload_n 1, 1) := bh00_68.1.1.1.2
theorem dL_law_977 : decode cL_law 977 = .ok (.aload_n 0, 1) := bh00_68.1.1.2.1
theorem dL_law_978 : decode cL_law 978 = .ok (.iload 4, 2) := bh00_68.1.1.2.2
theorem dL_law_980 : decode cL_law 980 = .ok (.iconst 1, 1) := bh00_68.1.2.1.1
theorem dL_law_981 : decode cL_law 981 = .ok (.iadd, 1) := bh00_68.1.2.1.2
theorem dL_law_982 : decode cL_law 982 = .ok (.iaload, 1) := bh00_68.1.2.2.1
theorem dL_law_983 : decode cL_law 983 = .ok (.aload_n 0, 1) := bh00_68.1.2.2.2
theorem dL_law_984 : decode cL_law 984 = .ok (.iload 4, 2) := bh00_68.2.1.1.1
theorem dL_law_986 : decode cL_law 986 = .ok (.iconst 2, 1) := bh00_68.2.1.1.2
theorem dL_law_987 : decode cL_law 987 = .ok (.iadd, 1) := bh00_68.2.1.2.1
theorem dL_law_988 : decode cL_law 988 = .ok (.iaload, 1) := bh00_68.2.1.2.2
theorem dL_law_989 : decode cL_law 989 = .ok (.aload_n 3, 1) := bh00_68.2.2.1.1
theorem dL_law_990 : decode cL_law 990 = .ok (.invokestatic 176, 3) := bh00_68.2.2.1.2
theorem dL_law_993 : decode cL_law 993 = .ok (.istore 5, 2) := bh00_68.2.2.2.1
theorem dL_law_995 : decode cL_law 995 = .ok (.aload_n 2, 1) := bh00_68.2.2.2.2
theorem bh00_69 : (((decode cL_law 996 = .ok (.aload_n 0, 1) ∧ decode cL_law 997 = .ok (.iload 4, 2)) ∧ (decode cL_law 999 = .ok (.iconst 1, 1) ∧ decode cL_law 1000 = .ok (.iadd, 1))) ∧ ((decode cL_law 1001 = .ok (.iaload, 1) ∧ decode cL_law 1002 = .ok (.aload_n 0, 1)) ∧ (decode cL_law 1003 = .ok (.iload 4, 2) ∧ decode cL_law 1005 = .ok (.iconst 2, 1)))) ∧ (((decode cL_law 1006 = .ok (.iadd, 1) ∧ decode cL_law 1007 = .ok (.iaload, 1)) ∧ (decode cL_law 1008 = .ok (.invokevirtual 178, 3) ∧ decode cL_law 1011 = .ok (.istore 6, 2))) ∧ ((decode cL_law 1013 = .ok (.goto 435, 3) ∧ decode cL_law 1016 = .ok (.aload_n 1, 1)) ∧ (decode cL_law 1017 = .ok (.aload_n 0, 1) ∧ decode cL_law 1018 = .ok (.iload 4, 2)))) := by decide +kernel
theorem dL_law_996 : decode cL_law 996 = .ok (.aload_n 0, 1) := bh00_69.1.1.1.1
theorem dL_law_997 : decode cL_law 997 = .ok (.iload 4, 2) := bh00_69.1.1.1.2
theorem dL_law_999 : decode cL_law 999 = .ok (.iconst 1, 1) := bh00_69.1.1.2.1
theorem dL_law_1000 : decode cL_law 1000 = .ok (.iadd, 1) := bh00_69.1.1.2.2
theorem dL_law_1001 : decode cL_law 1001 = .ok (.iaload, 1) := bh00_69.1.2.1.1
theorem dL_law_1002 : decode cL_law 1002 = .ok (.aload_n 0, 1) := bh00_69.1.2.1.2
theorem dL_law_1003 : decode cL_law 1003 = .ok (.iload 4, 2) := bh00_69.1.2.2.1
theorem dL_law_1005 : decode cL_law 1005 = .ok (.iconst 2, 1) := bh00_69.1.2.2.2
theorem dL_law_1006 : decode cL_law 1006 = .ok (.iadd, 1) := bh00_69.2.1.1.1
theorem dL_law_1007 : decode cL_law 1007 = .ok (.iaload, 1) := bh00_69.2.1.1.2
theorem dL_law_1008 : decode cL_law 1008 = .ok (.invokevirtual 178, 3) := bh00_69.2.1.2.1
theorem dL_law_1011 : decode cL_law 1011 = .ok (.istore 6, 2) := bh00_69.2.1.2.2
theorem dL_law_1013 : decode cL_law 1013 = .ok (.goto 435, 3) := bh00_69.2.2.1.1
theorem dL_law_1016 : decode cL_law 1016 = .ok (.aload_n 1, 1) := bh00_69.2.2.1.2
theorem dL_law_1017 : decode cL_law 1017 = .ok (.aload_n 0, 1) := bh00_69.2.2.2.1
theorem dL_law_1018 : decode cL_law 1018 = .ok (.iload 4, 2) := bh00_69.2.2.2.2
theorem bh00_70 : (((decode cL_law 1020 = .ok (.iconst 1, 1) ∧ decode cL_law 1021 = .ok (.iadd, 1)) ∧ (decode cL_law 1022 = .ok (.iaload, 1) ∧ decode cL_law 1023 = .ok (.aload_n 0, 1))) ∧ ((decode cL_law 1024 = .ok (.iload 4, 2) ∧ decode cL_law 1026 = .ok (.iconst 2, 1)) ∧ (decode cL_law 1027 = .ok (.iadd, 1) ∧ decode cL_law 1028 = .ok (.iaload, 1)))) ∧ (((decode cL_law 1029 = .ok (.aload_n 0, 1) ∧ decode cL_law 1030 = .ok (.iload 4, 2)) ∧ (decode cL_law 1032 = .ok (.iconst 3, 1) ∧ decode cL_law 1033 = .ok (.iadd, 1))) ∧ ((decode cL_law 1034 = .ok (.iaload, 1) ∧ decode cL_law 1035 = .ok (.aload_n 3, 1)) ∧ (decode cL_law 1036 = .ok (.invokestatic 179, 3) ∧ decode cL_law 1039 = .ok (.istore 5, 2)))) := by decide +kernel
theorem dL_law_1020 : decode cL_law 1020 = .ok (.iconst 1, 1) := bh00_70.1.1.1.1
theorem dL_law_1021 : decode cL_law 1021 = .ok (.iadd, 1) := bh00_70.1.1.1.2
theorem dL_law_1022 : decode cL_law 1022 = .ok (.iaload, 1) := bh00_70.1.1.2.1
theorem dL_law_1023 : decode cL_law 1023 = .ok (.aload_n 0, 1) := bh00_70.1.1.2.2
theorem dL_law_1024 : decode cL_law 1024 = .ok (.iload 4, 2) := bh00_70.1.2.1.1
theorem dL_law_1026 : decode cL_law 1026 = .ok (.iconst 2, 1) := bh00_70.1.2.1.2
theorem dL_law_1027 : decode cL_law 1027 = .ok (.iadd, 1) := bh00_70.1.2.2.1
theorem dL_law_1028 : decode cL_law 1028 = .ok (.iaload, 1) := bh00_70.1.2.2.2
theorem dL_law_1029 : decode cL_law 1029 = .ok (.aload_n 0, 1) := bh00_70.2.1.1.1
theorem dL_law_1030 : decode cL_law 1030 = .ok (.iload 4, 2) := bh00_70.2.1.1.2
theorem dL_law_1032 : decode cL_law 1032 = .ok (.iconst 3, 1) := bh00_70.2.1.2.1
theorem dL_law_1033 : decode cL_law 1033 = .ok (.iadd, 1) := bh00_70.2.1.2.2
theorem dL_law_1034 : decode cL_law 1034 = .ok (.iaload, 1) := bh00_70.2.2.1.1
theorem dL_law_1035 : decode cL_law 1035 = .ok (.aload_n 3, 1) := bh00_70.2.2.1.2
theorem dL_law_1036 : decode cL_law 1036 = .ok (.invokestatic 179, 3) := bh00_70.2.2.2.1
theorem dL_law_1039 : decode cL_law 1039 = .ok (.istore 5, 2) := bh00_70.2.2.2.2
theorem bh00_71 : (((decode cL_law 1041 = .ok (.aload_n 2, 1) ∧ decode cL_law 1042 = .ok (.aload_n 0, 1)) ∧ (decode cL_law 1043 = .ok (.iload 4, 2) ∧ decode cL_law 1045 = .ok (.iconst 1, 1))) ∧ ((decode cL_law 1046 = .ok (.iadd, 1) ∧ decode cL_law 1047 = .ok (.iaload, 1)) ∧ (decode cL_law 1048 = .ok (.aload_n 0, 1) ∧ decode cL_law 1049 = .ok (.iload 4, 2)))) ∧ (((decode cL_law 1051 = .ok (.iconst 2, 1) ∧ decode cL_law 1052 = .ok (.iadd, 1)) ∧ (decode cL_law 1053 = .ok (.iaload, 1) ∧ decode cL_law 1054 = .ok (.aload_n 0, 1))) ∧ ((decode cL_law 1055 = .ok (.iload 4, 2) ∧ decode cL_law 1057 = .ok (.iconst 3, 1)) ∧ (decode cL_law 1058 = .ok (.iadd, 1) ∧ decode cL_law 1059 = .ok (.iaload, 1)))) := by decide +kernel
theorem dL_law_1041 : decode cL_law 1041 = .ok (.aload_n 2, 1) := bh00_71.1.1.1.1
theorem dL_law_1042 : decode cL_law 1042 = .ok (.aload_n 0, 1) := bh00_71.1.1.1.2
theorem dL_law_1043 : decode cL_law 1043 = .ok (.iload 4, 2) := bh00_71.1.1.2.1
theorem dL_law_1045 : decode cL_law 1045 = .ok (.iconst 1, 1) := bh00_71.1.1.2.2
theorem dL_law_1046 : decode cL_law 1046 = .ok (.iadd, 1) := bh00_71.1.2.1.1
theorem dL_law_1047 : decode cL_law 1047 = .ok (.iaload, 1) := bh00_71.1.2.1.2
theorem dL_law_1048 : decode cL_law 1048 = .ok (.aload_n 0, 1) := bh00_71.1.2.2.1
theorem dL_law_1049 : decode cL_law 1049 = .ok (.iload 4, 2) := bh00_71.1.2.2.2
theorem dL_law_1051 : decode cL_law 1051 = .ok (.iconst 2, 1) := bh00_71.2.1.1.1
theorem dL_law_1052 : decode cL_law 1052 = .ok (.iadd, 1) := bh00_71.2.1.1.2
theorem dL_law_1053 : decode cL_law 1053 = .ok (.iaload, 1) := bh00_71.2.1.2.1
theorem dL_law_1054 : decode cL_law 1054 = .ok (.aload_n 0, 1) := bh00_71.2.1.2.2
theorem dL_law_1055 : decode cL_law 1055 = .ok (.iload 4, 2) := bh00_71.2.2.1.1
theorem dL_law_1057 : decode cL_law 1057 = .ok (.iconst 3, 1) := bh00_71.2.2.1.2
theorem dL_law_1058 : decode cL_law 1058 = .ok (.iadd, 1) := bh00_71.2.2.2.1
theorem dL_law_1059 : decode cL_law 1059 = .ok (.iaload, 1) := bh00_71.2.2.2.2
theorem bh00_72 : (((decode cL_law 1060 = .ok (.invokevirtual 181, 3) ∧ decode cL_law 1063 = .ok (.istore 6, 2)) ∧ (decode cL_law 1065 = .ok (.goto 383, 3) ∧ decode cL_law 1068 = .ok (.aload_n 1, 1))) ∧ ((decode cL_law 1069 = .ok (.aload_n 0, 1) ∧ decode cL_law 1070 = .ok (.iload 4, 2)) ∧ (decode cL_law 1072 = .ok (.iconst 1, 1) ∧ decode cL_law 1073 = .ok (.iadd, 1)))) ∧ (((decode cL_law 1074 = .ok (.iaload, 1) ∧ decode cL_law 1075 = .ok (.aload_n 0, 1)) ∧ (decode cL_law 1076 = .ok (.iload 4, 2) ∧ decode cL_law 1078 = .ok (.iconst 2, 1))) ∧ ((decode cL_law 1079 = .ok (.iadd, 1) ∧ decode cL_law 1080 = .ok (.iaload, 1)) ∧ (decode cL_law 1081 = .ok (.aload_n 3, 1) ∧ decode cL_law 1082 = .ok (.invokestatic 182, 3)))) := by decide +kernel
theorem dL_law_1060 : decode cL_law 1060 = .ok (.invokevirtual 181, 3) := bh00_72.1.1.1.1
theorem dL_law_1063 : decode cL_law 1063 = .ok (.istore 6, 2) := bh00_72.1.1.1.2
theorem dL_law_1065 : decode cL_law 1065 = .ok (.goto 383, 3) := bh00_72.1.1.2.1
theorem dL_law_1068 : decode cL_law 1068 = .ok (.aload_n 1, 1) := bh00_72.1.1.2.2
theorem dL_law_1069 : decode cL_law 1069 = .ok (.aload_n 0, 1) := bh00_72.1.2.1.1
theorem dL_law_1070 : decode cL_law 1070 = .ok (.iload 4, 2) := bh00_72.1.2.1.2
theorem dL_law_1072 : decode cL_law 1072 = .ok (.iconst 1, 1) := bh00_72.1.2.2.1
theorem dL_law_1073 : decode cL_law 1073 = .ok (.iadd, 1) := bh00_72.1.2.2.2
theorem dL_law_1074 : decode cL_law 1074 = .ok (.iaload, 1) := bh00_72.2.1.1.1
theorem dL_law_1075 : decode cL_law 1075 = .ok (.aload_n 0, 1) := bh00_72.2.1.1.2
theorem dL_law_1076 : decode cL_law 1076 = .ok (.iload 4, 2) := bh00_72.2.1.2.1
theorem dL_law_1078 : decode cL_law 1078 = .ok (.iconst 2, 1) := bh00_72.2.1.2.2
theorem dL_law_1079 : decode cL_law 1079 = .ok (.iadd, 1) := bh00_72.2.2.1.1
theorem dL_law_1080 : decode cL_law 1080 = .ok (.iaload, 1) := bh00_72.2.2.1.2
theorem dL_law_1081 : decode cL_law 1081 = .ok (.aload_n 3, 1) := bh00_72.2.2.2.1
theorem dL_law_1082 : decode cL_law 1082 = .ok (.invokestatic 182, 3) := bh00_72.2.2.2.2
theorem bh00_73 : (((decode cL_law 1085 = .ok (.istore 5, 2) ∧ decode cL_law 1087 = .ok (.aload_n 2, 1)) ∧ (decode cL_law 1088 = .ok (.aload_n 0, 1) ∧ decode cL_law 1089 = .ok (.iload 4, 2))) ∧ ((decode cL_law 1091 = .ok (.iconst 1, 1) ∧ decode cL_law 1092 = .ok (.iadd, 1)) ∧ (decode cL_law 1093 = .ok (.iaload, 1) ∧ decode cL_law 1094 = .ok (.aload_n 0, 1)))) ∧ (((decode cL_law 1095 = .ok (.iload 4, 2) ∧ decode cL_law 1097 = .ok (.iconst 2, 1)) ∧ (decode cL_law 1098 = .ok (.iadd, 1) ∧ decode cL_law 1099 = .ok (.iaload, 1))) ∧ ((decode cL_law 1100 = .ok (.invokevirtual 184, 3) ∧ decode cL_law 1103 = .ok (.istore 6, 2)) ∧ (decode cL_law 1105 = .ok (.goto 343, 3) ∧ decode cL_law 1108 = .ok (.aload_n 1, 1)))) := by decide +kernel
theorem dL_law_1085 : decode cL_law 1085 = .ok (.istore 5, 2) := bh00_73.1.1.1.1
theorem dL_law_1087 : decode cL_law 1087 = .ok (.aload_n 2, 1) := bh00_73.1.1.1.2
theorem dL_law_1088 : decode cL_law 1088 = .ok (.aload_n 0, 1) := bh00_73.1.1.2.1
theorem dL_law_1089 : decode cL_law 1089 = .ok (.iload 4, 2) := bh00_73.1.1.2.2
theorem dL_law_1091 : decode cL_law 1091 = .ok (.iconst 1, 1) := bh00_73.1.2.1.1
theorem dL_law_1092 : decode cL_law 1092 = .ok (.iadd, 1) := bh00_73.1.2.1.2
theorem dL_law_1093 : decode cL_law 1093 = .ok (.iaload, 1) := bh00_73.1.2.2.1
theorem dL_law_1094 : decode cL_law 1094 = .ok (.aload_n 0, 1) := bh00_73.1.2.2.2
theorem dL_law_1095 : decode cL_law 1095 = .ok (.iload 4, 2) := bh00_73.2.1.1.1
theorem dL_law_1097 : decode cL_law 1097 = .ok (.iconst 2, 1) := bh00_73.2.1.1.2
theorem dL_law_1098 : decode cL_law 1098 = .ok (.iadd, 1) := bh00_73.2.1.2.1
theorem dL_law_1099 : decode cL_law 1099 = .ok (.iaload, 1) := bh00_73.2.1.2.2
theorem dL_law_1100 : decode cL_law 1100 = .ok (.invokevirtual 184, 3) := bh00_73.2.2.1.1
theorem dL_law_1103 : decode cL_law 1103 = .ok (.istore 6, 2) := bh00_73.2.2.1.2
theorem dL_law_1105 : decode cL_law 1105 = .ok (.goto 343, 3) := bh00_73.2.2.2.1
theorem dL_law_1108 : decode cL_law 1108 = .ok (.aload_n 1, 1) := bh00_73.2.2.2.2
theorem bh00_74 : (((decode cL_law 1109 = .ok (.aload_n 0, 1) ∧ decode cL_law 1110 = .ok (.iload 4, 2)) ∧ (decode cL_law 1112 = .ok (.iconst 1, 1) ∧ decode cL_law 1113 = .ok (.iadd, 1))) ∧ ((decode cL_law 1114 = .ok (.iaload, 1) ∧ decode cL_law 1115 = .ok (.aload_n 3, 1)) ∧ (decode cL_law 1116 = .ok (.invokestatic 185, 3) ∧ decode cL_law 1119 = .ok (.istore 5, 2)))) ∧ (((decode cL_law 1121 = .ok (.aload_n 2, 1) ∧ decode cL_law 1122 = .ok (.aload_n 0, 1)) ∧ (decode cL_law 1123 = .ok (.iload 4, 2) ∧ decode cL_law 1125 = .ok (.iconst 1, 1))) ∧ ((decode cL_law 1126 = .ok (.iadd, 1) ∧ decode cL_law 1127 = .ok (.iaload, 1)) ∧ (decode cL_law 1128 = .ok (.invokevirtual 187, 3) ∧ decode cL_law 1131 = .ok (.istore 6, 2)))) := by decide +kernel
theorem dL_law_1109 : decode cL_law 1109 = .ok (.aload_n 0, 1) := bh00_74.1.1.1.1
theorem dL_law_1110 : decode cL_law 1110 = .ok (.iload 4, 2) := bh00_74.1.1.1.2
theorem dL_law_1112 : decode cL_law 1112 = .ok (.iconst 1, 1) := bh00_74.1.1.2.1
theorem dL_law_1113 : decode cL_law 1113 = .ok (.iadd, 1) := bh00_74.1.1.2.2
theorem dL_law_1114 : decode cL_law 1114 = .ok (.iaload, 1) := bh00_74.1.2.1.1
theorem dL_law_1115 : decode cL_law 1115 = .ok (.aload_n 3, 1) := bh00_74.1.2.1.2
theorem dL_law_1116 : decode cL_law 1116 = .ok (.invokestatic 185, 3) := bh00_74.1.2.2.1
theorem dL_law_1119 : decode cL_law 1119 = .ok (.istore 5, 2) := bh00_74.1.2.2.2
theorem dL_law_1121 : decode cL_law 1121 = .ok (.aload_n 2, 1) := bh00_74.2.1.1.1
theorem dL_law_1122 : decode cL_law 1122 = .ok (.aload_n 0, 1) := bh00_74.2.1.1.2
theorem dL_law_1123 : decode cL_law 1123 = .ok (.iload 4, 2) := bh00_74.2.1.2.1
theorem dL_law_1125 : decode cL_law 1125 = .ok (.iconst 1, 1) := bh00_74.2.1.2.2
theorem dL_law_1126 : decode cL_law 1126 = .ok (.iadd, 1) := bh00_74.2.2.1.1
theorem dL_law_1127 : decode cL_law 1127 = .ok (.iaload, 1) := bh00_74.2.2.1.2
theorem dL_law_1128 : decode cL_law 1128 = .ok (.invokevirtual 187, 3) := bh00_74.2.2.2.1
theorem dL_law_1131 : decode cL_law 1131 = .ok (.istore 6, 2) := bh00_74.2.2.2.2
theorem bh00_75 : (((decode cL_law 1133 = .ok (.goto 315, 3) ∧ decode cL_law 1136 = .ok (.aload_n 1, 1)) ∧ (decode cL_law 1137 = .ok (.invokevirtual 188, 3) ∧ decode cL_law 1140 = .ok (.pop, 1))) ∧ ((decode cL_law 1141 = .ok (.aload_n 2, 1) ∧ decode cL_law 1142 = .ok (.invokevirtual 191, 3)) ∧ (decode cL_law 1145 = .ok (.pop, 1) ∧ decode cL_law 1146 = .ok (.goto 302, 3)))) ∧ (((decode cL_law 1149 = .ok (.aload_n 1, 1) ∧ decode cL_law 1150 = .ok (.aload_n 0, 1)) ∧ (decode cL_law 1151 = .ok (.iload 4, 2) ∧ decode cL_law 1153 = .ok (.iconst 1, 1))) ∧ ((decode cL_law 1154 = .ok (.iadd, 1) ∧ decode cL_law 1155 = .ok (.iaload, 1)) ∧ (decode cL_law 1156 = .ok (.aload_n 0, 1) ∧ decode cL_law 1157 = .ok (.iload 4, 2)))) := by decide +kernel
theorem dL_law_1133 : decode cL_law 1133 = .ok (.goto 315, 3) := bh00_75.1.1.1.1
theorem dL_law_1136 : decode cL_law 1136 = .ok (.aload_n 1, 1) := bh00_75.1.1.1.2
theorem dL_law_1137 : decode cL_law 1137 = .ok (.invokevirtual 188, 3) := bh00_75.1.1.2.1
theorem dL_law_1140 : decode cL_law 1140 = .ok (.pop, 1) := bh00_75.1.1.2.2
theorem dL_law_1141 : decode cL_law 1141 = .ok (.aload_n 2, 1) := bh00_75.1.2.1.1
theorem dL_law_1142 : decode cL_law 1142 = .ok (.invokevirtual 191, 3) := bh00_75.1.2.1.2
theorem dL_law_1145 : decode cL_law 1145 = .ok (.pop, 1) := bh00_75.1.2.2.1
theorem dL_law_1146 : decode cL_law 1146 = .ok (.goto 302, 3) := bh00_75.1.2.2.2
theorem dL_law_1149 : decode cL_law 1149 = .ok (.aload_n 1, 1) := bh00_75.2.1.1.1
theorem dL_law_1150 : decode cL_law 1150 = .ok (.aload_n 0, 1) := bh00_75.2.1.1.2
theorem dL_law_1151 : decode cL_law 1151 = .ok (.iload 4, 2) := bh00_75.2.1.2.1
theorem dL_law_1153 : decode cL_law 1153 = .ok (.iconst 1, 1) := bh00_75.2.1.2.2
theorem dL_law_1154 : decode cL_law 1154 = .ok (.iadd, 1) := bh00_75.2.2.1.1
theorem dL_law_1155 : decode cL_law 1155 = .ok (.iaload, 1) := bh00_75.2.2.1.2
theorem dL_law_1156 : decode cL_law 1156 = .ok (.aload_n 0, 1) := bh00_75.2.2.2.1
theorem dL_law_1157 : decode cL_law 1157 = .ok (.iload 4, 2) := bh00_75.2.2.2.2
theorem bh00_76 : (((decode cL_law 1159 = .ok (.iconst 2, 1) ∧ decode cL_law 1160 = .ok (.iadd, 1)) ∧ (decode cL_law 1161 = .ok (.iaload, 1) ∧ decode cL_law 1162 = .ok (.aload_n 0, 1))) ∧ ((decode cL_law 1163 = .ok (.iload 4, 2) ∧ decode cL_law 1165 = .ok (.iconst 3, 1)) ∧ (decode cL_law 1166 = .ok (.iadd, 1) ∧ decode cL_law 1167 = .ok (.iaload, 1)))) ∧ (((decode cL_law 1168 = .ok (.aload_n 3, 1) ∧ decode cL_law 1169 = .ok (.invokestatic 192, 3)) ∧ (decode cL_law 1172 = .ok (.istore 5, 2) ∧ decode cL_law 1174 = .ok (.aload_n 2, 1))) ∧ ((decode cL_law 1175 = .ok (.aload_n 0, 1) ∧ decode cL_law 1176 = .ok (.iload 4, 2)) ∧ (decode cL_law 1178 = .ok (.iconst 1, 1) ∧ decode cL_law 1179 = .ok (.iadd, 1)))) := by decide +kernel
theorem dL_law_1159 : decode cL_law 1159 = .ok (.iconst 2, 1) := bh00_76.1.1.1.1
theorem dL_law_1160 : decode cL_law 1160 = .ok (.iadd, 1) := bh00_76.1.1.1.2
theorem dL_law_1161 : decode cL_law 1161 = .ok (.iaload, 1) := bh00_76.1.1.2.1
theorem dL_law_1162 : decode cL_law 1162 = .ok (.aload_n 0, 1) := bh00_76.1.1.2.2
theorem dL_law_1163 : decode cL_law 1163 = .ok (.iload 4, 2) := bh00_76.1.2.1.1
theorem dL_law_1165 : decode cL_law 1165 = .ok (.iconst 3, 1) := bh00_76.1.2.1.2
theorem dL_law_1166 : decode cL_law 1166 = .ok (.iadd, 1) := bh00_76.1.2.2.1
theorem dL_law_1167 : decode cL_law 1167 = .ok (.iaload, 1) := bh00_76.1.2.2.2
theorem dL_law_1168 : decode cL_law 1168 = .ok (.aload_n 3, 1) := bh00_76.2.1.1.1
theorem dL_law_1169 : decode cL_law 1169 = .ok (.invokestatic 192, 3) := bh00_76.2.1.1.2
theorem dL_law_1172 : decode cL_law 1172 = .ok (.istore 5, 2) := bh00_76.2.1.2.1
theorem dL_law_1174 : decode cL_law 1174 = .ok (.aload_n 2, 1) := bh00_76.2.1.2.2
theorem dL_law_1175 : decode cL_law 1175 = .ok (.aload_n 0, 1) := bh00_76.2.2.1.1
theorem dL_law_1176 : decode cL_law 1176 = .ok (.iload 4, 2) := bh00_76.2.2.1.2
theorem dL_law_1178 : decode cL_law 1178 = .ok (.iconst 1, 1) := bh00_76.2.2.2.1
theorem dL_law_1179 : decode cL_law 1179 = .ok (.iadd, 1) := bh00_76.2.2.2.2
theorem bh00_77 : (((decode cL_law 1180 = .ok (.iaload, 1) ∧ decode cL_law 1181 = .ok (.aload_n 0, 1)) ∧ (decode cL_law 1182 = .ok (.iload 4, 2) ∧ decode cL_law 1184 = .ok (.iconst 2, 1))) ∧ ((decode cL_law 1185 = .ok (.iadd, 1) ∧ decode cL_law 1186 = .ok (.iaload, 1)) ∧ (decode cL_law 1187 = .ok (.aload_n 0, 1) ∧ decode cL_law 1188 = .ok (.iload 4, 2)))) ∧ (((decode cL_law 1190 = .ok (.iconst 3, 1) ∧ decode cL_law 1191 = .ok (.iadd, 1)) ∧ (decode cL_law 1192 = .ok (.iaload, 1) ∧ decode cL_law 1193 = .ok (.invokevirtual 194, 3))) ∧ ((decode cL_law 1196 = .ok (.istore 6, 2) ∧ decode cL_law 1198 = .ok (.goto 250, 3)) ∧ (decode cL_law 1201 = .ok (.aload_n 1, 1) ∧ decode cL_law 1202 = .ok (.aload_n 0, 1)))) := by decide +kernel
theorem dL_law_1180 : decode cL_law 1180 = .ok (.iaload, 1) := bh00_77.1.1.1.1
theorem dL_law_1181 : decode cL_law 1181 = .ok (.aload_n 0, 1) := bh00_77.1.1.1.2
theorem dL_law_1182 : decode cL_law 1182 = .ok (.iload 4, 2) := bh00_77.1.1.2.1
theorem dL_law_1184 : decode cL_law 1184 = .ok (.iconst 2, 1) := bh00_77.1.1.2.2
theorem dL_law_1185 : decode cL_law 1185 = .ok (.iadd, 1) := bh00_77.1.2.1.1
theorem dL_law_1186 : decode cL_law 1186 = .ok (.iaload, 1) := bh00_77.1.2.1.2
theorem dL_law_1187 : decode cL_law 1187 = .ok (.aload_n 0, 1) := bh00_77.1.2.2.1
theorem dL_law_1188 : decode cL_law 1188 = .ok (.iload 4, 2) := bh00_77.1.2.2.2
theorem dL_law_1190 : decode cL_law 1190 = .ok (.iconst 3, 1) := bh00_77.2.1.1.1
theorem dL_law_1191 : decode cL_law 1191 = .ok (.iadd, 1) := bh00_77.2.1.1.2
theorem dL_law_1192 : decode cL_law 1192 = .ok (.iaload, 1) := bh00_77.2.1.2.1
theorem dL_law_1193 : decode cL_law 1193 = .ok (.invokevirtual 194, 3) := bh00_77.2.1.2.2
theorem dL_law_1196 : decode cL_law 1196 = .ok (.istore 6, 2) := bh00_77.2.2.1.1
theorem dL_law_1198 : decode cL_law 1198 = .ok (.goto 250, 3) := bh00_77.2.2.1.2
theorem dL_law_1201 : decode cL_law 1201 = .ok (.aload_n 1, 1) := bh00_77.2.2.2.1
theorem dL_law_1202 : decode cL_law 1202 = .ok (.aload_n 0, 1) := bh00_77.2.2.2.2
theorem bh00_78 : (((decode cL_law 1203 = .ok (.iload 4, 2) ∧ decode cL_law 1205 = .ok (.iconst 1, 1)) ∧ (decode cL_law 1206 = .ok (.iadd, 1) ∧ decode cL_law 1207 = .ok (.iaload, 1))) ∧ ((decode cL_law 1208 = .ok (.aload_n 3, 1) ∧ decode cL_law 1209 = .ok (.invokestatic 195, 3)) ∧ (decode cL_law 1212 = .ok (.istore 5, 2) ∧ decode cL_law 1214 = .ok (.aload_n 2, 1)))) ∧ (((decode cL_law 1215 = .ok (.aload_n 0, 1) ∧ decode cL_law 1216 = .ok (.iload 4, 2)) ∧ (decode cL_law 1218 = .ok (.iconst 1, 1) ∧ decode cL_law 1219 = .ok (.iadd, 1))) ∧ ((decode cL_law 1220 = .ok (.iaload, 1) ∧ decode cL_law 1221 = .ok (.invokevirtual 197, 3)) ∧ (decode cL_law 1224 = .ok (.istore 6, 2) ∧ decode cL_law 1226 = .ok (.goto 222, 3)))) := by decide +kernel
theorem dL_law_1203 : decode cL_law 1203 = .ok (.iload 4, 2) := bh00_78.1.1.1.1
theorem dL_law_1205 : decode cL_law 1205 = .ok (.iconst 1, 1) := bh00_78.1.1.1.2
theorem dL_law_1206 : decode cL_law 1206 = .ok (.iadd, 1) := bh00_78.1.1.2.1
theorem dL_law_1207 : decode cL_law 1207 = .ok (.iaload, 1) := bh00_78.1.1.2.2
theorem dL_law_1208 : decode cL_law 1208 = .ok (.aload_n 3, 1) := bh00_78.1.2.1.1
theorem dL_law_1209 : decode cL_law 1209 = .ok (.invokestatic 195, 3) := bh00_78.1.2.1.2
theorem dL_law_1212 : decode cL_law 1212 = .ok (.istore 5, 2) := bh00_78.1.2.2.1
theorem dL_law_1214 : decode cL_law 1214 = .ok (.aload_n 2, 1) := bh00_78.1.2.2.2
theorem dL_law_1215 : decode cL_law 1215 = .ok (.aload_n 0, 1) := bh00_78.2.1.1.1
theorem dL_law_1216 : decode cL_law 1216 = .ok (.iload 4, 2) := bh00_78.2.1.1.2
theorem dL_law_1218 : decode cL_law 1218 = .ok (.iconst 1, 1) := bh00_78.2.1.2.1
theorem dL_law_1219 : decode cL_law 1219 = .ok (.iadd, 1) := bh00_78.2.1.2.2
theorem dL_law_1220 : decode cL_law 1220 = .ok (.iaload, 1) := bh00_78.2.2.1.1
theorem dL_law_1221 : decode cL_law 1221 = .ok (.invokevirtual 197, 3) := bh00_78.2.2.1.2
theorem dL_law_1224 : decode cL_law 1224 = .ok (.istore 6, 2) := bh00_78.2.2.2.1
theorem dL_law_1226 : decode cL_law 1226 = .ok (.goto 222, 3) := bh00_78.2.2.2.2
theorem bh00_79 : (((decode cL_law 1229 = .ok (.aload_n 1, 1) ∧ decode cL_law 1230 = .ok (.aload_n 0, 1)) ∧ (decode cL_law 1231 = .ok (.iload 4, 2) ∧ decode cL_law 1233 = .ok (.iconst 1, 1))) ∧ ((decode cL_law 1234 = .ok (.iadd, 1) ∧ decode cL_law 1235 = .ok (.iaload, 1)) ∧ (decode cL_law 1236 = .ok (.aload_n 3, 1) ∧ decode cL_law 1237 = .ok (.invokestatic 198, 3)))) ∧ (((decode cL_law 1240 = .ok (.istore 5, 2) ∧ decode cL_law 1242 = .ok (.aload_n 2, 1)) ∧ (decode cL_law 1243 = .ok (.aload_n 0, 1) ∧ decode cL_law 1244 = .ok (.iload 4, 2))) ∧ ((decode cL_law 1246 = .ok (.iconst 1, 1) ∧ decode cL_law 1247 = .ok (.iadd, 1)) ∧ (decode cL_law 1248 = .ok (.iaload, 1) ∧ decode cL_law 1249 = .ok (.invokevirtual 200, 3)))) := by decide +kernel
theorem dL_law_1229 : decode cL_law 1229 = .ok (.aload_n 1, 1) := bh00_79.1.1.1.1
theorem dL_law_1230 : decode cL_law 1230 = .ok (.aload_n 0, 1) := bh00_79.1.1.1.2
theorem dL_law_1231 : decode cL_law 1231 = .ok (.iload 4, 2) := bh00_79.1.1.2.1
theorem dL_law_1233 : decode cL_law 1233 = .ok (.iconst 1, 1) := bh00_79.1.1.2.2
theorem dL_law_1234 : decode cL_law 1234 = .ok (.iadd, 1) := bh00_79.1.2.1.1
theorem dL_law_1235 : decode cL_law 1235 = .ok (.iaload, 1) := bh00_79.1.2.1.2
theorem dL_law_1236 : decode cL_law 1236 = .ok (.aload_n 3, 1) := bh00_79.1.2.2.1
theorem dL_law_1237 : decode cL_law 1237 = .ok (.invokestatic 198, 3) := bh00_79.1.2.2.2
theorem dL_law_1240 : decode cL_law 1240 = .ok (.istore 5, 2) := bh00_79.2.1.1.1
theorem dL_law_1242 : decode cL_law 1242 = .ok (.aload_n 2, 1) := bh00_79.2.1.1.2
theorem dL_law_1243 : decode cL_law 1243 = .ok (.aload_n 0, 1) := bh00_79.2.1.2.1
theorem dL_law_1244 : decode cL_law 1244 = .ok (.iload 4, 2) := bh00_79.2.1.2.2
theorem dL_law_1246 : decode cL_law 1246 = .ok (.iconst 1, 1) := bh00_79.2.2.1.1
theorem dL_law_1247 : decode cL_law 1247 = .ok (.iadd, 1) := bh00_79.2.2.1.2
theorem dL_law_1248 : decode cL_law 1248 = .ok (.iaload, 1) := bh00_79.2.2.2.1
theorem dL_law_1249 : decode cL_law 1249 = .ok (.invokevirtual 200, 3) := bh00_79.2.2.2.2
theorem bh00_80 : (((decode cL_law 1252 = .ok (.istore 6, 2) ∧ decode cL_law 1254 = .ok (.goto 194, 3)) ∧ (decode cL_law 1257 = .ok (.aload_n 1, 1) ∧ decode cL_law 1258 = .ok (.invokevirtual 201, 3))) ∧ ((decode cL_law 1261 = .ok (.aload_n 2, 1) ∧ decode cL_law 1262 = .ok (.invokevirtual 204, 3)) ∧ (decode cL_law 1265 = .ok (.goto 183, 3) ∧ decode cL_law 1268 = .ok (.aload_n 1, 1)))) ∧ (((decode cL_law 1269 = .ok (.aload_n 0, 1) ∧ decode cL_law 1270 = .ok (.iload 4, 2)) ∧ (decode cL_law 1272 = .ok (.iconst 1, 1) ∧ decode cL_law 1273 = .ok (.iadd, 1))) ∧ ((decode cL_law 1274 = .ok (.iaload, 1) ∧ decode cL_law 1275 = .ok (.aload_n 0, 1)) ∧ (decode cL_law 1276 = .ok (.iload 4, 2) ∧ decode cL_law 1278 = .ok (.iconst 2, 1)))) := by decide +kernel
theorem dL_law_1252 : decode cL_law 1252 = .ok (.istore 6, 2) := bh00_80.1.1.1.1
theorem dL_law_1254 : decode cL_law 1254 = .ok (.goto 194, 3) := bh00_80.1.1.1.2
theorem dL_law_1257 : decode cL_law 1257 = .ok (.aload_n 1, 1) := bh00_80.1.1.2.1
theorem dL_law_1258 : decode cL_law 1258 = .ok (.invokevirtual 201, 3) := bh00_80.1.1.2.2
theorem dL_law_1261 : decode cL_law 1261 = .ok (.aload_n 2, 1) := bh00_80.1.2.1.1
theorem dL_law_1262 : decode cL_law 1262 = .ok (.invokevirtual 204, 3) := bh00_80.1.2.1.2
theorem dL_law_1265 : decode cL_law 1265 = .ok (.goto 183, 3) := bh00_80.1.2.2.1
theorem dL_law_1268 : decode cL_law 1268 = .ok (.aload_n 1, 1) := bh00_80.1.2.2.2
theorem dL_law_1269 : decode cL_law 1269 = .ok (.aload_n 0, 1) := bh00_80.2.1.1.1
theorem dL_law_1270 : decode cL_law 1270 = .ok (.iload 4, 2) := bh00_80.2.1.1.2
theorem dL_law_1272 : decode cL_law 1272 = .ok (.iconst 1, 1) := bh00_80.2.1.2.1
theorem dL_law_1273 : decode cL_law 1273 = .ok (.iadd, 1) := bh00_80.2.1.2.2
theorem dL_law_1274 : decode cL_law 1274 = .ok (.iaload, 1) := bh00_80.2.2.1.1
theorem dL_law_1275 : decode cL_law 1275 = .ok (.aload_n 0, 1) := bh00_80.2.2.1.2
theorem dL_law_1276 : decode cL_law 1276 = .ok (.iload 4, 2) := bh00_80.2.2.2.1
theorem dL_law_1278 : decode cL_law 1278 = .ok (.iconst 2, 1) := bh00_80.2.2.2.2
theorem bh00_81 : (((decode cL_law 1279 = .ok (.iadd, 1) ∧ decode cL_law 1280 = .ok (.iaload, 1)) ∧ (decode cL_law 1281 = .ok (.aload_n 0, 1) ∧ decode cL_law 1282 = .ok (.iload 4, 2))) ∧ ((decode cL_law 1284 = .ok (.iconst 3, 1) ∧ decode cL_law 1285 = .ok (.iadd, 1)) ∧ (decode cL_law 1286 = .ok (.iaload, 1) ∧ decode cL_law 1287 = .ok (.aload_n 3, 1)))) ∧ (((decode cL_law 1288 = .ok (.invokestatic 205, 3) ∧ decode cL_law 1291 = .ok (.istore 5, 2)) ∧ (decode cL_law 1293 = .ok (.aload_n 2, 1) ∧ decode cL_law 1294 = .ok (.aload_n 0, 1))) ∧ ((decode cL_law 1295 = .ok (.iload 4, 2) ∧ decode cL_law 1297 = .ok (.iconst 1, 1)) ∧ (decode cL_law 1298 = .ok (.iadd, 1) ∧ decode cL_law 1299 = .ok (.iaload, 1)))) := by decide +kernel
theorem dL_law_1279 : decode cL_law 1279 = .ok (.iadd, 1) := bh00_81.1.1.1.1
theorem dL_law_1280 : decode cL_law 1280 = .ok (.iaload, 1) := bh00_81.1.1.1.2
theorem dL_law_1281 : decode cL_law 1281 = .ok (.aload_n 0, 1) := bh00_81.1.1.2.1
theorem dL_law_1282 : decode cL_law 1282 = .ok (.iload 4, 2) := bh00_81.1.1.2.2
theorem dL_law_1284 : decode cL_law 1284 = .ok (.iconst 3, 1) := bh00_81.1.2.1.1
theorem dL_law_1285 : decode cL_law 1285 = .ok (.iadd, 1) := bh00_81.1.2.1.2
theorem dL_law_1286 : decode cL_law 1286 = .ok (.iaload, 1) := bh00_81.1.2.2.1
theorem dL_law_1287 : decode cL_law 1287 = .ok (.aload_n 3, 1) := bh00_81.1.2.2.2
theorem dL_law_1288 : decode cL_law 1288 = .ok (.invokestatic 205, 3) := bh00_81.2.1.1.1
theorem dL_law_1291 : decode cL_law 1291 = .ok (.istore 5, 2) := bh00_81.2.1.1.2
theorem dL_law_1293 : decode cL_law 1293 = .ok (.aload_n 2, 1) := bh00_81.2.1.2.1
theorem dL_law_1294 : decode cL_law 1294 = .ok (.aload_n 0, 1) := bh00_81.2.1.2.2
theorem dL_law_1295 : decode cL_law 1295 = .ok (.iload 4, 2) := bh00_81.2.2.1.1
theorem dL_law_1297 : decode cL_law 1297 = .ok (.iconst 1, 1) := bh00_81.2.2.1.2
theorem dL_law_1298 : decode cL_law 1298 = .ok (.iadd, 1) := bh00_81.2.2.2.1
theorem dL_law_1299 : decode cL_law 1299 = .ok (.iaload, 1) := bh00_81.2.2.2.2
theorem bh00_82 : (((decode cL_law 1300 = .ok (.aload_n 0, 1) ∧ decode cL_law 1301 = .ok (.iload 4, 2)) ∧ (decode cL_law 1303 = .ok (.iconst 2, 1) ∧ decode cL_law 1304 = .ok (.iadd, 1))) ∧ ((decode cL_law 1305 = .ok (.iaload, 1) ∧ decode cL_law 1306 = .ok (.aload_n 0, 1)) ∧ (decode cL_law 1307 = .ok (.iload 4, 2) ∧ decode cL_law 1309 = .ok (.iconst 3, 1)))) ∧ (((decode cL_law 1310 = .ok (.iadd, 1) ∧ decode cL_law 1311 = .ok (.iaload, 1)) ∧ (decode cL_law 1312 = .ok (.invokevirtual 207, 3) ∧ decode cL_law 1315 = .ok (.istore 6, 2))) ∧ ((decode cL_law 1317 = .ok (.goto 131, 3) ∧ decode cL_law 1320 = .ok (.aload_n 1, 1)) ∧ (decode cL_law 1321 = .ok (.aload_n 0, 1) ∧ decode cL_law 1322 = .ok (.iload 4, 2)))) := by decide +kernel
theorem dL_law_1300 : decode cL_law 1300 = .ok (.aload_n 0, 1) := bh00_82.1.1.1.1
theorem dL_law_1301 : decode cL_law 1301 = .ok (.iload 4, 2) := bh00_82.1.1.1.2
theorem dL_law_1303 : decode cL_law 1303 = .ok (.iconst 2, 1) := bh00_82.1.1.2.1
theorem dL_law_1304 : decode cL_law 1304 = .ok (.iadd, 1) := bh00_82.1.1.2.2
theorem dL_law_1305 : decode cL_law 1305 = .ok (.iaload, 1) := bh00_82.1.2.1.1
theorem dL_law_1306 : decode cL_law 1306 = .ok (.aload_n 0, 1) := bh00_82.1.2.1.2
theorem dL_law_1307 : decode cL_law 1307 = .ok (.iload 4, 2) := bh00_82.1.2.2.1
theorem dL_law_1309 : decode cL_law 1309 = .ok (.iconst 3, 1) := bh00_82.1.2.2.2
theorem dL_law_1310 : decode cL_law 1310 = .ok (.iadd, 1) := bh00_82.2.1.1.1
theorem dL_law_1311 : decode cL_law 1311 = .ok (.iaload, 1) := bh00_82.2.1.1.2
theorem dL_law_1312 : decode cL_law 1312 = .ok (.invokevirtual 207, 3) := bh00_82.2.1.2.1
theorem dL_law_1315 : decode cL_law 1315 = .ok (.istore 6, 2) := bh00_82.2.1.2.2
theorem dL_law_1317 : decode cL_law 1317 = .ok (.goto 131, 3) := bh00_82.2.2.1.1
theorem dL_law_1320 : decode cL_law 1320 = .ok (.aload_n 1, 1) := bh00_82.2.2.1.2
theorem dL_law_1321 : decode cL_law 1321 = .ok (.aload_n 0, 1) := bh00_82.2.2.2.1
theorem dL_law_1322 : decode cL_law 1322 = .ok (.iload 4, 2) := bh00_82.2.2.2.2
theorem bh00_83 : (((decode cL_law 1324 = .ok (.iconst 1, 1) ∧ decode cL_law 1325 = .ok (.iadd, 1)) ∧ (decode cL_law 1326 = .ok (.iaload, 1) ∧ decode cL_law 1327 = .ok (.aload_n 0, 1))) ∧ ((decode cL_law 1328 = .ok (.iload 4, 2) ∧ decode cL_law 1330 = .ok (.iconst 2, 1)) ∧ (decode cL_law 1331 = .ok (.iadd, 1) ∧ decode cL_law 1332 = .ok (.iaload, 1)))) ∧ (((decode cL_law 1333 = .ok (.aload_n 0, 1) ∧ decode cL_law 1334 = .ok (.iload 4, 2)) ∧ (decode cL_law 1336 = .ok (.iconst 3, 1) ∧ decode cL_law 1337 = .ok (.iadd, 1))) ∧ ((decode cL_law 1338 = .ok (.iaload, 1) ∧ decode cL_law 1339 = .ok (.aload_n 3, 1)) ∧ (decode cL_law 1340 = .ok (.invokestatic 208, 3) ∧ decode cL_law 1343 = .ok (.istore 5, 2)))) := by decide +kernel
theorem dL_law_1324 : decode cL_law 1324 = .ok (.iconst 1, 1) := bh00_83.1.1.1.1
theorem dL_law_1325 : decode cL_law 1325 = .ok (.iadd, 1) := bh00_83.1.1.1.2
theorem dL_law_1326 : decode cL_law 1326 = .ok (.iaload, 1) := bh00_83.1.1.2.1
theorem dL_law_1327 : decode cL_law 1327 = .ok (.aload_n 0, 1) := bh00_83.1.1.2.2
theorem dL_law_1328 : decode cL_law 1328 = .ok (.iload 4, 2) := bh00_83.1.2.1.1
theorem dL_law_1330 : decode cL_law 1330 = .ok (.iconst 2, 1) := bh00_83.1.2.1.2
theorem dL_law_1331 : decode cL_law 1331 = .ok (.iadd, 1) := bh00_83.1.2.2.1
theorem dL_law_1332 : decode cL_law 1332 = .ok (.iaload, 1) := bh00_83.1.2.2.2
theorem dL_law_1333 : decode cL_law 1333 = .ok (.aload_n 0, 1) := bh00_83.2.1.1.1
theorem dL_law_1334 : decode cL_law 1334 = .ok (.iload 4, 2) := bh00_83.2.1.1.2
theorem dL_law_1336 : decode cL_law 1336 = .ok (.iconst 3, 1) := bh00_83.2.1.2.1
theorem dL_law_1337 : decode cL_law 1337 = .ok (.iadd, 1) := bh00_83.2.1.2.2
theorem dL_law_1338 : decode cL_law 1338 = .ok (.iaload, 1) := bh00_83.2.2.1.1
theorem dL_law_1339 : decode cL_law 1339 = .ok (.aload_n 3, 1) := bh00_83.2.2.1.2
theorem dL_law_1340 : decode cL_law 1340 = .ok (.invokestatic 208, 3) := bh00_83.2.2.2.1
theorem dL_law_1343 : decode cL_law 1343 = .ok (.istore 5, 2) := bh00_83.2.2.2.2
theorem bh00_84 : (((decode cL_law 1345 = .ok (.aload_n 2, 1) ∧ decode cL_law 1346 = .ok (.aload_n 0, 1)) ∧ (decode cL_law 1347 = .ok (.iload 4, 2) ∧ decode cL_law 1349 = .ok (.iconst 1, 1))) ∧ ((decode cL_law 1350 = .ok (.iadd, 1) ∧ decode cL_law 1351 = .ok (.iaload, 1)) ∧ (decode cL_law 1352 = .ok (.aload_n 0, 1) ∧ decode cL_law 1353 = .ok (.iload 4, 2)))) ∧ (((decode cL_law 1355 = .ok (.iconst 2, 1) ∧ decode cL_law 1356 = .ok (.iadd, 1)) ∧ (decode cL_law 1357 = .ok (.iaload, 1) ∧ decode cL_law 1358 = .ok (.aload_n 0, 1))) ∧ ((decode cL_law 1359 = .ok (.iload 4, 2) ∧ decode cL_law 1361 = .ok (.iconst 3, 1)) ∧ (decode cL_law 1362 = .ok (.iadd, 1) ∧ decode cL_law 1363 = .ok (.iaload, 1)))) := by decide +kernel
theorem dL_law_1345 : decode cL_law 1345 = .ok (.aload_n 2, 1) := bh00_84.1.1.1.1
theorem dL_law_1346 : decode cL_law 1346 = .ok (.aload_n 0, 1) := bh00_84.1.1.1.2
theorem dL_law_1347 : decode cL_law 1347 = .ok (.iload 4, 2) := bh00_84.1.1.2.1
theorem dL_law_1349 : decode cL_law 1349 = .ok (.iconst 1, 1) := bh00_84.1.1.2.2
theorem dL_law_1350 : decode cL_law 1350 = .ok (.iadd, 1) := bh00_84.1.2.1.1
theorem dL_law_1351 : decode cL_law 1351 = .ok (.iaload, 1) := bh00_84.1.2.1.2
theorem dL_law_1352 : decode cL_law 1352 = .ok (.aload_n 0, 1) := bh00_84.1.2.2.1
theorem dL_law_1353 : decode cL_law 1353 = .ok (.iload 4, 2) := bh00_84.1.2.2.2
theorem dL_law_1355 : decode cL_law 1355 = .ok (.iconst 2, 1) := bh00_84.2.1.1.1
theorem dL_law_1356 : decode cL_law 1356 = .ok (.iadd, 1) := bh00_84.2.1.1.2
theorem dL_law_1357 : decode cL_law 1357 = .ok (.iaload, 1) := bh00_84.2.1.2.1
theorem dL_law_1358 : decode cL_law 1358 = .ok (.aload_n 0, 1) := bh00_84.2.1.2.2
theorem dL_law_1359 : decode cL_law 1359 = .ok (.iload 4, 2) := bh00_84.2.2.1.1
theorem dL_law_1361 : decode cL_law 1361 = .ok (.iconst 3, 1) := bh00_84.2.2.1.2
theorem dL_law_1362 : decode cL_law 1362 = .ok (.iadd, 1) := bh00_84.2.2.2.1
theorem dL_law_1363 : decode cL_law 1363 = .ok (.iaload, 1) := bh00_84.2.2.2.2
theorem bh00_85 : (((decode cL_law 1364 = .ok (.invokevirtual 210, 3) ∧ decode cL_law 1367 = .ok (.istore 6, 2)) ∧ (decode cL_law 1369 = .ok (.goto 79, 3) ∧ decode cL_law 1372 = .ok (.aload_n 1, 1))) ∧ ((decode cL_law 1373 = .ok (.aload_n 0, 1) ∧ decode cL_law 1374 = .ok (.iload 4, 2)) ∧ (decode cL_law 1376 = .ok (.iconst 1, 1) ∧ decode cL_law 1377 = .ok (.iadd, 1)))) ∧ (((decode cL_law 1378 = .ok (.iaload, 1) ∧ decode cL_law 1379 = .ok (.aload_n 0, 1)) ∧ (decode cL_law 1380 = .ok (.iload 4, 2) ∧ decode cL_law 1382 = .ok (.iconst 2, 1))) ∧ ((decode cL_law 1383 = .ok (.iadd, 1) ∧ decode cL_law 1384 = .ok (.iaload, 1)) ∧ (decode cL_law 1385 = .ok (.aload_n 0, 1) ∧ decode cL_law 1386 = .ok (.iload 4, 2)))) := by decide +kernel
theorem dL_law_1364 : decode cL_law 1364 = .ok (.invokevirtual 210, 3) := bh00_85.1.1.1.1
theorem dL_law_1367 : decode cL_law 1367 = .ok (.istore 6, 2) := bh00_85.1.1.1.2
theorem dL_law_1369 : decode cL_law 1369 = .ok (.goto 79, 3) := bh00_85.1.1.2.1
theorem dL_law_1372 : decode cL_law 1372 = .ok (.aload_n 1, 1) := bh00_85.1.1.2.2
theorem dL_law_1373 : decode cL_law 1373 = .ok (.aload_n 0, 1) := bh00_85.1.2.1.1
theorem dL_law_1374 : decode cL_law 1374 = .ok (.iload 4, 2) := bh00_85.1.2.1.2
theorem dL_law_1376 : decode cL_law 1376 = .ok (.iconst 1, 1) := bh00_85.1.2.2.1
theorem dL_law_1377 : decode cL_law 1377 = .ok (.iadd, 1) := bh00_85.1.2.2.2
theorem dL_law_1378 : decode cL_law 1378 = .ok (.iaload, 1) := bh00_85.2.1.1.1
theorem dL_law_1379 : decode cL_law 1379 = .ok (.aload_n 0, 1) := bh00_85.2.1.1.2
theorem dL_law_1380 : decode cL_law 1380 = .ok (.iload 4, 2) := bh00_85.2.1.2.1
theorem dL_law_1382 : decode cL_law 1382 = .ok (.iconst 2, 1) := bh00_85.2.1.2.2
theorem dL_law_1383 : decode cL_law 1383 = .ok (.iadd, 1) := bh00_85.2.2.1.1
theorem dL_law_1384 : decode cL_law 1384 = .ok (.iaload, 1) := bh00_85.2.2.1.2
theorem dL_law_1385 : decode cL_law 1385 = .ok (.aload_n 0, 1) := bh00_85.2.2.2.1
theorem dL_law_1386 : decode cL_law 1386 = .ok (.iload 4, 2) := bh00_85.2.2.2.2
theorem bh00_86 : (((decode cL_law 1388 = .ok (.iconst 3, 1) ∧ decode cL_law 1389 = .ok (.iadd, 1)) ∧ (decode cL_law 1390 = .ok (.iaload, 1) ∧ decode cL_law 1391 = .ok (.aload_n 3, 1))) ∧ ((decode cL_law 1392 = .ok (.invokestatic 211, 3) ∧ decode cL_law 1395 = .ok (.istore 5, 2)) ∧ (decode cL_law 1397 = .ok (.aload_n 2, 1) ∧ decode cL_law 1398 = .ok (.aload_n 0, 1)))) ∧ (((decode cL_law 1399 = .ok (.iload 4, 2) ∧ decode cL_law 1401 = .ok (.iconst 1, 1)) ∧ (decode cL_law 1402 = .ok (.iadd, 1) ∧ decode cL_law 1403 = .ok (.iaload, 1))) ∧ ((decode cL_law 1404 = .ok (.aload_n 0, 1) ∧ decode cL_law 1405 = .ok (.iload 4, 2)) ∧ (decode cL_law 1407 = .ok (.iconst 2, 1) ∧ decode cL_law 1408 = .ok (.iadd, 1)))) := by decide +kernel
theorem dL_law_1388 : decode cL_law 1388 = .ok (.iconst 3, 1) := bh00_86.1.1.1.1
theorem dL_law_1389 : decode cL_law 1389 = .ok (.iadd, 1) := bh00_86.1.1.1.2
theorem dL_law_1390 : decode cL_law 1390 = .ok (.iaload, 1) := bh00_86.1.1.2.1
theorem dL_law_1391 : decode cL_law 1391 = .ok (.aload_n 3, 1) := bh00_86.1.1.2.2
theorem dL_law_1392 : decode cL_law 1392 = .ok (.invokestatic 211, 3) := bh00_86.1.2.1.1
theorem dL_law_1395 : decode cL_law 1395 = .ok (.istore 5, 2) := bh00_86.1.2.1.2
theorem dL_law_1397 : decode cL_law 1397 = .ok (.aload_n 2, 1) := bh00_86.1.2.2.1
theorem dL_law_1398 : decode cL_law 1398 = .ok (.aload_n 0, 1) := bh00_86.1.2.2.2
theorem dL_law_1399 : decode cL_law 1399 = .ok (.iload 4, 2) := bh00_86.2.1.1.1
theorem dL_law_1401 : decode cL_law 1401 = .ok (.iconst 1, 1) := bh00_86.2.1.1.2
theorem dL_law_1402 : decode cL_law 1402 = .ok (.iadd, 1) := bh00_86.2.1.2.1
theorem dL_law_1403 : decode cL_law 1403 = .ok (.iaload, 1) := bh00_86.2.1.2.2
theorem dL_law_1404 : decode cL_law 1404 = .ok (.aload_n 0, 1) := bh00_86.2.2.1.1
theorem dL_law_1405 : decode cL_law 1405 = .ok (.iload 4, 2) := bh00_86.2.2.1.2
theorem dL_law_1407 : decode cL_law 1407 = .ok (.iconst 2, 1) := bh00_86.2.2.2.1
theorem dL_law_1408 : decode cL_law 1408 = .ok (.iadd, 1) := bh00_86.2.2.2.2
theorem bh00_87 : (((decode cL_law 1409 = .ok (.iaload, 1) ∧ decode cL_law 1410 = .ok (.aload_n 0, 1)) ∧ (decode cL_law 1411 = .ok (.iload 4, 2) ∧ decode cL_law 1413 = .ok (.iconst 3, 1))) ∧ ((decode cL_law 1414 = .ok (.iadd, 1) ∧ decode cL_law 1415 = .ok (.iaload, 1)) ∧ (decode cL_law 1416 = .ok (.invokevirtual 213, 3) ∧ decode cL_law 1419 = .ok (.istore 6, 2)))) ∧ (((decode cL_law 1421 = .ok (.goto 27, 3) ∧ decode cL_law 1424 = .ok (.aload_n 1, 1)) ∧ (decode cL_law 1425 = .ok (.invokevirtual 214, 3) ∧ decode cL_law 1428 = .ok (.aload_n 2, 1))) ∧ ((decode cL_law 1429 = .ok (.invokevirtual 217, 3) ∧ decode cL_law 1432 = .ok (.goto 16, 3)) ∧ (decode cL_law 1435 = .ok (.aload_n 1, 1) ∧ decode cL_law 1436 = .ok (.invokevirtual 218, 3)))) := by decide +kernel
theorem dL_law_1409 : decode cL_law 1409 = .ok (.iaload, 1) := bh00_87.1.1.1.1
theorem dL_law_1410 : decode cL_law 1410 = .ok (.aload_n 0, 1) := bh00_87.1.1.1.2
theorem dL_law_1411 : decode cL_law 1411 = .ok (.iload 4, 2) := bh00_87.1.1.2.1
theorem dL_law_1413 : decode cL_law 1413 = .ok (.iconst 3, 1) := bh00_87.1.1.2.2
theorem dL_law_1414 : decode cL_law 1414 = .ok (.iadd, 1) := bh00_87.1.2.1.1
theorem dL_law_1415 : decode cL_law 1415 = .ok (.iaload, 1) := bh00_87.1.2.1.2
theorem dL_law_1416 : decode cL_law 1416 = .ok (.invokevirtual 213, 3) := bh00_87.1.2.2.1
theorem dL_law_1419 : decode cL_law 1419 = .ok (.istore 6, 2) := bh00_87.1.2.2.2
theorem dL_law_1421 : decode cL_law 1421 = .ok (.goto 27, 3) := bh00_87.2.1.1.1
theorem dL_law_1424 : decode cL_law 1424 = .ok (.aload_n 1, 1) := bh00_87.2.1.1.2
theorem dL_law_1425 : decode cL_law 1425 = .ok (.invokevirtual 214, 3) := bh00_87.2.1.2.1
theorem dL_law_1428 : decode cL_law 1428 = .ok (.aload_n 2, 1) := bh00_87.2.1.2.2
theorem dL_law_1429 : decode cL_law 1429 = .ok (.invokevirtual 217, 3) := bh00_87.2.2.1.1
theorem dL_law_1432 : decode cL_law 1432 = .ok (.goto 16, 3) := bh00_87.2.2.1.2
theorem dL_law_1435 : decode cL_law 1435 = .ok (.aload_n 1, 1) := bh00_87.2.2.2.1
theorem dL_law_1436 : decode cL_law 1436 = .ok (.invokevirtual 218, 3) := bh00_87.2.2.2.2
theorem bh00_88 : (((decode cL_law 1439 = .ok (.pop, 1) ∧ decode cL_law 1440 = .ok (.aload_n 2, 1)) ∧ (decode cL_law 1441 = .ok (.invokevirtual 222, 3))) ∧ (decode cL_law 1444 = .ok (.pop, 1) ∧ decode cL_law 1445 = .ok (.goto 3, 3))) ∧ ((decode cL_law 1448 = .ok (.iinc 4 6, 3) ∧ decode cL_law 1451 = .ok (.goto (-1428), 3)) ∧ (decode cL_law 1454 = .ok (.iconst 1, 1) ∧ decode cL_law 1455 = .ok (.ireturn, 1))) := by decide +kernel
theorem dL_law_1439 : decode cL_law 1439 = .ok (.pop, 1) := bh00_88.1.1.1.1
theorem dL_law_1440 : decode cL_law 1440 = .ok (.aload_n 2, 1) := bh00_88.1.1.1.2
theorem dL_law_1441 : decode cL_law 1441 = .ok (.invokevirtual 222, 3) := bh00_88.1.1.2
theorem dL_law_1444 : decode cL_law 1444 = .ok (.pop, 1) := bh00_88.1.2.1
theorem dL_law_1445 : decode cL_law 1445 = .ok (.goto 3, 3) := bh00_88.1.2.2
theorem dL_law_1448 : decode cL_law 1448 = .ok (.iinc 4 6, 3) := bh00_88.2.1.1
theorem dL_law_1451 : decode cL_law 1451 = .ok (.goto (-1428), 3) := bh00_88.2.1.2
theorem dL_law_1454 : decode cL_law 1454 = .ok (.iconst 1, 1) := bh00_88.2.2.1
theorem dL_law_1455 : decode cL_law 1455 = .ok (.ireturn, 1) := bh00_88.2.2.2
