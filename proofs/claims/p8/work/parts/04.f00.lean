theorem bf00_0 : (((decode cX11_cut 0 = .ok (.aload_n 0, 1) ∧ decode cX11_cut 1 = .ok (.iload_n 1, 1)) ∧ (decode cX11_cut 2 = .ok (.invokevirtual 178, 3) ∧ decode cX11_cut 5 = .ok (.iload_n 2, 1))) ∧ ((decode cX11_cut 6 = .ok (.ifCond .lt 19, 3) ∧ decode cX11_cut 9 = .ok (.iload_n 2, 1)) ∧ (decode cX11_cut 10 = .ok (.bipush 9, 2) ∧ decode cX11_cut 12 = .ok (.if_icmp .gt 13, 3)))) ∧ (((decode cX11_cut 15 = .ok (.iload_n 3, 1) ∧ decode cX11_cut 16 = .ok (.ifCond .lt 9, 3)) ∧ (decode cX11_cut 19 = .ok (.iload_n 3, 1) ∧ decode cX11_cut 20 = .ok (.bipush 9, 2))) ∧ ((decode cX11_cut 22 = .ok (.if_icmp .le 9, 3) ∧ decode cX11_cut 25 = .ok (.aload_n 0, 1)) ∧ (decode cX11_cut 26 = .ok (.iconst (-1), 1) ∧ decode cX11_cut 27 = .ok (.invokevirtual 218, 3)))) := by decide +kernel
theorem dX11_cut_0 : decode cX11_cut 0 = .ok (.aload_n 0, 1) := bf00_0.1.1.1.1
theorem dX11_cut_1 : decode cX11_cut 1 = .ok (.iload_n 1, 1) := bf00_0.1.1.1.2
theorem dX11_cut_2 : decode cX11_cut 2 = .ok (.invokevirtual 178, 3) := bf00_0.1.1.2.1
theorem dX11_cut_5 : decode cX11_cut 5 = .ok (.iload_n 2, 1) := bf00_0.1.1.2.2
theorem dX11_cut_6 : decode cX11_cut 6 = .ok (.ifCond .lt 19, 3) := bf00_0.1.2.1.1
theorem dX11_cut_9 : decode cX11_cut 9 = .ok (.iload_n 2, 1) := bf00_0.1.2.1.2
theorem dX11_cut_10 : decode cX11_cut 10 = .ok (.bipush 9, 2) := bf00_0.1.2.2.1
theorem dX11_cut_12 : decode cX11_cut 12 = .ok (.if_icmp .gt 13, 3) := bf00_0.1.2.2.2
theorem dX11_cut_15 : decode cX11_cut 15 = .ok (.iload_n 3, 1) := bf00_0.2.1.1.1
theorem dX11_cut_16 : decode cX11_cut 16 = .ok (.ifCond .lt 9, 3) := bf00_0.2.1.1.2
theorem dX11_cut_19 : decode cX11_cut 19 = .ok (.iload_n 3, 1) := bf00_0.2.1.2.1
theorem dX11_cut_20 : decode cX11_cut 20 = .ok (.bipush 9, 2) := bf00_0.2.1.2.2
theorem dX11_cut_22 : decode cX11_cut 22 = .ok (.if_icmp .le 9, 3) := bf00_0.2.2.1.1
theorem dX11_cut_25 : decode cX11_cut 25 = .ok (.aload_n 0, 1) := bf00_0.2.2.1.2
theorem dX11_cut_26 : decode cX11_cut 26 = .ok (.iconst (-1), 1) := bf00_0.2.2.2.1
theorem dX11_cut_27 : decode cX11_cut 27 = .ok (.invokevirtual 218, 3) := bf00_0.2.2.2.2
theorem bf00_1 : (((decode cX11_cut 30 = .ok (.ireturn, 1) ∧ decode cX11_cut 31 = .ok (.aload_n 0, 1)) ∧ (decode cX11_cut 32 = .ok (.getfield 39, 3) ∧ decode cX11_cut 35 = .ok (.getfield 157, 3))) ∧ ((decode cX11_cut 38 = .ok (.aload_n 0, 1) ∧ decode cX11_cut 39 = .ok (.getfield 39, 3)) ∧ (decode cX11_cut 42 = .ok (.getfield 61, 3) ∧ decode cX11_cut 45 = .ok (.invokevirtual 221, 3)))) ∧ (((decode cX11_cut 48 = .ok (.aload_n 0, 1) ∧ decode cX11_cut 49 = .ok (.getfield 39, 3)) ∧ (decode cX11_cut 52 = .ok (.getfield 61, 3) ∧ decode cX11_cut 55 = .ok (.getfield 187, 3))) ∧ ((decode cX11_cut 58 = .ok (.iload_n 1, 1) ∧ decode cX11_cut 59 = .ok (.iaload, 1)) ∧ (decode cX11_cut 60 = .ok (.istore 4, 2) ∧ decode cX11_cut 62 = .ok (.aload_n 0, 1)))) := by decide +kernel
theorem dX11_cut_30 : decode cX11_cut 30 = .ok (.ireturn, 1) := bf00_1.1.1.1.1
theorem dX11_cut_31 : decode cX11_cut 31 = .ok (.aload_n 0, 1) := bf00_1.1.1.1.2
theorem dX11_cut_32 : decode cX11_cut 32 = .ok (.getfield 39, 3) := bf00_1.1.1.2.1
theorem dX11_cut_35 : decode cX11_cut 35 = .ok (.getfield 157, 3) := bf00_1.1.1.2.2
theorem dX11_cut_38 : decode cX11_cut 38 = .ok (.aload_n 0, 1) := bf00_1.1.2.1.1
theorem dX11_cut_39 : decode cX11_cut 39 = .ok (.getfield 39, 3) := bf00_1.1.2.1.2
theorem dX11_cut_42 : decode cX11_cut 42 = .ok (.getfield 61, 3) := bf00_1.1.2.2.1
theorem dX11_cut_45 : decode cX11_cut 45 = .ok (.invokevirtual 221, 3) := bf00_1.1.2.2.2
theorem dX11_cut_48 : decode cX11_cut 48 = .ok (.aload_n 0, 1) := bf00_1.2.1.1.1
theorem dX11_cut_49 : decode cX11_cut 49 = .ok (.getfield 39, 3) := bf00_1.2.1.1.2
theorem dX11_cut_52 : decode cX11_cut 52 = .ok (.getfield 61, 3) := bf00_1.2.1.2.1
theorem dX11_cut_55 : decode cX11_cut 55 = .ok (.getfield 187, 3) := bf00_1.2.1.2.2
theorem dX11_cut_58 : decode cX11_cut 58 = .ok (.iload_n 1, 1) := bf00_1.2.2.1.1
theorem dX11_cut_59 : decode cX11_cut 59 = .ok (.iaload, 1) := bf00_1.2.2.1.2
theorem dX11_cut_60 : decode cX11_cut 60 = .ok (.istore 4, 2) := bf00_1.2.2.2.1
theorem dX11_cut_62 : decode cX11_cut 62 = .ok (.aload_n 0, 1) := bf00_1.2.2.2.2
theorem bf00_2 : ((decode cX11_cut 63 = .ok (.getfield 39, 3) ∧ decode cX11_cut 66 = .ok (.getfield 61, 3)) ∧ (decode cX11_cut 69 = .ok (.iload_n 1, 1) ∧ decode cX11_cut 70 = .ok (.iload_n 2, 1))) ∧ ((decode cX11_cut 71 = .ok (.iload_n 3, 1) ∧ decode cX11_cut 72 = .ok (.invokevirtual 233, 3)) ∧ (decode cX11_cut 75 = .ok (.iload 4, 2) ∧ decode cX11_cut 77 = .ok (.ireturn, 1))) := by decide +kernel
theorem dX11_cut_63 : decode cX11_cut 63 = .ok (.getfield 39, 3) := bf00_2.1.1.1
theorem dX11_cut_66 : decode cX11_cut 66 = .ok (.getfield 61, 3) := bf00_2.1.1.2
theorem dX11_cut_69 : decode cX11_cut 69 = .ok (.iload_n 1, 1) := bf00_2.1.2.1
theorem dX11_cut_70 : decode cX11_cut 70 = .ok (.iload_n 2, 1) := bf00_2.1.2.2
theorem dX11_cut_71 : decode cX11_cut 71 = .ok (.iload_n 3, 1) := bf00_2.2.1.1
theorem dX11_cut_72 : decode cX11_cut 72 = .ok (.invokevirtual 233, 3) := bf00_2.2.1.2
theorem dX11_cut_75 : decode cX11_cut 75 = .ok (.iload 4, 2) := bf00_2.2.2.1
theorem dX11_cut_77 : decode cX11_cut 77 = .ok (.ireturn, 1) := bf00_2.2.2.2
theorem bf00_3 : (((decode cX11_call 0 = .ok (.aload_n 0, 1) ∧ decode cX11_call 1 = .ok (.iload_n 1, 1)) ∧ (decode cX11_call 2 = .ok (.invokevirtual 198, 3) ∧ decode cX11_call 5 = .ok (.aload_n 0, 1))) ∧ ((decode cX11_call 6 = .ok (.getfield 39, 3) ∧ decode cX11_call 9 = .ok (.getfield 61, 3)) ∧ (decode cX11_call 12 = .ok (.getfield 210, 3) ∧ decode cX11_call 15 = .ok (.iload_n 1, 1)))) ∧ (((decode cX11_call 16 = .ok (.iaload, 1) ∧ decode cX11_call 17 = .ok (.istore_n 2, 1)) ∧ (decode cX11_call 18 = .ok (.iload_n 2, 1) ∧ decode cX11_call 19 = .ok (.iconst (-1), 1))) ∧ ((decode cX11_call 20 = .ok (.if_icmp .ne 9, 3) ∧ decode cX11_call 23 = .ok (.aload_n 0, 1)) ∧ (decode cX11_call 24 = .ok (.iconst (-1), 1) ∧ decode cX11_call 25 = .ok (.invokevirtual 218, 3)))) := by decide +kernel
theorem dX11_call_0 : decode cX11_call 0 = .ok (.aload_n 0, 1) := bf00_3.1.1.1.1
theorem dX11_call_1 : decode cX11_call 1 = .ok (.iload_n 1, 1) := bf00_3.1.1.1.2
theorem dX11_call_2 : decode cX11_call 2 = .ok (.invokevirtual 198, 3) := bf00_3.1.1.2.1
theorem dX11_call_5 : decode cX11_call 5 = .ok (.aload_n 0, 1) := bf00_3.1.1.2.2
theorem dX11_call_6 : decode cX11_call 6 = .ok (.getfield 39, 3) := bf00_3.1.2.1.1
theorem dX11_call_9 : decode cX11_call 9 = .ok (.getfield 61, 3) := bf00_3.1.2.1.2
theorem dX11_call_12 : decode cX11_call 12 = .ok (.getfield 210, 3) := bf00_3.1.2.2.1
theorem dX11_call_15 : decode cX11_call 15 = .ok (.iload_n 1, 1) := bf00_3.1.2.2.2
theorem dX11_call_16 : decode cX11_call 16 = .ok (.iaload, 1) := bf00_3.2.1.1.1
theorem dX11_call_17 : decode cX11_call 17 = .ok (.istore_n 2, 1) := bf00_3.2.1.1.2
theorem dX11_call_18 : decode cX11_call 18 = .ok (.iload_n 2, 1) := bf00_3.2.1.2.1
theorem dX11_call_19 : decode cX11_call 19 = .ok (.iconst (-1), 1) := bf00_3.2.1.2.2
theorem dX11_call_20 : decode cX11_call 20 = .ok (.if_icmp .ne 9, 3) := bf00_3.2.2.1.1
theorem dX11_call_23 : decode cX11_call 23 = .ok (.aload_n 0, 1) := bf00_3.2.2.1.2
theorem dX11_call_24 : decode cX11_call 24 = .ok (.iconst (-1), 1) := bf00_3.2.2.2.1
theorem dX11_call_25 : decode cX11_call 25 = .ok (.invokevirtual 218, 3) := bf00_3.2.2.2.2
theorem bf00_4 : (((decode cX11_call 28 = .ok (.ireturn, 1) ∧ decode cX11_call 29 = .ok (.aload_n 0, 1)) ∧ (decode cX11_call 30 = .ok (.getfield 39, 3) ∧ decode cX11_call 33 = .ok (.getfield 157, 3))) ∧ ((decode cX11_call 36 = .ok (.aload_n 0, 1) ∧ decode cX11_call 37 = .ok (.getfield 39, 3)) ∧ (decode cX11_call 40 = .ok (.getfield 61, 3) ∧ decode cX11_call 43 = .ok (.invokevirtual 221, 3)))) ∧ (((decode cX11_call 46 = .ok (.aload_n 0, 1) ∧ decode cX11_call 47 = .ok (.getfield 39, 3)) ∧ (decode cX11_call 50 = .ok (.getfield 61, 3) ∧ decode cX11_call 53 = .ok (.getfield 210, 3))) ∧ ((decode cX11_call 56 = .ok (.iload_n 1, 1) ∧ decode cX11_call 57 = .ok (.iconst (-1), 1)) ∧ (decode cX11_call 58 = .ok (.iastore, 1) ∧ decode cX11_call 59 = .ok (.iload_n 2, 1)))) := by decide +kernel
theorem dX11_call_28 : decode cX11_call 28 = .ok (.ireturn, 1) := bf00_4.1.1.1.1
theorem dX11_call_29 : decode cX11_call 29 = .ok (.aload_n 0, 1) := bf00_4.1.1.1.2
theorem dX11_call_30 : decode cX11_call 30 = .ok (.getfield 39, 3) := bf00_4.1.1.2.1
theorem dX11_call_33 : decode cX11_call 33 = .ok (.getfield 157, 3) := bf00_4.1.1.2.2
theorem dX11_call_36 : decode cX11_call 36 = .ok (.aload_n 0, 1) := bf00_4.1.2.1.1
theorem dX11_call_37 : decode cX11_call 37 = .ok (.getfield 39, 3) := bf00_4.1.2.1.2
theorem dX11_call_40 : decode cX11_call 40 = .ok (.getfield 61, 3) := bf00_4.1.2.2.1
theorem dX11_call_43 : decode cX11_call 43 = .ok (.invokevirtual 221, 3) := bf00_4.1.2.2.2
theorem dX11_call_46 : decode cX11_call 46 = .ok (.aload_n 0, 1) := bf00_4.2.1.1.1
theorem dX11_call_47 : decode cX11_call 47 = .ok (.getfield 39, 3) := bf00_4.2.1.1.2
theorem dX11_call_50 : decode cX11_call 50 = .ok (.getfield 61, 3) := bf00_4.2.1.2.1
theorem dX11_call_53 : decode cX11_call 53 = .ok (.getfield 210, 3) := bf00_4.2.1.2.2
theorem dX11_call_56 : decode cX11_call 56 = .ok (.iload_n 1, 1) := bf00_4.2.2.1.1
theorem dX11_call_57 : decode cX11_call 57 = .ok (.iconst (-1), 1) := bf00_4.2.2.1.2
theorem dX11_call_58 : decode cX11_call 58 = .ok (.iastore, 1) := bf00_4.2.2.2.1
theorem dX11_call_59 : decode cX11_call 59 = .ok (.iload_n 2, 1) := bf00_4.2.2.2.2
theorem bf00_5 : ((decode cX11_call 60 = .ok (.ireturn, 1) ∧ decode cX11_lift 0 = .ok (.aload_n 0, 1)) ∧ (decode cX11_lift 1 = .ok (.iload_n 1, 1) ∧ decode cX11_lift 2 = .ok (.invokevirtual 198, 3))) ∧ ((decode cX11_lift 5 = .ok (.aload_n 0, 1) ∧ decode cX11_lift 6 = .ok (.iload_n 2, 1)) ∧ (decode cX11_lift 7 = .ok (.invokevirtual 178, 3) ∧ decode cX11_lift 10 = .ok (.aload_n 0, 1))) := by decide +kernel
theorem dX11_call_60 : decode cX11_call 60 = .ok (.ireturn, 1) := bf00_5.1.1.1
theorem dX11_lift_0 : decode cX11_lift 0 = .ok (.aload_n 0, 1) := bf00_5.1.1.2
theorem dX11_lift_1 : decode cX11_lift 1 = .ok (.iload_n 1, 1) := bf00_5.1.2.1
theorem dX11_lift_2 : decode cX11_lift 2 = .ok (.invokevirtual 198, 3) := bf00_5.1.2.2
theorem dX11_lift_5 : decode cX11_lift 5 = .ok (.aload_n 0, 1) := bf00_5.2.1.1
theorem dX11_lift_6 : decode cX11_lift 6 = .ok (.iload_n 2, 1) := bf00_5.2.1.2
theorem dX11_lift_7 : decode cX11_lift 7 = .ok (.invokevirtual 178, 3) := bf00_5.2.2.1
theorem dX11_lift_10 : decode cX11_lift 10 = .ok (.aload_n 0, 1) := bf00_5.2.2.2
theorem bf00_6 : (((decode cX11_lift 11 = .ok (.getfield 39, 3) ∧ decode cX11_lift 14 = .ok (.getfield 61, 3)) ∧ (decode cX11_lift 17 = .ok (.getfield 210, 3) ∧ decode cX11_lift 20 = .ok (.iload_n 1, 1))) ∧ ((decode cX11_lift 21 = .ok (.iaload, 1) ∧ decode cX11_lift 22 = .ok (.iconst (-1), 1)) ∧ (decode cX11_lift 23 = .ok (.if_icmp .ne 18, 3) ∧ decode cX11_lift 26 = .ok (.aload_n 0, 1)))) ∧ (((decode cX11_lift 27 = .ok (.getfield 39, 3) ∧ decode cX11_lift 30 = .ok (.getfield 61, 3)) ∧ (decode cX11_lift 33 = .ok (.iload_n 2, 1) ∧ decode cX11_lift 34 = .ok (.invokevirtual 190, 3))) ∧ ((decode cX11_lift 37 = .ok (.iconst (-1), 1) ∧ decode cX11_lift 38 = .ok (.if_icmp .eq 11, 3)) ∧ (decode cX11_lift 41 = .ok (.aload_n 0, 1) ∧ decode cX11_lift 42 = .ok (.iconst (-1), 1)))) := by decide +kernel
theorem dX11_lift_11 : decode cX11_lift 11 = .ok (.getfield 39, 3) := bf00_6.1.1.1.1
theorem dX11_lift_14 : decode cX11_lift 14 = .ok (.getfield 61, 3) := bf00_6.1.1.1.2
theorem dX11_lift_17 : decode cX11_lift 17 = .ok (.getfield 210, 3) := bf00_6.1.1.2.1
theorem dX11_lift_20 : decode cX11_lift 20 = .ok (.iload_n 1, 1) := bf00_6.1.1.2.2
theorem dX11_lift_21 : decode cX11_lift 21 = .ok (.iaload, 1) := bf00_6.1.2.1.1
theorem dX11_lift_22 : decode cX11_lift 22 = .ok (.iconst (-1), 1) := bf00_6.1.2.1.2
theorem dX11_lift_23 : decode cX11_lift 23 = .ok (.if_icmp .ne 18, 3) := bf00_6.1.2.2.1
theorem dX11_lift_26 : decode cX11_lift 26 = .ok (.aload_n 0, 1) := bf00_6.1.2.2.2
theorem dX11_lift_27 : decode cX11_lift 27 = .ok (.getfield 39, 3) := bf00_6.2.1.1.1
theorem dX11_lift_30 : decode cX11_lift 30 = .ok (.getfield 61, 3) := bf00_6.2.1.1.2
theorem dX11_lift_33 : decode cX11_lift 33 = .ok (.iload_n 2, 1) := bf00_6.2.1.2.1
theorem dX11_lift_34 : decode cX11_lift 34 = .ok (.invokevirtual 190, 3) := bf00_6.2.1.2.2
theorem dX11_lift_37 : decode cX11_lift 37 = .ok (.iconst (-1), 1) := bf00_6.2.2.1.1
theorem dX11_lift_38 : decode cX11_lift 38 = .ok (.if_icmp .eq 11, 3) := bf00_6.2.2.1.2
theorem dX11_lift_41 : decode cX11_lift 41 = .ok (.aload_n 0, 1) := bf00_6.2.2.2.1
theorem dX11_lift_42 : decode cX11_lift 42 = .ok (.iconst (-1), 1) := bf00_6.2.2.2.2
theorem bf00_7 : (((decode cX11_lift 43 = .ok (.invokevirtual 218, 3) ∧ decode cX11_lift 46 = .ok (.pop, 1)) ∧ (decode cX11_lift 47 = .ok (.iconst 0, 1) ∧ decode cX11_lift 48 = .ok (.ireturn, 1))) ∧ ((decode cX11_lift 49 = .ok (.aload_n 0, 1) ∧ decode cX11_lift 50 = .ok (.getfield 39, 3)) ∧ (decode cX11_lift 53 = .ok (.getfield 157, 3) ∧ decode cX11_lift 56 = .ok (.aload_n 0, 1)))) ∧ (((decode cX11_lift 57 = .ok (.getfield 39, 3) ∧ decode cX11_lift 60 = .ok (.getfield 61, 3)) ∧ (decode cX11_lift 63 = .ok (.invokevirtual 221, 3) ∧ decode cX11_lift 66 = .ok (.aload_n 0, 1))) ∧ ((decode cX11_lift 67 = .ok (.getfield 39, 3) ∧ decode cX11_lift 70 = .ok (.getfield 61, 3)) ∧ (decode cX11_lift 73 = .ok (.getfield 210, 3) ∧ decode cX11_lift 76 = .ok (.iload_n 1, 1)))) := by decide +kernel
theorem dX11_lift_43 : decode cX11_lift 43 = .ok (.invokevirtual 218, 3) := bf00_7.1.1.1.1
theorem dX11_lift_46 : decode cX11_lift 46 = .ok (.pop, 1) := bf00_7.1.1.1.2
theorem dX11_lift_47 : decode cX11_lift 47 = .ok (.iconst 0, 1) := bf00_7.1.1.2.1
theorem dX11_lift_48 : decode cX11_lift 48 = .ok (.ireturn, 1) := bf00_7.1.1.2.2
theorem dX11_lift_49 : decode cX11_lift 49 = .ok (.aload_n 0, 1) := bf00_7.1.2.1.1
theorem dX11_lift_50 : decode cX11_lift 50 = .ok (.getfield 39, 3) := bf00_7.1.2.1.2
theorem dX11_lift_53 : decode cX11_lift 53 = .ok (.getfield 157, 3) := bf00_7.1.2.2.1
theorem dX11_lift_56 : decode cX11_lift 56 = .ok (.aload_n 0, 1) := bf00_7.1.2.2.2
theorem dX11_lift_57 : decode cX11_lift 57 = .ok (.getfield 39, 3) := bf00_7.2.1.1.1
theorem dX11_lift_60 : decode cX11_lift 60 = .ok (.getfield 61, 3) := bf00_7.2.1.1.2
theorem dX11_lift_63 : decode cX11_lift 63 = .ok (.invokevirtual 221, 3) := bf00_7.2.1.2.1
theorem dX11_lift_66 : decode cX11_lift 66 = .ok (.aload_n 0, 1) := bf00_7.2.1.2.2
theorem dX11_lift_67 : decode cX11_lift 67 = .ok (.getfield 39, 3) := bf00_7.2.2.1.1
theorem dX11_lift_70 : decode cX11_lift 70 = .ok (.getfield 61, 3) := bf00_7.2.2.1.2
theorem dX11_lift_73 : decode cX11_lift 73 = .ok (.getfield 210, 3) := bf00_7.2.2.2.1
theorem dX11_lift_76 : decode cX11_lift 76 = .ok (.iload_n 1, 1) := bf00_7.2.2.2.2
theorem bf00_8 : ((decode cX11_lift 77 = .ok (.iload_n 2, 1) ∧ decode cX11_lift 78 = .ok (.iastore, 1)) ∧ (decode cX11_lift 79 = .ok (.iconst 1, 1) ∧ decode cX11_lift 80 = .ok (.ireturn, 1))) ∧ ((decode cX11_leave 0 = .ok (.aload_n 0, 1) ∧ decode cX11_leave 1 = .ok (.iload_n 1, 1)) ∧ (decode cX11_leave 2 = .ok (.invokevirtual 198, 3) ∧ decode cX11_leave 5 = .ok (.iload_n 2, 1))) := by decide +kernel
theorem dX11_lift_77 : decode cX11_lift 77 = .ok (.iload_n 2, 1) := bf00_8.1.1.1
theorem dX11_lift_78 : decode cX11_lift 78 = .ok (.iastore, 1) := bf00_8.1.1.2
theorem dX11_lift_79 : decode cX11_lift 79 = .ok (.iconst 1, 1) := bf00_8.1.2.1
theorem dX11_lift_80 : decode cX11_lift 80 = .ok (.ireturn, 1) := bf00_8.1.2.2
theorem dX11_leave_0 : decode cX11_leave 0 = .ok (.aload_n 0, 1) := bf00_8.2.1.1
theorem dX11_leave_1 : decode cX11_leave 1 = .ok (.iload_n 1, 1) := bf00_8.2.1.2
theorem dX11_leave_2 : decode cX11_leave 2 = .ok (.invokevirtual 198, 3) := bf00_8.2.2.1
theorem dX11_leave_5 : decode cX11_leave 5 = .ok (.iload_n 2, 1) := bf00_8.2.2.2
theorem bf00_9 : (((decode cX11_leave 6 = .ok (.iconst (-1), 1) ∧ decode cX11_leave 7 = .ok (.if_icmp .eq 8, 3)) ∧ (decode cX11_leave 10 = .ok (.aload_n 0, 1) ∧ decode cX11_leave 11 = .ok (.iload_n 2, 1))) ∧ ((decode cX11_leave 12 = .ok (.invokevirtual 178, 3) ∧ decode cX11_leave 15 = .ok (.aload_n 0, 1)) ∧ (decode cX11_leave 16 = .ok (.getfield 39, 3) ∧ decode cX11_leave 19 = .ok (.getfield 61, 3)))) ∧ (((decode cX11_leave 22 = .ok (.getfield 207, 3) ∧ decode cX11_leave 25 = .ok (.iload_n 1, 1)) ∧ (decode cX11_leave 26 = .ok (.iaload, 1) ∧ decode cX11_leave 27 = .ok (.istore_n 3, 1))) ∧ ((decode cX11_leave 28 = .ok (.iload_n 3, 1) ∧ decode cX11_leave 29 = .ok (.iload_n 2, 1)) ∧ (decode cX11_leave 30 = .ok (.if_icmp .ne 10, 3) ∧ decode cX11_leave 33 = .ok (.aload_n 0, 1)))) := by decide +kernel
theorem dX11_leave_6 : decode cX11_leave 6 = .ok (.iconst (-1), 1) := bf00_9.1.1.1.1
theorem dX11_leave_7 : decode cX11_leave 7 = .ok (.if_icmp .eq 8, 3) := bf00_9.1.1.1.2
theorem dX11_leave_10 : decode cX11_leave 10 = .ok (.aload_n 0, 1) := bf00_9.1.1.2.1
theorem dX11_leave_11 : decode cX11_leave 11 = .ok (.iload_n 2, 1) := bf00_9.1.1.2.2
theorem dX11_leave_12 : decode cX11_leave 12 = .ok (.invokevirtual 178, 3) := bf00_9.1.2.1.1
theorem dX11_leave_15 : decode cX11_leave 15 = .ok (.aload_n 0, 1) := bf00_9.1.2.1.2
theorem dX11_leave_16 : decode cX11_leave 16 = .ok (.getfield 39, 3) := bf00_9.1.2.2.1
theorem dX11_leave_19 : decode cX11_leave 19 = .ok (.getfield 61, 3) := bf00_9.1.2.2.2
theorem dX11_leave_22 : decode cX11_leave 22 = .ok (.getfield 207, 3) := bf00_9.2.1.1.1
theorem dX11_leave_25 : decode cX11_leave 25 = .ok (.iload_n 1, 1) := bf00_9.2.1.1.2
theorem dX11_leave_26 : decode cX11_leave 26 = .ok (.iaload, 1) := bf00_9.2.1.2.1
theorem dX11_leave_27 : decode cX11_leave 27 = .ok (.istore_n 3, 1) := bf00_9.2.1.2.2
theorem dX11_leave_28 : decode cX11_leave 28 = .ok (.iload_n 3, 1) := bf00_9.2.2.1.1
theorem dX11_leave_29 : decode cX11_leave 29 = .ok (.iload_n 2, 1) := bf00_9.2.2.1.2
theorem dX11_leave_30 : decode cX11_leave 30 = .ok (.if_icmp .ne 10, 3) := bf00_9.2.2.2.1
theorem dX11_leave_33 : decode cX11_leave 33 = .ok (.aload_n 0, 1) := bf00_9.2.2.2.2
theorem bf00_10 : (((decode cX11_leave 34 = .ok (.bipush (-2), 2) ∧ decode cX11_leave 36 = .ok (.invokevirtual 218, 3)) ∧ (decode cX11_leave 39 = .ok (.ireturn, 1) ∧ decode cX11_leave 40 = .ok (.aload_n 0, 1))) ∧ ((decode cX11_leave 41 = .ok (.getfield 39, 3) ∧ decode cX11_leave 44 = .ok (.getfield 157, 3)) ∧ (decode cX11_leave 47 = .ok (.aload_n 0, 1) ∧ decode cX11_leave 48 = .ok (.getfield 39, 3)))) ∧ (((decode cX11_leave 51 = .ok (.getfield 61, 3) ∧ decode cX11_leave 54 = .ok (.invokevirtual 221, 3)) ∧ (decode cX11_leave 57 = .ok (.aload_n 0, 1) ∧ decode cX11_leave 58 = .ok (.getfield 39, 3))) ∧ ((decode cX11_leave 61 = .ok (.getfield 61, 3) ∧ decode cX11_leave 64 = .ok (.getfield 207, 3)) ∧ (decode cX11_leave 67 = .ok (.iload_n 1, 1) ∧ decode cX11_leave 68 = .ok (.iload_n 2, 1)))) := by decide +kernel
theorem dX11_leave_34 : decode cX11_leave 34 = .ok (.bipush (-2), 2) := bf00_10.1.1.1.1
theorem dX11_leave_36 : decode cX11_leave 36 = .ok (.invokevirtual 218, 3) := bf00_10.1.1.1.2
theorem dX11_leave_39 : decode cX11_leave 39 = .ok (.ireturn, 1) := bf00_10.1.1.2.1
theorem dX11_leave_40 : decode cX11_leave 40 = .ok (.aload_n 0, 1) := bf00_10.1.1.2.2
theorem dX11_leave_41 : decode cX11_leave 41 = .ok (.getfield 39, 3) := bf00_10.1.2.1.1
theorem dX11_leave_44 : decode cX11_leave 44 = .ok (.getfield 157, 3) := bf00_10.1.2.1.2
theorem dX11_leave_47 : decode cX11_leave 47 = .ok (.aload_n 0, 1) := bf00_10.1.2.2.1
theorem dX11_leave_48 : decode cX11_leave 48 = .ok (.getfield 39, 3) := bf00_10.1.2.2.2
theorem dX11_leave_51 : decode cX11_leave 51 = .ok (.getfield 61, 3) := bf00_10.2.1.1.1
theorem dX11_leave_54 : decode cX11_leave 54 = .ok (.invokevirtual 221, 3) := bf00_10.2.1.1.2
theorem dX11_leave_57 : decode cX11_leave 57 = .ok (.aload_n 0, 1) := bf00_10.2.1.2.1
theorem dX11_leave_58 : decode cX11_leave 58 = .ok (.getfield 39, 3) := bf00_10.2.1.2.2
theorem dX11_leave_61 : decode cX11_leave 61 = .ok (.getfield 61, 3) := bf00_10.2.2.1.1
theorem dX11_leave_64 : decode cX11_leave 64 = .ok (.getfield 207, 3) := bf00_10.2.2.1.2
theorem dX11_leave_67 : decode cX11_leave 67 = .ok (.iload_n 1, 1) := bf00_10.2.2.2.1
theorem dX11_leave_68 : decode cX11_leave 68 = .ok (.iload_n 2, 1) := bf00_10.2.2.2.2
theorem bf00_11 : ((decode cX11_leave 69 = .ok (.iastore, 1) ∧ decode cX11_leave 70 = .ok (.iload_n 3, 1)) ∧ (decode cX11_leave 71 = .ok (.ireturn, 1) ∧ decode cX11_undo 0 = .ok (.aload_n 0, 1))) ∧ ((decode cX11_undo 1 = .ok (.getfield 39, 3) ∧ decode cX11_undo 4 = .ok (.getfield 157, 3)) ∧ (decode cX11_undo 7 = .ok (.getfield 161, 3) ∧ decode cX11_undo 10 = .ok (.ifCond .ne 5, 3))) := by decide +kernel
theorem dX11_leave_69 : decode cX11_leave 69 = .ok (.iastore, 1) := bf00_11.1.1.1
theorem dX11_leave_70 : decode cX11_leave 70 = .ok (.iload_n 3, 1) := bf00_11.1.1.2
theorem dX11_leave_71 : decode cX11_leave 71 = .ok (.ireturn, 1) := bf00_11.1.2.1
theorem dX11_undo_0 : decode cX11_undo 0 = .ok (.aload_n 0, 1) := bf00_11.1.2.2
theorem dX11_undo_1 : decode cX11_undo 1 = .ok (.getfield 39, 3) := bf00_11.2.1.1
theorem dX11_undo_4 : decode cX11_undo 4 = .ok (.getfield 157, 3) := bf00_11.2.1.2
theorem dX11_undo_7 : decode cX11_undo 7 = .ok (.getfield 161, 3) := bf00_11.2.2.1
theorem dX11_undo_10 : decode cX11_undo 10 = .ok (.ifCond .ne 5, 3) := bf00_11.2.2.2
theorem bf00_12 : (((decode cX11_undo 13 = .ok (.iconst (-1), 1) ∧ decode cX11_undo 14 = .ok (.ireturn, 1)) ∧ (decode cX11_undo 15 = .ok (.aload_n 0, 1) ∧ decode cX11_undo 16 = .ok (.getfield 39, 3))) ∧ ((decode cX11_undo 19 = .ok (.getfield 157, 3) ∧ decode cX11_undo 22 = .ok (.aload_n 0, 1)) ∧ (decode cX11_undo 23 = .ok (.getfield 39, 3)))) ∧ (((decode cX11_undo 26 = .ok (.getfield 61, 3) ∧ decode cX11_undo 29 = .ok (.invokevirtual 237, 3)) ∧ (decode cX11_undo 32 = .ok (.aload_n 0, 1) ∧ decode cX11_undo 33 = .ok (.getfield 39, 3))) ∧ ((decode cX11_undo 36 = .ok (.getfield 157, 3) ∧ decode cX11_undo 39 = .ok (.getfield 161, 3)) ∧ (decode cX11_undo 42 = .ok (.ireturn, 1)))) := by decide +kernel
theorem dX11_undo_13 : decode cX11_undo 13 = .ok (.iconst (-1), 1) := bf00_12.1.1.1.1
theorem dX11_undo_14 : decode cX11_undo 14 = .ok (.ireturn, 1) := bf00_12.1.1.1.2
theorem dX11_undo_15 : decode cX11_undo 15 = .ok (.aload_n 0, 1) := bf00_12.1.1.2.1
theorem dX11_undo_16 : decode cX11_undo 16 = .ok (.getfield 39, 3) := bf00_12.1.1.2.2
theorem dX11_undo_19 : decode cX11_undo 19 = .ok (.getfield 157, 3) := bf00_12.1.2.1.1
theorem dX11_undo_22 : decode cX11_undo 22 = .ok (.aload_n 0, 1) := bf00_12.1.2.1.2
theorem dX11_undo_23 : decode cX11_undo 23 = .ok (.getfield 39, 3) := bf00_12.1.2.2
theorem dX11_undo_26 : decode cX11_undo 26 = .ok (.getfield 61, 3) := bf00_12.2.1.1.1
theorem dX11_undo_29 : decode cX11_undo 29 = .ok (.invokevirtual 237, 3) := bf00_12.2.1.1.2
theorem dX11_undo_32 : decode cX11_undo 32 = .ok (.aload_n 0, 1) := bf00_12.2.1.2.1
theorem dX11_undo_33 : decode cX11_undo 33 = .ok (.getfield 39, 3) := bf00_12.2.1.2.2
theorem dX11_undo_36 : decode cX11_undo 36 = .ok (.getfield 157, 3) := bf00_12.2.2.1.1
theorem dX11_undo_39 : decode cX11_undo 39 = .ok (.getfield 161, 3) := bf00_12.2.2.1.2
theorem dX11_undo_42 : decode cX11_undo 42 = .ok (.ireturn, 1) := bf00_12.2.2.2
theorem bf00_13 : (((decode cX11_then 0 = .ok (.aload_n 0, 1) ∧ decode cX11_then 1 = .ok (.iload_n 1, 1)) ∧ (decode cX11_then 2 = .ok (.invokevirtual 178, 3) ∧ decode cX11_then 5 = .ok (.iload_n 3, 1))) ∧ ((decode cX11_then 6 = .ok (.iconst 3, 1) ∧ decode cX11_then 7 = .ok (.invokestatic 240, 3)) ∧ (decode cX11_then 10 = .ok (.aload_n 0, 1) ∧ decode cX11_then 11 = .ok (.iload_n 2, 1)))) ∧ (((decode cX11_then 12 = .ok (.invokevirtual 244, 3) ∧ decode cX11_then 15 = .ok (.astore 4, 2)) ∧ (decode cX11_then 17 = .ok (.iload_n 3, 1) ∧ decode cX11_then 18 = .ok (.tableswitch 50 0 2 #[26, 34, 42], 26))) ∧ ((decode cX11_then 44 = .ok (.aload 4, 2) ∧ decode cX11_then 46 = .ok (.getfield 187, 3)) ∧ (decode cX11_then 49 = .ok (.iload_n 1, 1) ∧ decode cX11_then 50 = .ok (.iaload, 1)))) := by decide +kernel
theorem dX11_then_0 : decode cX11_then 0 = .ok (.aload_n 0, 1) := bf00_13.1.1.1.1
theorem dX11_then_1 : decode cX11_then 1 = .ok (.iload_n 1, 1) := bf00_13.1.1.1.2
theorem dX11_then_2 : decode cX11_then 2 = .ok (.invokevirtual 178, 3) := bf00_13.1.1.2.1
theorem dX11_then_5 : decode cX11_then 5 = .ok (.iload_n 3, 1) := bf00_13.1.1.2.2
theorem dX11_then_6 : decode cX11_then 6 = .ok (.iconst 3, 1) := bf00_13.1.2.1.1
theorem dX11_then_7 : decode cX11_then 7 = .ok (.invokestatic 240, 3) := bf00_13.1.2.1.2
theorem dX11_then_10 : decode cX11_then 10 = .ok (.aload_n 0, 1) := bf00_13.1.2.2.1
theorem dX11_then_11 : decode cX11_then 11 = .ok (.iload_n 2, 1) := bf00_13.1.2.2.2
theorem dX11_then_12 : decode cX11_then 12 = .ok (.invokevirtual 244, 3) := bf00_13.2.1.1.1
theorem dX11_then_15 : decode cX11_then 15 = .ok (.astore 4, 2) := bf00_13.2.1.1.2
theorem dX11_then_17 : decode cX11_then 17 = .ok (.iload_n 3, 1) := bf00_13.2.1.2.1
theorem dX11_then_18 : decode cX11_then 18 = .ok (.tableswitch 50 0 2 #[26, 34, 42], 26) := bf00_13.2.1.2.2
theorem dX11_then_44 : decode cX11_then 44 = .ok (.aload 4, 2) := bf00_13.2.2.1.1
theorem dX11_then_46 : decode cX11_then 46 = .ok (.getfield 187, 3) := bf00_13.2.2.1.2
theorem dX11_then_49 : decode cX11_then 49 = .ok (.iload_n 1, 1) := bf00_13.2.2.2.1
theorem dX11_then_50 : decode cX11_then 50 = .ok (.iaload, 1) := bf00_13.2.2.2.2
theorem bf00_14 : (((decode cX11_then 51 = .ok (.ireturn, 1) ∧ decode cX11_then 52 = .ok (.aload 4, 2)) ∧ (decode cX11_then 54 = .ok (.getfield 181, 3) ∧ decode cX11_then 57 = .ok (.iload_n 1, 1))) ∧ ((decode cX11_then 58 = .ok (.iaload, 1) ∧ decode cX11_then 59 = .ok (.ireturn, 1)) ∧ (decode cX11_then 60 = .ok (.aload 4, 2) ∧ decode cX11_then 62 = .ok (.getfield 184, 3)))) ∧ (((decode cX11_then 65 = .ok (.iload_n 1, 1) ∧ decode cX11_then 66 = .ok (.iaload, 1)) ∧ (decode cX11_then 67 = .ok (.ireturn, 1) ∧ decode cX11_then 68 = .ok (.aload 4, 2))) ∧ ((decode cX11_then 70 = .ok (.iload_n 1, 1) ∧ decode cX11_then 71 = .ok (.invokevirtual 190, 3)) ∧ (decode cX11_then 74 = .ok (.ireturn, 1)))) := by decide +kernel
theorem dX11_then_51 : decode cX11_then 51 = .ok (.ireturn, 1) := bf00_14.1.1.1.1
theorem dX11_then_52 : decode cX11_then 52 = .ok (.aload 4, 2) := bf00_14.1.1.1.2
theorem dX11_then_54 : decode cX11_then 54 = .ok (.getfield 181, 3) := bf00_14.1.1.2.1
theorem dX11_then_57 : decode cX11_then 57 = .ok (.iload_n 1, 1) := bf00_14.1.1.2.2
theorem dX11_then_58 : decode cX11_then 58 = .ok (.iaload, 1) := bf00_14.1.2.1.1
theorem dX11_then_59 : decode cX11_then 59 = .ok (.ireturn, 1) := bf00_14.1.2.1.2
theorem dX11_then_60 : decode cX11_then 60 = .ok (.aload 4, 2) := bf00_14.1.2.2.1
theorem dX11_then_62 : decode cX11_then 62 = .ok (.getfield 184, 3) := bf00_14.1.2.2.2
theorem dX11_then_65 : decode cX11_then 65 = .ok (.iload_n 1, 1) := bf00_14.2.1.1.1
theorem dX11_then_66 : decode cX11_then 66 = .ok (.iaload, 1) := bf00_14.2.1.1.2
theorem dX11_then_67 : decode cX11_then 67 = .ok (.ireturn, 1) := bf00_14.2.1.2.1
theorem dX11_then_68 : decode cX11_then 68 = .ok (.aload 4, 2) := bf00_14.2.1.2.2
theorem dX11_then_70 : decode cX11_then 70 = .ok (.iload_n 1, 1) := bf00_14.2.2.1.1
theorem dX11_then_71 : decode cX11_then 71 = .ok (.invokevirtual 190, 3) := bf00_14.2.2.1.2
theorem dX11_then_74 : decode cX11_then 74 = .ok (.ireturn, 1) := bf00_14.2.2.2
theorem bf00_15 : (((decode cX11_where 0 = .ok (.aload_n 0, 1) ∧ decode cX11_where 1 = .ok (.iload_n 1, 1)) ∧ (decode cX11_where 2 = .ok (.invokevirtual 198, 3) ∧ decode cX11_where 5 = .ok (.iload_n 3, 1))) ∧ ((decode cX11_where 6 = .ok (.iconst 5, 1) ∧ decode cX11_where 7 = .ok (.invokestatic 240, 3)) ∧ (decode cX11_where 10 = .ok (.aload_n 0, 1) ∧ decode cX11_where 11 = .ok (.iload_n 2, 1)))) ∧ (((decode cX11_where 12 = .ok (.invokevirtual 244, 3) ∧ decode cX11_where 15 = .ok (.astore 4, 2)) ∧ (decode cX11_where 17 = .ok (.aload 4, 2) ∧ decode cX11_where 19 = .ok (.iload_n 1, 1))) ∧ ((decode cX11_where 20 = .ok (.iconst 0, 1) ∧ decode cX11_where 21 = .ok (.invokevirtual 248, 3)) ∧ (decode cX11_where 24 = .ok (.istore 5, 2) ∧ decode cX11_where 26 = .ok (.iload_n 3, 1)))) := by decide +kernel
theorem dX11_where_0 : decode cX11_where 0 = .ok (.aload_n 0, 1) := bf00_15.1.1.1.1
theorem dX11_where_1 : decode cX11_where 1 = .ok (.iload_n 1, 1) := bf00_15.1.1.1.2
theorem dX11_where_2 : decode cX11_where 2 = .ok (.invokevirtual 198, 3) := bf00_15.1.1.2.1
theorem dX11_where_5 : decode cX11_where 5 = .ok (.iload_n 3, 1) := bf00_15.1.1.2.2
theorem dX11_where_6 : decode cX11_where 6 = .ok (.iconst 5, 1) := bf00_15.1.2.1.1
theorem dX11_where_7 : decode cX11_where 7 = .ok (.invokestatic 240, 3) := bf00_15.1.2.1.2
theorem dX11_where_10 : decode cX11_where 10 = .ok (.aload_n 0, 1) := bf00_15.1.2.2.1
theorem dX11_where_11 : decode cX11_where 11 = .ok (.iload_n 2, 1) := bf00_15.1.2.2.2
theorem dX11_where_12 : decode cX11_where 12 = .ok (.invokevirtual 244, 3) := bf00_15.2.1.1.1
theorem dX11_where_15 : decode cX11_where 15 = .ok (.astore 4, 2) := bf00_15.2.1.1.2
theorem dX11_where_17 : decode cX11_where 17 = .ok (.aload 4, 2) := bf00_15.2.1.2.1
theorem dX11_where_19 : decode cX11_where 19 = .ok (.iload_n 1, 1) := bf00_15.2.1.2.2
theorem dX11_where_20 : decode cX11_where 20 = .ok (.iconst 0, 1) := bf00_15.2.2.1.1
theorem dX11_where_21 : decode cX11_where 21 = .ok (.invokevirtual 248, 3) := bf00_15.2.2.1.2
theorem dX11_where_24 : decode cX11_where 24 = .ok (.istore 5, 2) := bf00_15.2.2.2.1
theorem dX11_where_26 : decode cX11_where 26 = .ok (.iload_n 3, 1) := bf00_15.2.2.2.2
theorem bf00_16 : (((decode cX11_where 27 = .ok (.tableswitch 74 0 4 #[33, 41, 52, 63, 71], 33) ∧ decode cX11_where 60 = .ok (.aload 4, 2)) ∧ (decode cX11_where 62 = .ok (.getfield 210, 3) ∧ decode cX11_where 65 = .ok (.iload_n 1, 1))) ∧ ((decode cX11_where 66 = .ok (.iaload, 1) ∧ decode cX11_where 67 = .ok (.ireturn, 1)) ∧ (decode cX11_where 68 = .ok (.aload 4, 2) ∧ decode cX11_where 70 = .ok (.getfield 181, 3)))) ∧ (((decode cX11_where 73 = .ok (.iload_n 1, 1) ∧ decode cX11_where 74 = .ok (.invokestatic 201, 3)) ∧ (decode cX11_where 77 = .ok (.iaload, 1) ∧ decode cX11_where 78 = .ok (.ireturn, 1))) ∧ ((decode cX11_where 79 = .ok (.aload 4, 2) ∧ decode cX11_where 81 = .ok (.getfield 184, 3)) ∧ (decode cX11_where 84 = .ok (.iload_n 1, 1) ∧ decode cX11_where 85 = .ok (.invokestatic 201, 3)))) := by decide +kernel
theorem dX11_where_27 : decode cX11_where 27 = .ok (.tableswitch 74 0 4 #[33, 41, 52, 63, 71], 33) := bf00_16.1.1.1.1
theorem dX11_where_60 : decode cX11_where 60 = .ok (.aload 4, 2) := bf00_16.1.1.1.2
theorem dX11_where_62 : decode cX11_where 62 = .ok (.getfield 210, 3) := bf00_16.1.1.2.1
theorem dX11_where_65 : decode cX11_where 65 = .ok (.iload_n 1, 1) := bf00_16.1.1.2.2
theorem dX11_where_66 : decode cX11_where 66 = .ok (.iaload, 1) := bf00_16.1.2.1.1
theorem dX11_where_67 : decode cX11_where 67 = .ok (.ireturn, 1) := bf00_16.1.2.1.2
theorem dX11_where_68 : decode cX11_where 68 = .ok (.aload 4, 2) := bf00_16.1.2.2.1
theorem dX11_where_70 : decode cX11_where 70 = .ok (.getfield 181, 3) := bf00_16.1.2.2.2
theorem dX11_where_73 : decode cX11_where 73 = .ok (.iload_n 1, 1) := bf00_16.2.1.1.1
theorem dX11_where_74 : decode cX11_where 74 = .ok (.invokestatic 201, 3) := bf00_16.2.1.1.2
theorem dX11_where_77 : decode cX11_where 77 = .ok (.iaload, 1) := bf00_16.2.1.2.1
theorem dX11_where_78 : decode cX11_where 78 = .ok (.ireturn, 1) := bf00_16.2.1.2.2
theorem dX11_where_79 : decode cX11_where 79 = .ok (.aload 4, 2) := bf00_16.2.2.1.1
theorem dX11_where_81 : decode cX11_where 81 = .ok (.getfield 184, 3) := bf00_16.2.2.1.2
theorem dX11_where_84 : decode cX11_where 84 = .ok (.iload_n 1, 1) := bf00_16.2.2.2.1
theorem dX11_where_85 : decode cX11_where 85 = .ok (.invokestatic 201, 3) := bf00_16.2.2.2.2
theorem bf00_17 : (((decode cX11_where 88 = .ok (.iaload, 1) ∧ decode cX11_where 89 = .ok (.ireturn, 1)) ∧ (decode cX11_where 90 = .ok (.aload 4, 2) ∧ decode cX11_where 92 = .ok (.getfield 204, 3))) ∧ ((decode cX11_where 95 = .ok (.iload_n 1, 1) ∧ decode cX11_where 96 = .ok (.iaload, 1)) ∧ (decode cX11_where 97 = .ok (.ireturn, 1) ∧ decode cX11_where 98 = .ok (.iload 5, 2)))) ∧ (((decode cX11_where 100 = .ok (.ireturn, 1) ∧ decode cX11_where 101 = .ok (.iload 5, 2)) ∧ (decode cX11_where 103 = .ok (.iconst (-1), 1) ∧ decode cX11_where 104 = .ok (.if_icmp .ne 7, 3))) ∧ ((decode cX11_where 107 = .ok (.iconst (-1), 1) ∧ decode cX11_where 108 = .ok (.goto 14, 3)) ∧ (decode cX11_where 111 = .ok (.aload 4, 2) ∧ decode cX11_where 113 = .ok (.iload_n 1, 1)))) := by decide +kernel
theorem dX11_where_88 : decode cX11_where 88 = .ok (.iaload, 1) := bf00_17.1.1.1.1
theorem dX11_where_89 : decode cX11_where 89 = .ok (.ireturn, 1) := bf00_17.1.1.1.2
theorem dX11_where_90 : decode cX11_where 90 = .ok (.aload 4, 2) := bf00_17.1.1.2.1
theorem dX11_where_92 : decode cX11_where 92 = .ok (.getfield 204, 3) := bf00_17.1.1.2.2
theorem dX11_where_95 : decode cX11_where 95 = .ok (.iload_n 1, 1) := bf00_17.1.2.1.1
theorem dX11_where_96 : decode cX11_where 96 = .ok (.iaload, 1) := bf00_17.1.2.1.2
theorem dX11_where_97 : decode cX11_where 97 = .ok (.ireturn, 1) := bf00_17.1.2.2.1
theorem dX11_where_98 : decode cX11_where 98 = .ok (.iload 5, 2) := bf00_17.1.2.2.2
theorem dX11_where_100 : decode cX11_where 100 = .ok (.ireturn, 1) := bf00_17.2.1.1.1
theorem dX11_where_101 : decode cX11_where 101 = .ok (.iload 5, 2) := bf00_17.2.1.1.2
theorem dX11_where_103 : decode cX11_where 103 = .ok (.iconst (-1), 1) := bf00_17.2.1.2.1
theorem dX11_where_104 : decode cX11_where 104 = .ok (.if_icmp .ne 7, 3) := bf00_17.2.1.2.2
theorem dX11_where_107 : decode cX11_where 107 = .ok (.iconst (-1), 1) := bf00_17.2.2.1.1
theorem dX11_where_108 : decode cX11_where 108 = .ok (.goto 14, 3) := bf00_17.2.2.1.2
theorem dX11_where_111 : decode cX11_where 111 = .ok (.aload 4, 2) := bf00_17.2.2.2.1
theorem dX11_where_113 : decode cX11_where 113 = .ok (.iload_n 1, 1) := bf00_17.2.2.2.2
theorem bf00_18 : ((decode cX11_where 114 = .ok (.invokestatic 201, 3) ∧ decode cX11_where 117 = .ok (.iload 5, 2)) ∧ (decode cX11_where 119 = .ok (.invokevirtual 252, 3) ∧ decode cX11_where 122 = .ok (.ireturn, 1))) ∧ ((decode cX11_loaf 0 = .ok (.aload_n 0, 1) ∧ decode cX11_loaf 1 = .ok (.iload_n 1, 1)) ∧ (decode cX11_loaf 2 = .ok (.invokevirtual 178, 3) ∧ decode cX11_loaf 5 = .ok (.aload_n 0, 1))) := by decide +kernel
theorem dX11_where_114 : decode cX11_where 114 = .ok (.invokestatic 201, 3) := bf00_18.1.1.1
theorem dX11_where_117 : decode cX11_where 117 = .ok (.iload 5, 2) := bf00_18.1.1.2
theorem dX11_where_119 : decode cX11_where 119 = .ok (.invokevirtual 252, 3) := bf00_18.1.2.1
theorem dX11_where_122 : decode cX11_where 122 = .ok (.ireturn, 1) := bf00_18.1.2.2
theorem dX11_loaf_0 : decode cX11_loaf 0 = .ok (.aload_n 0, 1) := bf00_18.2.1.1
theorem dX11_loaf_1 : decode cX11_loaf 1 = .ok (.iload_n 1, 1) := bf00_18.2.1.2
theorem dX11_loaf_2 : decode cX11_loaf 2 = .ok (.invokevirtual 178, 3) := bf00_18.2.2.1
theorem dX11_loaf_5 : decode cX11_loaf 5 = .ok (.aload_n 0, 1) := bf00_18.2.2.2
theorem bf00_19 : (((decode cX11_loaf 6 = .ok (.getfield 55, 3) ∧ decode cX11_loaf 9 = .ok (.aload_n 0, 1)) ∧ (decode cX11_loaf 10 = .ok (.getfield 39, 3))) ∧ (decode cX11_loaf 13 = .ok (.getfield 61, 3) ∧ decode cX11_loaf 16 = .ok (.invokevirtual 224, 3))) ∧ (((decode cX11_loaf 19 = .ok (.aload_n 0, 1) ∧ decode cX11_loaf 20 = .ok (.getfield 55, 3)) ∧ (decode cX11_loaf 23 = .ok (.iload_n 1, 1))) ∧ (decode cX11_loaf 24 = .ok (.invokevirtual 255, 3) ∧ decode cX11_loaf 27 = .ok (.ireturn, 1))) := by decide +kernel
theorem dX11_loaf_6 : decode cX11_loaf 6 = .ok (.getfield 55, 3) := bf00_19.1.1.1.1
theorem dX11_loaf_9 : decode cX11_loaf 9 = .ok (.aload_n 0, 1) := bf00_19.1.1.1.2
theorem dX11_loaf_10 : decode cX11_loaf 10 = .ok (.getfield 39, 3) := bf00_19.1.1.2
theorem dX11_loaf_13 : decode cX11_loaf 13 = .ok (.getfield 61, 3) := bf00_19.1.2.1
theorem dX11_loaf_16 : decode cX11_loaf 16 = .ok (.invokevirtual 224, 3) := bf00_19.1.2.2
theorem dX11_loaf_19 : decode cX11_loaf 19 = .ok (.aload_n 0, 1) := bf00_19.2.1.1.1
theorem dX11_loaf_20 : decode cX11_loaf 20 = .ok (.getfield 55, 3) := bf00_19.2.1.1.2
theorem dX11_loaf_23 : decode cX11_loaf 23 = .ok (.iload_n 1, 1) := bf00_19.2.1.2
theorem dX11_loaf_24 : decode cX11_loaf 24 = .ok (.invokevirtual 255, 3) := bf00_19.2.2.1
theorem dX11_loaf_27 : decode cX11_loaf 27 = .ok (.ireturn, 1) := bf00_19.2.2.2
theorem bf00_20 : (((decode cX11_later 0 = .ok (.iload_n 2, 1) ∧ decode cX11_later 1 = .ok (.iconst 2, 1)) ∧ (decode cX11_later 2 = .ok (.invokestatic 240, 3) ∧ decode cX11_later 5 = .ok (.aload_n 0, 1))) ∧ ((decode cX11_later 6 = .ok (.iload_n 1, 1) ∧ decode cX11_later 7 = .ok (.invokevirtual 244, 3)) ∧ (decode cX11_later 10 = .ok (.astore_n 3, 1) ∧ decode cX11_later 11 = .ok (.iload_n 2, 1)))) ∧ (((decode cX11_later 12 = .ok (.lookupswitch 38 #[(0, 28), (1, 33)], 28) ∧ decode cX11_later 40 = .ok (.aload_n 3, 1)) ∧ (decode cX11_later 41 = .ok (.invokevirtual 136, 3) ∧ decode cX11_later 44 = .ok (.ireturn, 1))) ∧ ((decode cX11_later 45 = .ok (.aload_n 3, 1) ∧ decode cX11_later 46 = .ok (.invokevirtual 145, 3)) ∧ (decode cX11_later 49 = .ok (.ireturn, 1) ∧ decode cX11_later 50 = .ok (.aload_n 3, 1)))) := by decide +kernel
theorem dX11_later_0 : decode cX11_later 0 = .ok (.iload_n 2, 1) := bf00_20.1.1.1.1
theorem dX11_later_1 : decode cX11_later 1 = .ok (.iconst 2, 1) := bf00_20.1.1.1.2
theorem dX11_later_2 : decode cX11_later 2 = .ok (.invokestatic 240, 3) := bf00_20.1.1.2.1
theorem dX11_later_5 : decode cX11_later 5 = .ok (.aload_n 0, 1) := bf00_20.1.1.2.2
theorem dX11_later_6 : decode cX11_later 6 = .ok (.iload_n 1, 1) := bf00_20.1.2.1.1
theorem dX11_later_7 : decode cX11_later 7 = .ok (.invokevirtual 244, 3) := bf00_20.1.2.1.2
theorem dX11_later_10 : decode cX11_later 10 = .ok (.astore_n 3, 1) := bf00_20.1.2.2.1
theorem dX11_later_11 : decode cX11_later 11 = .ok (.iload_n 2, 1) := bf00_20.1.2.2.2
theorem dX11_later_12 : decode cX11_later 12 = .ok (.lookupswitch 38 #[(0, 28), (1, 33)], 28) := bf00_20.2.1.1.1
theorem dX11_later_40 : decode cX11_later 40 = .ok (.aload_n 3, 1) := bf00_20.2.1.1.2
theorem dX11_later_41 : decode cX11_later 41 = .ok (.invokevirtual 136, 3) := bf00_20.2.1.2.1
theorem dX11_later_44 : decode cX11_later 44 = .ok (.ireturn, 1) := bf00_20.2.1.2.2
theorem dX11_later_45 : decode cX11_later 45 = .ok (.aload_n 3, 1) := bf00_20.2.2.1.1
theorem dX11_later_46 : decode cX11_later 46 = .ok (.invokevirtual 145, 3) := bf00_20.2.2.1.2
theorem dX11_later_49 : decode cX11_later 49 = .ok (.ireturn, 1) := bf00_20.2.2.2.1
theorem dX11_later_50 : decode cX11_later 50 = .ok (.aload_n 3, 1) := bf00_20.2.2.2.2
theorem bf00_21 : ((decode cX11_later 51 = .ok (.invokevirtual 148, 3) ∧ decode cX11_later 54 = .ok (.ireturn, 1)) ∧ (decode cX11_sat 0 = .ok (.aload_n 0, 1) ∧ decode cX11_sat 1 = .ok (.iload_n 1, 1))) ∧ ((decode cX11_sat 2 = .ok (.invokevirtual 178, 3) ∧ decode cX11_sat 5 = .ok (.iload_n 2, 1)) ∧ (decode cX11_sat 6 = .ok (.iconst 1, 1) ∧ decode cX11_sat 7 = .ok (.invokestatic 258, 3))) := by decide +kernel
theorem dX11_later_51 : decode cX11_later 51 = .ok (.invokevirtual 148, 3) := bf00_21.1.1.1
theorem dX11_later_54 : decode cX11_later 54 = .ok (.ireturn, 1) := bf00_21.1.1.2
theorem dX11_sat_0 : decode cX11_sat 0 = .ok (.aload_n 0, 1) := bf00_21.1.2.1
theorem dX11_sat_1 : decode cX11_sat 1 = .ok (.iload_n 1, 1) := bf00_21.1.2.2
theorem dX11_sat_2 : decode cX11_sat 2 = .ok (.invokevirtual 178, 3) := bf00_21.2.1.1
theorem dX11_sat_5 : decode cX11_sat 5 = .ok (.iload_n 2, 1) := bf00_21.2.1.2
theorem dX11_sat_6 : decode cX11_sat 6 = .ok (.iconst 1, 1) := bf00_21.2.2.1
theorem dX11_sat_7 : decode cX11_sat 7 = .ok (.invokestatic 258, 3) := bf00_21.2.2.2
theorem bf00_22 : (((decode cX11_sat 10 = .ok (.aload_n 0, 1) ∧ decode cX11_sat 11 = .ok (.getfield 55, 3)) ∧ (decode cX11_sat 14 = .ok (.aload_n 0, 1) ∧ decode cX11_sat 15 = .ok (.getfield 39, 3))) ∧ ((decode cX11_sat 18 = .ok (.getfield 61, 3) ∧ decode cX11_sat 21 = .ok (.invokevirtual 224, 3)) ∧ (decode cX11_sat 24 = .ok (.iconst 0, 1) ∧ decode cX11_sat 25 = .ok (.istore_n 3, 1)))) ∧ (((decode cX11_sat 26 = .ok (.iconst 0, 1) ∧ decode cX11_sat 27 = .ok (.istore 4, 2)) ∧ (decode cX11_sat 29 = .ok (.iload 4, 2) ∧ decode cX11_sat 31 = .ok (.iload_n 2, 1))) ∧ ((decode cX11_sat 32 = .ok (.if_icmp .ge 35, 3) ∧ decode cX11_sat 35 = .ok (.aload_n 0, 1)) ∧ (decode cX11_sat 36 = .ok (.getfield 55, 3) ∧ decode cX11_sat 39 = .ok (.iconst 1, 1)))) := by decide +kernel
theorem dX11_sat_10 : decode cX11_sat 10 = .ok (.aload_n 0, 1) := bf00_22.1.1.1.1
theorem dX11_sat_11 : decode cX11_sat 11 = .ok (.getfield 55, 3) := bf00_22.1.1.1.2
theorem dX11_sat_14 : decode cX11_sat 14 = .ok (.aload_n 0, 1) := bf00_22.1.1.2.1
theorem dX11_sat_15 : decode cX11_sat 15 = .ok (.getfield 39, 3) := bf00_22.1.1.2.2
theorem dX11_sat_18 : decode cX11_sat 18 = .ok (.getfield 61, 3) := bf00_22.1.2.1.1
theorem dX11_sat_21 : decode cX11_sat 21 = .ok (.invokevirtual 224, 3) := bf00_22.1.2.1.2
theorem dX11_sat_24 : decode cX11_sat 24 = .ok (.iconst 0, 1) := bf00_22.1.2.2.1
theorem dX11_sat_25 : decode cX11_sat 25 = .ok (.istore_n 3, 1) := bf00_22.1.2.2.2
theorem dX11_sat_26 : decode cX11_sat 26 = .ok (.iconst 0, 1) := bf00_22.2.1.1.1
theorem dX11_sat_27 : decode cX11_sat 27 = .ok (.istore 4, 2) := bf00_22.2.1.1.2
theorem dX11_sat_29 : decode cX11_sat 29 = .ok (.iload 4, 2) := bf00_22.2.1.2.1
theorem dX11_sat_31 : decode cX11_sat 31 = .ok (.iload_n 2, 1) := bf00_22.2.1.2.2
theorem dX11_sat_32 : decode cX11_sat 32 = .ok (.if_icmp .ge 35, 3) := bf00_22.2.2.1.1
theorem dX11_sat_35 : decode cX11_sat 35 = .ok (.aload_n 0, 1) := bf00_22.2.2.1.2
theorem dX11_sat_36 : decode cX11_sat 36 = .ok (.getfield 55, 3) := bf00_22.2.2.2.1
theorem dX11_sat_39 : decode cX11_sat 39 = .ok (.iconst 1, 1) := bf00_22.2.2.2.2
theorem bf00_23 : (((decode cX11_sat 40 = .ok (.invokevirtual 227, 3) ∧ decode cX11_sat 43 = .ok (.aload_n 0, 1)) ∧ (decode cX11_sat 44 = .ok (.getfield 55, 3) ∧ decode cX11_sat 47 = .ok (.getfield 230, 3))) ∧ ((decode cX11_sat 50 = .ok (.iload_n 1, 1) ∧ decode cX11_sat 51 = .ok (.invokevirtual 190, 3)) ∧ (decode cX11_sat 54 = .ok (.iconst (-1), 1)))) ∧ (((decode cX11_sat 55 = .ok (.if_icmp .eq 6, 3) ∧ decode cX11_sat 58 = .ok (.iinc 3 1, 3)) ∧ (decode cX11_sat 61 = .ok (.iinc 4 1, 3))) ∧ ((decode cX11_sat 64 = .ok (.goto (-35), 3) ∧ decode cX11_sat 67 = .ok (.iload_n 3, 1)) ∧ (decode cX11_sat 68 = .ok (.ireturn, 1)))) := by decide +kernel
theorem dX11_sat_40 : decode cX11_sat 40 = .ok (.invokevirtual 227, 3) := bf00_23.1.1.1.1
theorem dX11_sat_43 : decode cX11_sat 43 = .ok (.aload_n 0, 1) := bf00_23.1.1.1.2
theorem dX11_sat_44 : decode cX11_sat 44 = .ok (.getfield 55, 3) := bf00_23.1.1.2.1
theorem dX11_sat_47 : decode cX11_sat 47 = .ok (.getfield 230, 3) := bf00_23.1.1.2.2
theorem dX11_sat_50 : decode cX11_sat 50 = .ok (.iload_n 1, 1) := bf00_23.1.2.1.1
theorem dX11_sat_51 : decode cX11_sat 51 = .ok (.invokevirtual 190, 3) := bf00_23.1.2.1.2
theorem dX11_sat_54 : decode cX11_sat 54 = .ok (.iconst (-1), 1) := bf00_23.1.2.2
theorem dX11_sat_55 : decode cX11_sat 55 = .ok (.if_icmp .eq 6, 3) := bf00_23.2.1.1.1
theorem dX11_sat_58 : decode cX11_sat 58 = .ok (.iinc 3 1, 3) := bf00_23.2.1.1.2
theorem dX11_sat_61 : decode cX11_sat 61 = .ok (.iinc 4 1, 3) := bf00_23.2.1.2
theorem dX11_sat_64 : decode cX11_sat 64 = .ok (.goto (-35), 3) := bf00_23.2.2.1.1
theorem dX11_sat_67 : decode cX11_sat 67 = .ok (.iload_n 3, 1) := bf00_23.2.2.1.2
theorem dX11_sat_68 : decode cX11_sat 68 = .ok (.ireturn, 1) := bf00_23.2.2.2
theorem bf00_24 : (((decode cX11_fits 0 = .ok (.aload_n 0, 1) ∧ decode cX11_fits 1 = .ok (.iload_n 1, 1)) ∧ (decode cX11_fits 2 = .ok (.invokevirtual 198, 3) ∧ decode cX11_fits 5 = .ok (.aload_n 0, 1))) ∧ ((decode cX11_fits 6 = .ok (.iload_n 2, 1) ∧ decode cX11_fits 7 = .ok (.invokevirtual 178, 3)) ∧ (decode cX11_fits 10 = .ok (.aload_n 0, 1) ∧ decode cX11_fits 11 = .ok (.getfield 55, 3)))) ∧ (((decode cX11_fits 14 = .ok (.aload_n 0, 1) ∧ decode cX11_fits 15 = .ok (.getfield 39, 3)) ∧ (decode cX11_fits 18 = .ok (.getfield 61, 3) ∧ decode cX11_fits 21 = .ok (.invokevirtual 224, 3))) ∧ ((decode cX11_fits 24 = .ok (.iconst 0, 1) ∧ decode cX11_fits 25 = .ok (.istore_n 3, 1)) ∧ (decode cX11_fits 26 = .ok (.iload_n 3, 1) ∧ decode cX11_fits 27 = .ok (.bipush 60, 2)))) := by decide +kernel
theorem dX11_fits_0 : decode cX11_fits 0 = .ok (.aload_n 0, 1) := bf00_24.1.1.1.1
theorem dX11_fits_1 : decode cX11_fits 1 = .ok (.iload_n 1, 1) := bf00_24.1.1.1.2
theorem dX11_fits_2 : decode cX11_fits 2 = .ok (.invokevirtual 198, 3) := bf00_24.1.1.2.1
theorem dX11_fits_5 : decode cX11_fits 5 = .ok (.aload_n 0, 1) := bf00_24.1.1.2.2
theorem dX11_fits_6 : decode cX11_fits 6 = .ok (.iload_n 2, 1) := bf00_24.1.2.1.1
theorem dX11_fits_7 : decode cX11_fits 7 = .ok (.invokevirtual 178, 3) := bf00_24.1.2.1.2
theorem dX11_fits_10 : decode cX11_fits 10 = .ok (.aload_n 0, 1) := bf00_24.1.2.2.1
theorem dX11_fits_11 : decode cX11_fits 11 = .ok (.getfield 55, 3) := bf00_24.1.2.2.2
theorem dX11_fits_14 : decode cX11_fits 14 = .ok (.aload_n 0, 1) := bf00_24.2.1.1.1
theorem dX11_fits_15 : decode cX11_fits 15 = .ok (.getfield 39, 3) := bf00_24.2.1.1.2
theorem dX11_fits_18 : decode cX11_fits 18 = .ok (.getfield 61, 3) := bf00_24.2.1.2.1
theorem dX11_fits_21 : decode cX11_fits 21 = .ok (.invokevirtual 224, 3) := bf00_24.2.1.2.2
theorem dX11_fits_24 : decode cX11_fits 24 = .ok (.iconst 0, 1) := bf00_24.2.2.1.1
theorem dX11_fits_25 : decode cX11_fits 25 = .ok (.istore_n 3, 1) := bf00_24.2.2.1.2
theorem dX11_fits_26 : decode cX11_fits 26 = .ok (.iload_n 3, 1) := bf00_24.2.2.2.1
theorem dX11_fits_27 : decode cX11_fits 27 = .ok (.bipush 60, 2) := bf00_24.2.2.2.2
theorem bf00_25 : (((decode cX11_fits 29 = .ok (.if_icmp .gt 37, 3) ∧ decode cX11_fits 32 = .ok (.aload_n 0, 1)) ∧ (decode cX11_fits 33 = .ok (.getfield 55, 3) ∧ decode cX11_fits 36 = .ok (.getfield 230, 3))) ∧ ((decode cX11_fits 39 = .ok (.iload_n 1, 1) ∧ decode cX11_fits 40 = .ok (.invokestatic 201, 3)) ∧ (decode cX11_fits 43 = .ok (.iload_n 2, 1) ∧ decode cX11_fits 44 = .ok (.invokevirtual 252, 3)))) ∧ (((decode cX11_fits 47 = .ok (.ifCond .ne 5, 3) ∧ decode cX11_fits 50 = .ok (.iload_n 3, 1)) ∧ (decode cX11_fits 51 = .ok (.ireturn, 1) ∧ decode cX11_fits 52 = .ok (.aload_n 0, 1))) ∧ ((decode cX11_fits 53 = .ok (.getfield 55, 3) ∧ decode cX11_fits 56 = .ok (.iconst 1, 1)) ∧ (decode cX11_fits 57 = .ok (.invokevirtual 227, 3) ∧ decode cX11_fits 60 = .ok (.iinc 3 1, 3)))) := by decide +kernel
theorem dX11_fits_29 : decode cX11_fits 29 = .ok (.if_icmp .gt 37, 3) := bf00_25.1.1.1.1
theorem dX11_fits_32 : decode cX11_fits 32 = .ok (.aload_n 0, 1) := bf00_25.1.1.1.2
theorem dX11_fits_33 : decode cX11_fits 33 = .ok (.getfield 55, 3) := bf00_25.1.1.2.1
theorem dX11_fits_36 : decode cX11_fits 36 = .ok (.getfield 230, 3) := bf00_25.1.1.2.2
theorem dX11_fits_39 : decode cX11_fits 39 = .ok (.iload_n 1, 1) := bf00_25.1.2.1.1
theorem dX11_fits_40 : decode cX11_fits 40 = .ok (.invokestatic 201, 3) := bf00_25.1.2.1.2
theorem dX11_fits_43 : decode cX11_fits 43 = .ok (.iload_n 2, 1) := bf00_25.1.2.2.1
theorem dX11_fits_44 : decode cX11_fits 44 = .ok (.invokevirtual 252, 3) := bf00_25.1.2.2.2
theorem dX11_fits_47 : decode cX11_fits 47 = .ok (.ifCond .ne 5, 3) := bf00_25.2.1.1.1
theorem dX11_fits_50 : decode cX11_fits 50 = .ok (.iload_n 3, 1) := bf00_25.2.1.1.2
theorem dX11_fits_51 : decode cX11_fits 51 = .ok (.ireturn, 1) := bf00_25.2.1.2.1
theorem dX11_fits_52 : decode cX11_fits 52 = .ok (.aload_n 0, 1) := bf00_25.2.1.2.2
theorem dX11_fits_53 : decode cX11_fits 53 = .ok (.getfield 55, 3) := bf00_25.2.2.1.1
theorem dX11_fits_56 : decode cX11_fits 56 = .ok (.iconst 1, 1) := bf00_25.2.2.1.2
theorem dX11_fits_57 : decode cX11_fits 57 = .ok (.invokevirtual 227, 3) := bf00_25.2.2.2.1
theorem dX11_fits_60 : decode cX11_fits 60 = .ok (.iinc 3 1, 3) := bf00_25.2.2.2.2
theorem bf00_26 : ((decode cX11_fits 63 = .ok (.goto (-37), 3) ∧ decode cX11_fits 66 = .ok (.iconst (-1), 1)) ∧ (decode cX11_fits 67 = .ok (.ireturn, 1) ∧ decode cX11_unlike 0 = .ok (.iload_n 3, 1))) ∧ ((decode cX11_unlike 1 = .ok (.iconst 2, 1) ∧ decode cX11_unlike 2 = .ok (.invokestatic 240, 3)) ∧ (decode cX11_unlike 5 = .ok (.iload_n 3, 1) ∧ decode cX11_unlike 6 = .ok (.iconst 1, 1))) := by decide +kernel
theorem dX11_fits_63 : decode cX11_fits 63 = .ok (.goto (-37), 3) := bf00_26.1.1.1
theorem dX11_fits_66 : decode cX11_fits 66 = .ok (.iconst (-1), 1) := bf00_26.1.1.2
theorem dX11_fits_67 : decode cX11_fits 67 = .ok (.ireturn, 1) := bf00_26.1.2.1
theorem dX11_unlike_0 : decode cX11_unlike 0 = .ok (.iload_n 3, 1) := bf00_26.1.2.2
theorem dX11_unlike_1 : decode cX11_unlike 1 = .ok (.iconst 2, 1) := bf00_26.2.1.1
theorem dX11_unlike_2 : decode cX11_unlike 2 = .ok (.invokestatic 240, 3) := bf00_26.2.1.2
theorem dX11_unlike_5 : decode cX11_unlike 5 = .ok (.iload_n 3, 1) := bf00_26.2.2.1
theorem dX11_unlike_6 : decode cX11_unlike 6 = .ok (.iconst 1, 1) := bf00_26.2.2.2
theorem bf00_27 : (((decode cX11_unlike 7 = .ok (.if_icmp .ne 11, 3) ∧ decode cX11_unlike 10 = .ok (.aload_n 0, 1)) ∧ (decode cX11_unlike 11 = .ok (.iload_n 1, 1) ∧ decode cX11_unlike 12 = .ok (.invokevirtual 178, 3))) ∧ ((decode cX11_unlike 15 = .ok (.goto 8, 3) ∧ decode cX11_unlike 18 = .ok (.aload_n 0, 1)) ∧ (decode cX11_unlike 19 = .ok (.iload_n 1, 1) ∧ decode cX11_unlike 20 = .ok (.invokevirtual 198, 3)))) ∧ (((decode cX11_unlike 23 = .ok (.iload_n 3, 1) ∧ decode cX11_unlike 24 = .ok (.iconst 2, 1)) ∧ (decode cX11_unlike 25 = .ok (.if_icmp .ne 11, 3) ∧ decode cX11_unlike 28 = .ok (.aload_n 0, 1))) ∧ ((decode cX11_unlike 29 = .ok (.iload_n 2, 1) ∧ decode cX11_unlike 30 = .ok (.invokevirtual 198, 3)) ∧ (decode cX11_unlike 33 = .ok (.goto 8, 3) ∧ decode cX11_unlike 36 = .ok (.aload_n 0, 1)))) := by decide +kernel
theorem dX11_unlike_7 : decode cX11_unlike 7 = .ok (.if_icmp .ne 11, 3) := bf00_27.1.1.1.1
theorem dX11_unlike_10 : decode cX11_unlike 10 = .ok (.aload_n 0, 1) := bf00_27.1.1.1.2
theorem dX11_unlike_11 : decode cX11_unlike 11 = .ok (.iload_n 1, 1) := bf00_27.1.1.2.1
theorem dX11_unlike_12 : decode cX11_unlike 12 = .ok (.invokevirtual 178, 3) := bf00_27.1.1.2.2
theorem dX11_unlike_15 : decode cX11_unlike 15 = .ok (.goto 8, 3) := bf00_27.1.2.1.1
theorem dX11_unlike_18 : decode cX11_unlike 18 = .ok (.aload_n 0, 1) := bf00_27.1.2.1.2
theorem dX11_unlike_19 : decode cX11_unlike 19 = .ok (.iload_n 1, 1) := bf00_27.1.2.2.1
theorem dX11_unlike_20 : decode cX11_unlike 20 = .ok (.invokevirtual 198, 3) := bf00_27.1.2.2.2
theorem dX11_unlike_23 : decode cX11_unlike 23 = .ok (.iload_n 3, 1) := bf00_27.2.1.1.1
theorem dX11_unlike_24 : decode cX11_unlike 24 = .ok (.iconst 2, 1) := bf00_27.2.1.1.2
theorem dX11_unlike_25 : decode cX11_unlike 25 = .ok (.if_icmp .ne 11, 3) := bf00_27.2.1.2.1
theorem dX11_unlike_28 : decode cX11_unlike 28 = .ok (.aload_n 0, 1) := bf00_27.2.1.2.2
theorem dX11_unlike_29 : decode cX11_unlike 29 = .ok (.iload_n 2, 1) := bf00_27.2.2.1.1
theorem dX11_unlike_30 : decode cX11_unlike 30 = .ok (.invokevirtual 198, 3) := bf00_27.2.2.1.2
theorem dX11_unlike_33 : decode cX11_unlike 33 = .ok (.goto 8, 3) := bf00_27.2.2.2.1
theorem dX11_unlike_36 : decode cX11_unlike 36 = .ok (.aload_n 0, 1) := bf00_27.2.2.2.2
theorem bf00_28 : (((decode cX11_unlike 37 = .ok (.iload_n 2, 1) ∧ decode cX11_unlike 38 = .ok (.invokevirtual 178, 3)) ∧ (decode cX11_unlike 41 = .ok (.aload_n 0, 1) ∧ decode cX11_unlike 42 = .ok (.getfield 39, 3))) ∧ ((decode cX11_unlike 45 = .ok (.getfield 61, 3) ∧ decode cX11_unlike 48 = .ok (.iload_n 3, 1)) ∧ (decode cX11_unlike 49 = .ok (.iconst 1, 1) ∧ decode cX11_unlike 50 = .ok (.if_icmp .ne 7, 3)))) ∧ (((decode cX11_unlike 53 = .ok (.iload_n 1, 1) ∧ decode cX11_unlike 54 = .ok (.goto 7, 3)) ∧ (decode cX11_unlike 57 = .ok (.iload_n 1, 1) ∧ decode cX11_unlike 58 = .ok (.invokestatic 201, 3))) ∧ ((decode cX11_unlike 61 = .ok (.iload_n 3, 1) ∧ decode cX11_unlike 62 = .ok (.iconst 2, 1)) ∧ (decode cX11_unlike 63 = .ok (.if_icmp .ne 10, 3) ∧ decode cX11_unlike 66 = .ok (.iload_n 2, 1)))) := by decide +kernel
theorem dX11_unlike_37 : decode cX11_unlike 37 = .ok (.iload_n 2, 1) := bf00_28.1.1.1.1
theorem dX11_unlike_38 : decode cX11_unlike 38 = .ok (.invokevirtual 178, 3) := bf00_28.1.1.1.2
theorem dX11_unlike_41 : decode cX11_unlike 41 = .ok (.aload_n 0, 1) := bf00_28.1.1.2.1
theorem dX11_unlike_42 : decode cX11_unlike 42 = .ok (.getfield 39, 3) := bf00_28.1.1.2.2
theorem dX11_unlike_45 : decode cX11_unlike 45 = .ok (.getfield 61, 3) := bf00_28.1.2.1.1
theorem dX11_unlike_48 : decode cX11_unlike 48 = .ok (.iload_n 3, 1) := bf00_28.1.2.1.2
theorem dX11_unlike_49 : decode cX11_unlike 49 = .ok (.iconst 1, 1) := bf00_28.1.2.2.1
theorem dX11_unlike_50 : decode cX11_unlike 50 = .ok (.if_icmp .ne 7, 3) := bf00_28.1.2.2.2
theorem dX11_unlike_53 : decode cX11_unlike 53 = .ok (.iload_n 1, 1) := bf00_28.2.1.1.1
theorem dX11_unlike_54 : decode cX11_unlike 54 = .ok (.goto 7, 3) := bf00_28.2.1.1.2
theorem dX11_unlike_57 : decode cX11_unlike 57 = .ok (.iload_n 1, 1) := bf00_28.2.1.2.1
theorem dX11_unlike_58 : decode cX11_unlike 58 = .ok (.invokestatic 201, 3) := bf00_28.2.1.2.2
theorem dX11_unlike_61 : decode cX11_unlike 61 = .ok (.iload_n 3, 1) := bf00_28.2.2.1.1
theorem dX11_unlike_62 : decode cX11_unlike 62 = .ok (.iconst 2, 1) := bf00_28.2.2.1.2
theorem dX11_unlike_63 : decode cX11_unlike 63 = .ok (.if_icmp .ne 10, 3) := bf00_28.2.2.2.1
theorem dX11_unlike_66 : decode cX11_unlike 66 = .ok (.iload_n 2, 1) := bf00_28.2.2.2.2
theorem bf00_29 : ((decode cX11_unlike 67 = .ok (.invokestatic 201, 3) ∧ decode cX11_unlike 70 = .ok (.goto 4, 3)) ∧ (decode cX11_unlike 73 = .ok (.iload_n 2, 1) ∧ decode cX11_unlike 74 = .ok (.invokevirtual 252, 3))) ∧ ((decode cX11_unlike 77 = .ok (.ireturn, 1) ∧ decode cX11_seats 0 = .ok (.iload_n 1, 1)) ∧ (decode cX11_seats 1 = .ok (.iconst (-1), 1) ∧ decode cX11_seats 2 = .ok (.if_icmp .eq 8, 3))) := by decide +kernel
theorem dX11_unlike_67 : decode cX11_unlike 67 = .ok (.invokestatic 201, 3) := bf00_29.1.1.1
theorem dX11_unlike_70 : decode cX11_unlike 70 = .ok (.goto 4, 3) := bf00_29.1.1.2
theorem dX11_unlike_73 : decode cX11_unlike 73 = .ok (.iload_n 2, 1) := bf00_29.1.2.1
theorem dX11_unlike_74 : decode cX11_unlike 74 = .ok (.invokevirtual 252, 3) := bf00_29.1.2.2
theorem dX11_unlike_77 : decode cX11_unlike 77 = .ok (.ireturn, 1) := bf00_29.2.1.1
theorem dX11_seats_0 : decode cX11_seats 0 = .ok (.iload_n 1, 1) := bf00_29.2.1.2
theorem dX11_seats_1 : decode cX11_seats 1 = .ok (.iconst (-1), 1) := bf00_29.2.2.1
theorem dX11_seats_2 : decode cX11_seats 2 = .ok (.if_icmp .eq 8, 3) := bf00_29.2.2.2
theorem bf00_30 : (((decode cX11_seats 5 = .ok (.aload_n 0, 1) ∧ decode cX11_seats 6 = .ok (.iload_n 1, 1)) ∧ (decode cX11_seats 7 = .ok (.invokevirtual 198, 3) ∧ decode cX11_seats 10 = .ok (.aload_n 0, 1))) ∧ ((decode cX11_seats 11 = .ok (.getfield 68, 3) ∧ decode cX11_seats 14 = .ok (.invokevirtual 261, 3)) ∧ (decode cX11_seats 17 = .ok (.iload_n 1, 1) ∧ decode cX11_seats 18 = .ok (.iconst (-1), 1)))) ∧ (((decode cX11_seats 19 = .ok (.if_icmp .ne 13, 3) ∧ decode cX11_seats 22 = .ok (.aload_n 0, 1)) ∧ (decode cX11_seats 23 = .ok (.getfield 68, 3) ∧ decode cX11_seats 26 = .ok (.invokevirtual 264, 3))) ∧ ((decode cX11_seats 29 = .ok (.goto 11, 3) ∧ decode cX11_seats 32 = .ok (.aload_n 0, 1)) ∧ (decode cX11_seats 33 = .ok (.getfield 68, 3) ∧ decode cX11_seats 36 = .ok (.iload_n 1, 1)))) := by decide +kernel
theorem dX11_seats_5 : decode cX11_seats 5 = .ok (.aload_n 0, 1) := bf00_30.1.1.1.1
theorem dX11_seats_6 : decode cX11_seats 6 = .ok (.iload_n 1, 1) := bf00_30.1.1.1.2
theorem dX11_seats_7 : decode cX11_seats 7 = .ok (.invokevirtual 198, 3) := bf00_30.1.1.2.1
theorem dX11_seats_10 : decode cX11_seats 10 = .ok (.aload_n 0, 1) := bf00_30.1.1.2.2
theorem dX11_seats_11 : decode cX11_seats 11 = .ok (.getfield 68, 3) := bf00_30.1.2.1.1
theorem dX11_seats_14 : decode cX11_seats 14 = .ok (.invokevirtual 261, 3) := bf00_30.1.2.1.2
theorem dX11_seats_17 : decode cX11_seats 17 = .ok (.iload_n 1, 1) := bf00_30.1.2.2.1
theorem dX11_seats_18 : decode cX11_seats 18 = .ok (.iconst (-1), 1) := bf00_30.1.2.2.2
theorem dX11_seats_19 : decode cX11_seats 19 = .ok (.if_icmp .ne 13, 3) := bf00_30.2.1.1.1
theorem dX11_seats_22 : decode cX11_seats 22 = .ok (.aload_n 0, 1) := bf00_30.2.1.1.2
theorem dX11_seats_23 : decode cX11_seats 23 = .ok (.getfield 68, 3) := bf00_30.2.1.2.1
theorem dX11_seats_26 : decode cX11_seats 26 = .ok (.invokevirtual 264, 3) := bf00_30.2.1.2.2
theorem dX11_seats_29 : decode cX11_seats 29 = .ok (.goto 11, 3) := bf00_30.2.2.1.1
theorem dX11_seats_32 : decode cX11_seats 32 = .ok (.aload_n 0, 1) := bf00_30.2.2.1.2
theorem dX11_seats_33 : decode cX11_seats 33 = .ok (.getfield 68, 3) := bf00_30.2.2.2.1
theorem dX11_seats_36 : decode cX11_seats 36 = .ok (.iload_n 1, 1) := bf00_30.2.2.2.2
theorem bf00_31 : ((decode cX11_seats 37 = .ok (.invokevirtual 267, 3) ∧ decode cX11_seats 40 = .ok (.ireturn, 1)) ∧ (decode cX11_turn 0 = .ok (.iload_n 1, 1) ∧ decode cX11_turn 1 = .ok (.iconst 1, 1))) ∧ ((decode cX11_turn 2 = .ok (.invokestatic 240, 3) ∧ decode cX11_turn 5 = .ok (.iconst (-1), 1)) ∧ (decode cX11_turn 6 = .ok (.istore_n 2, 1) ∧ decode cX11_turn 7 = .ok (.iconst (-1), 1))) := by decide +kernel
theorem dX11_seats_37 : decode cX11_seats 37 = .ok (.invokevirtual 267, 3) := bf00_31.1.1.1
theorem dX11_seats_40 : decode cX11_seats 40 = .ok (.ireturn, 1) := bf00_31.1.1.2
theorem dX11_turn_0 : decode cX11_turn 0 = .ok (.iload_n 1, 1) := bf00_31.1.2.1
theorem dX11_turn_1 : decode cX11_turn 1 = .ok (.iconst 1, 1) := bf00_31.1.2.2
theorem dX11_turn_2 : decode cX11_turn 2 = .ok (.invokestatic 240, 3) := bf00_31.2.1.1
theorem dX11_turn_5 : decode cX11_turn 5 = .ok (.iconst (-1), 1) := bf00_31.2.1.2
theorem dX11_turn_6 : decode cX11_turn 6 = .ok (.istore_n 2, 1) := bf00_31.2.2.1
theorem dX11_turn_7 : decode cX11_turn 7 = .ok (.iconst (-1), 1) := bf00_31.2.2.2
theorem bf00_32 : (((decode cX11_turn 8 = .ok (.istore_n 3, 1) ∧ decode cX11_turn 9 = .ok (.iconst 0, 1)) ∧ (decode cX11_turn 10 = .ok (.istore 4, 2) ∧ decode cX11_turn 12 = .ok (.iload 4, 2))) ∧ ((decode cX11_turn 14 = .ok (.aload_n 0, 1) ∧ decode cX11_turn 15 = .ok (.getfield 39, 3)) ∧ (decode cX11_turn 18 = .ok (.getfield 61, 3) ∧ decode cX11_turn 21 = .ok (.getfield 119, 3)))) ∧ (((decode cX11_turn 24 = .ok (.if_icmp .ge 34, 3) ∧ decode cX11_turn 27 = .ok (.aload_n 0, 1)) ∧ (decode cX11_turn 28 = .ok (.iload 4, 2) ∧ decode cX11_turn 30 = .ok (.invokevirtual 270, 3))) ∧ ((decode cX11_turn 33 = .ok (.istore 5, 2) ∧ decode cX11_turn 35 = .ok (.iload_n 2, 1)) ∧ (decode cX11_turn 36 = .ok (.iconst (-1), 1) ∧ decode cX11_turn 37 = .ok (.if_icmp .eq 9, 3)))) := by decide +kernel
theorem dX11_turn_8 : decode cX11_turn 8 = .ok (.istore_n 3, 1) := bf00_32.1.1.1.1
theorem dX11_turn_9 : decode cX11_turn 9 = .ok (.iconst 0, 1) := bf00_32.1.1.1.2
theorem dX11_turn_10 : decode cX11_turn 10 = .ok (.istore 4, 2) := bf00_32.1.1.2.1
theorem dX11_turn_12 : decode cX11_turn 12 = .ok (.iload 4, 2) := bf00_32.1.1.2.2
theorem dX11_turn_14 : decode cX11_turn 14 = .ok (.aload_n 0, 1) := bf00_32.1.2.1.1
theorem dX11_turn_15 : decode cX11_turn 15 = .ok (.getfield 39, 3) := bf00_32.1.2.1.2
theorem dX11_turn_18 : decode cX11_turn 18 = .ok (.getfield 61, 3) := bf00_32.1.2.2.1
theorem dX11_turn_21 : decode cX11_turn 21 = .ok (.getfield 119, 3) := bf00_32.1.2.2.2
theorem dX11_turn_24 : decode cX11_turn 24 = .ok (.if_icmp .ge 34, 3) := bf00_32.2.1.1.1
theorem dX11_turn_27 : decode cX11_turn 27 = .ok (.aload_n 0, 1) := bf00_32.2.1.1.2
theorem dX11_turn_28 : decode cX11_turn 28 = .ok (.iload 4, 2) := bf00_32.2.1.2.1
theorem dX11_turn_30 : decode cX11_turn 30 = .ok (.invokevirtual 270, 3) := bf00_32.2.1.2.2
theorem dX11_turn_33 : decode cX11_turn 33 = .ok (.istore 5, 2) := bf00_32.2.2.1.1
theorem dX11_turn_35 : decode cX11_turn 35 = .ok (.iload_n 2, 1) := bf00_32.2.2.1.2
theorem dX11_turn_36 : decode cX11_turn 36 = .ok (.iconst (-1), 1) := bf00_32.2.2.2.1
theorem dX11_turn_37 : decode cX11_turn 37 = .ok (.if_icmp .eq 9, 3) := bf00_32.2.2.2.2
theorem bf00_33 : (((decode cX11_turn 40 = .ok (.iload 5, 2) ∧ decode cX11_turn 42 = .ok (.iload_n 3, 1)) ∧ (decode cX11_turn 43 = .ok (.if_icmp .ge 9, 3) ∧ decode cX11_turn 46 = .ok (.iload 4, 2))) ∧ ((decode cX11_turn 48 = .ok (.istore_n 2, 1) ∧ decode cX11_turn 49 = .ok (.iload 5, 2)) ∧ (decode cX11_turn 51 = .ok (.istore_n 3, 1) ∧ decode cX11_turn 52 = .ok (.iinc 4 1, 3)))) ∧ (((decode cX11_turn 55 = .ok (.goto (-43), 3) ∧ decode cX11_turn 58 = .ok (.iload_n 1, 1)) ∧ (decode cX11_turn 59 = .ok (.ifCond .ne 7, 3) ∧ decode cX11_turn 62 = .ok (.iload_n 2, 1))) ∧ ((decode cX11_turn 63 = .ok (.goto 4, 3) ∧ decode cX11_turn 66 = .ok (.iload_n 3, 1)) ∧ (decode cX11_turn 67 = .ok (.ireturn, 1)))) := by decide +kernel
theorem dX11_turn_40 : decode cX11_turn 40 = .ok (.iload 5, 2) := bf00_33.1.1.1.1
theorem dX11_turn_42 : decode cX11_turn 42 = .ok (.iload_n 3, 1) := bf00_33.1.1.1.2
theorem dX11_turn_43 : decode cX11_turn 43 = .ok (.if_icmp .ge 9, 3) := bf00_33.1.1.2.1
theorem dX11_turn_46 : decode cX11_turn 46 = .ok (.iload 4, 2) := bf00_33.1.1.2.2
theorem dX11_turn_48 : decode cX11_turn 48 = .ok (.istore_n 2, 1) := bf00_33.1.2.1.1
theorem dX11_turn_49 : decode cX11_turn 49 = .ok (.iload 5, 2) := bf00_33.1.2.1.2
theorem dX11_turn_51 : decode cX11_turn 51 = .ok (.istore_n 3, 1) := bf00_33.1.2.2.1
theorem dX11_turn_52 : decode cX11_turn 52 = .ok (.iinc 4 1, 3) := bf00_33.1.2.2.2
theorem dX11_turn_55 : decode cX11_turn 55 = .ok (.goto (-43), 3) := bf00_33.2.1.1.1
theorem dX11_turn_58 : decode cX11_turn 58 = .ok (.iload_n 1, 1) := bf00_33.2.1.1.2
theorem dX11_turn_59 : decode cX11_turn 59 = .ok (.ifCond .ne 7, 3) := bf00_33.2.1.2.1
theorem dX11_turn_62 : decode cX11_turn 62 = .ok (.iload_n 2, 1) := bf00_33.2.1.2.2
theorem dX11_turn_63 : decode cX11_turn 63 = .ok (.goto 4, 3) := bf00_33.2.2.1.1
theorem dX11_turn_66 : decode cX11_turn 66 = .ok (.iload_n 3, 1) := bf00_33.2.2.1.2
theorem dX11_turn_67 : decode cX11_turn 67 = .ok (.ireturn, 1) := bf00_33.2.2.2
theorem bf00_34 : (((decode cX11_lasts 0 = .ok (.aload_n 0, 1) ∧ decode cX11_lasts 1 = .ok (.iload_n 1, 1)) ∧ (decode cX11_lasts 2 = .ok (.invokevirtual 198, 3) ∧ decode cX11_lasts 5 = .ok (.aload_n 0, 1))) ∧ ((decode cX11_lasts 6 = .ok (.iload_n 2, 1) ∧ decode cX11_lasts 7 = .ok (.invokevirtual 178, 3)) ∧ (decode cX11_lasts 10 = .ok (.aload_n 0, 1) ∧ decode cX11_lasts 11 = .ok (.getfield 55, 3)))) ∧ (((decode cX11_lasts 14 = .ok (.aload_n 0, 1) ∧ decode cX11_lasts 15 = .ok (.getfield 39, 3)) ∧ (decode cX11_lasts 18 = .ok (.getfield 61, 3) ∧ decode cX11_lasts 21 = .ok (.invokevirtual 224, 3))) ∧ ((decode cX11_lasts 24 = .ok (.aload_n 0, 1) ∧ decode cX11_lasts 25 = .ok (.getfield 55, 3)) ∧ (decode cX11_lasts 28 = .ok (.getfield 230, 3) ∧ decode cX11_lasts 31 = .ok (.iload_n 1, 1)))) := by decide +kernel
theorem dX11_lasts_0 : decode cX11_lasts 0 = .ok (.aload_n 0, 1) := bf00_34.1.1.1.1
theorem dX11_lasts_1 : decode cX11_lasts 1 = .ok (.iload_n 1, 1) := bf00_34.1.1.1.2
theorem dX11_lasts_2 : decode cX11_lasts 2 = .ok (.invokevirtual 198, 3) := bf00_34.1.1.2.1
theorem dX11_lasts_5 : decode cX11_lasts 5 = .ok (.aload_n 0, 1) := bf00_34.1.1.2.2
theorem dX11_lasts_6 : decode cX11_lasts 6 = .ok (.iload_n 2, 1) := bf00_34.1.2.1.1
theorem dX11_lasts_7 : decode cX11_lasts 7 = .ok (.invokevirtual 178, 3) := bf00_34.1.2.1.2
theorem dX11_lasts_10 : decode cX11_lasts 10 = .ok (.aload_n 0, 1) := bf00_34.1.2.2.1
theorem dX11_lasts_11 : decode cX11_lasts 11 = .ok (.getfield 55, 3) := bf00_34.1.2.2.2
theorem dX11_lasts_14 : decode cX11_lasts 14 = .ok (.aload_n 0, 1) := bf00_34.2.1.1.1
theorem dX11_lasts_15 : decode cX11_lasts 15 = .ok (.getfield 39, 3) := bf00_34.2.1.1.2
theorem dX11_lasts_18 : decode cX11_lasts 18 = .ok (.getfield 61, 3) := bf00_34.2.1.2.1
theorem dX11_lasts_21 : decode cX11_lasts 21 = .ok (.invokevirtual 224, 3) := bf00_34.2.1.2.2
theorem dX11_lasts_24 : decode cX11_lasts 24 = .ok (.aload_n 0, 1) := bf00_34.2.2.1.1
theorem dX11_lasts_25 : decode cX11_lasts 25 = .ok (.getfield 55, 3) := bf00_34.2.2.1.2
theorem dX11_lasts_28 : decode cX11_lasts 28 = .ok (.getfield 230, 3) := bf00_34.2.2.2.1
theorem dX11_lasts_31 : decode cX11_lasts 31 = .ok (.iload_n 1, 1) := bf00_34.2.2.2.2
theorem bf00_35 : ((decode cX11_lasts 32 = .ok (.iload_n 2, 1) ∧ decode cX11_lasts 33 = .ok (.invokevirtual 273, 3)) ∧ (decode cX11_lasts 36 = .ok (.aload_n 0, 1) ∧ decode cX11_lasts 37 = .ok (.getfield 55, 3))) ∧ ((decode cX11_lasts 40 = .ok (.iload_n 2, 1) ∧ decode cX11_lasts 41 = .ok (.invokevirtual 255, 3)) ∧ (decode cX11_lasts 44 = .ok (.ireturn, 1) ∧ decode cX11_best 0 = .ok (.aload_n 0, 1))) := by decide +kernel
theorem dX11_lasts_32 : decode cX11_lasts 32 = .ok (.iload_n 2, 1) := bf00_35.1.1.1
theorem dX11_lasts_33 : decode cX11_lasts 33 = .ok (.invokevirtual 273, 3) := bf00_35.1.1.2
theorem dX11_lasts_36 : decode cX11_lasts 36 = .ok (.aload_n 0, 1) := bf00_35.1.2.1
theorem dX11_lasts_37 : decode cX11_lasts 37 = .ok (.getfield 55, 3) := bf00_35.1.2.2
theorem dX11_lasts_40 : decode cX11_lasts 40 = .ok (.iload_n 2, 1) := bf00_35.2.1.1
theorem dX11_lasts_41 : decode cX11_lasts 41 = .ok (.invokevirtual 255, 3) := bf00_35.2.1.2
theorem dX11_lasts_44 : decode cX11_lasts 44 = .ok (.ireturn, 1) := bf00_35.2.2.1
theorem dX11_best_0 : decode cX11_best 0 = .ok (.aload_n 0, 1) := bf00_35.2.2.2
theorem bf00_36 : (((decode cX11_best 1 = .ok (.iload_n 1, 1) ∧ decode cX11_best 2 = .ok (.invokevirtual 198, 3)) ∧ (decode cX11_best 5 = .ok (.iload_n 3, 1) ∧ decode cX11_best 6 = .ok (.iconst 1, 1))) ∧ ((decode cX11_best 7 = .ok (.invokestatic 240, 3) ∧ decode cX11_best 10 = .ok (.iload_n 2, 1)) ∧ (decode cX11_best 11 = .ok (.iconst 1, 1) ∧ decode cX11_best 12 = .ok (.invokestatic 258, 3)))) ∧ (((decode cX11_best 15 = .ok (.iconst (-1), 1) ∧ decode cX11_best 16 = .ok (.istore 4, 2)) ∧ (decode cX11_best 18 = .ok (.iconst (-1), 1) ∧ decode cX11_best 19 = .ok (.istore 5, 2))) ∧ ((decode cX11_best 21 = .ok (.iconst 0, 1) ∧ decode cX11_best 22 = .ok (.istore 6, 2)) ∧ (decode cX11_best 24 = .ok (.iload 6, 2) ∧ decode cX11_best 26 = .ok (.aload_n 0, 1)))) := by decide +kernel
theorem dX11_best_1 : decode cX11_best 1 = .ok (.iload_n 1, 1) := bf00_36.1.1.1.1
theorem dX11_best_2 : decode cX11_best 2 = .ok (.invokevirtual 198, 3) := bf00_36.1.1.1.2
theorem dX11_best_5 : decode cX11_best 5 = .ok (.iload_n 3, 1) := bf00_36.1.1.2.1
theorem dX11_best_6 : decode cX11_best 6 = .ok (.iconst 1, 1) := bf00_36.1.1.2.2
theorem dX11_best_7 : decode cX11_best 7 = .ok (.invokestatic 240, 3) := bf00_36.1.2.1.1
theorem dX11_best_10 : decode cX11_best 10 = .ok (.iload_n 2, 1) := bf00_36.1.2.1.2
theorem dX11_best_11 : decode cX11_best 11 = .ok (.iconst 1, 1) := bf00_36.1.2.2.1
theorem dX11_best_12 : decode cX11_best 12 = .ok (.invokestatic 258, 3) := bf00_36.1.2.2.2
theorem dX11_best_15 : decode cX11_best 15 = .ok (.iconst (-1), 1) := bf00_36.2.1.1.1
theorem dX11_best_16 : decode cX11_best 16 = .ok (.istore 4, 2) := bf00_36.2.1.1.2
theorem dX11_best_18 : decode cX11_best 18 = .ok (.iconst (-1), 1) := bf00_36.2.1.2.1
theorem dX11_best_19 : decode cX11_best 19 = .ok (.istore 5, 2) := bf00_36.2.1.2.2
theorem dX11_best_21 : decode cX11_best 21 = .ok (.iconst 0, 1) := bf00_36.2.2.1.1
theorem dX11_best_22 : decode cX11_best 22 = .ok (.istore 6, 2) := bf00_36.2.2.1.2
theorem dX11_best_24 : decode cX11_best 24 = .ok (.iload 6, 2) := bf00_36.2.2.2.1
theorem dX11_best_26 : decode cX11_best 26 = .ok (.aload_n 0, 1) := bf00_36.2.2.2.2
theorem bf00_37 : (((decode cX11_best 27 = .ok (.getfield 39, 3) ∧ decode cX11_best 30 = .ok (.getfield 61, 3)) ∧ (decode cX11_best 33 = .ok (.getfield 119, 3) ∧ decode cX11_best 36 = .ok (.if_icmp .ge 71, 3))) ∧ ((decode cX11_best 39 = .ok (.aload_n 0, 1) ∧ decode cX11_best 40 = .ok (.getfield 55, 3)) ∧ (decode cX11_best 43 = .ok (.aload_n 0, 1) ∧ decode cX11_best 44 = .ok (.getfield 39, 3)))) ∧ (((decode cX11_best 47 = .ok (.getfield 61, 3) ∧ decode cX11_best 50 = .ok (.invokevirtual 224, 3)) ∧ (decode cX11_best 53 = .ok (.aload_n 0, 1) ∧ decode cX11_best 54 = .ok (.getfield 55, 3))) ∧ ((decode cX11_best 57 = .ok (.getfield 230, 3) ∧ decode cX11_best 60 = .ok (.iload_n 1, 1)) ∧ (decode cX11_best 61 = .ok (.iload 6, 2) ∧ decode cX11_best 63 = .ok (.invokevirtual 273, 3)))) := by decide +kernel
theorem dX11_best_27 : decode cX11_best 27 = .ok (.getfield 39, 3) := bf00_37.1.1.1.1
theorem dX11_best_30 : decode cX11_best 30 = .ok (.getfield 61, 3) := bf00_37.1.1.1.2
theorem dX11_best_33 : decode cX11_best 33 = .ok (.getfield 119, 3) := bf00_37.1.1.2.1
theorem dX11_best_36 : decode cX11_best 36 = .ok (.if_icmp .ge 71, 3) := bf00_37.1.1.2.2
theorem dX11_best_39 : decode cX11_best 39 = .ok (.aload_n 0, 1) := bf00_37.1.2.1.1
theorem dX11_best_40 : decode cX11_best 40 = .ok (.getfield 55, 3) := bf00_37.1.2.1.2
theorem dX11_best_43 : decode cX11_best 43 = .ok (.aload_n 0, 1) := bf00_37.1.2.2.1
theorem dX11_best_44 : decode cX11_best 44 = .ok (.getfield 39, 3) := bf00_37.1.2.2.2
theorem dX11_best_47 : decode cX11_best 47 = .ok (.getfield 61, 3) := bf00_37.2.1.1.1
theorem dX11_best_50 : decode cX11_best 50 = .ok (.invokevirtual 224, 3) := bf00_37.2.1.1.2
theorem dX11_best_53 : decode cX11_best 53 = .ok (.aload_n 0, 1) := bf00_37.2.1.2.1
theorem dX11_best_54 : decode cX11_best 54 = .ok (.getfield 55, 3) := bf00_37.2.1.2.2
theorem dX11_best_57 : decode cX11_best 57 = .ok (.getfield 230, 3) := bf00_37.2.2.1.1
theorem dX11_best_60 : decode cX11_best 60 = .ok (.iload_n 1, 1) := bf00_37.2.2.1.2
theorem dX11_best_61 : decode cX11_best 61 = .ok (.iload 6, 2) := bf00_37.2.2.2.1
theorem dX11_best_63 : decode cX11_best 63 = .ok (.invokevirtual 273, 3) := bf00_37.2.2.2.2
theorem bf00_38 : (((decode cX11_best 66 = .ok (.aload_n 0, 1) ∧ decode cX11_best 67 = .ok (.getfield 55, 3)) ∧ (decode cX11_best 70 = .ok (.iload_n 2, 1) ∧ decode cX11_best 71 = .ok (.invokevirtual 227, 3))) ∧ ((decode cX11_best 74 = .ok (.aload_n 0, 1) ∧ decode cX11_best 75 = .ok (.getfield 55, 3)) ∧ (decode cX11_best 78 = .ok (.getfield 230, 3) ∧ decode cX11_best 81 = .ok (.invokevirtual 148, 3)))) ∧ (((decode cX11_best 84 = .ok (.istore 7, 2) ∧ decode cX11_best 86 = .ok (.iload 7, 2)) ∧ (decode cX11_best 88 = .ok (.iload 5, 2) ∧ decode cX11_best 90 = .ok (.if_icmp .le 11, 3))) ∧ ((decode cX11_best 93 = .ok (.iload 6, 2) ∧ decode cX11_best 95 = .ok (.istore 4, 2)) ∧ (decode cX11_best 97 = .ok (.iload 7, 2) ∧ decode cX11_best 99 = .ok (.istore 5, 2)))) := by decide +kernel
theorem dX11_best_66 : decode cX11_best 66 = .ok (.aload_n 0, 1) := bf00_38.1.1.1.1
theorem dX11_best_67 : decode cX11_best 67 = .ok (.getfield 55, 3) := bf00_38.1.1.1.2
theorem dX11_best_70 : decode cX11_best 70 = .ok (.iload_n 2, 1) := bf00_38.1.1.2.1
theorem dX11_best_71 : decode cX11_best 71 = .ok (.invokevirtual 227, 3) := bf00_38.1.1.2.2
theorem dX11_best_74 : decode cX11_best 74 = .ok (.aload_n 0, 1) := bf00_38.1.2.1.1
theorem dX11_best_75 : decode cX11_best 75 = .ok (.getfield 55, 3) := bf00_38.1.2.1.2
theorem dX11_best_78 : decode cX11_best 78 = .ok (.getfield 230, 3) := bf00_38.1.2.2.1
theorem dX11_best_81 : decode cX11_best 81 = .ok (.invokevirtual 148, 3) := bf00_38.1.2.2.2
theorem dX11_best_84 : decode cX11_best 84 = .ok (.istore 7, 2) := bf00_38.2.1.1.1
theorem dX11_best_86 : decode cX11_best 86 = .ok (.iload 7, 2) := bf00_38.2.1.1.2
theorem dX11_best_88 : decode cX11_best 88 = .ok (.iload 5, 2) := bf00_38.2.1.2.1
theorem dX11_best_90 : decode cX11_best 90 = .ok (.if_icmp .le 11, 3) := bf00_38.2.1.2.2
theorem dX11_best_93 : decode cX11_best 93 = .ok (.iload 6, 2) := bf00_38.2.2.1.1
theorem dX11_best_95 : decode cX11_best 95 = .ok (.istore 4, 2) := bf00_38.2.2.1.2
theorem dX11_best_97 : decode cX11_best 97 = .ok (.iload 7, 2) := bf00_38.2.2.2.1
theorem dX11_best_99 : decode cX11_best 99 = .ok (.istore 5, 2) := bf00_38.2.2.2.2
theorem bf00_39 : ((decode cX11_best 101 = .ok (.iinc 6 1, 3) ∧ decode cX11_best 104 = .ok (.goto (-80), 3)) ∧ (decode cX11_best 107 = .ok (.iload_n 3, 1) ∧ decode cX11_best 108 = .ok (.ifCond .ne 8, 3))) ∧ ((decode cX11_best 111 = .ok (.iload 4, 2) ∧ decode cX11_best 113 = .ok (.goto 5, 3)) ∧ (decode cX11_best 116 = .ok (.iload 5, 2) ∧ decode cX11_best 118 = .ok (.ireturn, 1))) := by decide +kernel
theorem dX11_best_101 : decode cX11_best 101 = .ok (.iinc 6 1, 3) := bf00_39.1.1.1
theorem dX11_best_104 : decode cX11_best 104 = .ok (.goto (-80), 3) := bf00_39.1.1.2
theorem dX11_best_107 : decode cX11_best 107 = .ok (.iload_n 3, 1) := bf00_39.1.2.1
theorem dX11_best_108 : decode cX11_best 108 = .ok (.ifCond .ne 8, 3) := bf00_39.1.2.2
theorem dX11_best_111 : decode cX11_best 111 = .ok (.iload 4, 2) := bf00_39.2.1.1
theorem dX11_best_113 : decode cX11_best 113 = .ok (.goto 5, 3) := bf00_39.2.1.2
theorem dX11_best_116 : decode cX11_best 116 = .ok (.iload 5, 2) := bf00_39.2.2.1
theorem dX11_best_118 : decode cX11_best 118 = .ok (.ireturn, 1) := bf00_39.2.2.2
theorem bf00_40 : (((decode cX11_greatest 0 = .ok (.iload_n 2, 1) ∧ decode cX11_greatest 1 = .ok (.iconst 1, 1)) ∧ (decode cX11_greatest 2 = .ok (.invokestatic 240, 3) ∧ decode cX11_greatest 5 = .ok (.aload_n 0, 1))) ∧ ((decode cX11_greatest 6 = .ok (.iload_n 1, 1) ∧ decode cX11_greatest 7 = .ok (.invokevirtual 244, 3)) ∧ (decode cX11_greatest 10 = .ok (.astore_n 3, 1) ∧ decode cX11_greatest 11 = .ok (.iload_n 2, 1)))) ∧ (((decode cX11_greatest 12 = .ok (.ifCond .ne 10, 3) ∧ decode cX11_greatest 15 = .ok (.aload_n 3, 1)) ∧ (decode cX11_greatest 16 = .ok (.invokevirtual 276, 3) ∧ decode cX11_greatest 19 = .ok (.goto 7, 3))) ∧ ((decode cX11_greatest 22 = .ok (.aload_n 3, 1) ∧ decode cX11_greatest 23 = .ok (.invokevirtual 279, 3)) ∧ (decode cX11_greatest 26 = .ok (.ireturn, 1)))) := by decide +kernel
theorem dX11_greatest_0 : decode cX11_greatest 0 = .ok (.iload_n 2, 1) := bf00_40.1.1.1.1
theorem dX11_greatest_1 : decode cX11_greatest 1 = .ok (.iconst 1, 1) := bf00_40.1.1.1.2
theorem dX11_greatest_2 : decode cX11_greatest 2 = .ok (.invokestatic 240, 3) := bf00_40.1.1.2.1
theorem dX11_greatest_5 : decode cX11_greatest 5 = .ok (.aload_n 0, 1) := bf00_40.1.1.2.2
theorem dX11_greatest_6 : decode cX11_greatest 6 = .ok (.iload_n 1, 1) := bf00_40.1.2.1.1
theorem dX11_greatest_7 : decode cX11_greatest 7 = .ok (.invokevirtual 244, 3) := bf00_40.1.2.1.2
theorem dX11_greatest_10 : decode cX11_greatest 10 = .ok (.astore_n 3, 1) := bf00_40.1.2.2.1
theorem dX11_greatest_11 : decode cX11_greatest 11 = .ok (.iload_n 2, 1) := bf00_40.1.2.2.2
theorem dX11_greatest_12 : decode cX11_greatest 12 = .ok (.ifCond .ne 10, 3) := bf00_40.2.1.1.1
theorem dX11_greatest_15 : decode cX11_greatest 15 = .ok (.aload_n 3, 1) := bf00_40.2.1.1.2
theorem dX11_greatest_16 : decode cX11_greatest 16 = .ok (.invokevirtual 276, 3) := bf00_40.2.1.2.1
theorem dX11_greatest_19 : decode cX11_greatest 19 = .ok (.goto 7, 3) := bf00_40.2.1.2.2
theorem dX11_greatest_22 : decode cX11_greatest 22 = .ok (.aload_n 3, 1) := bf00_40.2.2.1.1
theorem dX11_greatest_23 : decode cX11_greatest 23 = .ok (.invokevirtual 279, 3) := bf00_40.2.2.1.2
theorem dX11_greatest_26 : decode cX11_greatest 26 = .ok (.ireturn, 1) := bf00_40.2.2.2
theorem bf00_41 : (((decode cX11_empty 0 = .ok (.iload_n 1, 1) ∧ decode cX11_empty 1 = .ok (.iconst 1, 1)) ∧ (decode cX11_empty 2 = .ok (.invokestatic 258, 3) ∧ decode cX11_empty 5 = .ok (.aload_n 0, 1))) ∧ ((decode cX11_empty 6 = .ok (.getfield 55, 3) ∧ decode cX11_empty 9 = .ok (.aload_n 0, 1)) ∧ (decode cX11_empty 10 = .ok (.getfield 39, 3) ∧ decode cX11_empty 13 = .ok (.getfield 61, 3)))) ∧ (((decode cX11_empty 16 = .ok (.invokevirtual 224, 3) ∧ decode cX11_empty 19 = .ok (.iconst 0, 1)) ∧ (decode cX11_empty 20 = .ok (.istore_n 2, 1) ∧ decode cX11_empty 21 = .ok (.iconst 0, 1))) ∧ ((decode cX11_empty 22 = .ok (.istore_n 3, 1) ∧ decode cX11_empty 23 = .ok (.iload_n 3, 1)) ∧ (decode cX11_empty 24 = .ok (.iload_n 1, 1) ∧ decode cX11_empty 25 = .ok (.if_icmp .ge 33, 3)))) := by decide +kernel
theorem dX11_empty_0 : decode cX11_empty 0 = .ok (.iload_n 1, 1) := bf00_41.1.1.1.1
theorem dX11_empty_1 : decode cX11_empty 1 = .ok (.iconst 1, 1) := bf00_41.1.1.1.2
theorem dX11_empty_2 : decode cX11_empty 2 = .ok (.invokestatic 258, 3) := bf00_41.1.1.2.1
theorem dX11_empty_5 : decode cX11_empty 5 = .ok (.aload_n 0, 1) := bf00_41.1.1.2.2
theorem dX11_empty_6 : decode cX11_empty 6 = .ok (.getfield 55, 3) := bf00_41.1.2.1.1
theorem dX11_empty_9 : decode cX11_empty 9 = .ok (.aload_n 0, 1) := bf00_41.1.2.1.2
theorem dX11_empty_10 : decode cX11_empty 10 = .ok (.getfield 39, 3) := bf00_41.1.2.2.1
theorem dX11_empty_13 : decode cX11_empty 13 = .ok (.getfield 61, 3) := bf00_41.1.2.2.2
theorem dX11_empty_16 : decode cX11_empty 16 = .ok (.invokevirtual 224, 3) := bf00_41.2.1.1.1
theorem dX11_empty_19 : decode cX11_empty 19 = .ok (.iconst 0, 1) := bf00_41.2.1.1.2
theorem dX11_empty_20 : decode cX11_empty 20 = .ok (.istore_n 2, 1) := bf00_41.2.1.2.1
theorem dX11_empty_21 : decode cX11_empty 21 = .ok (.iconst 0, 1) := bf00_41.2.1.2.2
theorem dX11_empty_22 : decode cX11_empty 22 = .ok (.istore_n 3, 1) := bf00_41.2.2.1.1
theorem dX11_empty_23 : decode cX11_empty 23 = .ok (.iload_n 3, 1) := bf00_41.2.2.1.2
theorem dX11_empty_24 : decode cX11_empty 24 = .ok (.iload_n 1, 1) := bf00_41.2.2.2.1
theorem dX11_empty_25 : decode cX11_empty 25 = .ok (.if_icmp .ge 33, 3) := bf00_41.2.2.2.2
theorem bf00_42 : (((decode cX11_empty 28 = .ok (.aload_n 0, 1) ∧ decode cX11_empty 29 = .ok (.getfield 55, 3)) ∧ (decode cX11_empty 32 = .ok (.iconst 1, 1) ∧ decode cX11_empty 33 = .ok (.invokevirtual 227, 3))) ∧ ((decode cX11_empty 36 = .ok (.aload_n 0, 1) ∧ decode cX11_empty 37 = .ok (.getfield 55, 3)) ∧ (decode cX11_empty 40 = .ok (.getfield 230, 3)))) ∧ (((decode cX11_empty 43 = .ok (.invokevirtual 145, 3) ∧ decode cX11_empty 46 = .ok (.ifCond .ne 6, 3)) ∧ (decode cX11_empty 49 = .ok (.iinc 2 1, 3) ∧ decode cX11_empty 52 = .ok (.iinc 3 1, 3))) ∧ ((decode cX11_empty 55 = .ok (.goto (-32), 3) ∧ decode cX11_empty 58 = .ok (.iload_n 2, 1)) ∧ (decode cX11_empty 59 = .ok (.ireturn, 1)))) := by decide +kernel
theorem dX11_empty_28 : decode cX11_empty 28 = .ok (.aload_n 0, 1) := bf00_42.1.1.1.1
theorem dX11_empty_29 : decode cX11_empty 29 = .ok (.getfield 55, 3) := bf00_42.1.1.1.2
theorem dX11_empty_32 : decode cX11_empty 32 = .ok (.iconst 1, 1) := bf00_42.1.1.2.1
theorem dX11_empty_33 : decode cX11_empty 33 = .ok (.invokevirtual 227, 3) := bf00_42.1.1.2.2
theorem dX11_empty_36 : decode cX11_empty 36 = .ok (.aload_n 0, 1) := bf00_42.1.2.1.1
theorem dX11_empty_37 : decode cX11_empty 37 = .ok (.getfield 55, 3) := bf00_42.1.2.1.2
theorem dX11_empty_40 : decode cX11_empty 40 = .ok (.getfield 230, 3) := bf00_42.1.2.2
theorem dX11_empty_43 : decode cX11_empty 43 = .ok (.invokevirtual 145, 3) := bf00_42.2.1.1.1
theorem dX11_empty_46 : decode cX11_empty 46 = .ok (.ifCond .ne 6, 3) := bf00_42.2.1.1.2
theorem dX11_empty_49 : decode cX11_empty 49 = .ok (.iinc 2 1, 3) := bf00_42.2.1.2.1
theorem dX11_empty_52 : decode cX11_empty 52 = .ok (.iinc 3 1, 3) := bf00_42.2.1.2.2
theorem dX11_empty_55 : decode cX11_empty 55 = .ok (.goto (-32), 3) := bf00_42.2.2.1.1
theorem dX11_empty_58 : decode cX11_empty 58 = .ok (.iload_n 2, 1) := bf00_42.2.2.1.2
theorem dX11_empty_59 : decode cX11_empty 59 = .ok (.ireturn, 1) := bf00_42.2.2.2
theorem bf00_43 : ((decode cX11_homes 0 = .ok (.aload_n 0, 1) ∧ decode cX11_homes 1 = .ok (.getfield 39, 3)) ∧ (decode cX11_homes 4 = .ok (.getfield 61, 3) ∧ decode cX11_homes 7 = .ok (.invokevirtual 282, 3))) ∧ ((decode cX11_homes 10 = .ok (.ireturn, 1) ∧ decode cX11_see 0 = .ok (.aload_n 0, 1)) ∧ (decode cX11_see 1 = .ok (.iload_n 1, 1) ∧ decode cX11_see 2 = .ok (.invokevirtual 198, 3))) := by decide +kernel
theorem dX11_homes_0 : decode cX11_homes 0 = .ok (.aload_n 0, 1) := bf00_43.1.1.1
theorem dX11_homes_1 : decode cX11_homes 1 = .ok (.getfield 39, 3) := bf00_43.1.1.2
theorem dX11_homes_4 : decode cX11_homes 4 = .ok (.getfield 61, 3) := bf00_43.1.2.1
theorem dX11_homes_7 : decode cX11_homes 7 = .ok (.invokevirtual 282, 3) := bf00_43.1.2.2
theorem dX11_homes_10 : decode cX11_homes 10 = .ok (.ireturn, 1) := bf00_43.2.1.1
theorem dX11_see_0 : decode cX11_see 0 = .ok (.aload_n 0, 1) := bf00_43.2.1.2
theorem dX11_see_1 : decode cX11_see 1 = .ok (.iload_n 1, 1) := bf00_43.2.2.1
theorem dX11_see_2 : decode cX11_see 2 = .ok (.invokevirtual 198, 3) := bf00_43.2.2.2
theorem bf00_44 : (((decode cX11_see 5 = .ok (.iload_n 2, 1) ∧ decode cX11_see 6 = .ok (.ifCond .lt 23, 3)) ∧ (decode cX11_see 9 = .ok (.iload_n 2, 1) ∧ decode cX11_see 10 = .ok (.bipush 20, 2))) ∧ ((decode cX11_see 12 = .ok (.if_icmp .gt 17, 3) ∧ decode cX11_see 15 = .ok (.iload_n 3, 1)) ∧ (decode cX11_see 16 = .ok (.ifCond .lt 13, 3) ∧ decode cX11_see 19 = .ok (.iload_n 3, 1)))) ∧ (((decode cX11_see 20 = .ok (.bipush 9, 2) ∧ decode cX11_see 22 = .ok (.if_icmp .gt 7, 3)) ∧ (decode cX11_see 25 = .ok (.iconst 1, 1) ∧ decode cX11_see 26 = .ok (.goto 4, 3))) ∧ ((decode cX11_see 29 = .ok (.iconst 0, 1) ∧ decode cX11_see 30 = .ok (.istore 4, 2)) ∧ (decode cX11_see 32 = .ok (.iload 4, 2) ∧ decode cX11_see 34 = .ok (.ifCond .eq 18, 3)))) := by decide +kernel
theorem dX11_see_5 : decode cX11_see 5 = .ok (.iload_n 2, 1) := bf00_44.1.1.1.1
theorem dX11_see_6 : decode cX11_see 6 = .ok (.ifCond .lt 23, 3) := bf00_44.1.1.1.2
theorem dX11_see_9 : decode cX11_see 9 = .ok (.iload_n 2, 1) := bf00_44.1.1.2.1
theorem dX11_see_10 : decode cX11_see 10 = .ok (.bipush 20, 2) := bf00_44.1.1.2.2
theorem dX11_see_12 : decode cX11_see 12 = .ok (.if_icmp .gt 17, 3) := bf00_44.1.2.1.1
theorem dX11_see_15 : decode cX11_see 15 = .ok (.iload_n 3, 1) := bf00_44.1.2.1.2
theorem dX11_see_16 : decode cX11_see 16 = .ok (.ifCond .lt 13, 3) := bf00_44.1.2.2.1
theorem dX11_see_19 : decode cX11_see 19 = .ok (.iload_n 3, 1) := bf00_44.1.2.2.2
theorem dX11_see_20 : decode cX11_see 20 = .ok (.bipush 9, 2) := bf00_44.2.1.1.1
theorem dX11_see_22 : decode cX11_see 22 = .ok (.if_icmp .gt 7, 3) := bf00_44.2.1.1.2
theorem dX11_see_25 : decode cX11_see 25 = .ok (.iconst 1, 1) := bf00_44.2.1.2.1
theorem dX11_see_26 : decode cX11_see 26 = .ok (.goto 4, 3) := bf00_44.2.1.2.2
theorem dX11_see_29 : decode cX11_see 29 = .ok (.iconst 0, 1) := bf00_44.2.2.1.1
theorem dX11_see_30 : decode cX11_see 30 = .ok (.istore 4, 2) := bf00_44.2.2.1.2
theorem dX11_see_32 : decode cX11_see 32 = .ok (.iload 4, 2) := bf00_44.2.2.2.1
theorem dX11_see_34 : decode cX11_see 34 = .ok (.ifCond .eq 18, 3) := bf00_44.2.2.2.2
theorem bf00_45 : (((decode cX11_see 37 = .ok (.aload_n 0, 1) ∧ decode cX11_see 38 = .ok (.getfield 39, 3)) ∧ (decode cX11_see 41 = .ok (.getfield 166, 3) ∧ decode cX11_see 44 = .ok (.getfield 170, 3))) ∧ ((decode cX11_see 47 = .ok (.bipush 8, 2) ∧ decode cX11_see 49 = .ok (.if_icmp .lt 18, 3)) ∧ (decode cX11_see 52 = .ok (.aload_n 0, 1) ∧ decode cX11_see 53 = .ok (.getfield 39, 3)))) ∧ (((decode cX11_see 56 = .ok (.getfield 104, 3) ∧ decode cX11_see 59 = .ok (.iconst 2, 1)) ∧ (decode cX11_see 60 = .ok (.dup2, 1) ∧ decode cX11_see 61 = .ok (.iaload, 1))) ∧ ((decode cX11_see 62 = .ok (.iconst 1, 1) ∧ decode cX11_see 63 = .ok (.iadd, 1)) ∧ (decode cX11_see 64 = .ok (.iastore, 1) ∧ decode cX11_see 65 = .ok (.iconst (-1), 1)))) := by decide +kernel
theorem dX11_see_37 : decode cX11_see 37 = .ok (.aload_n 0, 1) := bf00_45.1.1.1.1
theorem dX11_see_38 : decode cX11_see 38 = .ok (.getfield 39, 3) := bf00_45.1.1.1.2
theorem dX11_see_41 : decode cX11_see 41 = .ok (.getfield 166, 3) := bf00_45.1.1.2.1
theorem dX11_see_44 : decode cX11_see 44 = .ok (.getfield 170, 3) := bf00_45.1.1.2.2
theorem dX11_see_47 : decode cX11_see 47 = .ok (.bipush 8, 2) := bf00_45.1.2.1.1
theorem dX11_see_49 : decode cX11_see 49 = .ok (.if_icmp .lt 18, 3) := bf00_45.1.2.1.2
theorem dX11_see_52 : decode cX11_see 52 = .ok (.aload_n 0, 1) := bf00_45.1.2.2.1
theorem dX11_see_53 : decode cX11_see 53 = .ok (.getfield 39, 3) := bf00_45.1.2.2.2
theorem dX11_see_56 : decode cX11_see 56 = .ok (.getfield 104, 3) := bf00_45.2.1.1.1
theorem dX11_see_59 : decode cX11_see 59 = .ok (.iconst 2, 1) := bf00_45.2.1.1.2
theorem dX11_see_60 : decode cX11_see 60 = .ok (.dup2, 1) := bf00_45.2.1.2.1
theorem dX11_see_61 : decode cX11_see 61 = .ok (.iaload, 1) := bf00_45.2.1.2.2
theorem dX11_see_62 : decode cX11_see 62 = .ok (.iconst 1, 1) := bf00_45.2.2.1.1
theorem dX11_see_63 : decode cX11_see 63 = .ok (.iadd, 1) := bf00_45.2.2.1.2
theorem dX11_see_64 : decode cX11_see 64 = .ok (.iastore, 1) := bf00_45.2.2.2.1
theorem dX11_see_65 : decode cX11_see 65 = .ok (.iconst (-1), 1) := bf00_45.2.2.2.2
theorem bf00_46 : (((decode cX11_see 66 = .ok (.ireturn, 1) ∧ decode cX11_see 67 = .ok (.aload_n 0, 1)) ∧ (decode cX11_see 68 = .ok (.getfield 39, 3) ∧ decode cX11_see 71 = .ok (.getfield 166, 3))) ∧ ((decode cX11_see 74 = .ok (.iload_n 1, 1) ∧ decode cX11_see 75 = .ok (.iload_n 2, 1)) ∧ (decode cX11_see 76 = .ok (.iload_n 3, 1)))) ∧ (((decode cX11_see 77 = .ok (.invokevirtual 285, 3) ∧ decode cX11_see 80 = .ok (.aload_n 0, 1)) ∧ (decode cX11_see 81 = .ok (.getfield 39, 3))) ∧ ((decode cX11_see 84 = .ok (.getfield 166, 3) ∧ decode cX11_see 87 = .ok (.getfield 170, 3)) ∧ (decode cX11_see 90 = .ok (.ireturn, 1)))) := by decide +kernel
theorem dX11_see_66 : decode cX11_see 66 = .ok (.ireturn, 1) := bf00_46.1.1.1.1
theorem dX11_see_67 : decode cX11_see 67 = .ok (.aload_n 0, 1) := bf00_46.1.1.1.2
theorem dX11_see_68 : decode cX11_see 68 = .ok (.getfield 39, 3) := bf00_46.1.1.2.1
theorem dX11_see_71 : decode cX11_see 71 = .ok (.getfield 166, 3) := bf00_46.1.1.2.2
theorem dX11_see_74 : decode cX11_see 74 = .ok (.iload_n 1, 1) := bf00_46.1.2.1.1
theorem dX11_see_75 : decode cX11_see 75 = .ok (.iload_n 2, 1) := bf00_46.1.2.1.2
theorem dX11_see_76 : decode cX11_see 76 = .ok (.iload_n 3, 1) := bf00_46.1.2.2
theorem dX11_see_77 : decode cX11_see 77 = .ok (.invokevirtual 285, 3) := bf00_46.2.1.1.1
theorem dX11_see_80 : decode cX11_see 80 = .ok (.aload_n 0, 1) := bf00_46.2.1.1.2
theorem dX11_see_81 : decode cX11_see 81 = .ok (.getfield 39, 3) := bf00_46.2.1.2
theorem dX11_see_84 : decode cX11_see 84 = .ok (.getfield 166, 3) := bf00_46.2.2.1.1
theorem dX11_see_87 : decode cX11_see 87 = .ok (.getfield 170, 3) := bf00_46.2.2.1.2
theorem dX11_see_90 : decode cX11_see 90 = .ok (.ireturn, 1) := bf00_46.2.2.2
theorem bf00_47 : (((decode cX11_old 0 = .ok (.iload_n 1, 1) ∧ decode cX11_old 1 = .ok (.iconst 2, 1)) ∧ (decode cX11_old 2 = .ok (.invokestatic 240, 3) ∧ decode cX11_old 5 = .ok (.iload_n 1, 1))) ∧ ((decode cX11_old 6 = .ok (.iconst 2, 1) ∧ decode cX11_old 7 = .ok (.if_icmp .ne 40, 3)) ∧ (decode cX11_old 10 = .ok (.aload_n 0, 1) ∧ decode cX11_old 11 = .ok (.getfield 55, 3)))) ∧ (((decode cX11_old 14 = .ok (.aload_n 0, 1) ∧ decode cX11_old 15 = .ok (.getfield 39, 3)) ∧ (decode cX11_old 18 = .ok (.getfield 61, 3) ∧ decode cX11_old 21 = .ok (.invokevirtual 224, 3))) ∧ ((decode cX11_old 24 = .ok (.aload_n 0, 1) ∧ decode cX11_old 25 = .ok (.getfield 55, 3)) ∧ (decode cX11_old 28 = .ok (.aload_n 0, 1) ∧ decode cX11_old 29 = .ok (.getfield 39, 3)))) := by decide +kernel
theorem dX11_old_0 : decode cX11_old 0 = .ok (.iload_n 1, 1) := bf00_47.1.1.1.1
theorem dX11_old_1 : decode cX11_old 1 = .ok (.iconst 2, 1) := bf00_47.1.1.1.2
theorem dX11_old_2 : decode cX11_old 2 = .ok (.invokestatic 240, 3) := bf00_47.1.1.2.1
theorem dX11_old_5 : decode cX11_old 5 = .ok (.iload_n 1, 1) := bf00_47.1.1.2.2
theorem dX11_old_6 : decode cX11_old 6 = .ok (.iconst 2, 1) := bf00_47.1.2.1.1
theorem dX11_old_7 : decode cX11_old 7 = .ok (.if_icmp .ne 40, 3) := bf00_47.1.2.1.2
theorem dX11_old_10 : decode cX11_old 10 = .ok (.aload_n 0, 1) := bf00_47.1.2.2.1
theorem dX11_old_11 : decode cX11_old 11 = .ok (.getfield 55, 3) := bf00_47.1.2.2.2
theorem dX11_old_14 : decode cX11_old 14 = .ok (.aload_n 0, 1) := bf00_47.2.1.1.1
theorem dX11_old_15 : decode cX11_old 15 = .ok (.getfield 39, 3) := bf00_47.2.1.1.2
theorem dX11_old_18 : decode cX11_old 18 = .ok (.getfield 61, 3) := bf00_47.2.1.2.1
theorem dX11_old_21 : decode cX11_old 21 = .ok (.invokevirtual 224, 3) := bf00_47.2.1.2.2
theorem dX11_old_24 : decode cX11_old 24 = .ok (.aload_n 0, 1) := bf00_47.2.2.1.1
theorem dX11_old_25 : decode cX11_old 25 = .ok (.getfield 55, 3) := bf00_47.2.2.1.2
theorem dX11_old_28 : decode cX11_old 28 = .ok (.aload_n 0, 1) := bf00_47.2.2.2.1
theorem dX11_old_29 : decode cX11_old 29 = .ok (.getfield 39, 3) := bf00_47.2.2.2.2
theorem bf00_48 : (((decode cX11_old 32 = .ok (.getfield 166, 3) ∧ decode cX11_old 35 = .ok (.invokevirtual 288, 3)) ∧ (decode cX11_old 38 = .ok (.ifCond .eq 7, 3) ∧ decode cX11_old 41 = .ok (.iconst 1, 1))) ∧ ((decode cX11_old 42 = .ok (.goto 4, 3) ∧ decode cX11_old 45 = .ok (.iconst 0, 1)) ∧ (decode cX11_old 46 = .ok (.ireturn, 1) ∧ decode cX11_old 47 = .ok (.iconst 0, 1)))) ∧ (((decode cX11_old 48 = .ok (.istore_n 2, 1) ∧ decode cX11_old 49 = .ok (.iconst (-1), 1)) ∧ (decode cX11_old 50 = .ok (.istore_n 3, 1) ∧ decode cX11_old 51 = .ok (.iconst 0, 1))) ∧ ((decode cX11_old 52 = .ok (.istore 4, 2) ∧ decode cX11_old 54 = .ok (.iload 4, 2)) ∧ (decode cX11_old 56 = .ok (.aload_n 0, 1) ∧ decode cX11_old 57 = .ok (.getfield 39, 3)))) := by decide +kernel
theorem dX11_old_32 : decode cX11_old 32 = .ok (.getfield 166, 3) := bf00_48.1.1.1.1
theorem dX11_old_35 : decode cX11_old 35 = .ok (.invokevirtual 288, 3) := bf00_48.1.1.1.2
theorem dX11_old_38 : decode cX11_old 38 = .ok (.ifCond .eq 7, 3) := bf00_48.1.1.2.1
theorem dX11_old_41 : decode cX11_old 41 = .ok (.iconst 1, 1) := bf00_48.1.1.2.2
theorem dX11_old_42 : decode cX11_old 42 = .ok (.goto 4, 3) := bf00_48.1.2.1.1
theorem dX11_old_45 : decode cX11_old 45 = .ok (.iconst 0, 1) := bf00_48.1.2.1.2
theorem dX11_old_46 : decode cX11_old 46 = .ok (.ireturn, 1) := bf00_48.1.2.2.1
theorem dX11_old_47 : decode cX11_old 47 = .ok (.iconst 0, 1) := bf00_48.1.2.2.2
theorem dX11_old_48 : decode cX11_old 48 = .ok (.istore_n 2, 1) := bf00_48.2.1.1.1
theorem dX11_old_49 : decode cX11_old 49 = .ok (.iconst (-1), 1) := bf00_48.2.1.1.2
theorem dX11_old_50 : decode cX11_old 50 = .ok (.istore_n 3, 1) := bf00_48.2.1.2.1
theorem dX11_old_51 : decode cX11_old 51 = .ok (.iconst 0, 1) := bf00_48.2.1.2.2
theorem dX11_old_52 : decode cX11_old 52 = .ok (.istore 4, 2) := bf00_48.2.2.1.1
theorem dX11_old_54 : decode cX11_old 54 = .ok (.iload 4, 2) := bf00_48.2.2.1.2
theorem dX11_old_56 : decode cX11_old 56 = .ok (.aload_n 0, 1) := bf00_48.2.2.2.1
theorem dX11_old_57 : decode cX11_old 57 = .ok (.getfield 39, 3) := bf00_48.2.2.2.2
theorem bf00_49 : (((decode cX11_old 60 = .ok (.getfield 61, 3) ∧ decode cX11_old 63 = .ok (.getfield 124, 3)) ∧ (decode cX11_old 66 = .ok (.if_icmp .ge 57, 3) ∧ decode cX11_old 69 = .ok (.iconst 0, 1))) ∧ ((decode cX11_old 70 = .ok (.istore 5, 2) ∧ decode cX11_old 72 = .ok (.iload 5, 2)) ∧ (decode cX11_old 74 = .ok (.bipush 99, 2) ∧ decode cX11_old 76 = .ok (.if_icmp .gt 41, 3)))) ∧ (((decode cX11_old 79 = .ok (.aload_n 0, 1) ∧ decode cX11_old 80 = .ok (.iload 4, 2)) ∧ (decode cX11_old 82 = .ok (.iload 5, 2) ∧ decode cX11_old 84 = .ok (.invokevirtual 292, 3))) ∧ ((decode cX11_old 87 = .ok (.ifCond .eq 24, 3) ∧ decode cX11_old 90 = .ok (.iinc 2 1, 3)) ∧ (decode cX11_old 93 = .ok (.iload_n 3, 1) ∧ decode cX11_old 94 = .ok (.iconst (-1), 1)))) := by decide +kernel
theorem dX11_old_60 : decode cX11_old 60 = .ok (.getfield 61, 3) := bf00_49.1.1.1.1
theorem dX11_old_63 : decode cX11_old 63 = .ok (.getfield 124, 3) := bf00_49.1.1.1.2
theorem dX11_old_66 : decode cX11_old 66 = .ok (.if_icmp .ge 57, 3) := bf00_49.1.1.2.1
theorem dX11_old_69 : decode cX11_old 69 = .ok (.iconst 0, 1) := bf00_49.1.1.2.2
theorem dX11_old_70 : decode cX11_old 70 = .ok (.istore 5, 2) := bf00_49.1.2.1.1
theorem dX11_old_72 : decode cX11_old 72 = .ok (.iload 5, 2) := bf00_49.1.2.1.2
theorem dX11_old_74 : decode cX11_old 74 = .ok (.bipush 99, 2) := bf00_49.1.2.2.1
theorem dX11_old_76 : decode cX11_old 76 = .ok (.if_icmp .gt 41, 3) := bf00_49.1.2.2.2
theorem dX11_old_79 : decode cX11_old 79 = .ok (.aload_n 0, 1) := bf00_49.2.1.1.1
theorem dX11_old_80 : decode cX11_old 80 = .ok (.iload 4, 2) := bf00_49.2.1.1.2
theorem dX11_old_82 : decode cX11_old 82 = .ok (.iload 5, 2) := bf00_49.2.1.2.1
theorem dX11_old_84 : decode cX11_old 84 = .ok (.invokevirtual 292, 3) := bf00_49.2.1.2.2
theorem dX11_old_87 : decode cX11_old 87 = .ok (.ifCond .eq 24, 3) := bf00_49.2.2.1.1
theorem dX11_old_90 : decode cX11_old 90 = .ok (.iinc 2 1, 3) := bf00_49.2.2.1.2
theorem dX11_old_93 : decode cX11_old 93 = .ok (.iload_n 3, 1) := bf00_49.2.2.2.1
theorem dX11_old_94 : decode cX11_old 94 = .ok (.iconst (-1), 1) := bf00_49.2.2.2.2
theorem bf00_50 : (((decode cX11_old 95 = .ok (.if_icmp .ne 14, 3) ∧ decode cX11_old 98 = .ok (.bipush 100, 2)) ∧ (decode cX11_old 100 = .ok (.iload 4, 2) ∧ decode cX11_old 102 = .ok (.imul, 1))) ∧ ((decode cX11_old 103 = .ok (.iload 5, 2) ∧ decode cX11_old 105 = .ok (.iadd, 1)) ∧ (decode cX11_old 106 = .ok (.goto 4, 3) ∧ decode cX11_old 109 = .ok (.iload_n 3, 1)))) ∧ (((decode cX11_old 110 = .ok (.istore_n 3, 1) ∧ decode cX11_old 111 = .ok (.iinc 5 1, 3)) ∧ (decode cX11_old 114 = .ok (.goto (-42), 3) ∧ decode cX11_old 117 = .ok (.iinc 4 1, 3))) ∧ ((decode cX11_old 120 = .ok (.goto (-66), 3) ∧ decode cX11_old 123 = .ok (.iload_n 1, 1)) ∧ (decode cX11_old 124 = .ok (.ifCond .ne 7, 3) ∧ decode cX11_old 127 = .ok (.iload_n 2, 1)))) := by decide +kernel
theorem dX11_old_95 : decode cX11_old 95 = .ok (.if_icmp .ne 14, 3) := bf00_50.1.1.1.1
theorem dX11_old_98 : decode cX11_old 98 = .ok (.bipush 100, 2) := bf00_50.1.1.1.2
theorem dX11_old_100 : decode cX11_old 100 = .ok (.iload 4, 2) := bf00_50.1.1.2.1
theorem dX11_old_102 : decode cX11_old 102 = .ok (.imul, 1) := bf00_50.1.1.2.2
theorem dX11_old_103 : decode cX11_old 103 = .ok (.iload 5, 2) := bf00_50.1.2.1.1
theorem dX11_old_105 : decode cX11_old 105 = .ok (.iadd, 1) := bf00_50.1.2.1.2
theorem dX11_old_106 : decode cX11_old 106 = .ok (.goto 4, 3) := bf00_50.1.2.2.1
theorem dX11_old_109 : decode cX11_old 109 = .ok (.iload_n 3, 1) := bf00_50.1.2.2.2
theorem dX11_old_110 : decode cX11_old 110 = .ok (.istore_n 3, 1) := bf00_50.2.1.1.1
theorem dX11_old_111 : decode cX11_old 111 = .ok (.iinc 5 1, 3) := bf00_50.2.1.1.2
theorem dX11_old_114 : decode cX11_old 114 = .ok (.goto (-42), 3) := bf00_50.2.1.2.1
theorem dX11_old_117 : decode cX11_old 117 = .ok (.iinc 4 1, 3) := bf00_50.2.1.2.2
theorem dX11_old_120 : decode cX11_old 120 = .ok (.goto (-66), 3) := bf00_50.2.2.1.1
theorem dX11_old_123 : decode cX11_old 123 = .ok (.iload_n 1, 1) := bf00_50.2.2.1.2
theorem dX11_old_124 : decode cX11_old 124 = .ok (.ifCond .ne 7, 3) := bf00_50.2.2.2.1
theorem dX11_old_127 : decode cX11_old 127 = .ok (.iload_n 2, 1) := bf00_50.2.2.2.2
theorem bf00_51 : ((decode cX11_old 128 = .ok (.goto 4, 3) ∧ decode cX11_old 131 = .ok (.iload_n 3, 1)) ∧ (decode cX11_old 132 = .ok (.ireturn, 1) ∧ decode cX11_look 0 = .ok (.iload_n 1, 1))) ∧ ((decode cX11_look 1 = .ok (.iconst 1, 1) ∧ decode cX11_look 2 = .ok (.invokestatic 240, 3)) ∧ (decode cX11_look 5 = .ok (.aload_n 0, 1) ∧ decode cX11_look 6 = .ok (.getfield 83, 3))) := by decide +kernel
theorem dX11_old_128 : decode cX11_old 128 = .ok (.goto 4, 3) := bf00_51.1.1.1
theorem dX11_old_131 : decode cX11_old 131 = .ok (.iload_n 3, 1) := bf00_51.1.1.2
theorem dX11_old_132 : decode cX11_old 132 = .ok (.ireturn, 1) := bf00_51.1.2.1
theorem dX11_look_0 : decode cX11_look 0 = .ok (.iload_n 1, 1) := bf00_51.1.2.2
theorem dX11_look_1 : decode cX11_look 1 = .ok (.iconst 1, 1) := bf00_51.2.1.1
theorem dX11_look_2 : decode cX11_look 2 = .ok (.invokestatic 240, 3) := bf00_51.2.1.2
theorem dX11_look_5 : decode cX11_look 5 = .ok (.aload_n 0, 1) := bf00_51.2.2.1
theorem dX11_look_6 : decode cX11_look 6 = .ok (.getfield 83, 3) := bf00_51.2.2.2
theorem bf00_52 : (((decode cX11_look 9 = .ok (.iconst 0, 1) ∧ decode cX11_look 10 = .ok (.invokestatic 296, 3)) ∧ (decode cX11_look 13 = .ok (.iconst 0, 1) ∧ decode cX11_look 14 = .ok (.istore_n 2, 1))) ∧ ((decode cX11_look 15 = .ok (.iload_n 2, 1) ∧ decode cX11_look 16 = .ok (.aload_n 0, 1)) ∧ (decode cX11_look 17 = .ok (.getfield 39, 3) ∧ decode cX11_look 20 = .ok (.getfield 61, 3)))) ∧ (((decode cX11_look 23 = .ok (.getfield 124, 3) ∧ decode cX11_look 26 = .ok (.if_icmp .ge 38, 3)) ∧ (decode cX11_look 29 = .ok (.iconst 0, 1) ∧ decode cX11_look 30 = .ok (.istore_n 3, 1))) ∧ ((decode cX11_look 31 = .ok (.iload_n 3, 1) ∧ decode cX11_look 32 = .ok (.bipush 99, 2)) ∧ (decode cX11_look 34 = .ok (.if_icmp .gt 24, 3) ∧ decode cX11_look 37 = .ok (.aload_n 0, 1)))) := by decide +kernel
theorem dX11_look_9 : decode cX11_look 9 = .ok (.iconst 0, 1) := bf00_52.1.1.1.1
theorem dX11_look_10 : decode cX11_look 10 = .ok (.invokestatic 296, 3) := bf00_52.1.1.1.2
theorem dX11_look_13 : decode cX11_look 13 = .ok (.iconst 0, 1) := bf00_52.1.1.2.1
theorem dX11_look_14 : decode cX11_look 14 = .ok (.istore_n 2, 1) := bf00_52.1.1.2.2
theorem dX11_look_15 : decode cX11_look 15 = .ok (.iload_n 2, 1) := bf00_52.1.2.1.1
theorem dX11_look_16 : decode cX11_look 16 = .ok (.aload_n 0, 1) := bf00_52.1.2.1.2
theorem dX11_look_17 : decode cX11_look 17 = .ok (.getfield 39, 3) := bf00_52.1.2.2.1
theorem dX11_look_20 : decode cX11_look 20 = .ok (.getfield 61, 3) := bf00_52.1.2.2.2
theorem dX11_look_23 : decode cX11_look 23 = .ok (.getfield 124, 3) := bf00_52.2.1.1.1
theorem dX11_look_26 : decode cX11_look 26 = .ok (.if_icmp .ge 38, 3) := bf00_52.2.1.1.2
theorem dX11_look_29 : decode cX11_look 29 = .ok (.iconst 0, 1) := bf00_52.2.1.2.1
theorem dX11_look_30 : decode cX11_look 30 = .ok (.istore_n 3, 1) := bf00_52.2.1.2.2
theorem dX11_look_31 : decode cX11_look 31 = .ok (.iload_n 3, 1) := bf00_52.2.2.1.1
theorem dX11_look_32 : decode cX11_look 32 = .ok (.bipush 99, 2) := bf00_52.2.2.1.2
theorem dX11_look_34 : decode cX11_look 34 = .ok (.if_icmp .gt 24, 3) := bf00_52.2.2.2.1
theorem dX11_look_37 : decode cX11_look 37 = .ok (.aload_n 0, 1) := bf00_52.2.2.2.2
theorem bf00_53 : (((decode cX11_look 38 = .ok (.iload_n 2, 1) ∧ decode cX11_look 39 = .ok (.iload_n 3, 1)) ∧ (decode cX11_look 40 = .ok (.invokevirtual 292, 3) ∧ decode cX11_look 43 = .ok (.ifCond .eq 9, 3))) ∧ ((decode cX11_look 46 = .ok (.aload_n 0, 1) ∧ decode cX11_look 47 = .ok (.iload_n 2, 1)) ∧ (decode cX11_look 48 = .ok (.iload_n 3, 1) ∧ decode cX11_look 49 = .ok (.invokevirtual 302, 3)))) ∧ (((decode cX11_look 52 = .ok (.iinc 3 1, 3) ∧ decode cX11_look 55 = .ok (.goto (-24), 3)) ∧ (decode cX11_look 58 = .ok (.iinc 2 1, 3) ∧ decode cX11_look 61 = .ok (.goto (-46), 3))) ∧ ((decode cX11_look 64 = .ok (.iconst (-1), 1) ∧ decode cX11_look 65 = .ok (.istore_n 2, 1)) ∧ (decode cX11_look 66 = .ok (.iconst 0, 1) ∧ decode cX11_look 67 = .ok (.istore_n 3, 1)))) := by decide +kernel
theorem dX11_look_38 : decode cX11_look 38 = .ok (.iload_n 2, 1) := bf00_53.1.1.1.1
theorem dX11_look_39 : decode cX11_look 39 = .ok (.iload_n 3, 1) := bf00_53.1.1.1.2
theorem dX11_look_40 : decode cX11_look 40 = .ok (.invokevirtual 292, 3) := bf00_53.1.1.2.1
theorem dX11_look_43 : decode cX11_look 43 = .ok (.ifCond .eq 9, 3) := bf00_53.1.1.2.2
theorem dX11_look_46 : decode cX11_look 46 = .ok (.aload_n 0, 1) := bf00_53.1.2.1.1
theorem dX11_look_47 : decode cX11_look 47 = .ok (.iload_n 2, 1) := bf00_53.1.2.1.2
theorem dX11_look_48 : decode cX11_look 48 = .ok (.iload_n 3, 1) := bf00_53.1.2.2.1
theorem dX11_look_49 : decode cX11_look 49 = .ok (.invokevirtual 302, 3) := bf00_53.1.2.2.2
theorem dX11_look_52 : decode cX11_look 52 = .ok (.iinc 3 1, 3) := bf00_53.2.1.1.1
theorem dX11_look_55 : decode cX11_look 55 = .ok (.goto (-24), 3) := bf00_53.2.1.1.2
theorem dX11_look_58 : decode cX11_look 58 = .ok (.iinc 2 1, 3) := bf00_53.2.1.2.1
theorem dX11_look_61 : decode cX11_look 61 = .ok (.goto (-46), 3) := bf00_53.2.1.2.2
theorem dX11_look_64 : decode cX11_look 64 = .ok (.iconst (-1), 1) := bf00_53.2.2.1.1
theorem dX11_look_65 : decode cX11_look 65 = .ok (.istore_n 2, 1) := bf00_53.2.2.1.2
theorem dX11_look_66 : decode cX11_look 66 = .ok (.iconst 0, 1) := bf00_53.2.2.2.1
theorem dX11_look_67 : decode cX11_look 67 = .ok (.istore_n 3, 1) := bf00_53.2.2.2.2
theorem bf00_54 : (((decode cX11_look 68 = .ok (.iconst 0, 1) ∧ decode cX11_look 69 = .ok (.istore 4, 2)) ∧ (decode cX11_look 71 = .ok (.iload 4, 2) ∧ decode cX11_look 73 = .ok (.aload_n 0, 1))) ∧ ((decode cX11_look 74 = .ok (.getfield 39, 3) ∧ decode cX11_look 77 = .ok (.getfield 61, 3)) ∧ (decode cX11_look 80 = .ok (.getfield 124, 3) ∧ decode cX11_look 83 = .ok (.if_icmp .ge 33, 3)))) ∧ (((decode cX11_look 86 = .ok (.aload_n 0, 1) ∧ decode cX11_look 87 = .ok (.getfield 83, 3)) ∧ (decode cX11_look 90 = .ok (.iload 4, 2) ∧ decode cX11_look 92 = .ok (.iaload, 1))) ∧ ((decode cX11_look 93 = .ok (.invokestatic 140, 3) ∧ decode cX11_look 96 = .ok (.istore 5, 2)) ∧ (decode cX11_look 98 = .ok (.iload 5, 2) ∧ decode cX11_look 100 = .ok (.iload_n 3, 1)))) := by decide +kernel
theorem dX11_look_68 : decode cX11_look 68 = .ok (.iconst 0, 1) := bf00_54.1.1.1.1
theorem dX11_look_69 : decode cX11_look 69 = .ok (.istore 4, 2) := bf00_54.1.1.1.2
theorem dX11_look_71 : decode cX11_look 71 = .ok (.iload 4, 2) := bf00_54.1.1.2.1
theorem dX11_look_73 : decode cX11_look 73 = .ok (.aload_n 0, 1) := bf00_54.1.1.2.2
theorem dX11_look_74 : decode cX11_look 74 = .ok (.getfield 39, 3) := bf00_54.1.2.1.1
theorem dX11_look_77 : decode cX11_look 77 = .ok (.getfield 61, 3) := bf00_54.1.2.1.2
theorem dX11_look_80 : decode cX11_look 80 = .ok (.getfield 124, 3) := bf00_54.1.2.2.1
theorem dX11_look_83 : decode cX11_look 83 = .ok (.if_icmp .ge 33, 3) := bf00_54.1.2.2.2
theorem dX11_look_86 : decode cX11_look 86 = .ok (.aload_n 0, 1) := bf00_54.2.1.1.1
theorem dX11_look_87 : decode cX11_look 87 = .ok (.getfield 83, 3) := bf00_54.2.1.1.2
theorem dX11_look_90 : decode cX11_look 90 = .ok (.iload 4, 2) := bf00_54.2.1.2.1
theorem dX11_look_92 : decode cX11_look 92 = .ok (.iaload, 1) := bf00_54.2.1.2.2
theorem dX11_look_93 : decode cX11_look 93 = .ok (.invokestatic 140, 3) := bf00_54.2.2.1.1
theorem dX11_look_96 : decode cX11_look 96 = .ok (.istore 5, 2) := bf00_54.2.2.1.2
theorem dX11_look_98 : decode cX11_look 98 = .ok (.iload 5, 2) := bf00_54.2.2.2.1
theorem dX11_look_100 : decode cX11_look 100 = .ok (.iload_n 3, 1) := bf00_54.2.2.2.2
theorem bf00_55 : (((decode cX11_look 101 = .ok (.if_icmp .le 9, 3) ∧ decode cX11_look 104 = .ok (.iload 4, 2)) ∧ (decode cX11_look 106 = .ok (.istore_n 2, 1) ∧ decode cX11_look 107 = .ok (.iload 5, 2))) ∧ ((decode cX11_look 109 = .ok (.istore_n 3, 1) ∧ decode cX11_look 110 = .ok (.iinc 4 1, 3)) ∧ (decode cX11_look 113 = .ok (.goto (-42), 3)))) ∧ (((decode cX11_look 116 = .ok (.iload_n 1, 1) ∧ decode cX11_look 117 = .ok (.ifCond .ne 7, 3)) ∧ (decode cX11_look 120 = .ok (.iload_n 2, 1))) ∧ ((decode cX11_look 121 = .ok (.goto 4, 3) ∧ decode cX11_look 124 = .ok (.iload_n 3, 1)) ∧ (decode cX11_look 125 = .ok (.ireturn, 1)))) := by decide +kernel
theorem dX11_look_101 : decode cX11_look 101 = .ok (.if_icmp .le 9, 3) := bf00_55.1.1.1.1
theorem dX11_look_104 : decode cX11_look 104 = .ok (.iload 4, 2) := bf00_55.1.1.1.2
theorem dX11_look_106 : decode cX11_look 106 = .ok (.istore_n 2, 1) := bf00_55.1.1.2.1
theorem dX11_look_107 : decode cX11_look 107 = .ok (.iload 5, 2) := bf00_55.1.1.2.2
theorem dX11_look_109 : decode cX11_look 109 = .ok (.istore_n 3, 1) := bf00_55.1.2.1.1
theorem dX11_look_110 : decode cX11_look 110 = .ok (.iinc 4 1, 3) := bf00_55.1.2.1.2
theorem dX11_look_113 : decode cX11_look 113 = .ok (.goto (-42), 3) := bf00_55.1.2.2
theorem dX11_look_116 : decode cX11_look 116 = .ok (.iload_n 1, 1) := bf00_55.2.1.1.1
theorem dX11_look_117 : decode cX11_look 117 = .ok (.ifCond .ne 7, 3) := bf00_55.2.1.1.2
theorem dX11_look_120 : decode cX11_look 120 = .ok (.iload_n 2, 1) := bf00_55.2.1.2
theorem dX11_look_121 : decode cX11_look 121 = .ok (.goto 4, 3) := bf00_55.2.2.1.1
theorem dX11_look_124 : decode cX11_look 124 = .ok (.iload_n 3, 1) := bf00_55.2.2.1.2
theorem dX11_look_125 : decode cX11_look 125 = .ok (.ireturn, 1) := bf00_55.2.2.2
theorem bf00_56 : ((decode cX11_forget 0 = .ok (.aload_n 0, 1) ∧ decode cX11_forget 1 = .ok (.getfield 39, 3)) ∧ (decode cX11_forget 4 = .ok (.getfield 166, 3) ∧ decode cX11_forget 7 = .ok (.iconst 0, 1))) ∧ ((decode cX11_forget 8 = .ok (.putfield 170, 3) ∧ decode cX11_forget 11 = .ok (.return_, 1)) ∧ (decode cX11_wet 0 = .ok (.aload_n 0, 1) ∧ decode cX11_wet 1 = .ok (.iload_n 1, 1))) := by decide +kernel
theorem dX11_forget_0 : decode cX11_forget 0 = .ok (.aload_n 0, 1) := bf00_56.1.1.1
theorem dX11_forget_1 : decode cX11_forget 1 = .ok (.getfield 39, 3) := bf00_56.1.1.2
theorem dX11_forget_4 : decode cX11_forget 4 = .ok (.getfield 166, 3) := bf00_56.1.2.1
theorem dX11_forget_7 : decode cX11_forget 7 = .ok (.iconst 0, 1) := bf00_56.1.2.2
theorem dX11_forget_8 : decode cX11_forget 8 = .ok (.putfield 170, 3) := bf00_56.2.1.1
theorem dX11_forget_11 : decode cX11_forget 11 = .ok (.return_, 1) := bf00_56.2.1.2
theorem dX11_wet_0 : decode cX11_wet 0 = .ok (.aload_n 0, 1) := bf00_56.2.2.1
theorem dX11_wet_1 : decode cX11_wet 1 = .ok (.iload_n 1, 1) := bf00_56.2.2.2
theorem bf00_57 : (((decode cX11_wet 2 = .ok (.invokevirtual 178, 3) ∧ decode cX11_wet 5 = .ok (.iload_n 2, 1)) ∧ (decode cX11_wet 6 = .ok (.iconst 1, 1) ∧ decode cX11_wet 7 = .ok (.if_icmp .lt 18, 3))) ∧ ((decode cX11_wet 10 = .ok (.iload_n 2, 1) ∧ decode cX11_wet 11 = .ok (.iconst 5, 1)) ∧ (decode cX11_wet 12 = .ok (.if_icmp .gt 13, 3) ∧ decode cX11_wet 15 = .ok (.iload_n 3, 1)))) ∧ (((decode cX11_wet 16 = .ok (.ifCond .lt 9, 3) ∧ decode cX11_wet 19 = .ok (.iload_n 3, 1)) ∧ (decode cX11_wet 20 = .ok (.bipush 10, 2) ∧ decode cX11_wet 22 = .ok (.if_icmp .le 14, 3))) ∧ ((decode cX11_wet 25 = .ok (.new 90, 3) ∧ decode cX11_wet 28 = .ok (.dup, 1)) ∧ (decode cX11_wet 29 = .ok (.ldc_w 305, 3) ∧ decode cX11_wet 32 = .ok (.invokespecial 94, 3)))) := by decide +kernel
theorem dX11_wet_2 : decode cX11_wet 2 = .ok (.invokevirtual 178, 3) := bf00_57.1.1.1.1
theorem dX11_wet_5 : decode cX11_wet 5 = .ok (.iload_n 2, 1) := bf00_57.1.1.1.2
theorem dX11_wet_6 : decode cX11_wet 6 = .ok (.iconst 1, 1) := bf00_57.1.1.2.1
theorem dX11_wet_7 : decode cX11_wet 7 = .ok (.if_icmp .lt 18, 3) := bf00_57.1.1.2.2
theorem dX11_wet_10 : decode cX11_wet 10 = .ok (.iload_n 2, 1) := bf00_57.1.2.1.1
theorem dX11_wet_11 : decode cX11_wet 11 = .ok (.iconst 5, 1) := bf00_57.1.2.1.2
theorem dX11_wet_12 : decode cX11_wet 12 = .ok (.if_icmp .gt 13, 3) := bf00_57.1.2.2.1
theorem dX11_wet_15 : decode cX11_wet 15 = .ok (.iload_n 3, 1) := bf00_57.1.2.2.2
theorem dX11_wet_16 : decode cX11_wet 16 = .ok (.ifCond .lt 9, 3) := bf00_57.2.1.1.1
theorem dX11_wet_19 : decode cX11_wet 19 = .ok (.iload_n 3, 1) := bf00_57.2.1.1.2
theorem dX11_wet_20 : decode cX11_wet 20 = .ok (.bipush 10, 2) := bf00_57.2.1.2.1
theorem dX11_wet_22 : decode cX11_wet 22 = .ok (.if_icmp .le 14, 3) := bf00_57.2.1.2.2
theorem dX11_wet_25 : decode cX11_wet 25 = .ok (.new 90, 3) := bf00_57.2.2.1.1
theorem dX11_wet_28 : decode cX11_wet 28 = .ok (.dup, 1) := bf00_57.2.2.1.2
theorem dX11_wet_29 : decode cX11_wet 29 = .ok (.ldc_w 305, 3) := bf00_57.2.2.2.1
theorem dX11_wet_32 : decode cX11_wet 32 = .ok (.invokespecial 94, 3) := bf00_57.2.2.2.2
theorem bf00_58 : (((decode cX11_wet 35 = .ok (.athrow, 1) ∧ decode cX11_wet 36 = .ok (.iconst 0, 1)) ∧ (decode cX11_wet 37 = .ok (.istore 4, 2) ∧ decode cX11_wet 39 = .ok (.iconst 0, 1))) ∧ ((decode cX11_wet 40 = .ok (.istore 5, 2) ∧ decode cX11_wet 42 = .ok (.iload 5, 2)) ∧ (decode cX11_wet 44 = .ok (.iconst 1, 1) ∧ decode cX11_wet 45 = .ok (.iload_n 2, 1)))) ∧ (((decode cX11_wet 46 = .ok (.ishl, 1) ∧ decode cX11_wet 47 = .ok (.if_icmp .ge 41, 3)) ∧ (decode cX11_wet 50 = .ok (.iload 5, 2) ∧ decode cX11_wet 52 = .ok (.iload_n 2, 1))) ∧ ((decode cX11_wet 53 = .ok (.iload_n 3, 1) ∧ decode cX11_wet 54 = .ok (.invokestatic 307, 3)) ∧ (decode cX11_wet 57 = .ok (.istore 6, 2) ∧ decode cX11_wet 59 = .ok (.iload 6, 2)))) := by decide +kernel
theorem dX11_wet_35 : decode cX11_wet 35 = .ok (.athrow, 1) := bf00_58.1.1.1.1
theorem dX11_wet_36 : decode cX11_wet 36 = .ok (.iconst 0, 1) := bf00_58.1.1.1.2
theorem dX11_wet_37 : decode cX11_wet 37 = .ok (.istore 4, 2) := bf00_58.1.1.2.1
theorem dX11_wet_39 : decode cX11_wet 39 = .ok (.iconst 0, 1) := bf00_58.1.1.2.2
theorem dX11_wet_40 : decode cX11_wet 40 = .ok (.istore 5, 2) := bf00_58.1.2.1.1
theorem dX11_wet_42 : decode cX11_wet 42 = .ok (.iload 5, 2) := bf00_58.1.2.1.2
theorem dX11_wet_44 : decode cX11_wet 44 = .ok (.iconst 1, 1) := bf00_58.1.2.2.1
theorem dX11_wet_45 : decode cX11_wet 45 = .ok (.iload_n 2, 1) := bf00_58.1.2.2.2
theorem dX11_wet_46 : decode cX11_wet 46 = .ok (.ishl, 1) := bf00_58.2.1.1.1
theorem dX11_wet_47 : decode cX11_wet 47 = .ok (.if_icmp .ge 41, 3) := bf00_58.2.1.1.2
theorem dX11_wet_50 : decode cX11_wet 50 = .ok (.iload 5, 2) := bf00_58.2.1.2.1
theorem dX11_wet_52 : decode cX11_wet 52 = .ok (.iload_n 2, 1) := bf00_58.2.1.2.2
theorem dX11_wet_53 : decode cX11_wet 53 = .ok (.iload_n 3, 1) := bf00_58.2.2.1.1
theorem dX11_wet_54 : decode cX11_wet 54 = .ok (.invokestatic 307, 3) := bf00_58.2.2.1.2
theorem dX11_wet_57 : decode cX11_wet 57 = .ok (.istore 6, 2) := bf00_58.2.2.2.1
theorem dX11_wet_59 : decode cX11_wet 59 = .ok (.iload 6, 2) := bf00_58.2.2.2.2
theorem bf00_59 : (((decode cX11_wet 61 = .ok (.ifCond .le 21, 3) ∧ decode cX11_wet 64 = .ok (.aload_n 0, 1)) ∧ (decode cX11_wet 65 = .ok (.iload_n 1, 1) ∧ decode cX11_wet 66 = .ok (.iload_n 2, 1))) ∧ ((decode cX11_wet 67 = .ok (.iload 5, 2) ∧ decode cX11_wet 69 = .ok (.invokevirtual 311, 3)) ∧ (decode cX11_wet 72 = .ok (.ifCond .eq 10, 3) ∧ decode cX11_wet 75 = .ok (.iload 4, 2)))) ∧ (((decode cX11_wet 77 = .ok (.iload 6, 2) ∧ decode cX11_wet 79 = .ok (.iadd, 1)) ∧ (decode cX11_wet 80 = .ok (.istore 4, 2) ∧ decode cX11_wet 82 = .ok (.iinc 5 1, 3))) ∧ ((decode cX11_wet 85 = .ok (.goto (-43), 3) ∧ decode cX11_wet 88 = .ok (.iload 4, 2)) ∧ (decode cX11_wet 90 = .ok (.ireturn, 1)))) := by decide +kernel
theorem dX11_wet_61 : decode cX11_wet 61 = .ok (.ifCond .le 21, 3) := bf00_59.1.1.1.1
theorem dX11_wet_64 : decode cX11_wet 64 = .ok (.aload_n 0, 1) := bf00_59.1.1.1.2
theorem dX11_wet_65 : decode cX11_wet 65 = .ok (.iload_n 1, 1) := bf00_59.1.1.2.1
theorem dX11_wet_66 : decode cX11_wet 66 = .ok (.iload_n 2, 1) := bf00_59.1.1.2.2
theorem dX11_wet_67 : decode cX11_wet 67 = .ok (.iload 5, 2) := bf00_59.1.2.1.1
theorem dX11_wet_69 : decode cX11_wet 69 = .ok (.invokevirtual 311, 3) := bf00_59.1.2.1.2
theorem dX11_wet_72 : decode cX11_wet 72 = .ok (.ifCond .eq 10, 3) := bf00_59.1.2.2.1
theorem dX11_wet_75 : decode cX11_wet 75 = .ok (.iload 4, 2) := bf00_59.1.2.2.2
theorem dX11_wet_77 : decode cX11_wet 77 = .ok (.iload 6, 2) := bf00_59.2.1.1.1
theorem dX11_wet_79 : decode cX11_wet 79 = .ok (.iadd, 1) := bf00_59.2.1.1.2
theorem dX11_wet_80 : decode cX11_wet 80 = .ok (.istore 4, 2) := bf00_59.2.1.2.1
theorem dX11_wet_82 : decode cX11_wet 82 = .ok (.iinc 5 1, 3) := bf00_59.2.1.2.2
theorem dX11_wet_85 : decode cX11_wet 85 = .ok (.goto (-43), 3) := bf00_59.2.2.1.1
theorem dX11_wet_88 : decode cX11_wet 88 = .ok (.iload 4, 2) := bf00_59.2.2.1.2
theorem dX11_wet_90 : decode cX11_wet 90 = .ok (.ireturn, 1) := bf00_59.2.2.2
theorem bf00_60 : (((decode cX11_game 0 = .ok (.aload_n 0, 1) ∧ decode cX11_game 1 = .ok (.iload_n 1, 1)) ∧ (decode cX11_game 2 = .ok (.invokevirtual 178, 3) ∧ decode cX11_game 5 = .ok (.aload_n 0, 1))) ∧ ((decode cX11_game 6 = .ok (.iload_n 2, 1) ∧ decode cX11_game 7 = .ok (.invokevirtual 178, 3)) ∧ (decode cX11_game 10 = .ok (.iload_n 3, 1) ∧ decode cX11_game 11 = .ok (.iconst 1, 1)))) ∧ (((decode cX11_game 12 = .ok (.invokestatic 240, 3) ∧ decode cX11_game 15 = .ok (.iload_n 1, 1)) ∧ (decode cX11_game 16 = .ok (.iload_n 2, 1) ∧ decode cX11_game 17 = .ok (.if_icmp .ne 14, 3))) ∧ ((decode cX11_game 20 = .ok (.new 90, 3) ∧ decode cX11_game 23 = .ok (.dup, 1)) ∧ (decode cX11_game 24 = .ok (.ldc_w 315, 3) ∧ decode cX11_game 27 = .ok (.invokespecial 94, 3)))) := by decide +kernel
theorem dX11_game_0 : decode cX11_game 0 = .ok (.aload_n 0, 1) := bf00_60.1.1.1.1
theorem dX11_game_1 : decode cX11_game 1 = .ok (.iload_n 1, 1) := bf00_60.1.1.1.2
theorem dX11_game_2 : decode cX11_game 2 = .ok (.invokevirtual 178, 3) := bf00_60.1.1.2.1
theorem dX11_game_5 : decode cX11_game 5 = .ok (.aload_n 0, 1) := bf00_60.1.1.2.2
theorem dX11_game_6 : decode cX11_game 6 = .ok (.iload_n 2, 1) := bf00_60.1.2.1.1
theorem dX11_game_7 : decode cX11_game 7 = .ok (.invokevirtual 178, 3) := bf00_60.1.2.1.2
theorem dX11_game_10 : decode cX11_game 10 = .ok (.iload_n 3, 1) := bf00_60.1.2.2.1
theorem dX11_game_11 : decode cX11_game 11 = .ok (.iconst 1, 1) := bf00_60.1.2.2.2
theorem dX11_game_12 : decode cX11_game 12 = .ok (.invokestatic 240, 3) := bf00_60.2.1.1.1
theorem dX11_game_15 : decode cX11_game 15 = .ok (.iload_n 1, 1) := bf00_60.2.1.1.2
theorem dX11_game_16 : decode cX11_game 16 = .ok (.iload_n 2, 1) := bf00_60.2.1.2.1
theorem dX11_game_17 : decode cX11_game 17 = .ok (.if_icmp .ne 14, 3) := bf00_60.2.1.2.2
theorem dX11_game_20 : decode cX11_game 20 = .ok (.new 90, 3) := bf00_60.2.2.1.1
theorem dX11_game_23 : decode cX11_game 23 = .ok (.dup, 1) := bf00_60.2.2.1.2
theorem dX11_game_24 : decode cX11_game 24 = .ok (.ldc_w 315, 3) := bf00_60.2.2.2.1
theorem dX11_game_27 : decode cX11_game 27 = .ok (.invokespecial 94, 3) := bf00_60.2.2.2.2
theorem bf00_61 : (((decode cX11_game 30 = .ok (.athrow, 1) ∧ decode cX11_game 31 = .ok (.iconst 0, 1)) ∧ (decode cX11_game 32 = .ok (.istore 4, 2) ∧ decode cX11_game 34 = .ok (.iconst (-1), 1))) ∧ ((decode cX11_game 35 = .ok (.istore 5, 2) ∧ decode cX11_game 37 = .ok (.iconst 0, 1)) ∧ (decode cX11_game 38 = .ok (.istore 6, 2) ∧ decode cX11_game 40 = .ok (.iload 6, 2)))) ∧ (((decode cX11_game 42 = .ok (.iconst 4, 1) ∧ decode cX11_game 43 = .ok (.if_icmp .ge 17, 3)) ∧ (decode cX11_game 46 = .ok (.aload_n 0, 1) ∧ decode cX11_game 47 = .ok (.iload_n 1, 1))) ∧ ((decode cX11_game 48 = .ok (.iload_n 2, 1) ∧ decode cX11_game 49 = .ok (.iload 6, 2)) ∧ (decode cX11_game 51 = .ok (.invokevirtual 317, 3) ∧ decode cX11_game 54 = .ok (.iinc 6 1, 3)))) := by decide +kernel
theorem dX11_game_30 : decode cX11_game 30 = .ok (.athrow, 1) := bf00_61.1.1.1.1
theorem dX11_game_31 : decode cX11_game 31 = .ok (.iconst 0, 1) := bf00_61.1.1.1.2
theorem dX11_game_32 : decode cX11_game 32 = .ok (.istore 4, 2) := bf00_61.1.1.2.1
theorem dX11_game_34 : decode cX11_game 34 = .ok (.iconst (-1), 1) := bf00_61.1.1.2.2
theorem dX11_game_35 : decode cX11_game 35 = .ok (.istore 5, 2) := bf00_61.1.2.1.1
theorem dX11_game_37 : decode cX11_game 37 = .ok (.iconst 0, 1) := bf00_61.1.2.1.2
theorem dX11_game_38 : decode cX11_game 38 = .ok (.istore 6, 2) := bf00_61.1.2.2.1
theorem dX11_game_40 : decode cX11_game 40 = .ok (.iload 6, 2) := bf00_61.1.2.2.2
theorem dX11_game_42 : decode cX11_game 42 = .ok (.iconst 4, 1) := bf00_61.2.1.1.1
theorem dX11_game_43 : decode cX11_game 43 = .ok (.if_icmp .ge 17, 3) := bf00_61.2.1.1.2
theorem dX11_game_46 : decode cX11_game 46 = .ok (.aload_n 0, 1) := bf00_61.2.1.2.1
theorem dX11_game_47 : decode cX11_game 47 = .ok (.iload_n 1, 1) := bf00_61.2.1.2.2
theorem dX11_game_48 : decode cX11_game 48 = .ok (.iload_n 2, 1) := bf00_61.2.2.1.1
theorem dX11_game_49 : decode cX11_game 49 = .ok (.iload 6, 2) := bf00_61.2.2.1.2
theorem dX11_game_51 : decode cX11_game 51 = .ok (.invokevirtual 317, 3) := bf00_61.2.2.2.1
theorem dX11_game_54 : decode cX11_game 54 = .ok (.iinc 6 1, 3) := bf00_61.2.2.2.2
theorem bf00_62 : (((decode cX11_game 57 = .ok (.goto (-17), 3) ∧ decode cX11_game 60 = .ok (.iconst 0, 1)) ∧ (decode cX11_game 61 = .ok (.istore 6, 2) ∧ decode cX11_game 63 = .ok (.iload 6, 2))) ∧ ((decode cX11_game 65 = .ok (.iconst 4, 1) ∧ decode cX11_game 66 = .ok (.if_icmp .ge 46, 3)) ∧ (decode cX11_game 69 = .ok (.aload_n 0, 1) ∧ decode cX11_game 70 = .ok (.iload 6, 2)))) ∧ (((decode cX11_game 72 = .ok (.invokevirtual 320, 3) ∧ decode cX11_game 75 = .ok (.ifCond .eq 31, 3)) ∧ (decode cX11_game 78 = .ok (.iinc 4 1, 3) ∧ decode cX11_game 81 = .ok (.iload 5, 2))) ∧ ((decode cX11_game 83 = .ok (.iconst (-1), 1) ∧ decode cX11_game 84 = .ok (.if_icmp .ne 18, 3)) ∧ (decode cX11_game 87 = .ok (.bipush 10, 2) ∧ decode cX11_game 89 = .ok (.iload 6, 2)))) := by decide +kernel
theorem dX11_game_57 : decode cX11_game 57 = .ok (.goto (-17), 3) := bf00_62.1.1.1.1
theorem dX11_game_60 : decode cX11_game 60 = .ok (.iconst 0, 1) := bf00_62.1.1.1.2
theorem dX11_game_61 : decode cX11_game 61 = .ok (.istore 6, 2) := bf00_62.1.1.2.1
theorem dX11_game_63 : decode cX11_game 63 = .ok (.iload 6, 2) := bf00_62.1.1.2.2
theorem dX11_game_65 : decode cX11_game 65 = .ok (.iconst 4, 1) := bf00_62.1.2.1.1
theorem dX11_game_66 : decode cX11_game 66 = .ok (.if_icmp .ge 46, 3) := bf00_62.1.2.1.2
theorem dX11_game_69 : decode cX11_game 69 = .ok (.aload_n 0, 1) := bf00_62.1.2.2.1
theorem dX11_game_70 : decode cX11_game 70 = .ok (.iload 6, 2) := bf00_62.1.2.2.2
theorem dX11_game_72 : decode cX11_game 72 = .ok (.invokevirtual 320, 3) := bf00_62.2.1.1.1
theorem dX11_game_75 : decode cX11_game 75 = .ok (.ifCond .eq 31, 3) := bf00_62.2.1.1.2
theorem dX11_game_78 : decode cX11_game 78 = .ok (.iinc 4 1, 3) := bf00_62.2.1.2.1
theorem dX11_game_81 : decode cX11_game 81 = .ok (.iload 5, 2) := bf00_62.2.1.2.2
theorem dX11_game_83 : decode cX11_game 83 = .ok (.iconst (-1), 1) := bf00_62.2.2.1.1
theorem dX11_game_84 : decode cX11_game 84 = .ok (.if_icmp .ne 18, 3) := bf00_62.2.2.1.2
theorem dX11_game_87 : decode cX11_game 87 = .ok (.bipush 10, 2) := bf00_62.2.2.2.1
theorem dX11_game_89 : decode cX11_game 89 = .ok (.iload 6, 2) := bf00_62.2.2.2.2
theorem bf00_63 : (((decode cX11_game 91 = .ok (.iconst 1, 1) ∧ decode cX11_game 92 = .ok (.ishr, 1)) ∧ (decode cX11_game 93 = .ok (.imul, 1) ∧ decode cX11_game 94 = .ok (.iload 6, 2))) ∧ ((decode cX11_game 96 = .ok (.iconst 1, 1) ∧ decode cX11_game 97 = .ok (.iand, 1)) ∧ (decode cX11_game 98 = .ok (.iadd, 1) ∧ decode cX11_game 99 = .ok (.goto 5, 3)))) ∧ (((decode cX11_game 102 = .ok (.iload 5, 2) ∧ decode cX11_game 104 = .ok (.istore 5, 2)) ∧ (decode cX11_game 106 = .ok (.iinc 6 1, 3) ∧ decode cX11_game 109 = .ok (.goto (-46), 3))) ∧ ((decode cX11_game 112 = .ok (.iload_n 3, 1) ∧ decode cX11_game 113 = .ok (.ifCond .ne 8, 3)) ∧ (decode cX11_game 116 = .ok (.iload 4, 2) ∧ decode cX11_game 118 = .ok (.goto 5, 3)))) := by decide +kernel
theorem dX11_game_91 : decode cX11_game 91 = .ok (.iconst 1, 1) := bf00_63.1.1.1.1
theorem dX11_game_92 : decode cX11_game 92 = .ok (.ishr, 1) := bf00_63.1.1.1.2
theorem dX11_game_93 : decode cX11_game 93 = .ok (.imul, 1) := bf00_63.1.1.2.1
theorem dX11_game_94 : decode cX11_game 94 = .ok (.iload 6, 2) := bf00_63.1.1.2.2
theorem dX11_game_96 : decode cX11_game 96 = .ok (.iconst 1, 1) := bf00_63.1.2.1.1
theorem dX11_game_97 : decode cX11_game 97 = .ok (.iand, 1) := bf00_63.1.2.1.2
theorem dX11_game_98 : decode cX11_game 98 = .ok (.iadd, 1) := bf00_63.1.2.2.1
theorem dX11_game_99 : decode cX11_game 99 = .ok (.goto 5, 3) := bf00_63.1.2.2.2
theorem dX11_game_102 : decode cX11_game 102 = .ok (.iload 5, 2) := bf00_63.2.1.1.1
theorem dX11_game_104 : decode cX11_game 104 = .ok (.istore 5, 2) := bf00_63.2.1.1.2
theorem dX11_game_106 : decode cX11_game 106 = .ok (.iinc 6 1, 3) := bf00_63.2.1.2.1
theorem dX11_game_109 : decode cX11_game 109 = .ok (.goto (-46), 3) := bf00_63.2.1.2.2
theorem dX11_game_112 : decode cX11_game 112 = .ok (.iload_n 3, 1) := bf00_63.2.2.1.1
theorem dX11_game_113 : decode cX11_game 113 = .ok (.ifCond .ne 8, 3) := bf00_63.2.2.1.2
theorem dX11_game_116 : decode cX11_game 116 = .ok (.iload 4, 2) := bf00_63.2.2.2.1
theorem dX11_game_118 : decode cX11_game 118 = .ok (.goto 5, 3) := bf00_63.2.2.2.2
theorem bf00_64 : ((decode cX11_game 121 = .ok (.iload 5, 2) ∧ decode cX11_game 123 = .ok (.ireturn, 1)) ∧ (decode cX11_ages 0 = .ok (.iload_n 3, 1) ∧ decode cX11_ages 1 = .ok (.iconst 2, 1))) ∧ ((decode cX11_ages 2 = .ok (.invokestatic 240, 3) ∧ decode cX11_ages 5 = .ok (.iload_n 2, 1)) ∧ (decode cX11_ages 6 = .ok (.iconst 0, 1) ∧ decode cX11_ages 7 = .ok (.invokestatic 258, 3))) := by decide +kernel
theorem dX11_game_121 : decode cX11_game 121 = .ok (.iload 5, 2) := bf00_64.1.1.1
theorem dX11_game_123 : decode cX11_game 123 = .ok (.ireturn, 1) := bf00_64.1.1.2
theorem dX11_ages_0 : decode cX11_ages 0 = .ok (.iload_n 3, 1) := bf00_64.1.2.1
theorem dX11_ages_1 : decode cX11_ages 1 = .ok (.iconst 2, 1) := bf00_64.1.2.2
theorem dX11_ages_2 : decode cX11_ages 2 = .ok (.invokestatic 240, 3) := bf00_64.2.1.1
theorem dX11_ages_5 : decode cX11_ages 5 = .ok (.iload_n 2, 1) := bf00_64.2.1.2
theorem dX11_ages_6 : decode cX11_ages 6 = .ok (.iconst 0, 1) := bf00_64.2.2.1
theorem dX11_ages_7 : decode cX11_ages 7 = .ok (.invokestatic 258, 3) := bf00_64.2.2.2
theorem bf00_65 : (((decode cX11_ages 10 = .ok (.aload_n 0, 1) ∧ decode cX11_ages 11 = .ok (.getfield 75, 3)) ∧ (decode cX11_ages 14 = .ok (.iload_n 1, 1) ∧ decode cX11_ages 15 = .ok (.putfield 324, 3))) ∧ ((decode cX11_ages 18 = .ok (.aload_n 0, 1) ∧ decode cX11_ages 19 = .ok (.getfield 55, 3)) ∧ (decode cX11_ages 22 = .ok (.aload_n 0, 1) ∧ decode cX11_ages 23 = .ok (.getfield 39, 3)))) ∧ (((decode cX11_ages 26 = .ok (.getfield 61, 3) ∧ decode cX11_ages 29 = .ok (.invokevirtual 224, 3)) ∧ (decode cX11_ages 32 = .ok (.iconst 0, 1) ∧ decode cX11_ages 33 = .ok (.istore 4, 2))) ∧ ((decode cX11_ages 35 = .ok (.iload 4, 2) ∧ decode cX11_ages 37 = .ok (.iload_n 2, 1)) ∧ (decode cX11_ages 38 = .ok (.if_icmp .ge 20, 3) ∧ decode cX11_ages 41 = .ok (.aload_n 0, 1)))) := by decide +kernel
theorem dX11_ages_10 : decode cX11_ages 10 = .ok (.aload_n 0, 1) := bf00_65.1.1.1.1
theorem dX11_ages_11 : decode cX11_ages 11 = .ok (.getfield 75, 3) := bf00_65.1.1.1.2
theorem dX11_ages_14 : decode cX11_ages 14 = .ok (.iload_n 1, 1) := bf00_65.1.1.2.1
theorem dX11_ages_15 : decode cX11_ages 15 = .ok (.putfield 324, 3) := bf00_65.1.1.2.2
theorem dX11_ages_18 : decode cX11_ages 18 = .ok (.aload_n 0, 1) := bf00_65.1.2.1.1
theorem dX11_ages_19 : decode cX11_ages 19 = .ok (.getfield 55, 3) := bf00_65.1.2.1.2
theorem dX11_ages_22 : decode cX11_ages 22 = .ok (.aload_n 0, 1) := bf00_65.1.2.2.1
theorem dX11_ages_23 : decode cX11_ages 23 = .ok (.getfield 39, 3) := bf00_65.1.2.2.2
theorem dX11_ages_26 : decode cX11_ages 26 = .ok (.getfield 61, 3) := bf00_65.2.1.1.1
theorem dX11_ages_29 : decode cX11_ages 29 = .ok (.invokevirtual 224, 3) := bf00_65.2.1.1.2
theorem dX11_ages_32 : decode cX11_ages 32 = .ok (.iconst 0, 1) := bf00_65.2.1.2.1
theorem dX11_ages_33 : decode cX11_ages 33 = .ok (.istore 4, 2) := bf00_65.2.1.2.2
theorem dX11_ages_35 : decode cX11_ages 35 = .ok (.iload 4, 2) := bf00_65.2.2.1.1
theorem dX11_ages_37 : decode cX11_ages 37 = .ok (.iload_n 2, 1) := bf00_65.2.2.1.2
theorem dX11_ages_38 : decode cX11_ages 38 = .ok (.if_icmp .ge 20, 3) := bf00_65.2.2.2.1
theorem dX11_ages_41 : decode cX11_ages 41 = .ok (.aload_n 0, 1) := bf00_65.2.2.2.2
theorem bf00_66 : (((decode cX11_ages 42 = .ok (.getfield 55, 3) ∧ decode cX11_ages 45 = .ok (.aload_n 0, 1)) ∧ (decode cX11_ages 46 = .ok (.getfield 75, 3) ∧ decode cX11_ages 49 = .ok (.invokevirtual 327, 3))) ∧ ((decode cX11_ages 52 = .ok (.iinc 4 1, 3) ∧ decode cX11_ages 55 = .ok (.goto (-20), 3)) ∧ (decode cX11_ages 58 = .ok (.iload_n 3, 1) ∧ decode cX11_ages 59 = .ok (.lookupswitch 47 #[(0, 25), (1, 39)], 25)))) ∧ (((decode cX11_ages 84 = .ok (.aload_n 0, 1) ∧ decode cX11_ages 85 = .ok (.getfield 55, 3)) ∧ (decode cX11_ages 88 = .ok (.getfield 230, 3) ∧ decode cX11_ages 91 = .ok (.invokevirtual 136, 3))) ∧ ((decode cX11_ages 94 = .ok (.invokestatic 140, 3) ∧ decode cX11_ages 97 = .ok (.ireturn, 1)) ∧ (decode cX11_ages 98 = .ok (.aload_n 0, 1) ∧ decode cX11_ages 99 = .ok (.getfield 55, 3)))) := by decide +kernel
theorem dX11_ages_42 : decode cX11_ages 42 = .ok (.getfield 55, 3) := bf00_66.1.1.1.1
theorem dX11_ages_45 : decode cX11_ages 45 = .ok (.aload_n 0, 1) := bf00_66.1.1.1.2
theorem dX11_ages_46 : decode cX11_ages 46 = .ok (.getfield 75, 3) := bf00_66.1.1.2.1
theorem dX11_ages_49 : decode cX11_ages 49 = .ok (.invokevirtual 327, 3) := bf00_66.1.1.2.2
theorem dX11_ages_52 : decode cX11_ages 52 = .ok (.iinc 4 1, 3) := bf00_66.1.2.1.1
theorem dX11_ages_55 : decode cX11_ages 55 = .ok (.goto (-20), 3) := bf00_66.1.2.1.2
theorem dX11_ages_58 : decode cX11_ages 58 = .ok (.iload_n 3, 1) := bf00_66.1.2.2.1
theorem dX11_ages_59 : decode cX11_ages 59 = .ok (.lookupswitch 47 #[(0, 25), (1, 39)], 25) := bf00_66.1.2.2.2
theorem dX11_ages_84 : decode cX11_ages 84 = .ok (.aload_n 0, 1) := bf00_66.2.1.1.1
theorem dX11_ages_85 : decode cX11_ages 85 = .ok (.getfield 55, 3) := bf00_66.2.1.1.2
theorem dX11_ages_88 : decode cX11_ages 88 = .ok (.getfield 230, 3) := bf00_66.2.1.2.1
theorem dX11_ages_91 : decode cX11_ages 91 = .ok (.invokevirtual 136, 3) := bf00_66.2.1.2.2
theorem dX11_ages_94 : decode cX11_ages 94 = .ok (.invokestatic 140, 3) := bf00_66.2.2.1.1
theorem dX11_ages_97 : decode cX11_ages 97 = .ok (.ireturn, 1) := bf00_66.2.2.1.2
theorem dX11_ages_98 : decode cX11_ages 98 = .ok (.aload_n 0, 1) := bf00_66.2.2.2.1
theorem dX11_ages_99 : decode cX11_ages 99 = .ok (.getfield 55, 3) := bf00_66.2.2.2.2
theorem bf00_67 : ((decode cX11_ages 102 = .ok (.getfield 331, 3) ∧ decode cX11_ages 105 = .ok (.ireturn, 1)) ∧ (decode cX11_ages 106 = .ok (.aload_n 0, 1) ∧ decode cX11_ages 107 = .ok (.getfield 55, 3))) ∧ ((decode cX11_ages 110 = .ok (.getfield 230, 3) ∧ decode cX11_ages 113 = .ok (.invokevirtual 148, 3)) ∧ (decode cX11_ages 116 = .ok (.ireturn, 1) ∧ decode cX11_image 0 = .ok (.aload_n 0, 1))) := by decide +kernel
theorem dX11_ages_102 : decode cX11_ages 102 = .ok (.getfield 331, 3) := bf00_67.1.1.1
theorem dX11_ages_105 : decode cX11_ages 105 = .ok (.ireturn, 1) := bf00_67.1.1.2
theorem dX11_ages_106 : decode cX11_ages 106 = .ok (.aload_n 0, 1) := bf00_67.1.2.1
theorem dX11_ages_107 : decode cX11_ages 107 = .ok (.getfield 55, 3) := bf00_67.1.2.2
theorem dX11_ages_110 : decode cX11_ages 110 = .ok (.getfield 230, 3) := bf00_67.2.1.1
theorem dX11_ages_113 : decode cX11_ages 113 = .ok (.invokevirtual 148, 3) := bf00_67.2.1.2
theorem dX11_ages_116 : decode cX11_ages 116 = .ok (.ireturn, 1) := bf00_67.2.2.1
theorem dX11_image_0 : decode cX11_image 0 = .ok (.aload_n 0, 1) := bf00_67.2.2.2
theorem bf00_68 : ((decode cX11_image 1 = .ok (.getfield 43, 3) ∧ decode cX11_image 4 = .ok (.aload_n 0, 1)) ∧ (decode cX11_image 5 = .ok (.getfield 39, 3) ∧ decode cX11_image 8 = .ok (.invokevirtual 334, 3))) ∧ ((decode cX11_image 11 = .ok (.aload_n 0, 1) ∧ decode cX11_image 12 = .ok (.iconst 1, 1)) ∧ (decode cX11_image 13 = .ok (.putfield 46, 3) ∧ decode cX11_image 16 = .ok (.return_, 1))) := by decide +kernel
theorem dX11_image_1 : decode cX11_image 1 = .ok (.getfield 43, 3) := bf00_68.1.1.1
theorem dX11_image_4 : decode cX11_image 4 = .ok (.aload_n 0, 1) := bf00_68.1.1.2
theorem dX11_image_5 : decode cX11_image 5 = .ok (.getfield 39, 3) := bf00_68.1.2.1
theorem dX11_image_8 : decode cX11_image 8 = .ok (.invokevirtual 334, 3) := bf00_68.1.2.2
theorem dX11_image_11 : decode cX11_image 11 = .ok (.aload_n 0, 1) := bf00_68.2.1.1
theorem dX11_image_12 : decode cX11_image 12 = .ok (.iconst 1, 1) := bf00_68.2.1.2
theorem dX11_image_13 : decode cX11_image 13 = .ok (.putfield 46, 3) := bf00_68.2.2.1
theorem dX11_image_16 : decode cX11_image 16 = .ok (.return_, 1) := bf00_68.2.2.2
theorem bf00_69 : (((decode cX11_restore 0 = .ok (.aload_n 0, 1) ∧ decode cX11_restore 1 = .ok (.getfield 46, 3)) ∧ (decode cX11_restore 4 = .ok (.ifCond .eq 14, 3))) ∧ ((decode cX11_restore 7 = .ok (.aload_n 0, 1) ∧ decode cX11_restore 8 = .ok (.getfield 39, 3)) ∧ (decode cX11_restore 11 = .ok (.aload_n 0, 1)))) ∧ (((decode cX11_restore 12 = .ok (.getfield 43, 3) ∧ decode cX11_restore 15 = .ok (.invokevirtual 334, 3)) ∧ (decode cX11_restore 18 = .ok (.aload_n 0, 1))) ∧ (decode cX11_restore 19 = .ok (.getfield 46, 3) ∧ decode cX11_restore 22 = .ok (.ireturn, 1))) := by decide +kernel
theorem dX11_restore_0 : decode cX11_restore 0 = .ok (.aload_n 0, 1) := bf00_69.1.1.1.1
theorem dX11_restore_1 : decode cX11_restore 1 = .ok (.getfield 46, 3) := bf00_69.1.1.1.2
theorem dX11_restore_4 : decode cX11_restore 4 = .ok (.ifCond .eq 14, 3) := bf00_69.1.1.2
theorem dX11_restore_7 : decode cX11_restore 7 = .ok (.aload_n 0, 1) := bf00_69.1.2.1.1
theorem dX11_restore_8 : decode cX11_restore 8 = .ok (.getfield 39, 3) := bf00_69.1.2.1.2
theorem dX11_restore_11 : decode cX11_restore 11 = .ok (.aload_n 0, 1) := bf00_69.1.2.2
theorem dX11_restore_12 : decode cX11_restore 12 = .ok (.getfield 43, 3) := bf00_69.2.1.1.1
theorem dX11_restore_15 : decode cX11_restore 15 = .ok (.invokevirtual 334, 3) := bf00_69.2.1.1.2
theorem dX11_restore_18 : decode cX11_restore 18 = .ok (.aload_n 0, 1) := bf00_69.2.1.2
theorem dX11_restore_19 : decode cX11_restore 19 = .ok (.getfield 46, 3) := bf00_69.2.2.1
theorem dX11_restore_22 : decode cX11_restore 22 = .ok (.ireturn, 1) := bf00_69.2.2.2
theorem bf00_70 : (((decode cX11_needGargoyle 0 = .ok (.iload_n 1, 1) ∧ decode cX11_needGargoyle 1 = .ok (.ifCond .lt 17, 3)) ∧ (decode cX11_needGargoyle 4 = .ok (.iload_n 1, 1) ∧ decode cX11_needGargoyle 5 = .ok (.aload_n 0, 1))) ∧ ((decode cX11_needGargoyle 6 = .ok (.getfield 39, 3) ∧ decode cX11_needGargoyle 9 = .ok (.getfield 61, 3)) ∧ (decode cX11_needGargoyle 12 = .ok (.getfield 119, 3)))) ∧ (((decode cX11_needGargoyle 15 = .ok (.if_icmp .lt 14, 3) ∧ decode cX11_needGargoyle 18 = .ok (.new 173, 3)) ∧ (decode cX11_needGargoyle 21 = .ok (.dup, 1) ∧ decode cX11_needGargoyle 22 = .ok (.ldc_w 337, 3))) ∧ ((decode cX11_needGargoyle 25 = .ok (.invokespecial 177, 3) ∧ decode cX11_needGargoyle 28 = .ok (.athrow, 1)) ∧ (decode cX11_needGargoyle 29 = .ok (.return_, 1)))) := by decide +kernel
theorem dX11_needGargoyle_0 : decode cX11_needGargoyle 0 = .ok (.iload_n 1, 1) := bf00_70.1.1.1.1
theorem dX11_needGargoyle_1 : decode cX11_needGargoyle 1 = .ok (.ifCond .lt 17, 3) := bf00_70.1.1.1.2
theorem dX11_needGargoyle_4 : decode cX11_needGargoyle 4 = .ok (.iload_n 1, 1) := bf00_70.1.1.2.1
theorem dX11_needGargoyle_5 : decode cX11_needGargoyle 5 = .ok (.aload_n 0, 1) := bf00_70.1.1.2.2
theorem dX11_needGargoyle_6 : decode cX11_needGargoyle 6 = .ok (.getfield 39, 3) := bf00_70.1.2.1.1
theorem dX11_needGargoyle_9 : decode cX11_needGargoyle 9 = .ok (.getfield 61, 3) := bf00_70.1.2.1.2
theorem dX11_needGargoyle_12 : decode cX11_needGargoyle 12 = .ok (.getfield 119, 3) := bf00_70.1.2.2
theorem dX11_needGargoyle_15 : decode cX11_needGargoyle 15 = .ok (.if_icmp .lt 14, 3) := bf00_70.2.1.1.1
theorem dX11_needGargoyle_18 : decode cX11_needGargoyle 18 = .ok (.new 173, 3) := bf00_70.2.1.1.2
theorem dX11_needGargoyle_21 : decode cX11_needGargoyle 21 = .ok (.dup, 1) := bf00_70.2.1.2.1
theorem dX11_needGargoyle_22 : decode cX11_needGargoyle 22 = .ok (.ldc_w 337, 3) := bf00_70.2.1.2.2
theorem dX11_needGargoyle_25 : decode cX11_needGargoyle 25 = .ok (.invokespecial 177, 3) := bf00_70.2.2.1.1
theorem dX11_needGargoyle_28 : decode cX11_needGargoyle 28 = .ok (.athrow, 1) := bf00_70.2.2.1.2
theorem dX11_needGargoyle_29 : decode cX11_needGargoyle 29 = .ok (.return_, 1) := bf00_70.2.2.2
theorem bf00_71 : (((decode cX11_needPerson 0 = .ok (.iload_n 1, 1) ∧ decode cX11_needPerson 1 = .ok (.ifCond .lt 17, 3)) ∧ (decode cX11_needPerson 4 = .ok (.iload_n 1, 1) ∧ decode cX11_needPerson 5 = .ok (.aload_n 0, 1))) ∧ ((decode cX11_needPerson 6 = .ok (.getfield 39, 3) ∧ decode cX11_needPerson 9 = .ok (.getfield 61, 3)) ∧ (decode cX11_needPerson 12 = .ok (.getfield 124, 3)))) ∧ (((decode cX11_needPerson 15 = .ok (.if_icmp .lt 14, 3) ∧ decode cX11_needPerson 18 = .ok (.new 173, 3)) ∧ (decode cX11_needPerson 21 = .ok (.dup, 1) ∧ decode cX11_needPerson 22 = .ok (.ldc_w 339, 3))) ∧ ((decode cX11_needPerson 25 = .ok (.invokespecial 177, 3) ∧ decode cX11_needPerson 28 = .ok (.athrow, 1)) ∧ (decode cX11_needPerson 29 = .ok (.return_, 1)))) := by decide +kernel
theorem dX11_needPerson_0 : decode cX11_needPerson 0 = .ok (.iload_n 1, 1) := bf00_71.1.1.1.1
theorem dX11_needPerson_1 : decode cX11_needPerson 1 = .ok (.ifCond .lt 17, 3) := bf00_71.1.1.1.2
theorem dX11_needPerson_4 : decode cX11_needPerson 4 = .ok (.iload_n 1, 1) := bf00_71.1.1.2.1
theorem dX11_needPerson_5 : decode cX11_needPerson 5 = .ok (.aload_n 0, 1) := bf00_71.1.1.2.2
theorem dX11_needPerson_6 : decode cX11_needPerson 6 = .ok (.getfield 39, 3) := bf00_71.1.2.1.1
theorem dX11_needPerson_9 : decode cX11_needPerson 9 = .ok (.getfield 61, 3) := bf00_71.1.2.1.2
theorem dX11_needPerson_12 : decode cX11_needPerson 12 = .ok (.getfield 124, 3) := bf00_71.1.2.2
theorem dX11_needPerson_15 : decode cX11_needPerson 15 = .ok (.if_icmp .lt 14, 3) := bf00_71.2.1.1.1
theorem dX11_needPerson_18 : decode cX11_needPerson 18 = .ok (.new 173, 3) := bf00_71.2.1.1.2
theorem dX11_needPerson_21 : decode cX11_needPerson 21 = .ok (.dup, 1) := bf00_71.2.1.2.1
theorem dX11_needPerson_22 : decode cX11_needPerson 22 = .ok (.ldc_w 339, 3) := bf00_71.2.1.2.2
theorem dX11_needPerson_25 : decode cX11_needPerson 25 = .ok (.invokespecial 177, 3) := bf00_71.2.2.1.1
theorem dX11_needPerson_28 : decode cX11_needPerson 28 = .ok (.athrow, 1) := bf00_71.2.2.1.2
theorem dX11_needPerson_29 : decode cX11_needPerson 29 = .ok (.return_, 1) := bf00_71.2.2.2
theorem bf00_72 : (((decode cX11_needWhat 0 = .ok (.iload_n 0, 1) ∧ decode cX11_needWhat 1 = .ok (.ifCond .lt 8, 3)) ∧ (decode cX11_needWhat 4 = .ok (.iload_n 0, 1))) ∧ ((decode cX11_needWhat 5 = .ok (.iload_n 1, 1) ∧ decode cX11_needWhat 6 = .ok (.if_icmp .le 14, 3)) ∧ (decode cX11_needWhat 9 = .ok (.new 173, 3)))) ∧ (((decode cX11_needWhat 12 = .ok (.dup, 1) ∧ decode cX11_needWhat 13 = .ok (.ldc_w 341, 3)) ∧ (decode cX11_needWhat 16 = .ok (.invokespecial 177, 3))) ∧ (decode cX11_needWhat 19 = .ok (.athrow, 1) ∧ decode cX11_needWhat 20 = .ok (.return_, 1))) := by decide +kernel
theorem dX11_needWhat_0 : decode cX11_needWhat 0 = .ok (.iload_n 0, 1) := bf00_72.1.1.1.1
theorem dX11_needWhat_1 : decode cX11_needWhat 1 = .ok (.ifCond .lt 8, 3) := bf00_72.1.1.1.2
theorem dX11_needWhat_4 : decode cX11_needWhat 4 = .ok (.iload_n 0, 1) := bf00_72.1.1.2
theorem dX11_needWhat_5 : decode cX11_needWhat 5 = .ok (.iload_n 1, 1) := bf00_72.1.2.1.1
theorem dX11_needWhat_6 : decode cX11_needWhat 6 = .ok (.if_icmp .le 14, 3) := bf00_72.1.2.1.2
theorem dX11_needWhat_9 : decode cX11_needWhat 9 = .ok (.new 173, 3) := bf00_72.1.2.2
theorem dX11_needWhat_12 : decode cX11_needWhat 12 = .ok (.dup, 1) := bf00_72.2.1.1.1
theorem dX11_needWhat_13 : decode cX11_needWhat 13 = .ok (.ldc_w 341, 3) := bf00_72.2.1.1.2
theorem dX11_needWhat_16 : decode cX11_needWhat 16 = .ok (.invokespecial 177, 3) := bf00_72.2.1.2
theorem dX11_needWhat_19 : decode cX11_needWhat 19 = .ok (.athrow, 1) := bf00_72.2.2.1
theorem dX11_needWhat_20 : decode cX11_needWhat 20 = .ok (.return_, 1) := bf00_72.2.2.2
theorem bf00_73 : (((decode cX11_needYears 0 = .ok (.iload_n 0, 1) ∧ decode cX11_needYears 1 = .ok (.iload_n 1, 1)) ∧ (decode cX11_needYears 2 = .ok (.if_icmp .lt 9, 3))) ∧ ((decode cX11_needYears 5 = .ok (.iload_n 0, 1) ∧ decode cX11_needYears 6 = .ok (.bipush 60, 2)) ∧ (decode cX11_needYears 8 = .ok (.if_icmp .le 14, 3)))) ∧ (((decode cX11_needYears 11 = .ok (.new 90, 3) ∧ decode cX11_needYears 14 = .ok (.dup, 1)) ∧ (decode cX11_needYears 15 = .ok (.ldc_w 343, 3))) ∧ ((decode cX11_needYears 18 = .ok (.invokespecial 94, 3) ∧ decode cX11_needYears 21 = .ok (.athrow, 1)) ∧ (decode cX11_needYears 22 = .ok (.return_, 1)))) := by decide +kernel
theorem dX11_needYears_0 : decode cX11_needYears 0 = .ok (.iload_n 0, 1) := bf00_73.1.1.1.1
theorem dX11_needYears_1 : decode cX11_needYears 1 = .ok (.iload_n 1, 1) := bf00_73.1.1.1.2
theorem dX11_needYears_2 : decode cX11_needYears 2 = .ok (.if_icmp .lt 9, 3) := bf00_73.1.1.2
theorem dX11_needYears_5 : decode cX11_needYears 5 = .ok (.iload_n 0, 1) := bf00_73.1.2.1.1
theorem dX11_needYears_6 : decode cX11_needYears 6 = .ok (.bipush 60, 2) := bf00_73.1.2.1.2
theorem dX11_needYears_8 : decode cX11_needYears 8 = .ok (.if_icmp .le 14, 3) := bf00_73.1.2.2
theorem dX11_needYears_11 : decode cX11_needYears 11 = .ok (.new 90, 3) := bf00_73.2.1.1.1
theorem dX11_needYears_14 : decode cX11_needYears 14 = .ok (.dup, 1) := bf00_73.2.1.1.2
theorem dX11_needYears_15 : decode cX11_needYears 15 = .ok (.ldc_w 343, 3) := bf00_73.2.1.2
theorem dX11_needYears_18 : decode cX11_needYears 18 = .ok (.invokespecial 94, 3) := bf00_73.2.2.1.1
theorem dX11_needYears_21 : decode cX11_needYears 21 = .ok (.athrow, 1) := bf00_73.2.2.1.2
theorem dX11_needYears_22 : decode cX11_needYears 22 = .ok (.return_, 1) := bf00_73.2.2.2
theorem bf00_74 : (((decode cX11_putBytes 0 = .ok (.bipush 24, 2) ∧ decode cX11_putBytes 2 = .ok (.istore_n 2, 1)) ∧ (decode cX11_putBytes 3 = .ok (.iload_n 2, 1) ∧ decode cX11_putBytes 4 = .ok (.ifCond .lt 44, 3))) ∧ ((decode cX11_putBytes 7 = .ok (.aload_n 0, 1) ∧ decode cX11_putBytes 8 = .ok (.getfield 13, 3)) ∧ (decode cX11_putBytes 11 = .ok (.aload_n 0, 1) ∧ decode cX11_putBytes 12 = .ok (.getfield 9, 3)))) ∧ (((decode cX11_putBytes 15 = .ok (.arraylength, 1) ∧ decode cX11_putBytes 16 = .ok (.if_icmp .ge 26, 3)) ∧ (decode cX11_putBytes 19 = .ok (.aload_n 0, 1) ∧ decode cX11_putBytes 20 = .ok (.getfield 9, 3))) ∧ ((decode cX11_putBytes 23 = .ok (.aload_n 0, 1) ∧ decode cX11_putBytes 24 = .ok (.getfield 13, 3)) ∧ (decode cX11_putBytes 27 = .ok (.iload_n 1, 1) ∧ decode cX11_putBytes 28 = .ok (.iload_n 2, 1)))) := by decide +kernel
theorem dX11_putBytes_0 : decode cX11_putBytes 0 = .ok (.bipush 24, 2) := bf00_74.1.1.1.1
theorem dX11_putBytes_2 : decode cX11_putBytes 2 = .ok (.istore_n 2, 1) := bf00_74.1.1.1.2
theorem dX11_putBytes_3 : decode cX11_putBytes 3 = .ok (.iload_n 2, 1) := bf00_74.1.1.2.1
theorem dX11_putBytes_4 : decode cX11_putBytes 4 = .ok (.ifCond .lt 44, 3) := bf00_74.1.1.2.2
theorem dX11_putBytes_7 : decode cX11_putBytes 7 = .ok (.aload_n 0, 1) := bf00_74.1.2.1.1
theorem dX11_putBytes_8 : decode cX11_putBytes 8 = .ok (.getfield 13, 3) := bf00_74.1.2.1.2
theorem dX11_putBytes_11 : decode cX11_putBytes 11 = .ok (.aload_n 0, 1) := bf00_74.1.2.2.1
theorem dX11_putBytes_12 : decode cX11_putBytes 12 = .ok (.getfield 9, 3) := bf00_74.1.2.2.2
theorem dX11_putBytes_15 : decode cX11_putBytes 15 = .ok (.arraylength, 1) := bf00_74.2.1.1.1
theorem dX11_putBytes_16 : decode cX11_putBytes 16 = .ok (.if_icmp .ge 26, 3) := bf00_74.2.1.1.2
theorem dX11_putBytes_19 : decode cX11_putBytes 19 = .ok (.aload_n 0, 1) := bf00_74.2.1.2.1
theorem dX11_putBytes_20 : decode cX11_putBytes 20 = .ok (.getfield 9, 3) := bf00_74.2.1.2.2
theorem dX11_putBytes_23 : decode cX11_putBytes 23 = .ok (.aload_n 0, 1) := bf00_74.2.2.1.1
theorem dX11_putBytes_24 : decode cX11_putBytes 24 = .ok (.getfield 13, 3) := bf00_74.2.2.1.2
theorem dX11_putBytes_27 : decode cX11_putBytes 27 = .ok (.iload_n 1, 1) := bf00_74.2.2.2.1
theorem dX11_putBytes_28 : decode cX11_putBytes 28 = .ok (.iload_n 2, 1) := bf00_74.2.2.2.2
theorem bf00_75 : (((decode cX11_putBytes 29 = .ok (.ishr, 1) ∧ decode cX11_putBytes 30 = .ok (.i2b, 1)) ∧ (decode cX11_putBytes 31 = .ok (.bastore, 1))) ∧ ((decode cX11_putBytes 32 = .ok (.aload_n 0, 1) ∧ decode cX11_putBytes 33 = .ok (.dup, 1)) ∧ (decode cX11_putBytes 34 = .ok (.getfield 13, 3)))) ∧ (((decode cX11_putBytes 37 = .ok (.iconst 1, 1) ∧ decode cX11_putBytes 38 = .ok (.iadd, 1)) ∧ (decode cX11_putBytes 39 = .ok (.putfield 13, 3))) ∧ ((decode cX11_putBytes 42 = .ok (.iinc 2 (-8), 3) ∧ decode cX11_putBytes 45 = .ok (.goto (-42), 3)) ∧ (decode cX11_putBytes 48 = .ok (.return_, 1)))) := by decide +kernel
theorem dX11_putBytes_29 : decode cX11_putBytes 29 = .ok (.ishr, 1) := bf00_75.1.1.1.1
theorem dX11_putBytes_30 : decode cX11_putBytes 30 = .ok (.i2b, 1) := bf00_75.1.1.1.2
theorem dX11_putBytes_31 : decode cX11_putBytes 31 = .ok (.bastore, 1) := bf00_75.1.1.2
theorem dX11_putBytes_32 : decode cX11_putBytes 32 = .ok (.aload_n 0, 1) := bf00_75.1.2.1.1
theorem dX11_putBytes_33 : decode cX11_putBytes 33 = .ok (.dup, 1) := bf00_75.1.2.1.2
theorem dX11_putBytes_34 : decode cX11_putBytes 34 = .ok (.getfield 13, 3) := bf00_75.1.2.2
theorem dX11_putBytes_37 : decode cX11_putBytes 37 = .ok (.iconst 1, 1) := bf00_75.2.1.1.1
theorem dX11_putBytes_38 : decode cX11_putBytes 38 = .ok (.iadd, 1) := bf00_75.2.1.1.2
theorem dX11_putBytes_39 : decode cX11_putBytes 39 = .ok (.putfield 13, 3) := bf00_75.2.1.2
theorem dX11_putBytes_42 : decode cX11_putBytes 42 = .ok (.iinc 2 (-8), 3) := bf00_75.2.2.1.1
theorem dX11_putBytes_45 : decode cX11_putBytes 45 = .ok (.goto (-42), 3) := bf00_75.2.2.1.2
theorem dX11_putBytes_48 : decode cX11_putBytes 48 = .ok (.return_, 1) := bf00_75.2.2.2
theorem bf00_76 : (((decode cX11_refuseAct 0 = .ok (.aload_n 0, 1) ∧ decode cX11_refuseAct 1 = .ok (.getfield 39, 3)) ∧ (decode cX11_refuseAct 4 = .ok (.getfield 104, 3))) ∧ ((decode cX11_refuseAct 7 = .ok (.iconst 1, 1) ∧ decode cX11_refuseAct 8 = .ok (.dup2, 1)) ∧ (decode cX11_refuseAct 9 = .ok (.iaload, 1)))) ∧ (((decode cX11_refuseAct 10 = .ok (.iconst 1, 1) ∧ decode cX11_refuseAct 11 = .ok (.iadd, 1)) ∧ (decode cX11_refuseAct 12 = .ok (.iastore, 1))) ∧ (decode cX11_refuseAct 13 = .ok (.iload_n 1, 1) ∧ decode cX11_refuseAct 14 = .ok (.ireturn, 1))) := by decide +kernel
theorem dX11_refuseAct_0 : decode cX11_refuseAct 0 = .ok (.aload_n 0, 1) := bf00_76.1.1.1.1
theorem dX11_refuseAct_1 : decode cX11_refuseAct 1 = .ok (.getfield 39, 3) := bf00_76.1.1.1.2
theorem dX11_refuseAct_4 : decode cX11_refuseAct 4 = .ok (.getfield 104, 3) := bf00_76.1.1.2
theorem dX11_refuseAct_7 : decode cX11_refuseAct 7 = .ok (.iconst 1, 1) := bf00_76.1.2.1.1
theorem dX11_refuseAct_8 : decode cX11_refuseAct 8 = .ok (.dup2, 1) := bf00_76.1.2.1.2
theorem dX11_refuseAct_9 : decode cX11_refuseAct 9 = .ok (.iaload, 1) := bf00_76.1.2.2
theorem dX11_refuseAct_10 : decode cX11_refuseAct 10 = .ok (.iconst 1, 1) := bf00_76.2.1.1.1
theorem dX11_refuseAct_11 : decode cX11_refuseAct 11 = .ok (.iadd, 1) := bf00_76.2.1.1.2
theorem dX11_refuseAct_12 : decode cX11_refuseAct 12 = .ok (.iastore, 1) := bf00_76.2.1.2
theorem dX11_refuseAct_13 : decode cX11_refuseAct 13 = .ok (.iload_n 1, 1) := bf00_76.2.2.1
theorem dX11_refuseAct_14 : decode cX11_refuseAct 14 = .ok (.ireturn, 1) := bf00_76.2.2.2
theorem bf00_77 : (((decode cX11_stateBehind 0 = .ok (.iload_n 1, 1) ∧ decode cX11_stateBehind 1 = .ok (.iconst 0, 1)) ∧ (decode cX11_stateBehind 2 = .ok (.invokestatic 258, 3) ∧ decode cX11_stateBehind 5 = .ok (.aload_n 0, 1))) ∧ ((decode cX11_stateBehind 6 = .ok (.getfield 55, 3) ∧ decode cX11_stateBehind 9 = .ok (.aload_n 0, 1)) ∧ (decode cX11_stateBehind 10 = .ok (.getfield 39, 3) ∧ decode cX11_stateBehind 13 = .ok (.getfield 61, 3)))) ∧ (((decode cX11_stateBehind 16 = .ok (.invokevirtual 224, 3) ∧ decode cX11_stateBehind 19 = .ok (.aload_n 0, 1)) ∧ (decode cX11_stateBehind 20 = .ok (.getfield 55, 3) ∧ decode cX11_stateBehind 23 = .ok (.iload_n 1, 1))) ∧ ((decode cX11_stateBehind 24 = .ok (.invokevirtual 227, 3) ∧ decode cX11_stateBehind 27 = .ok (.aload_n 0, 1)) ∧ (decode cX11_stateBehind 28 = .ok (.getfield 55, 3) ∧ decode cX11_stateBehind 31 = .ok (.getfield 230, 3)))) := by decide +kernel
theorem dX11_stateBehind_0 : decode cX11_stateBehind 0 = .ok (.iload_n 1, 1) := bf00_77.1.1.1.1
theorem dX11_stateBehind_1 : decode cX11_stateBehind 1 = .ok (.iconst 0, 1) := bf00_77.1.1.1.2
theorem dX11_stateBehind_2 : decode cX11_stateBehind 2 = .ok (.invokestatic 258, 3) := bf00_77.1.1.2.1
theorem dX11_stateBehind_5 : decode cX11_stateBehind 5 = .ok (.aload_n 0, 1) := bf00_77.1.1.2.2
theorem dX11_stateBehind_6 : decode cX11_stateBehind 6 = .ok (.getfield 55, 3) := bf00_77.1.2.1.1
theorem dX11_stateBehind_9 : decode cX11_stateBehind 9 = .ok (.aload_n 0, 1) := bf00_77.1.2.1.2
theorem dX11_stateBehind_10 : decode cX11_stateBehind 10 = .ok (.getfield 39, 3) := bf00_77.1.2.2.1
theorem dX11_stateBehind_13 : decode cX11_stateBehind 13 = .ok (.getfield 61, 3) := bf00_77.1.2.2.2
theorem dX11_stateBehind_16 : decode cX11_stateBehind 16 = .ok (.invokevirtual 224, 3) := bf00_77.2.1.1.1
theorem dX11_stateBehind_19 : decode cX11_stateBehind 19 = .ok (.aload_n 0, 1) := bf00_77.2.1.1.2
theorem dX11_stateBehind_20 : decode cX11_stateBehind 20 = .ok (.getfield 55, 3) := bf00_77.2.1.2.1
theorem dX11_stateBehind_23 : decode cX11_stateBehind 23 = .ok (.iload_n 1, 1) := bf00_77.2.1.2.2
theorem dX11_stateBehind_24 : decode cX11_stateBehind 24 = .ok (.invokevirtual 227, 3) := bf00_77.2.2.1.1
theorem dX11_stateBehind_27 : decode cX11_stateBehind 27 = .ok (.aload_n 0, 1) := bf00_77.2.2.1.2
theorem dX11_stateBehind_28 : decode cX11_stateBehind 28 = .ok (.getfield 55, 3) := bf00_77.2.2.2.1
theorem dX11_stateBehind_31 : decode cX11_stateBehind 31 = .ok (.getfield 230, 3) := bf00_77.2.2.2.2
theorem bf00_78 : ((decode cX11_stateBehind 34 = .ok (.areturn, 1) ∧ decode cX11_turnedBy 0 = .ok (.aload_n 0, 1)) ∧ (decode cX11_turnedBy 1 = .ok (.getfield 39, 3) ∧ decode cX11_turnedBy 4 = .ok (.getfield 61, 3))) ∧ ((decode cX11_turnedBy 7 = .ok (.astore_n 2, 1) ∧ decode cX11_turnedBy 8 = .ok (.iconst 0, 1)) ∧ (decode cX11_turnedBy 9 = .ok (.istore_n 3, 1) ∧ decode cX11_turnedBy 10 = .ok (.aload_n 2, 1))) := by decide +kernel
theorem dX11_stateBehind_34 : decode cX11_stateBehind 34 = .ok (.areturn, 1) := bf00_78.1.1.1
theorem dX11_turnedBy_0 : decode cX11_turnedBy 0 = .ok (.aload_n 0, 1) := bf00_78.1.1.2
theorem dX11_turnedBy_1 : decode cX11_turnedBy 1 = .ok (.getfield 39, 3) := bf00_78.1.2.1
theorem dX11_turnedBy_4 : decode cX11_turnedBy 4 = .ok (.getfield 61, 3) := bf00_78.1.2.2
theorem dX11_turnedBy_7 : decode cX11_turnedBy 7 = .ok (.astore_n 2, 1) := bf00_78.2.1.1
theorem dX11_turnedBy_8 : decode cX11_turnedBy 8 = .ok (.iconst 0, 1) := bf00_78.2.1.2
theorem dX11_turnedBy_9 : decode cX11_turnedBy 9 = .ok (.istore_n 3, 1) := bf00_78.2.2.1
theorem dX11_turnedBy_10 : decode cX11_turnedBy 10 = .ok (.aload_n 2, 1) := bf00_78.2.2.2
theorem bf00_79 : (((decode cX11_turnedBy 11 = .ok (.getfield 119, 3) ∧ decode cX11_turnedBy 14 = .ok (.ifCond .le 42, 3)) ∧ (decode cX11_turnedBy 17 = .ok (.iconst 0, 1) ∧ decode cX11_turnedBy 18 = .ok (.istore 4, 2))) ∧ ((decode cX11_turnedBy 20 = .ok (.iload 4, 2) ∧ decode cX11_turnedBy 22 = .ok (.aload_n 2, 1)) ∧ (decode cX11_turnedBy 23 = .ok (.getfield 124, 3) ∧ decode cX11_turnedBy 26 = .ok (.if_icmp .ge 30, 3)))) ∧ (((decode cX11_turnedBy 29 = .ok (.iload_n 3, 1) ∧ decode cX11_turnedBy 30 = .ok (.aload_n 2, 1)) ∧ (decode cX11_turnedBy 31 = .ok (.iload 4, 2) ∧ decode cX11_turnedBy 33 = .ok (.invokestatic 201, 3))) ∧ ((decode cX11_turnedBy 36 = .ok (.iload 4, 2) ∧ decode cX11_turnedBy 38 = .ok (.iload_n 1, 1)) ∧ (decode cX11_turnedBy 39 = .ok (.iadd, 1) ∧ decode cX11_turnedBy 40 = .ok (.aload_n 2, 1)))) := by decide +kernel
theorem dX11_turnedBy_11 : decode cX11_turnedBy 11 = .ok (.getfield 119, 3) := bf00_79.1.1.1.1
theorem dX11_turnedBy_14 : decode cX11_turnedBy 14 = .ok (.ifCond .le 42, 3) := bf00_79.1.1.1.2
theorem dX11_turnedBy_17 : decode cX11_turnedBy 17 = .ok (.iconst 0, 1) := bf00_79.1.1.2.1
theorem dX11_turnedBy_18 : decode cX11_turnedBy 18 = .ok (.istore 4, 2) := bf00_79.1.1.2.2
theorem dX11_turnedBy_20 : decode cX11_turnedBy 20 = .ok (.iload 4, 2) := bf00_79.1.2.1.1
theorem dX11_turnedBy_22 : decode cX11_turnedBy 22 = .ok (.aload_n 2, 1) := bf00_79.1.2.1.2
theorem dX11_turnedBy_23 : decode cX11_turnedBy 23 = .ok (.getfield 124, 3) := bf00_79.1.2.2.1
theorem dX11_turnedBy_26 : decode cX11_turnedBy 26 = .ok (.if_icmp .ge 30, 3) := bf00_79.1.2.2.2
theorem dX11_turnedBy_29 : decode cX11_turnedBy 29 = .ok (.iload_n 3, 1) := bf00_79.2.1.1.1
theorem dX11_turnedBy_30 : decode cX11_turnedBy 30 = .ok (.aload_n 2, 1) := bf00_79.2.1.1.2
theorem dX11_turnedBy_31 : decode cX11_turnedBy 31 = .ok (.iload 4, 2) := bf00_79.2.1.2.1
theorem dX11_turnedBy_33 : decode cX11_turnedBy 33 = .ok (.invokestatic 201, 3) := bf00_79.2.1.2.2
theorem dX11_turnedBy_36 : decode cX11_turnedBy 36 = .ok (.iload 4, 2) := bf00_79.2.2.1.1
theorem dX11_turnedBy_38 : decode cX11_turnedBy 38 = .ok (.iload_n 1, 1) := bf00_79.2.2.1.2
theorem dX11_turnedBy_39 : decode cX11_turnedBy 39 = .ok (.iadd, 1) := bf00_79.2.2.2.1
theorem dX11_turnedBy_40 : decode cX11_turnedBy 40 = .ok (.aload_n 2, 1) := bf00_79.2.2.2.2
theorem bf00_80 : (((decode cX11_turnedBy 41 = .ok (.getfield 119, 3) ∧ decode cX11_turnedBy 44 = .ok (.irem, 1)) ∧ (decode cX11_turnedBy 45 = .ok (.invokevirtual 252, 3))) ∧ (decode cX11_turnedBy 48 = .ok (.iadd, 1) ∧ decode cX11_turnedBy 49 = .ok (.istore_n 3, 1))) ∧ ((decode cX11_turnedBy 50 = .ok (.iinc 4 1, 3) ∧ decode cX11_turnedBy 53 = .ok (.goto (-33), 3)) ∧ (decode cX11_turnedBy 56 = .ok (.iload_n 3, 1) ∧ decode cX11_turnedBy 57 = .ok (.ireturn, 1))) := by decide +kernel
theorem dX11_turnedBy_41 : decode cX11_turnedBy 41 = .ok (.getfield 119, 3) := bf00_80.1.1.1.1
theorem dX11_turnedBy_44 : decode cX11_turnedBy 44 = .ok (.irem, 1) := bf00_80.1.1.1.2
theorem dX11_turnedBy_45 : decode cX11_turnedBy 45 = .ok (.invokevirtual 252, 3) := bf00_80.1.1.2
theorem dX11_turnedBy_48 : decode cX11_turnedBy 48 = .ok (.iadd, 1) := bf00_80.1.2.1
theorem dX11_turnedBy_49 : decode cX11_turnedBy 49 = .ok (.istore_n 3, 1) := bf00_80.1.2.2
theorem dX11_turnedBy_50 : decode cX11_turnedBy 50 = .ok (.iinc 4 1, 3) := bf00_80.2.1.1
theorem dX11_turnedBy_53 : decode cX11_turnedBy 53 = .ok (.goto (-33), 3) := bf00_80.2.1.2
theorem dX11_turnedBy_56 : decode cX11_turnedBy 56 = .ok (.iload_n 3, 1) := bf00_80.2.2.1
theorem dX11_turnedBy_57 : decode cX11_turnedBy 57 = .ok (.ireturn, 1) := bf00_80.2.2.2
theorem bf00_81 : (((decode cX11_beginWithAge 0 = .ok (.aload_n 0, 1) ∧ decode cX11_beginWithAge 1 = .ok (.getfield 55, 3)) ∧ (decode cX11_beginWithAge 4 = .ok (.aload_n 0, 1) ∧ decode cX11_beginWithAge 5 = .ok (.getfield 39, 3))) ∧ ((decode cX11_beginWithAge 8 = .ok (.getfield 61, 3) ∧ decode cX11_beginWithAge 11 = .ok (.invokevirtual 224, 3)) ∧ (decode cX11_beginWithAge 14 = .ok (.aload_n 0, 1)))) ∧ (((decode cX11_beginWithAge 15 = .ok (.getfield 55, 3) ∧ decode cX11_beginWithAge 18 = .ok (.getfield 230, 3)) ∧ (decode cX11_beginWithAge 21 = .ok (.getfield 204, 3) ∧ decode cX11_beginWithAge 24 = .ok (.iload_n 1, 1))) ∧ ((decode cX11_beginWithAge 25 = .ok (.iload_n 2, 1) ∧ decode cX11_beginWithAge 26 = .ok (.iastore, 1)) ∧ (decode cX11_beginWithAge 27 = .ok (.return_, 1)))) := by decide +kernel
theorem dX11_beginWithAge_0 : decode cX11_beginWithAge 0 = .ok (.aload_n 0, 1) := bf00_81.1.1.1.1
theorem dX11_beginWithAge_1 : decode cX11_beginWithAge 1 = .ok (.getfield 55, 3) := bf00_81.1.1.1.2
theorem dX11_beginWithAge_4 : decode cX11_beginWithAge 4 = .ok (.aload_n 0, 1) := bf00_81.1.1.2.1
theorem dX11_beginWithAge_5 : decode cX11_beginWithAge 5 = .ok (.getfield 39, 3) := bf00_81.1.1.2.2
theorem dX11_beginWithAge_8 : decode cX11_beginWithAge 8 = .ok (.getfield 61, 3) := bf00_81.1.2.1.1
theorem dX11_beginWithAge_11 : decode cX11_beginWithAge 11 = .ok (.invokevirtual 224, 3) := bf00_81.1.2.1.2
theorem dX11_beginWithAge_14 : decode cX11_beginWithAge 14 = .ok (.aload_n 0, 1) := bf00_81.1.2.2
theorem dX11_beginWithAge_15 : decode cX11_beginWithAge 15 = .ok (.getfield 55, 3) := bf00_81.2.1.1.1
theorem dX11_beginWithAge_18 : decode cX11_beginWithAge 18 = .ok (.getfield 230, 3) := bf00_81.2.1.1.2
theorem dX11_beginWithAge_21 : decode cX11_beginWithAge 21 = .ok (.getfield 204, 3) := bf00_81.2.1.2.1
theorem dX11_beginWithAge_24 : decode cX11_beginWithAge 24 = .ok (.iload_n 1, 1) := bf00_81.2.1.2.2
theorem dX11_beginWithAge_25 : decode cX11_beginWithAge 25 = .ok (.iload_n 2, 1) := bf00_81.2.2.1.1
theorem dX11_beginWithAge_26 : decode cX11_beginWithAge 26 = .ok (.iastore, 1) := bf00_81.2.2.1.2
theorem dX11_beginWithAge_27 : decode cX11_beginWithAge 27 = .ok (.return_, 1) := bf00_81.2.2.2
theorem bf00_82 : (((decode cX11_couldBe 0 = .ok (.aload_n 0, 1) ∧ decode cX11_couldBe 1 = .ok (.getfield 39, 3)) ∧ (decode cX11_couldBe 4 = .ok (.getfield 61, 3) ∧ decode cX11_couldBe 7 = .ok (.getfield 204, 3))) ∧ ((decode cX11_couldBe 10 = .ok (.iload_n 1, 1) ∧ decode cX11_couldBe 11 = .ok (.iaload, 1)) ∧ (decode cX11_couldBe 12 = .ok (.iload_n 2, 1) ∧ decode cX11_couldBe 13 = .ok (.if_icmp .ne 5, 3)))) ∧ (((decode cX11_couldBe 16 = .ok (.iconst 0, 1) ∧ decode cX11_couldBe 17 = .ok (.ireturn, 1)) ∧ (decode cX11_couldBe 18 = .ok (.aload_n 0, 1) ∧ decode cX11_couldBe 19 = .ok (.iload_n 1, 1))) ∧ ((decode cX11_couldBe 20 = .ok (.iload_n 2, 1) ∧ decode cX11_couldBe 21 = .ok (.invokevirtual 345, 3)) ∧ (decode cX11_couldBe 24 = .ok (.aload_n 0, 1) ∧ decode cX11_couldBe 25 = .ok (.getfield 55, 3)))) := by decide +kernel
theorem dX11_couldBe_0 : decode cX11_couldBe 0 = .ok (.aload_n 0, 1) := bf00_82.1.1.1.1
theorem dX11_couldBe_1 : decode cX11_couldBe 1 = .ok (.getfield 39, 3) := bf00_82.1.1.1.2
theorem dX11_couldBe_4 : decode cX11_couldBe 4 = .ok (.getfield 61, 3) := bf00_82.1.1.2.1
theorem dX11_couldBe_7 : decode cX11_couldBe 7 = .ok (.getfield 204, 3) := bf00_82.1.1.2.2
theorem dX11_couldBe_10 : decode cX11_couldBe 10 = .ok (.iload_n 1, 1) := bf00_82.1.2.1.1
theorem dX11_couldBe_11 : decode cX11_couldBe 11 = .ok (.iaload, 1) := bf00_82.1.2.1.2
theorem dX11_couldBe_12 : decode cX11_couldBe 12 = .ok (.iload_n 2, 1) := bf00_82.1.2.2.1
theorem dX11_couldBe_13 : decode cX11_couldBe 13 = .ok (.if_icmp .ne 5, 3) := bf00_82.1.2.2.2
theorem dX11_couldBe_16 : decode cX11_couldBe 16 = .ok (.iconst 0, 1) := bf00_82.2.1.1.1
theorem dX11_couldBe_17 : decode cX11_couldBe 17 = .ok (.ireturn, 1) := bf00_82.2.1.1.2
theorem dX11_couldBe_18 : decode cX11_couldBe 18 = .ok (.aload_n 0, 1) := bf00_82.2.1.2.1
theorem dX11_couldBe_19 : decode cX11_couldBe 19 = .ok (.iload_n 1, 1) := bf00_82.2.1.2.2
theorem dX11_couldBe_20 : decode cX11_couldBe 20 = .ok (.iload_n 2, 1) := bf00_82.2.2.1.1
theorem dX11_couldBe_21 : decode cX11_couldBe 21 = .ok (.invokevirtual 345, 3) := bf00_82.2.2.1.2
theorem dX11_couldBe_24 : decode cX11_couldBe 24 = .ok (.aload_n 0, 1) := bf00_82.2.2.2.1
theorem dX11_couldBe_25 : decode cX11_couldBe 25 = .ok (.getfield 55, 3) := bf00_82.2.2.2.2
theorem bf00_83 : ((decode cX11_couldBe 28 = .ok (.aload_n 0, 1) ∧ decode cX11_couldBe 29 = .ok (.getfield 39, 3)) ∧ (decode cX11_couldBe 32 = .ok (.getfield 166, 3) ∧ decode cX11_couldBe 35 = .ok (.invokevirtual 288, 3))) ∧ ((decode cX11_couldBe 38 = .ok (.ireturn, 1) ∧ decode cX11_addPlaces 0 = .ok (.aload_n 0, 1)) ∧ (decode cX11_addPlaces 1 = .ok (.iload_n 1, 1) ∧ decode cX11_addPlaces 2 = .ok (.iload_n 2, 1))) := by decide +kernel
theorem dX11_couldBe_28 : decode cX11_couldBe 28 = .ok (.aload_n 0, 1) := bf00_83.1.1.1
theorem dX11_couldBe_29 : decode cX11_couldBe 29 = .ok (.getfield 39, 3) := bf00_83.1.1.2
theorem dX11_couldBe_32 : decode cX11_couldBe 32 = .ok (.getfield 166, 3) := bf00_83.1.2.1
theorem dX11_couldBe_35 : decode cX11_couldBe 35 = .ok (.invokevirtual 288, 3) := bf00_83.1.2.2
theorem dX11_couldBe_38 : decode cX11_couldBe 38 = .ok (.ireturn, 1) := bf00_83.2.1.1
theorem dX11_addPlaces_0 : decode cX11_addPlaces 0 = .ok (.aload_n 0, 1) := bf00_83.2.1.2
theorem dX11_addPlaces_1 : decode cX11_addPlaces 1 = .ok (.iload_n 1, 1) := bf00_83.2.2.1
theorem dX11_addPlaces_2 : decode cX11_addPlaces 2 = .ok (.iload_n 2, 1) := bf00_83.2.2.2
theorem bf00_84 : (((decode cX11_addPlaces 3 = .ok (.invokevirtual 345, 3) ∧ decode cX11_addPlaces 6 = .ok (.aload_n 0, 1)) ∧ (decode cX11_addPlaces 7 = .ok (.getfield 55, 3) ∧ decode cX11_addPlaces 10 = .ok (.bipush 6, 2))) ∧ ((decode cX11_addPlaces 12 = .ok (.invokevirtual 227, 3) ∧ decode cX11_addPlaces 15 = .ok (.iconst 0, 1)) ∧ (decode cX11_addPlaces 16 = .ok (.istore_n 3, 1) ∧ decode cX11_addPlaces 17 = .ok (.iload_n 3, 1)))) ∧ (((decode cX11_addPlaces 18 = .ok (.aload_n 0, 1) ∧ decode cX11_addPlaces 19 = .ok (.getfield 39, 3)) ∧ (decode cX11_addPlaces 22 = .ok (.getfield 61, 3) ∧ decode cX11_addPlaces 25 = .ok (.getfield 124, 3))) ∧ ((decode cX11_addPlaces 28 = .ok (.if_icmp .ge 34, 3) ∧ decode cX11_addPlaces 31 = .ok (.aload_n 0, 1)) ∧ (decode cX11_addPlaces 32 = .ok (.getfield 83, 3) ∧ decode cX11_addPlaces 35 = .ok (.iload_n 3, 1)))) := by decide +kernel
theorem dX11_addPlaces_3 : decode cX11_addPlaces 3 = .ok (.invokevirtual 345, 3) := bf00_84.1.1.1.1
theorem dX11_addPlaces_6 : decode cX11_addPlaces 6 = .ok (.aload_n 0, 1) := bf00_84.1.1.1.2
theorem dX11_addPlaces_7 : decode cX11_addPlaces 7 = .ok (.getfield 55, 3) := bf00_84.1.1.2.1
theorem dX11_addPlaces_10 : decode cX11_addPlaces 10 = .ok (.bipush 6, 2) := bf00_84.1.1.2.2
theorem dX11_addPlaces_12 : decode cX11_addPlaces 12 = .ok (.invokevirtual 227, 3) := bf00_84.1.2.1.1
theorem dX11_addPlaces_15 : decode cX11_addPlaces 15 = .ok (.iconst 0, 1) := bf00_84.1.2.1.2
theorem dX11_addPlaces_16 : decode cX11_addPlaces 16 = .ok (.istore_n 3, 1) := bf00_84.1.2.2.1
theorem dX11_addPlaces_17 : decode cX11_addPlaces 17 = .ok (.iload_n 3, 1) := bf00_84.1.2.2.2
theorem dX11_addPlaces_18 : decode cX11_addPlaces 18 = .ok (.aload_n 0, 1) := bf00_84.2.1.1.1
theorem dX11_addPlaces_19 : decode cX11_addPlaces 19 = .ok (.getfield 39, 3) := bf00_84.2.1.1.2
theorem dX11_addPlaces_22 : decode cX11_addPlaces 22 = .ok (.getfield 61, 3) := bf00_84.2.1.2.1
theorem dX11_addPlaces_25 : decode cX11_addPlaces 25 = .ok (.getfield 124, 3) := bf00_84.2.1.2.2
theorem dX11_addPlaces_28 : decode cX11_addPlaces 28 = .ok (.if_icmp .ge 34, 3) := bf00_84.2.2.1.1
theorem dX11_addPlaces_31 : decode cX11_addPlaces 31 = .ok (.aload_n 0, 1) := bf00_84.2.2.1.2
theorem dX11_addPlaces_32 : decode cX11_addPlaces 32 = .ok (.getfield 83, 3) := bf00_84.2.2.2.1
theorem dX11_addPlaces_35 : decode cX11_addPlaces 35 = .ok (.iload_n 3, 1) := bf00_84.2.2.2.2
theorem bf00_85 : (((decode cX11_addPlaces 36 = .ok (.dup2, 1) ∧ decode cX11_addPlaces 37 = .ok (.iaload, 1)) ∧ (decode cX11_addPlaces 38 = .ok (.iconst 1, 1) ∧ decode cX11_addPlaces 39 = .ok (.aload_n 0, 1))) ∧ ((decode cX11_addPlaces 40 = .ok (.getfield 55, 3) ∧ decode cX11_addPlaces 43 = .ok (.getfield 230, 3)) ∧ (decode cX11_addPlaces 46 = .ok (.getfield 210, 3) ∧ decode cX11_addPlaces 49 = .ok (.iload_n 3, 1)))) ∧ (((decode cX11_addPlaces 50 = .ok (.iaload, 1) ∧ decode cX11_addPlaces 51 = .ok (.iconst 1, 1)) ∧ (decode cX11_addPlaces 52 = .ok (.iadd, 1) ∧ decode cX11_addPlaces 53 = .ok (.ishl, 1))) ∧ ((decode cX11_addPlaces 54 = .ok (.ior, 1) ∧ decode cX11_addPlaces 55 = .ok (.iastore, 1)) ∧ (decode cX11_addPlaces 56 = .ok (.iinc 3 1, 3) ∧ decode cX11_addPlaces 59 = .ok (.goto (-42), 3)))) := by decide +kernel
theorem dX11_addPlaces_36 : decode cX11_addPlaces 36 = .ok (.dup2, 1) := bf00_85.1.1.1.1
theorem dX11_addPlaces_37 : decode cX11_addPlaces 37 = .ok (.iaload, 1) := bf00_85.1.1.1.2
theorem dX11_addPlaces_38 : decode cX11_addPlaces 38 = .ok (.iconst 1, 1) := bf00_85.1.1.2.1
theorem dX11_addPlaces_39 : decode cX11_addPlaces 39 = .ok (.aload_n 0, 1) := bf00_85.1.1.2.2
theorem dX11_addPlaces_40 : decode cX11_addPlaces 40 = .ok (.getfield 55, 3) := bf00_85.1.2.1.1
theorem dX11_addPlaces_43 : decode cX11_addPlaces 43 = .ok (.getfield 230, 3) := bf00_85.1.2.1.2
theorem dX11_addPlaces_46 : decode cX11_addPlaces 46 = .ok (.getfield 210, 3) := bf00_85.1.2.2.1
theorem dX11_addPlaces_49 : decode cX11_addPlaces 49 = .ok (.iload_n 3, 1) := bf00_85.1.2.2.2
theorem dX11_addPlaces_50 : decode cX11_addPlaces 50 = .ok (.iaload, 1) := bf00_85.2.1.1.1
theorem dX11_addPlaces_51 : decode cX11_addPlaces 51 = .ok (.iconst 1, 1) := bf00_85.2.1.1.2
theorem dX11_addPlaces_52 : decode cX11_addPlaces 52 = .ok (.iadd, 1) := bf00_85.2.1.2.1
theorem dX11_addPlaces_53 : decode cX11_addPlaces 53 = .ok (.ishl, 1) := bf00_85.2.1.2.2
theorem dX11_addPlaces_54 : decode cX11_addPlaces 54 = .ok (.ior, 1) := bf00_85.2.2.1.1
theorem dX11_addPlaces_55 : decode cX11_addPlaces 55 = .ok (.iastore, 1) := bf00_85.2.2.1.2
theorem dX11_addPlaces_56 : decode cX11_addPlaces 56 = .ok (.iinc 3 1, 3) := bf00_85.2.2.2.1
theorem dX11_addPlaces_59 : decode cX11_addPlaces 59 = .ok (.goto (-42), 3) := bf00_85.2.2.2.2
theorem bf00_86 : ((decode cX11_addPlaces 62 = .ok (.return_, 1) ∧ decode cX11_weightOf 0 = .ok (.iconst 1, 1)) ∧ (decode cX11_weightOf 1 = .ok (.istore_n 3, 1) ∧ decode cX11_weightOf 2 = .ok (.iconst 0, 1))) ∧ ((decode cX11_weightOf 3 = .ok (.istore 4, 2) ∧ decode cX11_weightOf 5 = .ok (.iload 4, 2)) ∧ (decode cX11_weightOf 7 = .ok (.iload_n 1, 1) ∧ decode cX11_weightOf 8 = .ok (.if_icmp .ge 30, 3))) := by decide +kernel
theorem dX11_addPlaces_62 : decode cX11_addPlaces 62 = .ok (.return_, 1) := bf00_86.1.1.1
theorem dX11_weightOf_0 : decode cX11_weightOf 0 = .ok (.iconst 1, 1) := bf00_86.1.1.2
theorem dX11_weightOf_1 : decode cX11_weightOf 1 = .ok (.istore_n 3, 1) := bf00_86.1.2.1
theorem dX11_weightOf_2 : decode cX11_weightOf 2 = .ok (.iconst 0, 1) := bf00_86.1.2.2
theorem dX11_weightOf_3 : decode cX11_weightOf 3 = .ok (.istore 4, 2) := bf00_86.2.1.1
theorem dX11_weightOf_5 : decode cX11_weightOf 5 = .ok (.iload 4, 2) := bf00_86.2.1.2
theorem dX11_weightOf_7 : decode cX11_weightOf 7 = .ok (.iload_n 1, 1) := bf00_86.2.2.1
theorem dX11_weightOf_8 : decode cX11_weightOf 8 = .ok (.if_icmp .ge 30, 3) := bf00_86.2.2.2
theorem bf00_87 : (((decode cX11_weightOf 11 = .ok (.iload_n 3, 1) ∧ decode cX11_weightOf 12 = .ok (.iload_n 0, 1)) ∧ (decode cX11_weightOf 13 = .ok (.iload 4, 2) ∧ decode cX11_weightOf 15 = .ok (.ishr, 1))) ∧ ((decode cX11_weightOf 16 = .ok (.iconst 1, 1) ∧ decode cX11_weightOf 17 = .ok (.iand, 1)) ∧ (decode cX11_weightOf 18 = .ok (.iconst 1, 1) ∧ decode cX11_weightOf 19 = .ok (.if_icmp .ne 7, 3)))) ∧ (((decode cX11_weightOf 22 = .ok (.iload_n 2, 1) ∧ decode cX11_weightOf 23 = .ok (.goto 7, 3)) ∧ (decode cX11_weightOf 26 = .ok (.bipush 10, 2) ∧ decode cX11_weightOf 28 = .ok (.iload_n 2, 1))) ∧ ((decode cX11_weightOf 29 = .ok (.isub, 1) ∧ decode cX11_weightOf 30 = .ok (.imul, 1)) ∧ (decode cX11_weightOf 31 = .ok (.istore_n 3, 1) ∧ decode cX11_weightOf 32 = .ok (.iinc 4 1, 3)))) := by decide +kernel
theorem dX11_weightOf_11 : decode cX11_weightOf 11 = .ok (.iload_n 3, 1) := bf00_87.1.1.1.1
theorem dX11_weightOf_12 : decode cX11_weightOf 12 = .ok (.iload_n 0, 1) := bf00_87.1.1.1.2
theorem dX11_weightOf_13 : decode cX11_weightOf 13 = .ok (.iload 4, 2) := bf00_87.1.1.2.1
theorem dX11_weightOf_15 : decode cX11_weightOf 15 = .ok (.ishr, 1) := bf00_87.1.1.2.2
theorem dX11_weightOf_16 : decode cX11_weightOf 16 = .ok (.iconst 1, 1) := bf00_87.1.2.1.1
theorem dX11_weightOf_17 : decode cX11_weightOf 17 = .ok (.iand, 1) := bf00_87.1.2.1.2
theorem dX11_weightOf_18 : decode cX11_weightOf 18 = .ok (.iconst 1, 1) := bf00_87.1.2.2.1
theorem dX11_weightOf_19 : decode cX11_weightOf 19 = .ok (.if_icmp .ne 7, 3) := bf00_87.1.2.2.2
theorem dX11_weightOf_22 : decode cX11_weightOf 22 = .ok (.iload_n 2, 1) := bf00_87.2.1.1.1
theorem dX11_weightOf_23 : decode cX11_weightOf 23 = .ok (.goto 7, 3) := bf00_87.2.1.1.2
theorem dX11_weightOf_26 : decode cX11_weightOf 26 = .ok (.bipush 10, 2) := bf00_87.2.1.2.1
theorem dX11_weightOf_28 : decode cX11_weightOf 28 = .ok (.iload_n 2, 1) := bf00_87.2.1.2.2
theorem dX11_weightOf_29 : decode cX11_weightOf 29 = .ok (.isub, 1) := bf00_87.2.2.1.1
theorem dX11_weightOf_30 : decode cX11_weightOf 30 = .ok (.imul, 1) := bf00_87.2.2.1.2
theorem dX11_weightOf_31 : decode cX11_weightOf 31 = .ok (.istore_n 3, 1) := bf00_87.2.2.2.1
theorem dX11_weightOf_32 : decode cX11_weightOf 32 = .ok (.iinc 4 1, 3) := bf00_87.2.2.2.2
theorem bf00_88 : ((decode cX11_weightOf 35 = .ok (.goto (-30), 3) ∧ decode cX11_weightOf 38 = .ok (.iload_n 3, 1)) ∧ (decode cX11_weightOf 39 = .ok (.ireturn, 1) ∧ decode cX11_isLoafBehind 0 = .ok (.aload_n 0, 1))) ∧ ((decode cX11_isLoafBehind 1 = .ok (.getfield 55, 3) ∧ decode cX11_isLoafBehind 4 = .ok (.aload_n 0, 1)) ∧ (decode cX11_isLoafBehind 5 = .ok (.getfield 39, 3) ∧ decode cX11_isLoafBehind 8 = .ok (.getfield 61, 3))) := by decide +kernel
theorem dX11_weightOf_35 : decode cX11_weightOf 35 = .ok (.goto (-30), 3) := bf00_88.1.1.1
theorem dX11_weightOf_38 : decode cX11_weightOf 38 = .ok (.iload_n 3, 1) := bf00_88.1.1.2
theorem dX11_weightOf_39 : decode cX11_weightOf 39 = .ok (.ireturn, 1) := bf00_88.1.2.1
theorem dX11_isLoafBehind_0 : decode cX11_isLoafBehind 0 = .ok (.aload_n 0, 1) := bf00_88.1.2.2
theorem dX11_isLoafBehind_1 : decode cX11_isLoafBehind 1 = .ok (.getfield 55, 3) := bf00_88.2.1.1
theorem dX11_isLoafBehind_4 : decode cX11_isLoafBehind 4 = .ok (.aload_n 0, 1) := bf00_88.2.1.2
theorem dX11_isLoafBehind_5 : decode cX11_isLoafBehind 5 = .ok (.getfield 39, 3) := bf00_88.2.2.1
theorem dX11_isLoafBehind_8 : decode cX11_isLoafBehind 8 = .ok (.getfield 61, 3) := bf00_88.2.2.2
theorem bf00_89 : (((decode cX11_isLoafBehind 11 = .ok (.invokevirtual 224, 3) ∧ decode cX11_isLoafBehind 14 = .ok (.iconst 0, 1)) ∧ (decode cX11_isLoafBehind 15 = .ok (.istore 4, 2) ∧ decode cX11_isLoafBehind 17 = .ok (.iload 4, 2))) ∧ ((decode cX11_isLoafBehind 19 = .ok (.iload_n 2, 1) ∧ decode cX11_isLoafBehind 20 = .ok (.if_icmp .ge 32, 3)) ∧ (decode cX11_isLoafBehind 23 = .ok (.aload_n 0, 1) ∧ decode cX11_isLoafBehind 24 = .ok (.getfield 55, 3)))) ∧ (((decode cX11_isLoafBehind 27 = .ok (.iload_n 3, 1) ∧ decode cX11_isLoafBehind 28 = .ok (.iload 4, 2)) ∧ (decode cX11_isLoafBehind 30 = .ok (.ishr, 1) ∧ decode cX11_isLoafBehind 31 = .ok (.iconst 1, 1))) ∧ ((decode cX11_isLoafBehind 32 = .ok (.iand, 1) ∧ decode cX11_isLoafBehind 33 = .ok (.iconst 1, 1)) ∧ (decode cX11_isLoafBehind 34 = .ok (.if_icmp .ne 8, 3) ∧ decode cX11_isLoafBehind 37 = .ok (.bipush 9, 2)))) := by decide +kernel
theorem dX11_isLoafBehind_11 : decode cX11_isLoafBehind 11 = .ok (.invokevirtual 224, 3) := bf00_89.1.1.1.1
theorem dX11_isLoafBehind_14 : decode cX11_isLoafBehind 14 = .ok (.iconst 0, 1) := bf00_89.1.1.1.2
theorem dX11_isLoafBehind_15 : decode cX11_isLoafBehind 15 = .ok (.istore 4, 2) := bf00_89.1.1.2.1
theorem dX11_isLoafBehind_17 : decode cX11_isLoafBehind 17 = .ok (.iload 4, 2) := bf00_89.1.1.2.2
theorem dX11_isLoafBehind_19 : decode cX11_isLoafBehind 19 = .ok (.iload_n 2, 1) := bf00_89.1.2.1.1
theorem dX11_isLoafBehind_20 : decode cX11_isLoafBehind 20 = .ok (.if_icmp .ge 32, 3) := bf00_89.1.2.1.2
theorem dX11_isLoafBehind_23 : decode cX11_isLoafBehind 23 = .ok (.aload_n 0, 1) := bf00_89.1.2.2.1
theorem dX11_isLoafBehind_24 : decode cX11_isLoafBehind 24 = .ok (.getfield 55, 3) := bf00_89.1.2.2.2
theorem dX11_isLoafBehind_27 : decode cX11_isLoafBehind 27 = .ok (.iload_n 3, 1) := bf00_89.2.1.1.1
theorem dX11_isLoafBehind_28 : decode cX11_isLoafBehind 28 = .ok (.iload 4, 2) := bf00_89.2.1.1.2
theorem dX11_isLoafBehind_30 : decode cX11_isLoafBehind 30 = .ok (.ishr, 1) := bf00_89.2.1.2.1
theorem dX11_isLoafBehind_31 : decode cX11_isLoafBehind 31 = .ok (.iconst 1, 1) := bf00_89.2.1.2.2
theorem dX11_isLoafBehind_32 : decode cX11_isLoafBehind 32 = .ok (.iand, 1) := bf00_89.2.2.1.1
theorem dX11_isLoafBehind_33 : decode cX11_isLoafBehind 33 = .ok (.iconst 1, 1) := bf00_89.2.2.1.2
theorem dX11_isLoafBehind_34 : decode cX11_isLoafBehind 34 = .ok (.if_icmp .ne 8, 3) := bf00_89.2.2.2.1
theorem dX11_isLoafBehind_37 : decode cX11_isLoafBehind 37 = .ok (.bipush 9, 2) := bf00_89.2.2.2.2
theorem bf00_90 : (((decode cX11_isLoafBehind 39 = .ok (.goto 4, 3) ∧ decode cX11_isLoafBehind 42 = .ok (.iconst 0, 1)) ∧ (decode cX11_isLoafBehind 43 = .ok (.invokevirtual 348, 3) ∧ decode cX11_isLoafBehind 46 = .ok (.iinc 4 1, 3))) ∧ ((decode cX11_isLoafBehind 49 = .ok (.goto (-32), 3) ∧ decode cX11_isLoafBehind 52 = .ok (.aload_n 0, 1)) ∧ (decode cX11_isLoafBehind 53 = .ok (.getfield 55, 3) ∧ decode cX11_isLoafBehind 56 = .ok (.getfield 230, 3)))) ∧ (((decode cX11_isLoafBehind 59 = .ok (.getfield 187, 3) ∧ decode cX11_isLoafBehind 62 = .ok (.iload_n 1, 1)) ∧ (decode cX11_isLoafBehind 63 = .ok (.iaload, 1) ∧ decode cX11_isLoafBehind 64 = .ok (.ifCond .ne 7, 3))) ∧ ((decode cX11_isLoafBehind 67 = .ok (.iconst 1, 1) ∧ decode cX11_isLoafBehind 68 = .ok (.goto 4, 3)) ∧ (decode cX11_isLoafBehind 71 = .ok (.iconst 0, 1) ∧ decode cX11_isLoafBehind 72 = .ok (.ireturn, 1)))) := by decide +kernel
theorem dX11_isLoafBehind_39 : decode cX11_isLoafBehind 39 = .ok (.goto 4, 3) := bf00_90.1.1.1.1
theorem dX11_isLoafBehind_42 : decode cX11_isLoafBehind 42 = .ok (.iconst 0, 1) := bf00_90.1.1.1.2
theorem dX11_isLoafBehind_43 : decode cX11_isLoafBehind 43 = .ok (.invokevirtual 348, 3) := bf00_90.1.1.2.1
theorem dX11_isLoafBehind_46 : decode cX11_isLoafBehind 46 = .ok (.iinc 4 1, 3) := bf00_90.1.1.2.2
theorem dX11_isLoafBehind_49 : decode cX11_isLoafBehind 49 = .ok (.goto (-32), 3) := bf00_90.1.2.1.1
theorem dX11_isLoafBehind_52 : decode cX11_isLoafBehind 52 = .ok (.aload_n 0, 1) := bf00_90.1.2.1.2
theorem dX11_isLoafBehind_53 : decode cX11_isLoafBehind 53 = .ok (.getfield 55, 3) := bf00_90.1.2.2.1
theorem dX11_isLoafBehind_56 : decode cX11_isLoafBehind 56 = .ok (.getfield 230, 3) := bf00_90.1.2.2.2
theorem dX11_isLoafBehind_59 : decode cX11_isLoafBehind 59 = .ok (.getfield 187, 3) := bf00_90.2.1.1.1
theorem dX11_isLoafBehind_62 : decode cX11_isLoafBehind 62 = .ok (.iload_n 1, 1) := bf00_90.2.1.1.2
theorem dX11_isLoafBehind_63 : decode cX11_isLoafBehind 63 = .ok (.iaload, 1) := bf00_90.2.1.2.1
theorem dX11_isLoafBehind_64 : decode cX11_isLoafBehind 64 = .ok (.ifCond .ne 7, 3) := bf00_90.2.1.2.2
theorem dX11_isLoafBehind_67 : decode cX11_isLoafBehind 67 = .ok (.iconst 1, 1) := bf00_90.2.2.1.1
theorem dX11_isLoafBehind_68 : decode cX11_isLoafBehind 68 = .ok (.goto 4, 3) := bf00_90.2.2.1.2
theorem dX11_isLoafBehind_71 : decode cX11_isLoafBehind 71 = .ok (.iconst 0, 1) := bf00_90.2.2.2.1
theorem dX11_isLoafBehind_72 : decode cX11_isLoafBehind 72 = .ok (.ireturn, 1) := bf00_90.2.2.2.2
theorem bf00_91 : (((decode cX11_play 0 = .ok (.iload_n 3, 1) ∧ decode cX11_play 1 = .ok (.iconst 1, 1)) ∧ (decode cX11_play 2 = .ok (.ishr, 1) ∧ decode cX11_play 3 = .ok (.istore 4, 2))) ∧ ((decode cX11_play 5 = .ok (.iload_n 3, 1) ∧ decode cX11_play 6 = .ok (.iconst 1, 1)) ∧ (decode cX11_play 7 = .ok (.iand, 1) ∧ decode cX11_play 8 = .ok (.istore 5, 2)))) ∧ (((decode cX11_play 10 = .ok (.aload_n 0, 1) ∧ decode cX11_play 11 = .ok (.getfield 55, 3)) ∧ (decode cX11_play 14 = .ok (.aload_n 0, 1) ∧ decode cX11_play 15 = .ok (.getfield 39, 3))) ∧ ((decode cX11_play 18 = .ok (.getfield 61, 3) ∧ decode cX11_play 21 = .ok (.invokevirtual 224, 3)) ∧ (decode cX11_play 24 = .ok (.iload 4, 2) ∧ decode cX11_play 26 = .ok (.iconst 1, 1)))) := by decide +kernel
theorem dX11_play_0 : decode cX11_play 0 = .ok (.iload_n 3, 1) := bf00_91.1.1.1.1
theorem dX11_play_1 : decode cX11_play 1 = .ok (.iconst 1, 1) := bf00_91.1.1.1.2
theorem dX11_play_2 : decode cX11_play 2 = .ok (.ishr, 1) := bf00_91.1.1.2.1
theorem dX11_play_3 : decode cX11_play 3 = .ok (.istore 4, 2) := bf00_91.1.1.2.2
theorem dX11_play_5 : decode cX11_play 5 = .ok (.iload_n 3, 1) := bf00_91.1.2.1.1
theorem dX11_play_6 : decode cX11_play 6 = .ok (.iconst 1, 1) := bf00_91.1.2.1.2
theorem dX11_play_7 : decode cX11_play 7 = .ok (.iand, 1) := bf00_91.1.2.2.1
theorem dX11_play_8 : decode cX11_play 8 = .ok (.istore 5, 2) := bf00_91.1.2.2.2
theorem dX11_play_10 : decode cX11_play 10 = .ok (.aload_n 0, 1) := bf00_91.2.1.1.1
theorem dX11_play_11 : decode cX11_play 11 = .ok (.getfield 55, 3) := bf00_91.2.1.1.2
theorem dX11_play_14 : decode cX11_play 14 = .ok (.aload_n 0, 1) := bf00_91.2.1.2.1
theorem dX11_play_15 : decode cX11_play 15 = .ok (.getfield 39, 3) := bf00_91.2.1.2.2
theorem dX11_play_18 : decode cX11_play 18 = .ok (.getfield 61, 3) := bf00_91.2.2.1.1
theorem dX11_play_21 : decode cX11_play 21 = .ok (.invokevirtual 224, 3) := bf00_91.2.2.1.2
theorem dX11_play_24 : decode cX11_play 24 = .ok (.iload 4, 2) := bf00_91.2.2.2.1
theorem dX11_play_26 : decode cX11_play 26 = .ok (.iconst 1, 1) := bf00_91.2.2.2.2
theorem bf00_92 : (((decode cX11_play 27 = .ok (.if_icmp .ne 14, 3) ∧ decode cX11_play 30 = .ok (.aload_n 0, 1)) ∧ (decode cX11_play 31 = .ok (.getfield 55, 3) ∧ decode cX11_play 34 = .ok (.getfield 230, 3))) ∧ ((decode cX11_play 37 = .ok (.iload_n 1, 1) ∧ decode cX11_play 38 = .ok (.invokevirtual 351, 3)) ∧ (decode cX11_play 41 = .ok (.iload 5, 2) ∧ decode cX11_play 43 = .ok (.iconst 1, 1)))) ∧ (((decode cX11_play 44 = .ok (.if_icmp .ne 14, 3) ∧ decode cX11_play 47 = .ok (.aload_n 0, 1)) ∧ (decode cX11_play 48 = .ok (.getfield 55, 3) ∧ decode cX11_play 51 = .ok (.getfield 230, 3))) ∧ ((decode cX11_play 54 = .ok (.iload_n 2, 1) ∧ decode cX11_play 55 = .ok (.invokevirtual 351, 3)) ∧ (decode cX11_play 58 = .ok (.aload_n 0, 1) ∧ decode cX11_play 59 = .ok (.getfield 55, 3)))) := by decide +kernel
theorem dX11_play_27 : decode cX11_play 27 = .ok (.if_icmp .ne 14, 3) := bf00_92.1.1.1.1
theorem dX11_play_30 : decode cX11_play 30 = .ok (.aload_n 0, 1) := bf00_92.1.1.1.2
theorem dX11_play_31 : decode cX11_play 31 = .ok (.getfield 55, 3) := bf00_92.1.1.2.1
theorem dX11_play_34 : decode cX11_play 34 = .ok (.getfield 230, 3) := bf00_92.1.1.2.2
theorem dX11_play_37 : decode cX11_play 37 = .ok (.iload_n 1, 1) := bf00_92.1.2.1.1
theorem dX11_play_38 : decode cX11_play 38 = .ok (.invokevirtual 351, 3) := bf00_92.1.2.1.2
theorem dX11_play_41 : decode cX11_play 41 = .ok (.iload 5, 2) := bf00_92.1.2.2.1
theorem dX11_play_43 : decode cX11_play 43 = .ok (.iconst 1, 1) := bf00_92.1.2.2.2
theorem dX11_play_44 : decode cX11_play 44 = .ok (.if_icmp .ne 14, 3) := bf00_92.2.1.1.1
theorem dX11_play_47 : decode cX11_play 47 = .ok (.aload_n 0, 1) := bf00_92.2.1.1.2
theorem dX11_play_48 : decode cX11_play 48 = .ok (.getfield 55, 3) := bf00_92.2.1.2.1
theorem dX11_play_51 : decode cX11_play 51 = .ok (.getfield 230, 3) := bf00_92.2.1.2.2
theorem dX11_play_54 : decode cX11_play 54 = .ok (.iload_n 2, 1) := bf00_92.2.2.1.1
theorem dX11_play_55 : decode cX11_play 55 = .ok (.invokevirtual 351, 3) := bf00_92.2.2.1.2
theorem dX11_play_58 : decode cX11_play 58 = .ok (.aload_n 0, 1) := bf00_92.2.2.2.1
theorem dX11_play_59 : decode cX11_play 59 = .ok (.getfield 55, 3) := bf00_92.2.2.2.2
theorem bf00_93 : (((decode cX11_play 62 = .ok (.bipush 6, 2) ∧ decode cX11_play 64 = .ok (.invokevirtual 227, 3)) ∧ (decode cX11_play 67 = .ok (.aload_n 0, 1) ∧ decode cX11_play 68 = .ok (.getfield 79, 3))) ∧ ((decode cX11_play 71 = .ok (.iconst 2, 1) ∧ decode cX11_play 72 = .ok (.iload_n 3, 1)) ∧ (decode cX11_play 73 = .ok (.imul, 1) ∧ decode cX11_play 74 = .ok (.aload_n 0, 1)))) ∧ (((decode cX11_play 75 = .ok (.getfield 55, 3) ∧ decode cX11_play 78 = .ok (.getfield 230, 3)) ∧ (decode cX11_play 81 = .ok (.iload_n 1, 1) ∧ decode cX11_play 82 = .ok (.invokevirtual 354, 3))) ∧ ((decode cX11_play 85 = .ok (.iconst 3, 1) ∧ decode cX11_play 86 = .ok (.iload 4, 2)) ∧ (decode cX11_play 88 = .ok (.imul, 1) ∧ decode cX11_play 89 = .ok (.isub, 1)))) := by decide +kernel
theorem dX11_play_62 : decode cX11_play 62 = .ok (.bipush 6, 2) := bf00_93.1.1.1.1
theorem dX11_play_64 : decode cX11_play 64 = .ok (.invokevirtual 227, 3) := bf00_93.1.1.1.2
theorem dX11_play_67 : decode cX11_play 67 = .ok (.aload_n 0, 1) := bf00_93.1.1.2.1
theorem dX11_play_68 : decode cX11_play 68 = .ok (.getfield 79, 3) := bf00_93.1.1.2.2
theorem dX11_play_71 : decode cX11_play 71 = .ok (.iconst 2, 1) := bf00_93.1.2.1.1
theorem dX11_play_72 : decode cX11_play 72 = .ok (.iload_n 3, 1) := bf00_93.1.2.1.2
theorem dX11_play_73 : decode cX11_play 73 = .ok (.imul, 1) := bf00_93.1.2.2.1
theorem dX11_play_74 : decode cX11_play 74 = .ok (.aload_n 0, 1) := bf00_93.1.2.2.2
theorem dX11_play_75 : decode cX11_play 75 = .ok (.getfield 55, 3) := bf00_93.2.1.1.1
theorem dX11_play_78 : decode cX11_play 78 = .ok (.getfield 230, 3) := bf00_93.2.1.1.2
theorem dX11_play_81 : decode cX11_play 81 = .ok (.iload_n 1, 1) := bf00_93.2.1.2.1
theorem dX11_play_82 : decode cX11_play 82 = .ok (.invokevirtual 354, 3) := bf00_93.2.1.2.2
theorem dX11_play_85 : decode cX11_play 85 = .ok (.iconst 3, 1) := bf00_93.2.2.1.1
theorem dX11_play_86 : decode cX11_play 86 = .ok (.iload 4, 2) := bf00_93.2.2.1.2
theorem dX11_play_88 : decode cX11_play 88 = .ok (.imul, 1) := bf00_93.2.2.2.1
theorem dX11_play_89 : decode cX11_play 89 = .ok (.isub, 1) := bf00_93.2.2.2.2
theorem bf00_94 : (((decode cX11_play 90 = .ok (.iastore, 1) ∧ decode cX11_play 91 = .ok (.aload_n 0, 1)) ∧ (decode cX11_play 92 = .ok (.getfield 79, 3) ∧ decode cX11_play 95 = .ok (.iconst 2, 1))) ∧ ((decode cX11_play 96 = .ok (.iload_n 3, 1) ∧ decode cX11_play 97 = .ok (.imul, 1)) ∧ (decode cX11_play 98 = .ok (.iconst 1, 1) ∧ decode cX11_play 99 = .ok (.iadd, 1)))) ∧ (((decode cX11_play 100 = .ok (.aload_n 0, 1) ∧ decode cX11_play 101 = .ok (.getfield 55, 3)) ∧ (decode cX11_play 104 = .ok (.getfield 230, 3) ∧ decode cX11_play 107 = .ok (.iload_n 2, 1))) ∧ ((decode cX11_play 108 = .ok (.invokevirtual 354, 3) ∧ decode cX11_play 111 = .ok (.iconst 3, 1)) ∧ (decode cX11_play 112 = .ok (.iload 5, 2) ∧ decode cX11_play 114 = .ok (.imul, 1)))) := by decide +kernel
theorem dX11_play_90 : decode cX11_play 90 = .ok (.iastore, 1) := bf00_94.1.1.1.1
theorem dX11_play_91 : decode cX11_play 91 = .ok (.aload_n 0, 1) := bf00_94.1.1.1.2
theorem dX11_play_92 : decode cX11_play 92 = .ok (.getfield 79, 3) := bf00_94.1.1.2.1
theorem dX11_play_95 : decode cX11_play 95 = .ok (.iconst 2, 1) := bf00_94.1.1.2.2
theorem dX11_play_96 : decode cX11_play 96 = .ok (.iload_n 3, 1) := bf00_94.1.2.1.1
theorem dX11_play_97 : decode cX11_play 97 = .ok (.imul, 1) := bf00_94.1.2.1.2
theorem dX11_play_98 : decode cX11_play 98 = .ok (.iconst 1, 1) := bf00_94.1.2.2.1
theorem dX11_play_99 : decode cX11_play 99 = .ok (.iadd, 1) := bf00_94.1.2.2.2
theorem dX11_play_100 : decode cX11_play 100 = .ok (.aload_n 0, 1) := bf00_94.2.1.1.1
theorem dX11_play_101 : decode cX11_play 101 = .ok (.getfield 55, 3) := bf00_94.2.1.1.2
theorem dX11_play_104 : decode cX11_play 104 = .ok (.getfield 230, 3) := bf00_94.2.1.2.1
theorem dX11_play_107 : decode cX11_play 107 = .ok (.iload_n 2, 1) := bf00_94.2.1.2.2
theorem dX11_play_108 : decode cX11_play 108 = .ok (.invokevirtual 354, 3) := bf00_94.2.2.1.1
theorem dX11_play_111 : decode cX11_play 111 = .ok (.iconst 3, 1) := bf00_94.2.2.1.2
theorem dX11_play_112 : decode cX11_play 112 = .ok (.iload 5, 2) := bf00_94.2.2.2.1
theorem dX11_play_114 : decode cX11_play 114 = .ok (.imul, 1) := bf00_94.2.2.2.2
theorem bf00_95 : ((decode cX11_play 115 = .ok (.isub, 1) ∧ decode cX11_play 116 = .ok (.iastore, 1)) ∧ (decode cX11_play 117 = .ok (.return_, 1) ∧ decode cX11_rests 0 = .ok (.aload_n 0, 1))) ∧ ((decode cX11_rests 1 = .ok (.getfield 79, 3) ∧ decode cX11_rests 4 = .ok (.iconst 2, 1)) ∧ (decode cX11_rests 5 = .ok (.iload_n 1, 1) ∧ decode cX11_rests 6 = .ok (.iconst 2, 1))) := by decide +kernel
theorem dX11_play_115 : decode cX11_play 115 = .ok (.isub, 1) := bf00_95.1.1.1
theorem dX11_play_116 : decode cX11_play 116 = .ok (.iastore, 1) := bf00_95.1.1.2
theorem dX11_play_117 : decode cX11_play 117 = .ok (.return_, 1) := bf00_95.1.2.1
theorem dX11_rests_0 : decode cX11_rests 0 = .ok (.aload_n 0, 1) := bf00_95.1.2.2
theorem dX11_rests_1 : decode cX11_rests 1 = .ok (.getfield 79, 3) := bf00_95.2.1.1
theorem dX11_rests_4 : decode cX11_rests 4 = .ok (.iconst 2, 1) := bf00_95.2.1.2
theorem dX11_rests_5 : decode cX11_rests 5 = .ok (.iload_n 1, 1) := bf00_95.2.2.1
theorem dX11_rests_6 : decode cX11_rests 6 = .ok (.iconst 2, 1) := bf00_95.2.2.2
theorem bf00_96 : (((decode cX11_rests 7 = .ok (.ixor, 1) ∧ decode cX11_rests 8 = .ok (.imul, 1)) ∧ (decode cX11_rests 9 = .ok (.iaload, 1) ∧ decode cX11_rests 10 = .ok (.istore_n 2, 1))) ∧ ((decode cX11_rests 11 = .ok (.aload_n 0, 1) ∧ decode cX11_rests 12 = .ok (.getfield 79, 3)) ∧ (decode cX11_rests 15 = .ok (.iconst 2, 1) ∧ decode cX11_rests 16 = .ok (.iload_n 1, 1)))) ∧ (((decode cX11_rests 17 = .ok (.iconst 1, 1) ∧ decode cX11_rests 18 = .ok (.ixor, 1)) ∧ (decode cX11_rests 19 = .ok (.imul, 1) ∧ decode cX11_rests 20 = .ok (.iconst 1, 1))) ∧ ((decode cX11_rests 21 = .ok (.iadd, 1) ∧ decode cX11_rests 22 = .ok (.iaload, 1)) ∧ (decode cX11_rests 23 = .ok (.istore_n 3, 1) ∧ decode cX11_rests 24 = .ok (.iload_n 2, 1)))) := by decide +kernel
theorem dX11_rests_7 : decode cX11_rests 7 = .ok (.ixor, 1) := bf00_96.1.1.1.1
theorem dX11_rests_8 : decode cX11_rests 8 = .ok (.imul, 1) := bf00_96.1.1.1.2
theorem dX11_rests_9 : decode cX11_rests 9 = .ok (.iaload, 1) := bf00_96.1.1.2.1
theorem dX11_rests_10 : decode cX11_rests 10 = .ok (.istore_n 2, 1) := bf00_96.1.1.2.2
theorem dX11_rests_11 : decode cX11_rests 11 = .ok (.aload_n 0, 1) := bf00_96.1.2.1.1
theorem dX11_rests_12 : decode cX11_rests 12 = .ok (.getfield 79, 3) := bf00_96.1.2.1.2
theorem dX11_rests_15 : decode cX11_rests 15 = .ok (.iconst 2, 1) := bf00_96.1.2.2.1
theorem dX11_rests_16 : decode cX11_rests 16 = .ok (.iload_n 1, 1) := bf00_96.1.2.2.2
theorem dX11_rests_17 : decode cX11_rests 17 = .ok (.iconst 1, 1) := bf00_96.2.1.1.1
theorem dX11_rests_18 : decode cX11_rests 18 = .ok (.ixor, 1) := bf00_96.2.1.1.2
theorem dX11_rests_19 : decode cX11_rests 19 = .ok (.imul, 1) := bf00_96.2.1.2.1
theorem dX11_rests_20 : decode cX11_rests 20 = .ok (.iconst 1, 1) := bf00_96.2.1.2.2
theorem dX11_rests_21 : decode cX11_rests 21 = .ok (.iadd, 1) := bf00_96.2.2.1.1
theorem dX11_rests_22 : decode cX11_rests 22 = .ok (.iaload, 1) := bf00_96.2.2.1.2
theorem dX11_rests_23 : decode cX11_rests 23 = .ok (.istore_n 3, 1) := bf00_96.2.2.2.1
theorem dX11_rests_24 : decode cX11_rests 24 = .ok (.iload_n 2, 1) := bf00_96.2.2.2.2
theorem bf00_97 : (((decode cX11_rests 25 = .ok (.aload_n 0, 1) ∧ decode cX11_rests 26 = .ok (.getfield 79, 3)) ∧ (decode cX11_rests 29 = .ok (.iconst 2, 1) ∧ decode cX11_rests 30 = .ok (.iload_n 1, 1))) ∧ ((decode cX11_rests 31 = .ok (.imul, 1) ∧ decode cX11_rests 32 = .ok (.iaload, 1)) ∧ (decode cX11_rests 33 = .ok (.if_icmp .gt 21, 3) ∧ decode cX11_rests 36 = .ok (.iload_n 3, 1)))) ∧ (((decode cX11_rests 37 = .ok (.aload_n 0, 1) ∧ decode cX11_rests 38 = .ok (.getfield 79, 3)) ∧ (decode cX11_rests 41 = .ok (.iconst 2, 1) ∧ decode cX11_rests 42 = .ok (.iload_n 1, 1))) ∧ ((decode cX11_rests 43 = .ok (.imul, 1) ∧ decode cX11_rests 44 = .ok (.iconst 1, 1)) ∧ (decode cX11_rests 45 = .ok (.iadd, 1) ∧ decode cX11_rests 46 = .ok (.iaload, 1)))) := by decide +kernel
theorem dX11_rests_25 : decode cX11_rests 25 = .ok (.aload_n 0, 1) := bf00_97.1.1.1.1
theorem dX11_rests_26 : decode cX11_rests 26 = .ok (.getfield 79, 3) := bf00_97.1.1.1.2
theorem dX11_rests_29 : decode cX11_rests 29 = .ok (.iconst 2, 1) := bf00_97.1.1.2.1
theorem dX11_rests_30 : decode cX11_rests 30 = .ok (.iload_n 1, 1) := bf00_97.1.1.2.2
theorem dX11_rests_31 : decode cX11_rests 31 = .ok (.imul, 1) := bf00_97.1.2.1.1
theorem dX11_rests_32 : decode cX11_rests 32 = .ok (.iaload, 1) := bf00_97.1.2.1.2
theorem dX11_rests_33 : decode cX11_rests 33 = .ok (.if_icmp .gt 21, 3) := bf00_97.1.2.2.1
theorem dX11_rests_36 : decode cX11_rests 36 = .ok (.iload_n 3, 1) := bf00_97.1.2.2.2
theorem dX11_rests_37 : decode cX11_rests 37 = .ok (.aload_n 0, 1) := bf00_97.2.1.1.1
theorem dX11_rests_38 : decode cX11_rests 38 = .ok (.getfield 79, 3) := bf00_97.2.1.1.2
theorem dX11_rests_41 : decode cX11_rests 41 = .ok (.iconst 2, 1) := bf00_97.2.1.2.1
theorem dX11_rests_42 : decode cX11_rests 42 = .ok (.iload_n 1, 1) := bf00_97.2.1.2.2
theorem dX11_rests_43 : decode cX11_rests 43 = .ok (.imul, 1) := bf00_97.2.2.1.1
theorem dX11_rests_44 : decode cX11_rests 44 = .ok (.iconst 1, 1) := bf00_97.2.2.1.2
theorem dX11_rests_45 : decode cX11_rests 45 = .ok (.iadd, 1) := bf00_97.2.2.2.1
theorem dX11_rests_46 : decode cX11_rests 46 = .ok (.iaload, 1) := bf00_97.2.2.2.2
theorem bf00_98 : ((decode cX11_rests 47 = .ok (.if_icmp .gt 7, 3) ∧ decode cX11_rests 50 = .ok (.iconst 1, 1)) ∧ (decode cX11_rests 51 = .ok (.goto 4, 3))) ∧ (decode cX11_rests 54 = .ok (.iconst 0, 1) ∧ decode cX11_rests 55 = .ok (.ireturn, 1)) := by decide +kernel
theorem dX11_rests_47 : decode cX11_rests 47 = .ok (.if_icmp .gt 7, 3) := bf00_98.1.1.1
theorem dX11_rests_50 : decode cX11_rests 50 = .ok (.iconst 1, 1) := bf00_98.1.1.2
theorem dX11_rests_51 : decode cX11_rests 51 = .ok (.goto 4, 3) := bf00_98.1.2
theorem dX11_rests_54 : decode cX11_rests 54 = .ok (.iconst 0, 1) := bf00_98.2.1
theorem dX11_rests_55 : decode cX11_rests 55 = .ok (.ireturn, 1) := bf00_98.2.2
