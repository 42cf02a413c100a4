set_option maxRecDepth 20000 in
theorem ggX11_cut_X0_keep : GoodIn wsX11_cut wsX0_keep := goodIn_r _ [22, 23, 24, 25, 26, 27, 28, 29, 30, 31, 32, 33, 34, 35, 36, 37, 38, 39, 40, 41, 76, 77, 67, 68, 69, 70, 71, 72, 73, 74, 75] (by decide +kernel) (by decide +kernel)
set_option maxRecDepth 20000 in
theorem gX11_cut_X0_keep : GoodIn wsX11_cut (wsV RX11 221 RX0 yX0_keep wsX0_keep) := goodIn_app (goodIn_of _ (by decide +kernel)) ggX11_cut_X0_keep
set_option maxRecDepth 20000 in
theorem ggX11_cut_X8_carve : GoodIn wsX11_cut wsX8_carve := goodIn_r _ [45, 37, 46, 47, 48, 32, 49, 34, 36, 67, 68, 69, 70, 71, 72, 73, 74, 75] (by decide +kernel) (by decide +kernel)
set_option maxRecDepth 20000 in
theorem gX11_cut_X8_carve : GoodIn wsX11_cut (wsV RX11 233 RX8 yX8_carve wsX8_carve) := goodIn_app (goodIn_of _ (by decide +kernel)) ggX11_cut_X8_carve
theorem dX11_cut_0 : decode cX11_cut 0 = .ok (.aload_n 0, 1) := by decide +kernel
theorem dX11_cut_1 : decode cX11_cut 1 = .ok (.iload_n 1, 1) := by decide +kernel
theorem dX11_cut_2 : decode cX11_cut 2 = .ok (.invokevirtual 178, 3) := by decide +kernel
theorem dX11_cut_5 : decode cX11_cut 5 = .ok (.iload_n 2, 1) := by decide +kernel
theorem dX11_cut_6 : decode cX11_cut 6 = .ok (.ifCond .lt 19, 3) := by decide +kernel
theorem dX11_cut_9 : decode cX11_cut 9 = .ok (.iload_n 2, 1) := by decide +kernel
theorem dX11_cut_10 : decode cX11_cut 10 = .ok (.bipush 9, 2) := by decide +kernel
theorem dX11_cut_12 : decode cX11_cut 12 = .ok (.if_icmp .gt 13, 3) := by decide +kernel
theorem dX11_cut_15 : decode cX11_cut 15 = .ok (.iload_n 3, 1) := by decide +kernel
theorem dX11_cut_16 : decode cX11_cut 16 = .ok (.ifCond .lt 9, 3) := by decide +kernel
theorem dX11_cut_19 : decode cX11_cut 19 = .ok (.iload_n 3, 1) := by decide +kernel
theorem dX11_cut_20 : decode cX11_cut 20 = .ok (.bipush 9, 2) := by decide +kernel
theorem dX11_cut_22 : decode cX11_cut 22 = .ok (.if_icmp .le 9, 3) := by decide +kernel
theorem dX11_cut_25 : decode cX11_cut 25 = .ok (.aload_n 0, 1) := by decide +kernel
theorem dX11_cut_26 : decode cX11_cut 26 = .ok (.iconst (-1), 1) := by decide +kernel
theorem dX11_cut_27 : decode cX11_cut 27 = .ok (.invokevirtual 218, 3) := by decide +kernel
theorem dX11_cut_30 : decode cX11_cut 30 = .ok (.ireturn, 1) := by decide +kernel
theorem dX11_cut_31 : decode cX11_cut 31 = .ok (.aload_n 0, 1) := by decide +kernel
theorem dX11_cut_32 : decode cX11_cut 32 = .ok (.getfield 39, 3) := by decide +kernel
theorem dX11_cut_35 : decode cX11_cut 35 = .ok (.getfield 157, 3) := by decide +kernel
theorem dX11_cut_38 : decode cX11_cut 38 = .ok (.aload_n 0, 1) := by decide +kernel
theorem dX11_cut_39 : decode cX11_cut 39 = .ok (.getfield 39, 3) := by decide +kernel
theorem dX11_cut_42 : decode cX11_cut 42 = .ok (.getfield 61, 3) := by decide +kernel
theorem dX11_cut_45 : decode cX11_cut 45 = .ok (.invokevirtual 221, 3) := by decide +kernel
theorem dX11_cut_48 : decode cX11_cut 48 = .ok (.aload_n 0, 1) := by decide +kernel
theorem dX11_cut_49 : decode cX11_cut 49 = .ok (.getfield 39, 3) := by decide +kernel
theorem dX11_cut_52 : decode cX11_cut 52 = .ok (.getfield 61, 3) := by decide +kernel
theorem dX11_cut_55 : decode cX11_cut 55 = .ok (.getfield 187, 3) := by decide +kernel
theorem dX11_cut_58 : decode cX11_cut 58 = .ok (.iload_n 1, 1) := by decide +kernel
theorem dX11_cut_59 : decode cX11_cut 59 = .ok (.iaload, 1) := by decide +kernel
theorem dX11_cut_60 : decode cX11_cut 60 = .ok (.istore 4, 2) := by decide +kernel
theorem dX11_cut_62 : decode cX11_cut 62 = .ok (.aload_n 0, 1) := by decide +kernel
theorem dX11_cut_63 : decode cX11_cut 63 = .ok (.getfield 39, 3) := by decide +kernel
theorem dX11_cut_66 : decode cX11_cut 66 = .ok (.getfield 61, 3) := by decide +kernel
theorem dX11_cut_69 : decode cX11_cut 69 = .ok (.iload_n 1, 1) := by decide +kernel
theorem dX11_cut_70 : decode cX11_cut 70 = .ok (.iload_n 2, 1) := by decide +kernel
theorem dX11_cut_71 : decode cX11_cut 71 = .ok (.iload_n 3, 1) := by decide +kernel
theorem dX11_cut_72 : decode cX11_cut 72 = .ok (.invokevirtual 233, 3) := by decide +kernel
theorem dX11_cut_75 : decode cX11_cut 75 = .ok (.iload 4, 2) := by decide +kernel
theorem dX11_cut_77 : decode cX11_cut 77 = .ok (.ireturn, 1) := by decide +kernel
set_option maxRecDepth 20000 in
theorem ggX11_call_X11_needPerson : GoodIn wsX11_call wsX11_needPerson := goodIn_ca (goodIn_r _ [9, 10, 11, 1, 2, 12, 42, 43, 44, 45, 46, 47, 48, 49, 50, 51, 52, 53, 54, 55, 56, 57, 58, 59, 60, 61, 62, 63, 64, 65, 66, 67] (by decide +kernel) (by decide +kernel)) (goodIn_sub (fun _ h => List.mem_cons_of_mem _ (List.mem_append_right _ h)) (by decide +kernel))
set_option maxRecDepth 20000 in
theorem gX11_call_X11_needPerson : GoodIn wsX11_call (wsV RX11 198 RX11 yX11_needPerson wsX11_needPerson) := goodIn_app (goodIn_of _ (by decide +kernel)) ggX11_call_X11_needPerson
set_option maxRecDepth 20000 in
theorem ggX11_call_X11_refuseAct : GoodIn wsX11_call wsX11_refuseAct := goodIn_r _ [16, 1, 17, 42, 43, 44, 45, 46, 47, 48, 49, 50, 51, 52, 53, 54, 55, 56, 57, 58] (by decide +kernel) (by decide +kernel)
set_option maxRecDepth 20000 in
theorem gX11_call_X11_refuseAct : GoodIn wsX11_call (wsV RX11 218 RX11 yX11_refuseAct wsX11_refuseAct) := goodIn_app (goodIn_of _ (by decide +kernel)) ggX11_call_X11_refuseAct
set_option maxRecDepth 20000 in
theorem ggX11_call_X0_keep : GoodIn wsX11_call wsX0_keep := goodIn_r _ [22, 23, 24, 25, 26, 27, 28, 29, 30, 31, 32, 33, 34, 35, 36, 37, 38, 39, 40, 41, 68, 69, 59, 60, 61, 62, 63, 64, 65, 66, 67] (by decide +kernel) (by decide +kernel)
set_option maxRecDepth 20000 in
theorem gX11_call_X0_keep : GoodIn wsX11_call (wsV RX11 221 RX0 yX0_keep wsX0_keep) := goodIn_app (goodIn_of _ (by decide +kernel)) ggX11_call_X0_keep
theorem dX11_call_0 : decode cX11_call 0 = .ok (.aload_n 0, 1) := by decide +kernel
theorem dX11_call_1 : decode cX11_call 1 = .ok (.iload_n 1, 1) := by decide +kernel
theorem dX11_call_2 : decode cX11_call 2 = .ok (.invokevirtual 198, 3) := by decide +kernel
theorem dX11_call_5 : decode cX11_call 5 = .ok (.aload_n 0, 1) := by decide +kernel
theorem dX11_call_6 : decode cX11_call 6 = .ok (.getfield 39, 3) := by decide +kernel
theorem dX11_call_9 : decode cX11_call 9 = .ok (.getfield 61, 3) := by decide +kernel
theorem dX11_call_12 : decode cX11_call 12 = .ok (.getfield 210, 3) := by decide +kernel
theorem dX11_call_15 : decode cX11_call 15 = .ok (.iload_n 1, 1) := by decide +kernel
theorem dX11_call_16 : decode cX11_call 16 = .ok (.iaload, 1) := by decide +kernel
theorem dX11_call_17 : decode cX11_call 17 = .ok (.istore_n 2, 1) := by decide +kernel
theorem dX11_call_18 : decode cX11_call 18 = .ok (.iload_n 2, 1) := by decide +kernel
theorem dX11_call_19 : decode cX11_call 19 = .ok (.iconst (-1), 1) := by decide +kernel
theorem dX11_call_20 : decode cX11_call 20 = .ok (.if_icmp .ne 9, 3) := by decide +kernel
theorem dX11_call_23 : decode cX11_call 23 = .ok (.aload_n 0, 1) := by decide +kernel
theorem dX11_call_24 : decode cX11_call 24 = .ok (.iconst (-1), 1) := by decide +kernel
theorem dX11_call_25 : decode cX11_call 25 = .ok (.invokevirtual 218, 3) := by decide +kernel
theorem dX11_call_28 : decode cX11_call 28 = .ok (.ireturn, 1) := by decide +kernel
theorem dX11_call_29 : decode cX11_call 29 = .ok (.aload_n 0, 1) := by decide +kernel
theorem dX11_call_30 : decode cX11_call 30 = .ok (.getfield 39, 3) := by decide +kernel
theorem dX11_call_33 : decode cX11_call 33 = .ok (.getfield 157, 3) := by decide +kernel
theorem dX11_call_36 : decode cX11_call 36 = .ok (.aload_n 0, 1) := by decide +kernel
theorem dX11_call_37 : decode cX11_call 37 = .ok (.getfield 39, 3) := by decide +kernel
theorem dX11_call_40 : decode cX11_call 40 = .ok (.getfield 61, 3) := by decide +kernel
theorem dX11_call_43 : decode cX11_call 43 = .ok (.invokevirtual 221, 3) := by decide +kernel
theorem dX11_call_46 : decode cX11_call 46 = .ok (.aload_n 0, 1) := by decide +kernel
theorem dX11_call_47 : decode cX11_call 47 = .ok (.getfield 39, 3) := by decide +kernel
theorem dX11_call_50 : decode cX11_call 50 = .ok (.getfield 61, 3) := by decide +kernel
theorem dX11_call_53 : decode cX11_call 53 = .ok (.getfield 210, 3) := by decide +kernel
theorem dX11_call_56 : decode cX11_call 56 = .ok (.iload_n 1, 1) := by decide +kernel
theorem dX11_call_57 : decode cX11_call 57 = .ok (.iconst (-1), 1) := by decide +kernel
theorem dX11_call_58 : decode cX11_call 58 = .ok (.iastore, 1) := by decide +kernel
theorem dX11_call_59 : decode cX11_call 59 = .ok (.iload_n 2, 1) := by decide +kernel
theorem dX11_call_60 : decode cX11_call 60 = .ok (.ireturn, 1) := by decide +kernel
set_option maxRecDepth 20000 in
theorem ggX11_lift_X11_needPerson : GoodIn wsX11_lift wsX11_needPerson := goodIn_ca (goodIn_r _ [9, 10, 11, 1, 2, 12, 52, 53, 54, 55, 56, 57, 58, 59, 60, 61, 62, 63, 64, 65, 66, 67, 68, 69, 70, 71, 72, 73, 74, 75, 76, 77] (by decide +kernel) (by decide +kernel)) (goodIn_sub (fun _ h => List.mem_cons_of_mem _ (List.mem_append_right _ h)) (by decide +kernel))
set_option maxRecDepth 20000 in
theorem gX11_lift_X11_needPerson : GoodIn wsX11_lift (wsV RX11 198 RX11 yX11_needPerson wsX11_needPerson) := goodIn_app (goodIn_of _ (by decide +kernel)) ggX11_lift_X11_needPerson
set_option maxRecDepth 20000 in
theorem ggX11_lift_X11_needGargoyle : GoodIn wsX11_lift wsX11_needGargoyle := goodIn_ca (goodIn_r _ [16, 10, 11, 1, 2, 17, 52, 53, 54, 55, 56, 57, 58, 59, 60, 61, 62, 63, 64, 65, 66, 67, 68, 69, 70, 71, 72, 73, 74, 75, 76, 77] (by decide +kernel) (by decide +kernel)) (goodIn_sub (fun _ h => List.mem_cons_of_mem _ (List.mem_append_right _ h)) (by decide +kernel))
set_option maxRecDepth 20000 in
theorem gX11_lift_X11_needGargoyle : GoodIn wsX11_lift (wsV RX11 178 RX11 yX11_needGargoyle wsX11_needGargoyle) := goodIn_app (goodIn_of _ (by decide +kernel)) ggX11_lift_X11_needGargoyle
set_option maxRecDepth 20000 in
theorem ggX11_lift_X8_sitterAt : GoodIn wsX11_lift wsX8_sitterAt := goodIn_r _ [22, 23, 24, 69, 70, 71, 72, 73, 74, 75, 76, 77] (by decide +kernel) (by decide +kernel)
set_option maxRecDepth 20000 in
theorem gX11_lift_X8_sitterAt : GoodIn wsX11_lift (wsV RX11 190 RX8 yX8_sitterAt wsX8_sitterAt) := goodIn_app (goodIn_of _ (by decide +kernel)) ggX11_lift_X8_sitterAt
set_option maxRecDepth 20000 in
theorem ggX11_lift_X11_refuseAct : GoodIn wsX11_lift wsX11_refuseAct := goodIn_r _ [28, 1, 29, 52, 53, 54, 55, 56, 57, 58, 59, 60, 61, 62, 63, 64, 65, 66, 67, 68] (by decide +kernel) (by decide +kernel)
set_option maxRecDepth 20000 in
theorem gX11_lift_X11_refuseAct : GoodIn wsX11_lift (wsV RX11 218 RX11 yX11_refuseAct wsX11_refuseAct) := goodIn_app (goodIn_of _ (by decide +kernel)) ggX11_lift_X11_refuseAct
set_option maxRecDepth 20000 in
theorem ggX11_lift_X0_keep : GoodIn wsX11_lift wsX0_keep := goodIn_r _ [34, 35, 36, 37, 38, 39, 40, 41, 42, 43, 21, 44, 45, 46, 47, 48, 49, 50, 24, 51, 78, 79, 69, 70, 71, 72, 73, 74, 75, 76, 77] (by decide +kernel) (by decide +kernel)
set_option maxRecDepth 20000 in
theorem gX11_lift_X0_keep : GoodIn wsX11_lift (wsV RX11 221 RX0 yX0_keep wsX0_keep) := goodIn_app (goodIn_of _ (by decide +kernel)) ggX11_lift_X0_keep
theorem dX11_lift_0 : decode cX11_lift 0 = .ok (.aload_n 0, 1) := by decide +kernel
theorem dX11_lift_1 : decode cX11_lift 1 = .ok (.iload_n 1, 1) := by decide +kernel
theorem dX11_lift_2 : decode cX11_lift 2 = .ok (.invokevirtual 198, 3) := by decide +kernel
theorem dX11_lift_5 : decode cX11_lift 5 = .ok (.aload_n 0, 1) := by decide +kernel
theorem dX11_lift_6 : decode cX11_lift 6 = .ok (.iload_n 2, 1) := by decide +kernel
theorem dX11_lift_7 : decode cX11_lift 7 = .ok (.invokevirtual 178, 3) := by decide +kernel
theorem dX11_lift_10 : decode cX11_lift 10 = .ok (.aload_n 0, 1) := by decide +kernel
theorem dX11_lift_11 : decode cX11_lift 11 = .ok (.getfield 39, 3) := by decide +kernel
theorem dX11_lift_14 : decode cX11_lift 14 = .ok (.getfield 61, 3) := by decide +kernel
theorem dX11_lift_17 : decode cX11_lift 17 = .ok (.getfield 210, 3) := by decide +kernel
theorem dX11_lift_20 : decode cX11_lift 20 = .ok (.iload_n 1, 1) := by decide +kernel
theorem dX11_lift_21 : decode cX11_lift 21 = .ok (.iaload, 1) := by decide +kernel
theorem dX11_lift_22 : decode cX11_lift 22 = .ok (.iconst (-1), 1) := by decide +kernel
theorem dX11_lift_23 : decode cX11_lift 23 = .ok (.if_icmp .ne 18, 3) := by decide +kernel
theorem dX11_lift_26 : decode cX11_lift 26 = .ok (.aload_n 0, 1) := by decide +kernel
theorem dX11_lift_27 : decode cX11_lift 27 = .ok (.getfield 39, 3) := by decide +kernel
theorem dX11_lift_30 : decode cX11_lift 30 = .ok (.getfield 61, 3) := by decide +kernel
theorem dX11_lift_33 : decode cX11_lift 33 = .ok (.iload_n 2, 1) := by decide +kernel
theorem dX11_lift_34 : decode cX11_lift 34 = .ok (.invokevirtual 190, 3) := by decide +kernel
theorem dX11_lift_37 : decode cX11_lift 37 = .ok (.iconst (-1), 1) := by decide +kernel
theorem dX11_lift_38 : decode cX11_lift 38 = .ok (.if_icmp .eq 11, 3) := by decide +kernel
theorem dX11_lift_41 : decode cX11_lift 41 = .ok (.aload_n 0, 1) := by decide +kernel
theorem dX11_lift_42 : decode cX11_lift 42 = .ok (.iconst (-1), 1) := by decide +kernel
theorem dX11_lift_43 : decode cX11_lift 43 = .ok (.invokevirtual 218, 3) := by decide +kernel
theorem dX11_lift_46 : decode cX11_lift 46 = .ok (.pop, 1) := by decide +kernel
theorem dX11_lift_47 : decode cX11_lift 47 = .ok (.iconst 0, 1) := by decide +kernel
theorem dX11_lift_48 : decode cX11_lift 48 = .ok (.ireturn, 1) := by decide +kernel
theorem dX11_lift_49 : decode cX11_lift 49 = .ok (.aload_n 0, 1) := by decide +kernel
theorem dX11_lift_50 : decode cX11_lift 50 = .ok (.getfield 39, 3) := by decide +kernel
theorem dX11_lift_53 : decode cX11_lift 53 = .ok (.getfield 157, 3) := by decide +kernel
theorem dX11_lift_56 : decode cX11_lift 56 = .ok (.aload_n 0, 1) := by decide +kernel
theorem dX11_lift_57 : decode cX11_lift 57 = .ok (.getfield 39, 3) := by decide +kernel
theorem dX11_lift_60 : decode cX11_lift 60 = .ok (.getfield 61, 3) := by decide +kernel
theorem dX11_lift_63 : decode cX11_lift 63 = .ok (.invokevirtual 221, 3) := by decide +kernel
theorem dX11_lift_66 : decode cX11_lift 66 = .ok (.aload_n 0, 1) := by decide +kernel
theorem dX11_lift_67 : decode cX11_lift 67 = .ok (.getfield 39, 3) := by decide +kernel
theorem dX11_lift_70 : decode cX11_lift 70 = .ok (.getfield 61, 3) := by decide +kernel
theorem dX11_lift_73 : decode cX11_lift 73 = .ok (.getfield 210, 3) := by decide +kernel
theorem dX11_lift_76 : decode cX11_lift 76 = .ok (.iload_n 1, 1) := by decide +kernel
theorem dX11_lift_77 : decode cX11_lift 77 = .ok (.iload_n 2, 1) := by decide +kernel
theorem dX11_lift_78 : decode cX11_lift 78 = .ok (.iastore, 1) := by decide +kernel
theorem dX11_lift_79 : decode cX11_lift 79 = .ok (.iconst 1, 1) := by decide +kernel
theorem dX11_lift_80 : decode cX11_lift 80 = .ok (.ireturn, 1) := by decide +kernel
set_option maxRecDepth 20000 in
theorem ggX11_leave_X11_needPerson : GoodIn wsX11_leave wsX11_needPerson := goodIn_ca (goodIn_r _ [9, 10, 11, 1, 2, 12, 47, 48, 49, 50, 51, 52, 53, 54, 55, 56, 57, 58, 59, 60, 61, 62, 63, 64, 65, 66, 67, 68, 69, 70, 71, 72] (by decide +kernel) (by decide +kernel)) (goodIn_sub (fun _ h => List.mem_cons_of_mem _ (List.mem_append_right _ h)) (by decide +kernel))
set_option maxRecDepth 20000 in
theorem gX11_leave_X11_needPerson : GoodIn wsX11_leave (wsV RX11 198 RX11 yX11_needPerson wsX11_needPerson) := goodIn_app (goodIn_of _ (by decide +kernel)) ggX11_leave_X11_needPerson
set_option maxRecDepth 20000 in
theorem ggX11_leave_X11_needGargoyle : GoodIn wsX11_leave wsX11_needGargoyle := goodIn_ca (goodIn_r _ [16, 10, 11, 1, 2, 17, 47, 48, 49, 50, 51, 52, 53, 54, 55, 56, 57, 58, 59, 60, 61, 62, 63, 64, 65, 66, 67, 68, 69, 70, 71, 72] (by decide +kernel) (by decide +kernel)) (goodIn_sub (fun _ h => List.mem_cons_of_mem _ (List.mem_append_right _ h)) (by decide +kernel))
set_option maxRecDepth 20000 in
theorem gX11_leave_X11_needGargoyle : GoodIn wsX11_leave (wsV RX11 178 RX11 yX11_needGargoyle wsX11_needGargoyle) := goodIn_app (goodIn_of _ (by decide +kernel)) ggX11_leave_X11_needGargoyle
set_option maxRecDepth 20000 in
theorem ggX11_leave_X11_refuseAct : GoodIn wsX11_leave wsX11_refuseAct := goodIn_r _ [21, 1, 22, 47, 48, 49, 50, 51, 52, 53, 54, 55, 56, 57, 58, 59, 60, 61, 62, 63] (by decide +kernel) (by decide +kernel)
set_option maxRecDepth 20000 in
theorem gX11_leave_X11_refuseAct : GoodIn wsX11_leave (wsV RX11 218 RX11 yX11_refuseAct wsX11_refuseAct) := goodIn_app (goodIn_of _ (by decide +kernel)) ggX11_leave_X11_refuseAct
set_option maxRecDepth 20000 in
theorem ggX11_leave_X0_keep : GoodIn wsX11_leave wsX0_keep := goodIn_r _ [27, 28, 29, 30, 31, 32, 33, 34, 35, 36, 37, 38, 39, 40, 41, 42, 43, 44, 45, 46, 73, 74, 64, 65, 66, 67, 68, 69, 70, 71, 72] (by decide +kernel) (by decide +kernel)
set_option maxRecDepth 20000 in
theorem gX11_leave_X0_keep : GoodIn wsX11_leave (wsV RX11 221 RX0 yX0_keep wsX0_keep) := goodIn_app (goodIn_of _ (by decide +kernel)) ggX11_leave_X0_keep
theorem dX11_leave_0 : decode cX11_leave 0 = .ok (.aload_n 0, 1) := by decide +kernel
theorem dX11_leave_1 : decode cX11_leave 1 = .ok (.iload_n 1, 1) := by decide +kernel
theorem dX11_leave_2 : decode cX11_leave 2 = .ok (.invokevirtual 198, 3) := by decide +kernel
theorem dX11_leave_5 : decode cX11_leave 5 = .ok (.iload_n 2, 1) := by decide +kernel
theorem dX11_leave_6 : decode cX11_leave 6 = .ok (.iconst (-1), 1) := by decide +kernel
theorem dX11_leave_7 : decode cX11_leave 7 = .ok (.if_icmp .eq 8, 3) := by decide +kernel
theorem dX11_leave_10 : decode cX11_leave 10 = .ok (.aload_n 0, 1) := by decide +kernel
theorem dX11_leave_11 : decode cX11_leave 11 = .ok (.iload_n 2, 1) := by decide +kernel
theorem dX11_leave_12 : decode cX11_leave 12 = .ok (.invokevirtual 178, 3) := by decide +kernel
theorem dX11_leave_15 : decode cX11_leave 15 = .ok (.aload_n 0, 1) := by decide +kernel
theorem dX11_leave_16 : decode cX11_leave 16 = .ok (.getfield 39, 3) := by decide +kernel
theorem dX11_leave_19 : decode cX11_leave 19 = .ok (.getfield 61, 3) := by decide +kernel
theorem dX11_leave_22 : decode cX11_leave 22 = .ok (.getfield 207, 3) := by decide +kernel
theorem dX11_leave_25 : decode cX11_leave 25 = .ok (.iload_n 1, 1) := by decide +kernel
theorem dX11_leave_26 : decode cX11_leave 26 = .ok (.iaload, 1) := by decide +kernel
theorem dX11_leave_27 : decode cX11_leave 27 = .ok (.istore_n 3, 1) := by decide +kernel
theorem dX11_leave_28 : decode cX11_leave 28 = .ok (.iload_n 3, 1) := by decide +kernel
theorem dX11_leave_29 : decode cX11_leave 29 = .ok (.iload_n 2, 1) := by decide +kernel
theorem dX11_leave_30 : decode cX11_leave 30 = .ok (.if_icmp .ne 10, 3) := by decide +kernel
theorem dX11_leave_33 : decode cX11_leave 33 = .ok (.aload_n 0, 1) := by decide +kernel
theorem dX11_leave_34 : decode cX11_leave 34 = .ok (.bipush (-2), 2) := by decide +kernel
theorem dX11_leave_36 : decode cX11_leave 36 = .ok (.invokevirtual 218, 3) := by decide +kernel
theorem dX11_leave_39 : decode cX11_leave 39 = .ok (.ireturn, 1) := by decide +kernel
theorem dX11_leave_40 : decode cX11_leave 40 = .ok (.aload_n 0, 1) := by decide +kernel
theorem dX11_leave_41 : decode cX11_leave 41 = .ok (.getfield 39, 3) := by decide +kernel
theorem dX11_leave_44 : decode cX11_leave 44 = .ok (.getfield 157, 3) := by decide +kernel
theorem dX11_leave_47 : decode cX11_leave 47 = .ok (.aload_n 0, 1) := by decide +kernel
theorem dX11_leave_48 : decode cX11_leave 48 = .ok (.getfield 39, 3) := by decide +kernel
theorem dX11_leave_51 : decode cX11_leave 51 = .ok (.getfield 61, 3) := by decide +kernel
theorem dX11_leave_54 : decode cX11_leave 54 = .ok (.invokevirtual 221, 3) := by decide +kernel
theorem dX11_leave_57 : decode cX11_leave 57 = .ok (.aload_n 0, 1) := by decide +kernel
theorem dX11_leave_58 : decode cX11_leave 58 = .ok (.getfield 39, 3) := by decide +kernel
theorem dX11_leave_61 : decode cX11_leave 61 = .ok (.getfield 61, 3) := by decide +kernel
theorem dX11_leave_64 : decode cX11_leave 64 = .ok (.getfield 207, 3) := by decide +kernel
theorem dX11_leave_67 : decode cX11_leave 67 = .ok (.iload_n 1, 1) := by decide +kernel
theorem dX11_leave_68 : decode cX11_leave 68 = .ok (.iload_n 2, 1) := by decide +kernel
theorem dX11_leave_69 : decode cX11_leave 69 = .ok (.iastore, 1) := by decide +kernel
theorem dX11_leave_70 : decode cX11_leave 70 = .ok (.iload_n 3, 1) := by decide +kernel
theorem dX11_leave_71 : decode cX11_leave 71 = .ok (.ireturn, 1) := by decide +kernel
set_option maxRecDepth 20000 in
theorem ggX11_undo_X0_takeBack : GoodIn wsX11_undo wsX0_takeBack := goodIn_r _ [9, 10, 11, 12, 13, 14, 15, 16, 17, 18, 19, 20, 21, 22, 23, 24, 25, 26, 27, 45, 46, 47, 48, 49, 50, 51, 52, 53, 54, 55] (by decide +kernel) (by decide +kernel)
set_option maxRecDepth 20000 in
theorem gX11_undo_X0_takeBack : GoodIn wsX11_undo (wsV RX11 237 RX0 yX0_takeBack wsX0_takeBack) := goodIn_app (goodIn_of _ (by decide +kernel)) ggX11_undo_X0_takeBack
theorem dX11_undo_0 : decode cX11_undo 0 = .ok (.aload_n 0, 1) := by decide +kernel
theorem dX11_undo_1 : decode cX11_undo 1 = .ok (.getfield 39, 3) := by decide +kernel
theorem dX11_undo_4 : decode cX11_undo 4 = .ok (.getfield 157, 3) := by decide +kernel
theorem dX11_undo_7 : decode cX11_undo 7 = .ok (.getfield 161, 3) := by decide +kernel
theorem dX11_undo_10 : decode cX11_undo 10 = .ok (.ifCond .ne 5, 3) := by decide +kernel
theorem dX11_undo_13 : decode cX11_undo 13 = .ok (.iconst (-1), 1) := by decide +kernel
theorem dX11_undo_14 : decode cX11_undo 14 = .ok (.ireturn, 1) := by decide +kernel
theorem dX11_undo_15 : decode cX11_undo 15 = .ok (.aload_n 0, 1) := by decide +kernel
theorem dX11_undo_16 : decode cX11_undo 16 = .ok (.getfield 39, 3) := by decide +kernel
theorem dX11_undo_19 : decode cX11_undo 19 = .ok (.getfield 157, 3) := by decide +kernel
theorem dX11_undo_22 : decode cX11_undo 22 = .ok (.aload_n 0, 1) := by decide +kernel
theorem dX11_undo_23 : decode cX11_undo 23 = .ok (.getfield 39, 3) := by decide +kernel
theorem dX11_undo_26 : decode cX11_undo 26 = .ok (.getfield 61, 3) := by decide +kernel
theorem dX11_undo_29 : decode cX11_undo 29 = .ok (.invokevirtual 237, 3) := by decide +kernel
theorem dX11_undo_32 : decode cX11_undo 32 = .ok (.aload_n 0, 1) := by decide +kernel
theorem dX11_undo_33 : decode cX11_undo 33 = .ok (.getfield 39, 3) := by decide +kernel
theorem dX11_undo_36 : decode cX11_undo 36 = .ok (.getfield 157, 3) := by decide +kernel
theorem dX11_undo_39 : decode cX11_undo 39 = .ok (.getfield 161, 3) := by decide +kernel
theorem dX11_undo_42 : decode cX11_undo 42 = .ok (.ireturn, 1) := by decide +kernel
set_option maxRecDepth 20000 in
theorem ggX11_then_X11_needGargoyle : GoodIn wsX11_then wsX11_needGargoyle := goodIn_ca (goodIn_r _ [8, 9, 10, 11, 12, 13, 173, 174, 175, 176, 177, 178, 179, 180, 181, 182, 183, 184, 185, 186, 187, 188, 189, 164, 165, 166, 167, 168, 169, 170, 171, 172] (by decide +kernel) (by decide +kernel)) (goodIn_sub (fun _ h => List.mem_cons_of_mem _ (List.mem_append_left _ (List.mem_append_right _ h))) (by decide +kernel))
set_option maxRecDepth 20000 in
theorem gX11_then_X11_needGargoyle : GoodIn wsX11_then (wsV RX11 178 RX11 yX11_needGargoyle wsX11_needGargoyle) := goodIn_app (goodIn_of _ (by decide +kernel)) ggX11_then_X11_needGargoyle
set_option maxRecDepth 20000 in
theorem ggX11_then_X11_needWhat : GoodIn wsX11_then wsX11_needWhat := goodIn_ca (goodIn_r _ [16, 9, 10] (by decide +kernel) (by decide +kernel)) (goodIn_sub (fun _ h => List.mem_cons_of_mem _ (List.mem_append_left _ (List.mem_append_right _ h))) (by decide +kernel))
set_option maxRecDepth 20000 in
theorem gX11_then_X11_needWhat : GoodIn wsX11_then (va_wsS RX11 240 yX11_needWhat wsX11_needWhat) := goodIn_app (goodIn_of _ (by decide +kernel)) ggX11_then_X11_needWhat
set_option maxRecDepth 20000 in
theorem ggX11_then_X11_stateBehind : GoodIn wsX11_then wsX11_stateBehind := goodIn_ca (goodIn_r _ [20, 21, 11, 12, 22, 23, 24, 7, 25, 26, 27, 28, 29, 30, 31, 32, 33, 34, 35, 36, 37, 38, 39, 40, 41, 42, 43, 44, 45, 46, 47, 48, 49, 50, 51, 52, 53, 54, 55, 56, 57, 58, 59, 60, 61, 62, 63, 64, 65, 66, 67, 68, 69, 70, 71, 72, 73, 74, 75, 76, 77, 78, 79, 80, 81, 82, 83, 84, 85, 86, 87, 88, 89, 90, 91, 92, 93, 94, 95, 96, 97, 98, 99, 100, 101, 102, 103, 104, 105, 106, 107, 108, 109, 110, 111, 112, 113, 114, 115, 116, 117, 118, 119, 120, 121, 122, 123, 124, 125, 126, 127, 128, 129, 130, 131, 132, 133, 134, 135, 136, 137, 138, 139, 140, 141, 142, 143, 144, 145, 146, 147, 148, 149, 150, 151, 152, 153, 154, 155, 156, 157, 158, 159, 173, 174, 175, 176, 177, 178, 179, 180, 181, 182, 183, 184, 185, 186, 187, 188, 189, 190, 191, 192, 193, 194, 164, 165, 166, 167, 168, 169, 170, 171, 172, 195, 196, 197, 198, 199, 200, 201, 202, 203, 204] (by decide +kernel) (by decide +kernel)) (goodIn_sub (fun _ h => List.mem_cons_of_mem _ (List.mem_append_right _ h)) (by decide +kernel))
set_option maxRecDepth 20000 in
theorem gX11_then_X11_stateBehind : GoodIn wsX11_then (wsV RX11 244 RX11 yX11_stateBehind wsX11_stateBehind) := goodIn_app (goodIn_of _ (by decide +kernel)) ggX11_then_X11_stateBehind
set_option maxRecDepth 20000 in
theorem ggX11_then_X8_sitterAt : GoodIn wsX11_then wsX8_sitterAt := goodIn_r _ [163, 41, 52, 164, 165, 166, 167, 168, 169, 170, 171, 172] (by decide +kernel) (by decide +kernel)
set_option maxRecDepth 20000 in
theorem gX11_then_X8_sitterAt : GoodIn wsX11_then (wsV RX11 190 RX8 yX8_sitterAt wsX8_sitterAt) := goodIn_app (goodIn_of _ (by decide +kernel)) ggX11_then_X8_sitterAt
theorem dX11_then_0 : decode cX11_then 0 = .ok (.aload_n 0, 1) := by decide +kernel
theorem dX11_then_1 : decode cX11_then 1 = .ok (.iload_n 1, 1) := by decide +kernel
theorem dX11_then_2 : decode cX11_then 2 = .ok (.invokevirtual 178, 3) := by decide +kernel
theorem dX11_then_5 : decode cX11_then 5 = .ok (.iload_n 3, 1) := by decide +kernel
theorem dX11_then_6 : decode cX11_then 6 = .ok (.iconst 3, 1) := by decide +kernel
theorem dX11_then_7 : decode cX11_then 7 = .ok (.invokestatic 240, 3) := by decide +kernel
theorem dX11_then_10 : decode cX11_then 10 = .ok (.aload_n 0, 1) := by decide +kernel
theorem dX11_then_11 : decode cX11_then 11 = .ok (.iload_n 2, 1) := by decide +kernel
theorem dX11_then_12 : decode cX11_then 12 = .ok (.invokevirtual 244, 3) := by decide +kernel
theorem dX11_then_15 : decode cX11_then 15 = .ok (.astore 4, 2) := by decide +kernel
theorem dX11_then_17 : decode cX11_then 17 = .ok (.iload_n 3, 1) := by decide +kernel
theorem dX11_then_18 : decode cX11_then 18 = .ok (.tableswitch 50 0 2 #[26, 34, 42], 26) := by decide +kernel
theorem dX11_then_44 : decode cX11_then 44 = .ok (.aload 4, 2) := by decide +kernel
theorem dX11_then_46 : decode cX11_then 46 = .ok (.getfield 187, 3) := by decide +kernel
theorem dX11_then_49 : decode cX11_then 49 = .ok (.iload_n 1, 1) := by decide +kernel
theorem dX11_then_50 : decode cX11_then 50 = .ok (.iaload, 1) := by decide +kernel
theorem dX11_then_51 : decode cX11_then 51 = .ok (.ireturn, 1) := by decide +kernel
theorem dX11_then_52 : decode cX11_then 52 = .ok (.aload 4, 2) := by decide +kernel
theorem dX11_then_54 : decode cX11_then 54 = .ok (.getfield 181, 3) := by decide +kernel
theorem dX11_then_57 : decode cX11_then 57 = .ok (.iload_n 1, 1) := by decide +kernel
theorem dX11_then_58 : decode cX11_then 58 = .ok (.iaload, 1) := by decide +kernel
theorem dX11_then_59 : decode cX11_then 59 = .ok (.ireturn, 1) := by decide +kernel
theorem dX11_then_60 : decode cX11_then 60 = .ok (.aload 4, 2) := by decide +kernel
theorem dX11_then_62 : decode cX11_then 62 = .ok (.getfield 184, 3) := by decide +kernel
theorem dX11_then_65 : decode cX11_then 65 = .ok (.iload_n 1, 1) := by decide +kernel
theorem dX11_then_66 : decode cX11_then 66 = .ok (.iaload, 1) := by decide +kernel
theorem dX11_then_67 : decode cX11_then 67 = .ok (.ireturn, 1) := by decide +kernel
theorem dX11_then_68 : decode cX11_then 68 = .ok (.aload 4, 2) := by decide +kernel
theorem dX11_then_70 : decode cX11_then 70 = .ok (.iload_n 1, 1) := by decide +kernel
theorem dX11_then_71 : decode cX11_then 71 = .ok (.invokevirtual 190, 3) := by decide +kernel
theorem dX11_then_74 : decode cX11_then 74 = .ok (.ireturn, 1) := by decide +kernel
set_option maxRecDepth 20000 in
theorem ggX11_where_X11_needPerson : GoodIn wsX11_where wsX11_needPerson := goodIn_ca (goodIn_r _ [9, 10, 11, 12, 13, 14, 173, 174, 175, 176, 177, 178, 179, 180, 181, 182, 183, 184, 185, 186, 187, 188, 189, 164, 165, 166, 167, 168, 169, 170, 171, 172] (by decide +kernel) (by decide +kernel)) (goodIn_sub (fun _ h => List.mem_cons_of_mem _ (List.mem_append_left _ (List.mem_append_right _ h))) (by decide +kernel))
set_option maxRecDepth 20000 in
theorem gX11_where_X11_needPerson : GoodIn wsX11_where (wsV RX11 198 RX11 yX11_needPerson wsX11_needPerson) := goodIn_app (goodIn_of _ (by decide +kernel)) ggX11_where_X11_needPerson
set_option maxRecDepth 20000 in
theorem ggX11_where_X11_needWhat : GoodIn wsX11_where wsX11_needWhat := goodIn_ca (goodIn_r _ [17, 10, 11] (by decide +kernel) (by decide +kernel)) (goodIn_sub (fun _ h => List.mem_cons_of_mem _ (List.mem_append_left _ (List.mem_append_right _ h))) (by decide +kernel))
set_option maxRecDepth 20000 in
theorem gX11_where_X11_needWhat : GoodIn wsX11_where (va_wsS RX11 240 yX11_needWhat wsX11_needWhat) := goodIn_app (goodIn_of _ (by decide +kernel)) ggX11_where_X11_needWhat
set_option maxRecDepth 20000 in
theorem ggX11_where_X11_stateBehind : GoodIn wsX11_where wsX11_stateBehind := goodIn_ca (goodIn_r _ [21, 22, 12, 13, 23, 24, 25, 8, 26, 27, 28, 29, 30, 31, 32, 33, 34, 35, 36, 37, 38, 39, 40, 41, 42, 43, 44, 45, 46, 47, 48, 49, 50, 51, 52, 53, 54, 55, 56, 57, 58, 59, 60, 61, 62, 63, 64, 65, 66, 67, 68, 69, 70, 71, 72, 73, 74, 75, 76, 77, 78, 79, 80, 81, 82, 83, 84, 85, 86, 87, 88, 89, 90, 91, 92, 93, 94, 95, 96, 97, 98, 99, 100, 101, 102, 103, 104, 105, 106, 107, 108, 109, 110, 111, 112, 113, 114, 115, 116, 117, 118, 119, 120, 121, 122, 123, 124, 125, 126, 127, 128, 129, 130, 131, 132, 133, 134, 135, 136, 137, 138, 139, 140, 141, 142, 143, 144, 145, 146, 147, 148, 149, 150, 151, 152, 153, 154, 155, 156, 157, 158, 159, 160, 173, 174, 175, 176, 177, 178, 179, 180, 181, 182, 183, 184, 185, 186, 187, 188, 189, 190, 191, 192, 193, 194, 164, 165, 166, 167, 168, 169, 170, 171, 172, 195, 196, 197, 198, 199, 200, 201, 202, 203, 204] (by decide +kernel) (by decide +kernel)) (goodIn_sub (fun _ h => List.mem_cons_of_mem _ (List.mem_append_right _ h)) (by decide +kernel))
set_option maxRecDepth 20000 in
theorem gX11_where_X11_stateBehind : GoodIn wsX11_where (wsV RX11 244 RX11 yX11_stateBehind wsX11_stateBehind) := goodIn_app (goodIn_of _ (by decide +kernel)) ggX11_where_X11_stateBehind
set_option maxRecDepth 20000 in
theorem ggX11_where_X8_closest : GoodIn wsX11_where wsX8_closest := goodIn_r _ [159, 41, 128, 129, 39, 130, 160, 150, 151, 152, 44, 153, 154, 82, 155, 49, 164, 165, 166, 167, 168, 169, 170, 171, 172] (by decide +kernel) (by decide +kernel)
set_option maxRecDepth 20000 in
theorem gX11_where_X8_closest : GoodIn wsX11_where (wsV RX11 248 RX8 yX8_closest wsX8_closest) := goodIn_app (goodIn_of _ (by decide +kernel)) ggX11_where_X8_closest
set_option maxRecDepth 20000 in
theorem ggX11_where_X8_faceOf : GoodIn wsX11_where wsX8_faceOf := goodIn_r _ [130] (by decide +kernel) (by decide +kernel)
set_option maxRecDepth 20000 in
theorem gX11_where_X8_faceOf : GoodIn wsX11_where (va_wsS RX11 201 yX8_faceOf wsX8_faceOf) := goodIn_app (goodIn_of _ (by decide +kernel)) ggX11_where_X8_faceOf
set_option maxRecDepth 20000 in
theorem ggX11_where_X8_unlikeness : GoodIn wsX11_where wsX8_unlikeness := goodIn_r _ [152, 44, 153, 154, 82, 155, 49, 164, 165, 166, 167, 168, 169, 170, 171, 172] (by decide +kernel) (by decide +kernel)
set_option maxRecDepth 20000 in
theorem gX11_where_X8_unlikeness : GoodIn wsX11_where (wsV RX11 252 RX8 yX8_unlikeness wsX8_unlikeness) := goodIn_app (goodIn_of _ (by decide +kernel)) ggX11_where_X8_unlikeness
theorem dX11_where_0 : decode cX11_where 0 = .ok (.aload_n 0, 1) := by decide +kernel
theorem dX11_where_1 : decode cX11_where 1 = .ok (.iload_n 1, 1) := by decide +kernel
theorem dX11_where_2 : decode cX11_where 2 = .ok (.invokevirtual 198, 3) := by decide +kernel
theorem dX11_where_5 : decode cX11_where 5 = .ok (.iload_n 3, 1) := by decide +kernel
theorem dX11_where_6 : decode cX11_where 6 = .ok (.iconst 5, 1) := by decide +kernel
theorem dX11_where_7 : decode cX11_where 7 = .ok (.invokestatic 240, 3) := by decide +kernel
theorem dX11_where_10 : decode cX11_where 10 = .ok (.aload_n 0, 1) := by decide +kernel
theorem dX11_where_11 : decode cX11_where 11 = .ok (.iload_n 2, 1) := by decide +kernel
theorem dX11_where_12 : decode cX11_where 12 = .ok (.invokevirtual 244, 3) := by decide +kernel
theorem dX11_where_15 : decode cX11_where 15 = .ok (.astore 4, 2) := by decide +kernel
theorem dX11_where_17 : decode cX11_where 17 = .ok (.aload 4, 2) := by decide +kernel
theorem dX11_where_19 : decode cX11_where 19 = .ok (.iload_n 1, 1) := by decide +kernel
theorem dX11_where_20 : decode cX11_where 20 = .ok (.iconst 0, 1) := by decide +kernel
theorem dX11_where_21 : decode cX11_where 21 = .ok (.invokevirtual 248, 3) := by decide +kernel
theorem dX11_where_24 : decode cX11_where 24 = .ok (.istore 5, 2) := by decide +kernel
theorem dX11_where_26 : decode cX11_where 26 = .ok (.iload_n 3, 1) := by decide +kernel
theorem dX11_where_27 : decode cX11_where 27 = .ok (.tableswitch 74 0 4 #[33, 41, 52, 63, 71], 33) := by decide +kernel
theorem dX11_where_60 : decode cX11_where 60 = .ok (.aload 4, 2) := by decide +kernel
theorem dX11_where_62 : decode cX11_where 62 = .ok (.getfield 210, 3) := by decide +kernel
theorem dX11_where_65 : decode cX11_where 65 = .ok (.iload_n 1, 1) := by decide +kernel
theorem dX11_where_66 : decode cX11_where 66 = .ok (.iaload, 1) := by decide +kernel
theorem dX11_where_67 : decode cX11_where 67 = .ok (.ireturn, 1) := by decide +kernel
theorem dX11_where_68 : decode cX11_where 68 = .ok (.aload 4, 2) := by decide +kernel
theorem dX11_where_70 : decode cX11_where 70 = .ok (.getfield 181, 3) := by decide +kernel
theorem dX11_where_73 : decode cX11_where 73 = .ok (.iload_n 1, 1) := by decide +kernel
theorem dX11_where_74 : decode cX11_where 74 = .ok (.invokestatic 201, 3) := by decide +kernel
theorem dX11_where_77 : decode cX11_where 77 = .ok (.iaload, 1) := by decide +kernel
theorem dX11_where_78 : decode cX11_where 78 = .ok (.ireturn, 1) := by decide +kernel
theorem dX11_where_79 : decode cX11_where 79 = .ok (.aload 4, 2) := by decide +kernel
theorem dX11_where_81 : decode cX11_where 81 = .ok (.getfield 184, 3) := by decide +kernel
theorem dX11_where_84 : decode cX11_where 84 = .ok (.iload_n 1, 1) := by decide +kernel
theorem dX11_where_85 : decode cX11_where 85 = .ok (.invokestatic 201, 3) := by decide +kernel
theorem dX11_where_88 : decode cX11_where 88 = .ok (.iaload, 1) := by decide +kernel
theorem dX11_where_89 : decode cX11_where 89 = .ok (.ireturn, 1) := by decide +kernel
theorem dX11_where_90 : decode cX11_where 90 = .ok (.aload 4, 2) := by decide +kernel
theorem dX11_where_92 : decode cX11_where 92 = .ok (.getfield 204, 3) := by decide +kernel
theorem dX11_where_95 : decode cX11_where 95 = .ok (.iload_n 1, 1) := by decide +kernel
theorem dX11_where_96 : decode cX11_where 96 = .ok (.iaload, 1) := by decide +kernel
theorem dX11_where_97 : decode cX11_where 97 = .ok (.ireturn, 1) := by decide +kernel
theorem dX11_where_98 : decode cX11_where 98 = .ok (.iload 5, 2) := by decide +kernel
theorem dX11_where_100 : decode cX11_where 100 = .ok (.ireturn, 1) := by decide +kernel
theorem dX11_where_101 : decode cX11_where 101 = .ok (.iload 5, 2) := by decide +kernel
theorem dX11_where_103 : decode cX11_where 103 = .ok (.iconst (-1), 1) := by decide +kernel
theorem dX11_where_104 : decode cX11_where 104 = .ok (.if_icmp .ne 7, 3) := by decide +kernel
theorem dX11_where_107 : decode cX11_where 107 = .ok (.iconst (-1), 1) := by decide +kernel
theorem dX11_where_108 : decode cX11_where 108 = .ok (.goto 14, 3) := by decide +kernel
theorem dX11_where_111 : decode cX11_where 111 = .ok (.aload 4, 2) := by decide +kernel
theorem dX11_where_113 : decode cX11_where 113 = .ok (.iload_n 1, 1) := by decide +kernel
theorem dX11_where_114 : decode cX11_where 114 = .ok (.invokestatic 201, 3) := by decide +kernel
theorem dX11_where_117 : decode cX11_where 117 = .ok (.iload 5, 2) := by decide +kernel
theorem dX11_where_119 : decode cX11_where 119 = .ok (.invokevirtual 252, 3) := by decide +kernel
theorem dX11_where_122 : decode cX11_where 122 = .ok (.ireturn, 1) := by decide +kernel
set_option maxRecDepth 20000 in
theorem ggX11_loaf_X11_needGargoyle : GoodIn wsX11_loaf wsX11_needGargoyle := goodIn_ca (goodIn_r _ [8, 9, 10, 2, 3, 11, 144, 145, 146, 147, 148, 149, 150, 151, 152, 153, 154, 155, 156, 157, 158, 159, 160, 161, 162, 163, 164, 165, 166, 167, 168, 169] (by decide +kernel) (by decide +kernel)) (goodIn_sub (fun _ h => List.mem_cons_of_mem _ (List.mem_append_right _ h)) (by decide +kernel))
set_option maxRecDepth 20000 in
theorem gX11_loaf_X11_needGargoyle : GoodIn wsX11_loaf (wsV RX11 178 RX11 yX11_needGargoyle wsX11_needGargoyle) := goodIn_app (goodIn_of _ (by decide +kernel)) ggX11_loaf_X11_needGargoyle
set_option maxRecDepth 20000 in
theorem ggX11_loaf_X9_begin : GoodIn wsX11_loaf wsX9_begin := goodIn_r _ [16, 17, 18, 19, 20, 21, 22, 23, 24, 25, 26, 27, 28, 29, 30, 31, 32, 33, 34, 35, 36, 170, 171, 172, 173, 174, 161, 162, 163, 164, 165, 166, 167, 168, 169] (by decide +kernel) (by decide +kernel)
set_option maxRecDepth 20000 in
theorem gX11_loaf_X9_begin : GoodIn wsX11_loaf (wsV RX11 224 RX9 yX9_begin wsX9_begin) := goodIn_app (goodIn_of _ (by decide +kernel)) ggX11_loaf_X9_begin
set_option maxRecDepth 20000 in
theorem ggX11_loaf_X9_yearsToLoaf : GoodIn wsX11_loaf wsX9_yearsToLoaf := goodIn_r _ [40, 17, 41, 42, 43, 44, 45, 46, 47, 48, 49, 50, 51, 52, 53, 15, 54, 55, 56, 57, 58, 59, 60, 61, 62, 63, 64, 65, 66, 67, 68, 69, 70, 71, 72, 22, 73, 25, 36, 74, 75, 76, 77, 78, 79, 80, 81, 82, 83, 84, 85, 86, 87, 88, 89, 90, 91, 92, 33, 93, 94, 95, 96, 97, 27, 32, 98, 99, 100, 101, 102, 103, 104, 105, 106, 107, 108, 109, 110, 111, 112, 113, 114, 115, 116, 117, 118, 119, 120, 121, 122, 123, 124, 125, 18, 126, 127, 128, 129, 130, 131, 132, 133, 134, 135, 136, 137, 138, 139, 140, 141, 142, 24, 143, 170, 171, 172, 173, 174, 161, 162, 163, 164, 165, 166, 167, 168, 169, 175, 176, 177, 178, 179, 180, 181, 182, 183, 184] (by decide +kernel) (by decide +kernel)
set_option maxRecDepth 20000 in
theorem gX11_loaf_X9_yearsToLoaf : GoodIn wsX11_loaf (wsV RX11 255 RX9 yX9_yearsToLoaf wsX9_yearsToLoaf) := goodIn_app (goodIn_of _ (by decide +kernel)) ggX11_loaf_X9_yearsToLoaf
theorem dX11_loaf_0 : decode cX11_loaf 0 = .ok (.aload_n 0, 1) := by decide +kernel
theorem dX11_loaf_1 : decode cX11_loaf 1 = .ok (.iload_n 1, 1) := by decide +kernel
theorem dX11_loaf_2 : decode cX11_loaf 2 = .ok (.invokevirtual 178, 3) := by decide +kernel
theorem dX11_loaf_5 : decode cX11_loaf 5 = .ok (.aload_n 0, 1) := by decide +kernel
theorem dX11_loaf_6 : decode cX11_loaf 6 = .ok (.getfield 55, 3) := by decide +kernel
theorem dX11_loaf_9 : decode cX11_loaf 9 = .ok (.aload_n 0, 1) := by decide +kernel
theorem dX11_loaf_10 : decode cX11_loaf 10 = .ok (.getfield 39, 3) := by decide +kernel
theorem dX11_loaf_13 : decode cX11_loaf 13 = .ok (.getfield 61, 3) := by decide +kernel
theorem dX11_loaf_16 : decode cX11_loaf 16 = .ok (.invokevirtual 224, 3) := by decide +kernel
theorem dX11_loaf_19 : decode cX11_loaf 19 = .ok (.aload_n 0, 1) := by decide +kernel
theorem dX11_loaf_20 : decode cX11_loaf 20 = .ok (.getfield 55, 3) := by decide +kernel
theorem dX11_loaf_23 : decode cX11_loaf 23 = .ok (.iload_n 1, 1) := by decide +kernel
theorem dX11_loaf_24 : decode cX11_loaf 24 = .ok (.invokevirtual 255, 3) := by decide +kernel
theorem dX11_loaf_27 : decode cX11_loaf 27 = .ok (.ireturn, 1) := by decide +kernel
set_option maxRecDepth 20000 in
theorem ggX11_later_X11_needWhat : GoodIn wsX11_later wsX11_needWhat := goodIn_ca (goodIn_r _ [4, 5, 6] (by decide +kernel) (by decide +kernel)) (goodIn_sub (fun _ h => List.mem_cons_of_mem _ (List.mem_append_left _ (List.mem_append_right _ h))) (by decide +kernel))
set_option maxRecDepth 20000 in
theorem gX11_later_X11_needWhat : GoodIn wsX11_later (va_wsS RX11 240 yX11_needWhat wsX11_needWhat) := goodIn_app (goodIn_of _ (by decide +kernel)) ggX11_later_X11_needWhat
set_option maxRecDepth 20000 in
theorem ggX11_later_X11_stateBehind : GoodIn wsX11_later wsX11_stateBehind := goodIn_ca (goodIn_r _ [10, 11, 12, 13, 14, 15, 16, 3, 17, 18, 19, 20, 21, 22, 23, 24, 25, 26, 27, 28, 29, 30, 31, 32, 33, 34, 35, 36, 37, 38, 39, 40, 41, 42, 43, 44, 45, 46, 47, 48, 49, 50, 51, 52, 53, 54, 55, 56, 57, 58, 59, 60, 61, 62, 63, 64, 65, 66, 67, 68, 69, 70, 71, 72, 73, 74, 75, 76, 77, 78, 79, 80, 81, 82, 83, 84, 85, 86, 87, 88, 89, 90, 91, 92, 93, 94, 95, 96, 97, 98, 99, 100, 101, 102, 103, 104, 105, 106, 107, 108, 109, 110, 111, 112, 113, 114, 115, 116, 117, 118, 119, 120, 121, 122, 123, 124, 125, 126, 127, 128, 129, 130, 131, 132, 133, 134, 135, 136, 137, 138, 139, 140, 141, 142, 143, 144, 145, 146, 147, 148, 149, 150, 151, 164, 165, 166, 167, 168, 169, 170, 171, 172, 173, 174, 175, 176, 177, 178, 179, 180, 181, 182, 183, 184, 185, 186, 187, 188, 189, 190, 191, 192, 193, 194, 195, 196, 197, 198, 199, 200, 201, 202, 203, 204] (by decide +kernel) (by decide +kernel)) (goodIn_sub (fun _ h => List.mem_cons_of_mem _ (List.mem_append_right _ h)) (by decide +kernel))
set_option maxRecDepth 20000 in
theorem gX11_later_X11_stateBehind : GoodIn wsX11_later (wsV RX11 244 RX11 yX11_stateBehind wsX11_stateBehind) := goodIn_app (goodIn_of _ (by decide +kernel)) ggX11_later_X11_stateBehind
set_option maxRecDepth 20000 in
theorem ggX11_later_X8_loafBits : GoodIn wsX11_later wsX8_loafBits := goodIn_r _ [155, 32, 41, 186, 187, 188, 189, 190, 191, 192, 193, 194] (by decide +kernel) (by decide +kernel)
set_option maxRecDepth 20000 in
theorem gX11_later_X8_loafBits : GoodIn wsX11_later (wsV RX11 136 RX8 yX8_loafBits wsX8_loafBits) := goodIn_app (goodIn_of _ (by decide +kernel)) ggX11_later_X8_loafBits
set_option maxRecDepth 20000 in
theorem ggX11_later_X8_sitterBits : GoodIn wsX11_later wsX8_sitterBits := goodIn_r _ [159, 33, 44, 186, 187, 188, 189, 190, 191, 192, 193, 194] (by decide +kernel) (by decide +kernel)
set_option maxRecDepth 20000 in
theorem gX11_later_X8_sitterBits : GoodIn wsX11_later (wsV RX11 145 RX8 yX8_sitterBits wsX8_sitterBits) := goodIn_app (goodIn_of _ (by decide +kernel)) ggX11_later_X8_sitterBits
set_option maxRecDepth 20000 in
theorem ggX11_later_X8_stoneOfAll : GoodIn wsX11_later wsX8_stoneOfAll := goodIn_r _ [163, 32, 41, 186, 187, 188, 189, 190, 191, 192, 193, 194] (by decide +kernel) (by decide +kernel)
set_option maxRecDepth 20000 in
theorem gX11_later_X8_stoneOfAll : GoodIn wsX11_later (wsV RX11 148 RX8 yX8_stoneOfAll wsX8_stoneOfAll) := goodIn_app (goodIn_of _ (by decide +kernel)) ggX11_later_X8_stoneOfAll
theorem dX11_later_0 : decode cX11_later 0 = .ok (.iload_n 2, 1) := by decide +kernel
theorem dX11_later_1 : decode cX11_later 1 = .ok (.iconst 2, 1) := by decide +kernel
theorem dX11_later_2 : decode cX11_later 2 = .ok (.invokestatic 240, 3) := by decide +kernel
theorem dX11_later_5 : decode cX11_later 5 = .ok (.aload_n 0, 1) := by decide +kernel
theorem dX11_later_6 : decode cX11_later 6 = .ok (.iload_n 1, 1) := by decide +kernel
theorem dX11_later_7 : decode cX11_later 7 = .ok (.invokevirtual 244, 3) := by decide +kernel
theorem dX11_later_10 : decode cX11_later 10 = .ok (.astore_n 3, 1) := by decide +kernel
theorem dX11_later_11 : decode cX11_later 11 = .ok (.iload_n 2, 1) := by decide +kernel
theorem dX11_later_12 : decode cX11_later 12 = .ok (.lookupswitch 38 #[(0, 28), (1, 33)], 28) := by decide +kernel
theorem dX11_later_40 : decode cX11_later 40 = .ok (.aload_n 3, 1) := by decide +kernel
theorem dX11_later_41 : decode cX11_later 41 = .ok (.invokevirtual 136, 3) := by decide +kernel
theorem dX11_later_44 : decode cX11_later 44 = .ok (.ireturn, 1) := by decide +kernel
theorem dX11_later_45 : decode cX11_later 45 = .ok (.aload_n 3, 1) := by decide +kernel
theorem dX11_later_46 : decode cX11_later 46 = .ok (.invokevirtual 145, 3) := by decide +kernel
theorem dX11_later_49 : decode cX11_later 49 = .ok (.ireturn, 1) := by decide +kernel
theorem dX11_later_50 : decode cX11_later 50 = .ok (.aload_n 3, 1) := by decide +kernel
theorem dX11_later_51 : decode cX11_later 51 = .ok (.invokevirtual 148, 3) := by decide +kernel
theorem dX11_later_54 : decode cX11_later 54 = .ok (.ireturn, 1) := by decide +kernel
set_option maxRecDepth 20000 in
theorem ggX11_sat_X11_needGargoyle : GoodIn wsX11_sat wsX11_needGargoyle := goodIn_ca (goodIn_r _ [9, 10, 11, 2, 3, 12, 154, 155, 156, 157, 158, 159, 160, 161, 162, 163, 164, 165, 166, 167, 168, 169, 170, 176, 177, 178, 179, 180, 181, 182, 183, 184] (by decide +kernel) (by decide +kernel)) (goodIn_sub (fun _ h => List.mem_cons_of_mem _ (List.mem_append_left _ (List.mem_append_right _ h))) (by decide +kernel))
set_option maxRecDepth 20000 in
theorem gX11_sat_X11_needGargoyle : GoodIn wsX11_sat (wsV RX11 178 RX11 yX11_needGargoyle wsX11_needGargoyle) := goodIn_app (goodIn_of _ (by decide +kernel)) ggX11_sat_X11_needGargoyle
set_option maxRecDepth 20000 in
theorem ggX11_sat_X11_needYears : GoodIn wsX11_sat wsX11_needYears := goodIn_ca (goodIn_r _ [15, 16, 17] (by decide +kernel) (by decide +kernel)) (goodIn_sub (fun _ h => List.mem_cons_of_mem _ (List.mem_append_right _ h)) (by decide +kernel))
set_option maxRecDepth 20000 in
theorem gX11_sat_X11_needYears : GoodIn wsX11_sat (va_wsS RX11 258 yX11_needYears wsX11_needYears) := goodIn_app (goodIn_of _ (by decide +kernel)) ggX11_sat_X11_needYears
set_option maxRecDepth 20000 in
theorem ggX11_sat_X9_begin : GoodIn wsX11_sat wsX9_begin := goodIn_r _ [22, 23, 24, 25, 26, 27, 28, 29, 30, 31, 32, 33, 34, 35, 36, 37, 38, 39, 40, 41, 42, 171, 172, 173, 174, 175, 176, 177, 178, 179, 180, 181, 182, 183, 184] (by decide +kernel) (by decide +kernel)
set_option maxRecDepth 20000 in
theorem gX11_sat_X9_begin : GoodIn wsX11_sat (wsV RX11 224 RX9 yX9_begin wsX9_begin) := goodIn_app (goodIn_of _ (by decide +kernel)) ggX11_sat_X9_begin
set_option maxRecDepth 20000 in
theorem ggX11_sat_X9_passYears : GoodIn wsX11_sat wsX9_passYears := goodIn_r _ [46, 47, 23, 48, 49, 50, 51, 52, 53, 54, 55, 56, 57, 58, 21, 59, 60, 61, 62, 63, 64, 65, 66, 67, 68, 69, 70, 71, 72, 73, 74, 75, 76, 77, 78, 28, 79, 31, 42, 80, 81, 82, 83, 84, 85, 86, 87, 88, 89, 90, 91, 92, 93, 94, 95, 96, 97, 98, 39, 99, 100, 101, 102, 103, 33, 38, 104, 105, 106, 107, 108, 109, 110, 111, 112, 113, 114, 115, 116, 117, 118, 119, 120, 121, 122, 123, 124, 125, 126, 127, 128, 129, 130, 131, 24, 132, 133, 134, 135, 136, 137, 138, 139, 140, 141, 142, 143, 144, 145, 146, 147, 148, 30, 149, 171, 172, 173, 174, 175, 176, 177, 178, 179, 180, 181, 182, 183, 184, 185, 186, 187, 188, 189, 190, 191, 192, 193, 194] (by decide +kernel) (by decide +kernel)
set_option maxRecDepth 20000 in
theorem gX11_sat_X9_passYears : GoodIn wsX11_sat (wsV RX11 227 RX9 yX9_passYears wsX9_passYears) := goodIn_app (goodIn_of _ (by decide +kernel)) ggX11_sat_X9_passYears
set_option maxRecDepth 20000 in
theorem ggX11_sat_X8_sitterAt : GoodIn wsX11_sat wsX8_sitterAt := goodIn_r _ [153, 31, 42, 176, 177, 178, 179, 180, 181, 182, 183, 184] (by decide +kernel) (by decide +kernel)
set_option maxRecDepth 20000 in
theorem gX11_sat_X8_sitterAt : GoodIn wsX11_sat (wsV RX11 190 RX8 yX8_sitterAt wsX8_sitterAt) := goodIn_app (goodIn_of _ (by decide +kernel)) ggX11_sat_X8_sitterAt
theorem dX11_sat_0 : decode cX11_sat 0 = .ok (.aload_n 0, 1) := by decide +kernel
theorem dX11_sat_1 : decode cX11_sat 1 = .ok (.iload_n 1, 1) := by decide +kernel
theorem dX11_sat_2 : decode cX11_sat 2 = .ok (.invokevirtual 178, 3) := by decide +kernel
theorem dX11_sat_5 : decode cX11_sat 5 = .ok (.iload_n 2, 1) := by decide +kernel
theorem dX11_sat_6 : decode cX11_sat 6 = .ok (.iconst 1, 1) := by decide +kernel
theorem dX11_sat_7 : decode cX11_sat 7 = .ok (.invokestatic 258, 3) := by decide +kernel
theorem dX11_sat_10 : decode cX11_sat 10 = .ok (.aload_n 0, 1) := by decide +kernel
theorem dX11_sat_11 : decode cX11_sat 11 = .ok (.getfield 55, 3) := by decide +kernel
theorem dX11_sat_14 : decode cX11_sat 14 = .ok (.aload_n 0, 1) := by decide +kernel
theorem dX11_sat_15 : decode cX11_sat 15 = .ok (.getfield 39, 3) := by decide +kernel
theorem dX11_sat_18 : decode cX11_sat 18 = .ok (.getfield 61, 3) := by decide +kernel
theorem dX11_sat_21 : decode cX11_sat 21 = .ok (.invokevirtual 224, 3) := by decide +kernel
theorem dX11_sat_24 : decode cX11_sat 24 = .ok (.iconst 0, 1) := by decide +kernel
theorem dX11_sat_25 : decode cX11_sat 25 = .ok (.istore_n 3, 1) := by decide +kernel
theorem dX11_sat_26 : decode cX11_sat 26 = .ok (.iconst 0, 1) := by decide +kernel
theorem dX11_sat_27 : decode cX11_sat 27 = .ok (.istore 4, 2) := by decide +kernel
theorem dX11_sat_29 : decode cX11_sat 29 = .ok (.iload 4, 2) := by decide +kernel
theorem dX11_sat_31 : decode cX11_sat 31 = .ok (.iload_n 2, 1) := by decide +kernel
theorem dX11_sat_32 : decode cX11_sat 32 = .ok (.if_icmp .ge 35, 3) := by decide +kernel
theorem dX11_sat_35 : decode cX11_sat 35 = .ok (.aload_n 0, 1) := by decide +kernel
theorem dX11_sat_36 : decode cX11_sat 36 = .ok (.getfield 55, 3) := by decide +kernel
theorem dX11_sat_39 : decode cX11_sat 39 = .ok (.iconst 1, 1) := by decide +kernel
theorem dX11_sat_40 : decode cX11_sat 40 = .ok (.invokevirtual 227, 3) := by decide +kernel
theorem dX11_sat_43 : decode cX11_sat 43 = .ok (.aload_n 0, 1) := by decide +kernel
theorem dX11_sat_44 : decode cX11_sat 44 = .ok (.getfield 55, 3) := by decide +kernel
theorem dX11_sat_47 : decode cX11_sat 47 = .ok (.getfield 230, 3) := by decide +kernel
theorem dX11_sat_50 : decode cX11_sat 50 = .ok (.iload_n 1, 1) := by decide +kernel
theorem dX11_sat_51 : decode cX11_sat 51 = .ok (.invokevirtual 190, 3) := by decide +kernel
theorem dX11_sat_54 : decode cX11_sat 54 = .ok (.iconst (-1), 1) := by decide +kernel
theorem dX11_sat_55 : decode cX11_sat 55 = .ok (.if_icmp .eq 6, 3) := by decide +kernel
theorem dX11_sat_58 : decode cX11_sat 58 = .ok (.iinc 3 1, 3) := by decide +kernel
theorem dX11_sat_61 : decode cX11_sat 61 = .ok (.iinc 4 1, 3) := by decide +kernel
theorem dX11_sat_64 : decode cX11_sat 64 = .ok (.goto (-35), 3) := by decide +kernel
theorem dX11_sat_67 : decode cX11_sat 67 = .ok (.iload_n 3, 1) := by decide +kernel
theorem dX11_sat_68 : decode cX11_sat 68 = .ok (.ireturn, 1) := by decide +kernel
set_option maxRecDepth 20000 in
theorem ggX11_fits_X11_needPerson : GoodIn wsX11_fits wsX11_needPerson := goodIn_ca (goodIn_r _ [9, 10, 11, 2, 3, 12, 152, 153, 154, 155, 156, 157, 158, 159, 160, 161, 162, 163, 164, 165, 166, 167, 168, 174, 175, 176, 177, 178, 179, 180, 181, 182] (by decide +kernel) (by decide +kernel)) (goodIn_sub (fun _ h => List.mem_cons_of_mem _ (List.mem_append_right _ h)) (by decide +kernel))
set_option maxRecDepth 20000 in
theorem gX11_fits_X11_needPerson : GoodIn wsX11_fits (wsV RX11 198 RX11 yX11_needPerson wsX11_needPerson) := goodIn_app (goodIn_of _ (by decide +kernel)) ggX11_fits_X11_needPerson
set_option maxRecDepth 20000 in
theorem ggX11_fits_X11_needGargoyle : GoodIn wsX11_fits wsX11_needGargoyle := goodIn_ca (goodIn_r _ [16, 10, 11, 2, 3, 17, 152, 153, 154, 155, 156, 157, 158, 159, 160, 161, 162, 163, 164, 165, 166, 167, 168, 174, 175, 176, 177, 178, 179, 180, 181, 182] (by decide +kernel) (by decide +kernel)) (goodIn_sub (fun _ h => List.mem_cons_of_mem _ (List.mem_append_right _ h)) (by decide +kernel))
set_option maxRecDepth 20000 in
theorem gX11_fits_X11_needGargoyle : GoodIn wsX11_fits (wsV RX11 178 RX11 yX11_needGargoyle wsX11_needGargoyle) := goodIn_app (goodIn_of _ (by decide +kernel)) ggX11_fits_X11_needGargoyle
set_option maxRecDepth 20000 in
theorem ggX11_fits_X9_begin : GoodIn wsX11_fits wsX9_begin := goodIn_r _ [22, 23, 24, 25, 26, 27, 28, 29, 30, 31, 32, 33, 34, 35, 36, 37, 38, 39, 40, 41, 42, 169, 170, 171, 172, 173, 174, 175, 176, 177, 178, 179, 180, 181, 182] (by decide +kernel) (by decide +kernel)
set_option maxRecDepth 20000 in
theorem gX11_fits_X9_begin : GoodIn wsX11_fits (wsV RX11 224 RX9 yX9_begin wsX9_begin) := goodIn_app (goodIn_of _ (by decide +kernel)) ggX11_fits_X9_begin
set_option maxRecDepth 20000 in
theorem ggX11_fits_X8_faceOf : GoodIn wsX11_fits wsX8_faceOf := goodIn_r _ [45] (by decide +kernel) (by decide +kernel)
set_option maxRecDepth 20000 in
theorem gX11_fits_X8_faceOf : GoodIn wsX11_fits (va_wsS RX11 201 yX8_faceOf wsX8_faceOf) := goodIn_app (goodIn_of _ (by decide +kernel)) ggX11_fits_X8_faceOf
set_option maxRecDepth 20000 in
theorem ggX11_fits_X8_unlikeness : GoodIn wsX11_fits wsX8_unlikeness := goodIn_r _ [49, 33, 50, 51, 52, 53, 38, 174, 175, 176, 177, 178, 179, 180, 181, 182] (by decide +kernel) (by decide +kernel)
set_option maxRecDepth 20000 in
theorem gX11_fits_X8_unlikeness : GoodIn wsX11_fits (wsV RX11 252 RX8 yX8_unlikeness wsX8_unlikeness) := goodIn_app (goodIn_of _ (by decide +kernel)) ggX11_fits_X8_unlikeness
set_option maxRecDepth 20000 in
theorem ggX11_fits_X9_passYears : GoodIn wsX11_fits wsX9_passYears := goodIn_r _ [57, 58, 23, 59, 60, 61, 62, 63, 64, 65, 66, 67, 68, 69, 21, 70, 71, 72, 73, 74, 75, 76, 77, 78, 79, 80, 81, 52, 82, 83, 84, 85, 86, 87, 88, 28, 89, 31, 42, 90, 91, 92, 93, 94, 95, 96, 97, 98, 99, 100, 101, 102, 103, 104, 105, 106, 107, 108, 39, 109, 110, 111, 112, 113, 33, 38, 114, 115, 116, 117, 118, 119, 120, 121, 122, 123, 124, 125, 126, 127, 44, 45, 128, 129, 130, 131, 132, 133, 134, 135, 136, 137, 138, 139, 24, 140, 141, 142, 143, 144, 145, 146, 47, 48, 49, 50, 51, 53, 147, 148, 149, 150, 30, 151, 169, 170, 171, 172, 173, 174, 175, 176, 177, 178, 179, 180, 181, 182, 183, 184, 185, 186, 187, 188, 189, 190, 191, 192] (by decide +kernel) (by decide +kernel)
set_option maxRecDepth 20000 in
theorem gX11_fits_X9_passYears : GoodIn wsX11_fits (wsV RX11 227 RX9 yX9_passYears wsX9_passYears) := goodIn_app (goodIn_of _ (by decide +kernel)) ggX11_fits_X9_passYears
theorem dX11_fits_0 : decode cX11_fits 0 = .ok (.aload_n 0, 1) := by decide +kernel
theorem dX11_fits_1 : decode cX11_fits 1 = .ok (.iload_n 1, 1) := by decide +kernel
theorem dX11_fits_2 : decode cX11_fits 2 = .ok (.invokevirtual 198, 3) := by decide +kernel
theorem dX11_fits_5 : decode cX11_fits 5 = .ok (.aload_n 0, 1) := by decide +kernel
theorem dX11_fits_6 : decode cX11_fits 6 = .ok (.iload_n 2, 1) := by decide +kernel
theorem dX11_fits_7 : decode cX11_fits 7 = .ok (.invokevirtual 178, 3) := by decide +kernel
theorem dX11_fits_10 : decode cX11_fits 10 = .ok (.aload_n 0, 1) := by decide +kernel
theorem dX11_fits_11 : decode cX11_fits 11 = .ok (.getfield 55, 3) := by decide +kernel
theorem dX11_fits_14 : decode cX11_fits 14 = .ok (.aload_n 0, 1) := by decide +kernel
theorem dX11_fits_15 : decode cX11_fits 15 = .ok (.getfield 39, 3) := by decide +kernel
theorem dX11_fits_18 : decode cX11_fits 18 = .ok (.getfield 61, 3) := by decide +kernel
theorem dX11_fits_21 : decode cX11_fits 21 = .ok (.invokevirtual 224, 3) := by decide +kernel
theorem dX11_fits_24 : decode cX11_fits 24 = .ok (.iconst 0, 1) := by decide +kernel
theorem dX11_fits_25 : decode cX11_fits 25 = .ok (.istore_n 3, 1) := by decide +kernel
theorem dX11_fits_26 : decode cX11_fits 26 = .ok (.iload_n 3, 1) := by decide +kernel
theorem dX11_fits_27 : decode cX11_fits 27 = .ok (.bipush 60, 2) := by decide +kernel
theorem dX11_fits_29 : decode cX11_fits 29 = .ok (.if_icmp .gt 37, 3) := by decide +kernel
theorem dX11_fits_32 : decode cX11_fits 32 = .ok (.aload_n 0, 1) := by decide +kernel
theorem dX11_fits_33 : decode cX11_fits 33 = .ok (.getfield 55, 3) := by decide +kernel
theorem dX11_fits_36 : decode cX11_fits 36 = .ok (.getfield 230, 3) := by decide +kernel
theorem dX11_fits_39 : decode cX11_fits 39 = .ok (.iload_n 1, 1) := by decide +kernel
theorem dX11_fits_40 : decode cX11_fits 40 = .ok (.invokestatic 201, 3) := by decide +kernel
theorem dX11_fits_43 : decode cX11_fits 43 = .ok (.iload_n 2, 1) := by decide +kernel
theorem dX11_fits_44 : decode cX11_fits 44 = .ok (.invokevirtual 252, 3) := by decide +kernel
theorem dX11_fits_47 : decode cX11_fits 47 = .ok (.ifCond .ne 5, 3) := by decide +kernel
theorem dX11_fits_50 : decode cX11_fits 50 = .ok (.iload_n 3, 1) := by decide +kernel
theorem dX11_fits_51 : decode cX11_fits 51 = .ok (.ireturn, 1) := by decide +kernel
theorem dX11_fits_52 : decode cX11_fits 52 = .ok (.aload_n 0, 1) := by decide +kernel
theorem dX11_fits_53 : decode cX11_fits 53 = .ok (.getfield 55, 3) := by decide +kernel
theorem dX11_fits_56 : decode cX11_fits 56 = .ok (.iconst 1, 1) := by decide +kernel
theorem dX11_fits_57 : decode cX11_fits 57 = .ok (.invokevirtual 227, 3) := by decide +kernel
theorem dX11_fits_60 : decode cX11_fits 60 = .ok (.iinc 3 1, 3) := by decide +kernel
theorem dX11_fits_63 : decode cX11_fits 63 = .ok (.goto (-37), 3) := by decide +kernel
theorem dX11_fits_66 : decode cX11_fits 66 = .ok (.iconst (-1), 1) := by decide +kernel
theorem dX11_fits_67 : decode cX11_fits 67 = .ok (.ireturn, 1) := by decide +kernel
set_option maxRecDepth 20000 in
theorem ggX11_unlike_X11_needWhat : GoodIn wsX11_unlike wsX11_needWhat := goodIn_ca (goodIn_r _ [6, 7, 8] (by decide +kernel) (by decide +kernel)) (goodIn_sub (fun _ h => List.mem_cons_of_mem _ (List.mem_append_right _ h)) (by decide +kernel))
set_option maxRecDepth 20000 in
theorem gX11_unlike_X11_needWhat : GoodIn wsX11_unlike (va_wsS RX11 240 yX11_needWhat wsX11_needWhat) := goodIn_app (goodIn_of _ (by decide +kernel)) ggX11_unlike_X11_needWhat
set_option maxRecDepth 20000 in
theorem ggX11_unlike_X11_needGargoyle : GoodIn wsX11_unlike wsX11_needGargoyle := goodIn_ca (goodIn_r _ [12, 7, 8, 1, 2, 13, 33, 34, 35, 36, 37, 38, 39, 40, 41, 42, 43, 44, 45, 46, 47, 48, 49, 50, 51, 52, 53, 54, 55, 56, 57, 58] (by decide +kernel) (by decide +kernel)) (goodIn_sub (fun _ h => List.mem_cons_of_mem _ (List.mem_append_right _ h)) (by decide +kernel))
set_option maxRecDepth 20000 in
theorem gX11_unlike_X11_needGargoyle : GoodIn wsX11_unlike (wsV RX11 178 RX11 yX11_needGargoyle wsX11_needGargoyle) := goodIn_app (goodIn_of _ (by decide +kernel)) ggX11_unlike_X11_needGargoyle
set_option maxRecDepth 20000 in
theorem ggX11_unlike_X11_needPerson : GoodIn wsX11_unlike wsX11_needPerson := goodIn_ca (goodIn_r _ [17, 7, 8, 1, 2, 18, 33, 34, 35, 36, 37, 38, 39, 40, 41, 42, 43, 44, 45, 46, 47, 48, 49, 50, 51, 52, 53, 54, 55, 56, 57, 58] (by decide +kernel) (by decide +kernel)) (goodIn_sub (fun _ h => List.mem_cons_of_mem _ (List.mem_append_right _ h)) (by decide +kernel))
set_option maxRecDepth 20000 in
theorem gX11_unlike_X11_needPerson : GoodIn wsX11_unlike (wsV RX11 198 RX11 yX11_needPerson wsX11_needPerson) := goodIn_app (goodIn_of _ (by decide +kernel)) ggX11_unlike_X11_needPerson
set_option maxRecDepth 20000 in
theorem ggX11_unlike_X8_faceOf : GoodIn wsX11_unlike wsX8_faceOf := goodIn_r _ [22] (by decide +kernel) (by decide +kernel)
set_option maxRecDepth 20000 in
theorem gX11_unlike_X8_faceOf : GoodIn wsX11_unlike (va_wsS RX11 201 yX8_faceOf wsX8_faceOf) := goodIn_app (goodIn_of _ (by decide +kernel)) ggX11_unlike_X8_faceOf
set_option maxRecDepth 20000 in
theorem ggX11_unlike_X8_unlikeness : GoodIn wsX11_unlike wsX8_unlikeness := goodIn_r _ [26, 27, 28, 29, 30, 31, 32, 50, 51, 52, 53, 54, 55, 56, 57, 58] (by decide +kernel) (by decide +kernel)
set_option maxRecDepth 20000 in
theorem gX11_unlike_X8_unlikeness : GoodIn wsX11_unlike (wsV RX11 252 RX8 yX8_unlikeness wsX8_unlikeness) := goodIn_app (goodIn_of _ (by decide +kernel)) ggX11_unlike_X8_unlikeness
theorem dX11_unlike_0 : decode cX11_unlike 0 = .ok (.iload_n 3, 1) := by decide +kernel
theorem dX11_unlike_1 : decode cX11_unlike 1 = .ok (.iconst 2, 1) := by decide +kernel
theorem dX11_unlike_2 : decode cX11_unlike 2 = .ok (.invokestatic 240, 3) := by decide +kernel
theorem dX11_unlike_5 : decode cX11_unlike 5 = .ok (.iload_n 3, 1) := by decide +kernel
theorem dX11_unlike_6 : decode cX11_unlike 6 = .ok (.iconst 1, 1) := by decide +kernel
theorem dX11_unlike_7 : decode cX11_unlike 7 = .ok (.if_icmp .ne 11, 3) := by decide +kernel
theorem dX11_unlike_10 : decode cX11_unlike 10 = .ok (.aload_n 0, 1) := by decide +kernel
theorem dX11_unlike_11 : decode cX11_unlike 11 = .ok (.iload_n 1, 1) := by decide +kernel
theorem dX11_unlike_12 : decode cX11_unlike 12 = .ok (.invokevirtual 178, 3) := by decide +kernel
theorem dX11_unlike_15 : decode cX11_unlike 15 = .ok (.goto 8, 3) := by decide +kernel
theorem dX11_unlike_18 : decode cX11_unlike 18 = .ok (.aload_n 0, 1) := by decide +kernel
theorem dX11_unlike_19 : decode cX11_unlike 19 = .ok (.iload_n 1, 1) := by decide +kernel
theorem dX11_unlike_20 : decode cX11_unlike 20 = .ok (.invokevirtual 198, 3) := by decide +kernel
theorem dX11_unlike_23 : decode cX11_unlike 23 = .ok (.iload_n 3, 1) := by decide +kernel
theorem dX11_unlike_24 : decode cX11_unlike 24 = .ok (.iconst 2, 1) := by decide +kernel
theorem dX11_unlike_25 : decode cX11_unlike 25 = .ok (.if_icmp .ne 11, 3) := by decide +kernel
theorem dX11_unlike_28 : decode cX11_unlike 28 = .ok (.aload_n 0, 1) := by decide +kernel
theorem dX11_unlike_29 : decode cX11_unlike 29 = .ok (.iload_n 2, 1) := by decide +kernel
theorem dX11_unlike_30 : decode cX11_unlike 30 = .ok (.invokevirtual 198, 3) := by decide +kernel
theorem dX11_unlike_33 : decode cX11_unlike 33 = .ok (.goto 8, 3) := by decide +kernel
theorem dX11_unlike_36 : decode cX11_unlike 36 = .ok (.aload_n 0, 1) := by decide +kernel
theorem dX11_unlike_37 : decode cX11_unlike 37 = .ok (.iload_n 2, 1) := by decide +kernel
theorem dX11_unlike_38 : decode cX11_unlike 38 = .ok (.invokevirtual 178, 3) := by decide +kernel
theorem dX11_unlike_41 : decode cX11_unlike 41 = .ok (.aload_n 0, 1) := by decide +kernel
theorem dX11_unlike_42 : decode cX11_unlike 42 = .ok (.getfield 39, 3) := by decide +kernel
theorem dX11_unlike_45 : decode cX11_unlike 45 = .ok (.getfield 61, 3) := by decide +kernel
theorem dX11_unlike_48 : decode cX11_unlike 48 = .ok (.iload_n 3, 1) := by decide +kernel
theorem dX11_unlike_49 : decode cX11_unlike 49 = .ok (.iconst 1, 1) := by decide +kernel
theorem dX11_unlike_50 : decode cX11_unlike 50 = .ok (.if_icmp .ne 7, 3) := by decide +kernel
theorem dX11_unlike_53 : decode cX11_unlike 53 = .ok (.iload_n 1, 1) := by decide +kernel
theorem dX11_unlike_54 : decode cX11_unlike 54 = .ok (.goto 7, 3) := by decide +kernel
theorem dX11_unlike_57 : decode cX11_unlike 57 = .ok (.iload_n 1, 1) := by decide +kernel
theorem dX11_unlike_58 : decode cX11_unlike 58 = .ok (.invokestatic 201, 3) := by decide +kernel
theorem dX11_unlike_61 : decode cX11_unlike 61 = .ok (.iload_n 3, 1) := by decide +kernel
theorem dX11_unlike_62 : decode cX11_unlike 62 = .ok (.iconst 2, 1) := by decide +kernel
theorem dX11_unlike_63 : decode cX11_unlike 63 = .ok (.if_icmp .ne 10, 3) := by decide +kernel
theorem dX11_unlike_66 : decode cX11_unlike 66 = .ok (.iload_n 2, 1) := by decide +kernel
theorem dX11_unlike_67 : decode cX11_unlike 67 = .ok (.invokestatic 201, 3) := by decide +kernel
theorem dX11_unlike_70 : decode cX11_unlike 70 = .ok (.goto 4, 3) := by decide +kernel
theorem dX11_unlike_73 : decode cX11_unlike 73 = .ok (.iload_n 2, 1) := by decide +kernel
theorem dX11_unlike_74 : decode cX11_unlike 74 = .ok (.invokevirtual 252, 3) := by decide +kernel
theorem dX11_unlike_77 : decode cX11_unlike 77 = .ok (.ireturn, 1) := by decide +kernel
set_option maxRecDepth 20000 in
theorem ggX11_seats_X11_needPerson : GoodIn wsX11_seats wsX11_needPerson := goodIn_ca (goodIn_r _ [6, 7, 8, 9, 10, 11, 66, 67, 68, 69, 70, 71, 72, 73, 74, 75, 76, 77, 78, 79, 80, 81, 82, 83, 84, 85, 86, 87, 88, 89, 90, 91] (by decide +kernel) (by decide +kernel)) (goodIn_sub (fun _ h => List.mem_cons_of_mem _ (List.mem_append_right _ h)) (by decide +kernel))
set_option maxRecDepth 20000 in
theorem gX11_seats_X11_needPerson : GoodIn wsX11_seats (wsV RX11 198 RX11 yX11_needPerson wsX11_needPerson) := goodIn_app (goodIn_of _ (by decide +kernel)) ggX11_seats_X11_needPerson
set_option maxRecDepth 20000 in
theorem ggX11_seats_X6_find : GoodIn wsX11_seats wsX6_find := goodIn_r _ [16, 17, 18, 19, 20, 21, 22, 23, 24, 25, 26, 27, 28, 29, 30, 31, 32, 33, 34, 35, 15, 36, 37, 38, 39, 40, 41, 42, 43, 44, 45, 46, 47, 48, 49, 50, 51, 52, 53, 92, 93, 83, 84, 85, 86, 87, 88, 89, 90, 91] (by decide +kernel) (by decide +kernel)
set_option maxRecDepth 20000 in
theorem gX11_seats_X6_find : GoodIn wsX11_seats (wsV RX11 261 RX6 yX6_find wsX6_find) := goodIn_app (goodIn_of _ (by decide +kernel)) ggX11_seats_X6_find
set_option maxRecDepth 20000 in
theorem ggX11_seats_X6_difference : GoodIn wsX11_seats wsX6_difference := goodIn_r _ [57, 24, 92, 93] (by decide +kernel) (by decide +kernel)
set_option maxRecDepth 20000 in
theorem gX11_seats_X6_difference : GoodIn wsX11_seats (wsV RX11 264 RX6 yX6_difference wsX6_difference) := goodIn_app (goodIn_of _ (by decide +kernel)) ggX11_seats_X6_difference
set_option maxRecDepth 20000 in
theorem ggX11_seats_X6_placeFor : GoodIn wsX11_seats wsX6_placeFor := goodIn_r _ [61, 62, 63, 64, 15, 65, 17, 18, 24, 37, 38, 39, 40, 25, 20, 21, 22, 23, 41, 42, 43, 44, 45, 46, 47, 48, 49, 50, 51, 52, 53, 92, 93, 83, 84, 85, 86, 87, 88, 89, 90, 91] (by decide +kernel) (by decide +kernel)
set_option maxRecDepth 20000 in
theorem gX11_seats_X6_placeFor : GoodIn wsX11_seats (wsV RX11 267 RX6 yX6_placeFor wsX6_placeFor) := goodIn_app (goodIn_of _ (by decide +kernel)) ggX11_seats_X6_placeFor
theorem dX11_seats_0 : decode cX11_seats 0 = .ok (.iload_n 1, 1) := by decide +kernel
theorem dX11_seats_1 : decode cX11_seats 1 = .ok (.iconst (-1), 1) := by decide +kernel
theorem dX11_seats_2 : decode cX11_seats 2 = .ok (.if_icmp .eq 8, 3) := by decide +kernel
theorem dX11_seats_5 : decode cX11_seats 5 = .ok (.aload_n 0, 1) := by decide +kernel
theorem dX11_seats_6 : decode cX11_seats 6 = .ok (.iload_n 1, 1) := by decide +kernel
theorem dX11_seats_7 : decode cX11_seats 7 = .ok (.invokevirtual 198, 3) := by decide +kernel
theorem dX11_seats_10 : decode cX11_seats 10 = .ok (.aload_n 0, 1) := by decide +kernel
theorem dX11_seats_11 : decode cX11_seats 11 = .ok (.getfield 68, 3) := by decide +kernel
theorem dX11_seats_14 : decode cX11_seats 14 = .ok (.invokevirtual 261, 3) := by decide +kernel
theorem dX11_seats_17 : decode cX11_seats 17 = .ok (.iload_n 1, 1) := by decide +kernel
theorem dX11_seats_18 : decode cX11_seats 18 = .ok (.iconst (-1), 1) := by decide +kernel
theorem dX11_seats_19 : decode cX11_seats 19 = .ok (.if_icmp .ne 13, 3) := by decide +kernel
theorem dX11_seats_22 : decode cX11_seats 22 = .ok (.aload_n 0, 1) := by decide +kernel
theorem dX11_seats_23 : decode cX11_seats 23 = .ok (.getfield 68, 3) := by decide +kernel
theorem dX11_seats_26 : decode cX11_seats 26 = .ok (.invokevirtual 264, 3) := by decide +kernel
theorem dX11_seats_29 : decode cX11_seats 29 = .ok (.goto 11, 3) := by decide +kernel
theorem dX11_seats_32 : decode cX11_seats 32 = .ok (.aload_n 0, 1) := by decide +kernel
theorem dX11_seats_33 : decode cX11_seats 33 = .ok (.getfield 68, 3) := by decide +kernel
theorem dX11_seats_36 : decode cX11_seats 36 = .ok (.iload_n 1, 1) := by decide +kernel
theorem dX11_seats_37 : decode cX11_seats 37 = .ok (.invokevirtual 267, 3) := by decide +kernel
theorem dX11_seats_40 : decode cX11_seats 40 = .ok (.ireturn, 1) := by decide +kernel
set_option maxRecDepth 20000 in
theorem ggX11_turn_X11_needWhat : GoodIn wsX11_turn wsX11_needWhat := goodIn_ca (goodIn_r _ [7, 8, 9] (by decide +kernel) (by decide +kernel)) (goodIn_sub (fun _ h => List.mem_cons_of_mem _ (List.mem_append_right _ h)) (by decide +kernel))
set_option maxRecDepth 20000 in
theorem gX11_turn_X11_needWhat : GoodIn wsX11_turn (va_wsS RX11 240 yX11_needWhat wsX11_needWhat) := goodIn_app (goodIn_of _ (by decide +kernel)) ggX11_turn_X11_needWhat
set_option maxRecDepth 20000 in
theorem ggX11_turn_X11_turnedBy : GoodIn wsX11_turn wsX11_turnedBy := goodIn_r _ [13, 1, 2, 3, 14, 15, 16, 17, 18, 19, 20, 21, 22, 23, 24, 25, 26, 27, 28, 29, 30, 31, 32, 33, 34, 35, 36, 37, 38, 39, 40, 41, 42, 43, 44, 45, 46, 47, 48, 49, 50, 51, 52, 53, 54] (by decide +kernel) (by decide +kernel)
set_option maxRecDepth 20000 in
theorem gX11_turn_X11_turnedBy : GoodIn wsX11_turn (wsV RX11 270 RX11 yX11_turnedBy wsX11_turnedBy) := goodIn_app (goodIn_of _ (by decide +kernel)) ggX11_turn_X11_turnedBy
theorem dX11_turn_0 : decode cX11_turn 0 = .ok (.iload_n 1, 1) := by decide +kernel
theorem dX11_turn_1 : decode cX11_turn 1 = .ok (.iconst 1, 1) := by decide +kernel
theorem dX11_turn_2 : decode cX11_turn 2 = .ok (.invokestatic 240, 3) := by decide +kernel
theorem dX11_turn_5 : decode cX11_turn 5 = .ok (.iconst (-1), 1) := by decide +kernel
theorem dX11_turn_6 : decode cX11_turn 6 = .ok (.istore_n 2, 1) := by decide +kernel
theorem dX11_turn_7 : decode cX11_turn 7 = .ok (.iconst (-1), 1) := by decide +kernel
theorem dX11_turn_8 : decode cX11_turn 8 = .ok (.istore_n 3, 1) := by decide +kernel
theorem dX11_turn_9 : decode cX11_turn 9 = .ok (.iconst 0, 1) := by decide +kernel
theorem dX11_turn_10 : decode cX11_turn 10 = .ok (.istore 4, 2) := by decide +kernel
theorem dX11_turn_12 : decode cX11_turn 12 = .ok (.iload 4, 2) := by decide +kernel
theorem dX11_turn_14 : decode cX11_turn 14 = .ok (.aload_n 0, 1) := by decide +kernel
theorem dX11_turn_15 : decode cX11_turn 15 = .ok (.getfield 39, 3) := by decide +kernel
theorem dX11_turn_18 : decode cX11_turn 18 = .ok (.getfield 61, 3) := by decide +kernel
theorem dX11_turn_21 : decode cX11_turn 21 = .ok (.getfield 119, 3) := by decide +kernel
theorem dX11_turn_24 : decode cX11_turn 24 = .ok (.if_icmp .ge 34, 3) := by decide +kernel
theorem dX11_turn_27 : decode cX11_turn 27 = .ok (.aload_n 0, 1) := by decide +kernel
theorem dX11_turn_28 : decode cX11_turn 28 = .ok (.iload 4, 2) := by decide +kernel
theorem dX11_turn_30 : decode cX11_turn 30 = .ok (.invokevirtual 270, 3) := by decide +kernel
theorem dX11_turn_33 : decode cX11_turn 33 = .ok (.istore 5, 2) := by decide +kernel
theorem dX11_turn_35 : decode cX11_turn 35 = .ok (.iload_n 2, 1) := by decide +kernel
theorem dX11_turn_36 : decode cX11_turn 36 = .ok (.iconst (-1), 1) := by decide +kernel
theorem dX11_turn_37 : decode cX11_turn 37 = .ok (.if_icmp .eq 9, 3) := by decide +kernel
theorem dX11_turn_40 : decode cX11_turn 40 = .ok (.iload 5, 2) := by decide +kernel
theorem dX11_turn_42 : decode cX11_turn 42 = .ok (.iload_n 3, 1) := by decide +kernel
theorem dX11_turn_43 : decode cX11_turn 43 = .ok (.if_icmp .ge 9, 3) := by decide +kernel
theorem dX11_turn_46 : decode cX11_turn 46 = .ok (.iload 4, 2) := by decide +kernel
theorem dX11_turn_48 : decode cX11_turn 48 = .ok (.istore_n 2, 1) := by decide +kernel
theorem dX11_turn_49 : decode cX11_turn 49 = .ok (.iload 5, 2) := by decide +kernel
theorem dX11_turn_51 : decode cX11_turn 51 = .ok (.istore_n 3, 1) := by decide +kernel
theorem dX11_turn_52 : decode cX11_turn 52 = .ok (.iinc 4 1, 3) := by decide +kernel
theorem dX11_turn_55 : decode cX11_turn 55 = .ok (.goto (-43), 3) := by decide +kernel
theorem dX11_turn_58 : decode cX11_turn 58 = .ok (.iload_n 1, 1) := by decide +kernel
theorem dX11_turn_59 : decode cX11_turn 59 = .ok (.ifCond .ne 7, 3) := by decide +kernel
theorem dX11_turn_62 : decode cX11_turn 62 = .ok (.iload_n 2, 1) := by decide +kernel
theorem dX11_turn_63 : decode cX11_turn 63 = .ok (.goto 4, 3) := by decide +kernel
theorem dX11_turn_66 : decode cX11_turn 66 = .ok (.iload_n 3, 1) := by decide +kernel
theorem dX11_turn_67 : decode cX11_turn 67 = .ok (.ireturn, 1) := by decide +kernel
set_option maxRecDepth 20000 in
theorem ggX11_lasts_X11_needPerson : GoodIn wsX11_lasts wsX11_needPerson := goodIn_ca (goodIn_r _ [9, 10, 11, 2, 3, 12, 158, 159, 160, 161, 162, 163, 164, 165, 166, 167, 168, 169, 170, 171, 172, 173, 174, 180, 181, 182, 183, 184, 185, 186, 187, 188] (by decide +kernel) (by decide +kernel)) (goodIn_sub (fun _ h => List.mem_cons_of_mem _ (List.mem_append_right _ h)) (by decide +kernel))
set_option maxRecDepth 20000 in
theorem gX11_lasts_X11_needPerson : GoodIn wsX11_lasts (wsV RX11 198 RX11 yX11_needPerson wsX11_needPerson) := goodIn_app (goodIn_of _ (by decide +kernel)) ggX11_lasts_X11_needPerson
set_option maxRecDepth 20000 in
theorem ggX11_lasts_X11_needGargoyle : GoodIn wsX11_lasts wsX11_needGargoyle := goodIn_ca (goodIn_r _ [16, 10, 11, 2, 3, 17, 158, 159, 160, 161, 162, 163, 164, 165, 166, 167, 168, 169, 170, 171, 172, 173, 174, 180, 181, 182, 183, 184, 185, 186, 187, 188] (by decide +kernel) (by decide +kernel)) (goodIn_sub (fun _ h => List.mem_cons_of_mem _ (List.mem_append_right _ h)) (by decide +kernel))
set_option maxRecDepth 20000 in
theorem gX11_lasts_X11_needGargoyle : GoodIn wsX11_lasts (wsV RX11 178 RX11 yX11_needGargoyle wsX11_needGargoyle) := goodIn_app (goodIn_of _ (by decide +kernel)) ggX11_lasts_X11_needGargoyle
set_option maxRecDepth 20000 in
theorem ggX11_lasts_X9_begin : GoodIn wsX11_lasts wsX9_begin := goodIn_r _ [22, 23, 24, 25, 26, 27, 28, 29, 30, 31, 32, 33, 34, 35, 36, 37, 38, 39, 40, 41, 42, 175, 176, 177, 178, 179, 180, 181, 182, 183, 184, 185, 186, 187, 188] (by decide +kernel) (by decide +kernel)
set_option maxRecDepth 20000 in
theorem gX11_lasts_X9_begin : GoodIn wsX11_lasts (wsV RX11 224 RX9 yX9_begin wsX9_begin) := goodIn_app (goodIn_of _ (by decide +kernel)) ggX11_lasts_X9_begin
set_option maxRecDepth 20000 in
theorem ggX11_lasts_X8_moveUp : GoodIn wsX11_lasts wsX8_moveUp := goodIn_r _ [46, 42, 47, 48, 49, 28, 50, 31, 180, 181, 182, 183, 184, 185, 186, 187, 188] (by decide +kernel) (by decide +kernel)
set_option maxRecDepth 20000 in
theorem gX11_lasts_X8_moveUp : GoodIn wsX11_lasts (wsV RX11 273 RX8 yX8_moveUp wsX8_moveUp) := goodIn_app (goodIn_of _ (by decide +kernel)) ggX11_lasts_X8_moveUp
set_option maxRecDepth 20000 in
theorem ggX11_lasts_X9_yearsToLoaf : GoodIn wsX11_lasts wsX9_yearsToLoaf := goodIn_r _ [54, 23, 55, 56, 57, 58, 59, 60, 61, 62, 63, 64, 65, 66, 67, 21, 68, 69, 70, 71, 72, 73, 74, 75, 76, 77, 78, 79, 80, 81, 82, 83, 84, 85, 86, 28, 87, 31, 42, 88, 89, 90, 91, 92, 93, 94, 95, 96, 97, 98, 99, 100, 101, 102, 103, 104, 105, 106, 39, 107, 108, 109, 110, 111, 33, 38, 112, 113, 114, 115, 116, 117, 118, 119, 120, 121, 122, 123, 124, 125, 126, 127, 128, 129, 130, 131, 132, 133, 134, 135, 136, 137, 138, 139, 24, 140, 141, 142, 143, 144, 145, 146, 147, 148, 149, 150, 151, 152, 153, 154, 155, 156, 30, 157, 175, 176, 177, 178, 179, 180, 181, 182, 183, 184, 185, 186, 187, 188, 189, 190, 191, 192, 193, 194, 195, 196, 197, 198] (by decide +kernel) (by decide +kernel)
set_option maxRecDepth 20000 in
theorem gX11_lasts_X9_yearsToLoaf : GoodIn wsX11_lasts (wsV RX11 255 RX9 yX9_yearsToLoaf wsX9_yearsToLoaf) := goodIn_app (goodIn_of _ (by decide +kernel)) ggX11_lasts_X9_yearsToLoaf
theorem dX11_lasts_0 : decode cX11_lasts 0 = .ok (.aload_n 0, 1) := by decide +kernel
theorem dX11_lasts_1 : decode cX11_lasts 1 = .ok (.iload_n 1, 1) := by decide +kernel
theorem dX11_lasts_2 : decode cX11_lasts 2 = .ok (.invokevirtual 198, 3) := by decide +kernel
theorem dX11_lasts_5 : decode cX11_lasts 5 = .ok (.aload_n 0, 1) := by decide +kernel
theorem dX11_lasts_6 : decode cX11_lasts 6 = .ok (.iload_n 2, 1) := by decide +kernel
theorem dX11_lasts_7 : decode cX11_lasts 7 = .ok (.invokevirtual 178, 3) := by decide +kernel
theorem dX11_lasts_10 : decode cX11_lasts 10 = .ok (.aload_n 0, 1) := by decide +kernel
theorem dX11_lasts_11 : decode cX11_lasts 11 = .ok (.getfield 55, 3) := by decide +kernel
theorem dX11_lasts_14 : decode cX11_lasts 14 = .ok (.aload_n 0, 1) := by decide +kernel
theorem dX11_lasts_15 : decode cX11_lasts 15 = .ok (.getfield 39, 3) := by decide +kernel
theorem dX11_lasts_18 : decode cX11_lasts 18 = .ok (.getfield 61, 3) := by decide +kernel
theorem dX11_lasts_21 : decode cX11_lasts 21 = .ok (.invokevirtual 224, 3) := by decide +kernel
theorem dX11_lasts_24 : decode cX11_lasts 24 = .ok (.aload_n 0, 1) := by decide +kernel
theorem dX11_lasts_25 : decode cX11_lasts 25 = .ok (.getfield 55, 3) := by decide +kernel
theorem dX11_lasts_28 : decode cX11_lasts 28 = .ok (.getfield 230, 3) := by decide +kernel
theorem dX11_lasts_31 : decode cX11_lasts 31 = .ok (.iload_n 1, 1) := by decide +kernel
theorem dX11_lasts_32 : decode cX11_lasts 32 = .ok (.iload_n 2, 1) := by decide +kernel
theorem dX11_lasts_33 : decode cX11_lasts 33 = .ok (.invokevirtual 273, 3) := by decide +kernel
theorem dX11_lasts_36 : decode cX11_lasts 36 = .ok (.aload_n 0, 1) := by decide +kernel
theorem dX11_lasts_37 : decode cX11_lasts 37 = .ok (.getfield 55, 3) := by decide +kernel
theorem dX11_lasts_40 : decode cX11_lasts 40 = .ok (.iload_n 2, 1) := by decide +kernel
theorem dX11_lasts_41 : decode cX11_lasts 41 = .ok (.invokevirtual 255, 3) := by decide +kernel
theorem dX11_lasts_44 : decode cX11_lasts 44 = .ok (.ireturn, 1) := by decide +kernel
set_option maxRecDepth 20000 in
theorem ggX11_best_X11_needPerson : GoodIn wsX11_best wsX11_needPerson := goodIn_ca (goodIn_r _ [10, 11, 12, 1, 2, 13, 166, 167, 168, 169, 170, 171, 172, 173, 174, 175, 176, 177, 178, 179, 180, 181, 182, 183, 184, 185, 186, 187, 188, 189, 190, 191] (by decide +kernel) (by decide +kernel)) (goodIn_sub (fun _ h => List.mem_cons_of_mem _ (List.mem_append_left _ (List.mem_append_right _ h))) (by decide +kernel))
set_option maxRecDepth 20000 in
theorem gX11_best_X11_needPerson : GoodIn wsX11_best (wsV RX11 198 RX11 yX11_needPerson wsX11_needPerson) := goodIn_app (goodIn_of _ (by decide +kernel)) ggX11_best_X11_needPerson
set_option maxRecDepth 20000 in
theorem ggX11_best_X11_needWhat : GoodIn wsX11_best wsX11_needWhat := goodIn_ca (goodIn_r _ [16, 11, 12] (by decide +kernel) (by decide +kernel)) (goodIn_sub (fun _ h => List.mem_cons_of_mem _ (List.mem_append_left _ (List.mem_append_right _ h))) (by decide +kernel))
set_option maxRecDepth 20000 in
theorem gX11_best_X11_needWhat : GoodIn wsX11_best (va_wsS RX11 240 yX11_needWhat wsX11_needWhat) := goodIn_app (goodIn_of _ (by decide +kernel)) ggX11_best_X11_needWhat
set_option maxRecDepth 20000 in
theorem ggX11_best_X11_needYears : GoodIn wsX11_best wsX11_needYears := goodIn_ca (goodIn_r _ [19, 20, 21] (by decide +kernel) (by decide +kernel)) (goodIn_sub (fun _ h => List.mem_cons_of_mem _ (List.mem_append_right _ h)) (by decide +kernel))
set_option maxRecDepth 20000 in
theorem gX11_best_X11_needYears : GoodIn wsX11_best (va_wsS RX11 258 yX11_needYears wsX11_needYears) := goodIn_app (goodIn_of _ (by decide +kernel)) ggX11_best_X11_needYears
set_option maxRecDepth 20000 in
theorem ggX11_best_X9_begin : GoodIn wsX11_best wsX9_begin := goodIn_r _ [26, 27, 28, 29, 30, 31, 32, 33, 34, 35, 36, 37, 38, 39, 40, 41, 42, 43, 44, 45, 46, 192, 193, 194, 195, 196, 183, 184, 185, 186, 187, 188, 189, 190, 191] (by decide +kernel) (by decide +kernel)
set_option maxRecDepth 20000 in
theorem gX11_best_X9_begin : GoodIn wsX11_best (wsV RX11 224 RX9 yX9_begin wsX9_begin) := goodIn_app (goodIn_of _ (by decide +kernel)) ggX11_best_X9_begin
set_option maxRecDepth 20000 in
theorem ggX11_best_X8_moveUp : GoodIn wsX11_best wsX8_moveUp := goodIn_r _ [50, 46, 51, 52, 53, 32, 54, 35, 183, 184, 185, 186, 187, 188, 189, 190, 191] (by decide +kernel) (by decide +kernel)
set_option maxRecDepth 20000 in
theorem gX11_best_X8_moveUp : GoodIn wsX11_best (wsV RX11 273 RX8 yX8_moveUp wsX8_moveUp) := goodIn_app (goodIn_of _ (by decide +kernel)) ggX11_best_X8_moveUp
set_option maxRecDepth 20000 in
theorem ggX11_best_X9_passYears : GoodIn wsX11_best wsX9_passYears := goodIn_r _ [58, 59, 27, 60, 61, 62, 63, 64, 65, 66, 67, 68, 69, 70, 25, 71, 72, 73, 74, 75, 76, 77, 78, 79, 80, 81, 82, 83, 84, 85, 86, 87, 88, 89, 90, 32, 91, 35, 46, 92, 93, 94, 95, 96, 97, 98, 99, 100, 101, 102, 103, 104, 105, 106, 107, 108, 109, 110, 43, 111, 112, 113, 114, 115, 37, 42, 116, 117, 118, 119, 120, 121, 122, 123, 124, 125, 126, 127, 128, 129, 130, 131, 132, 133, 134, 135, 136, 137, 138, 139, 140, 141, 142, 143, 28, 144, 145, 146, 147, 148, 149, 150, 151, 152, 153, 154, 155, 156, 157, 158, 159, 160, 34, 161, 192, 193, 194, 195, 196, 183, 184, 185, 186, 187, 188, 189, 190, 191, 197, 198, 199, 200, 201, 202, 203, 204, 205, 206] (by decide +kernel) (by decide +kernel)
set_option maxRecDepth 20000 in
theorem gX11_best_X9_passYears : GoodIn wsX11_best (wsV RX11 227 RX9 yX9_passYears wsX9_passYears) := goodIn_app (goodIn_of _ (by decide +kernel)) ggX11_best_X9_passYears
set_option maxRecDepth 20000 in
theorem ggX11_best_X8_stoneOfAll : GoodIn wsX11_best wsX8_stoneOfAll := goodIn_r _ [165, 34, 43, 183, 184, 185, 186, 187, 188, 189, 190, 191] (by decide +kernel) (by decide +kernel)
set_option maxRecDepth 20000 in
theorem gX11_best_X8_stoneOfAll : GoodIn wsX11_best (wsV RX11 148 RX8 yX8_stoneOfAll wsX8_stoneOfAll) := goodIn_app (goodIn_of _ (by decide +kernel)) ggX11_best_X8_stoneOfAll
theorem dX11_best_0 : decode cX11_best 0 = .ok (.aload_n 0, 1) := by decide +kernel
theorem dX11_best_1 : decode cX11_best 1 = .ok (.iload_n 1, 1) := by decide +kernel
theorem dX11_best_2 : decode cX11_best 2 = .ok (.invokevirtual 198, 3) := by decide +kernel
theorem dX11_best_5 : decode cX11_best 5 = .ok (.iload_n 3, 1) := by decide +kernel
theorem dX11_best_6 : decode cX11_best 6 = .ok (.iconst 1, 1) := by decide +kernel
theorem dX11_best_7 : decode cX11_best 7 = .ok (.invokestatic 240, 3) := by decide +kernel
theorem dX11_best_10 : decode cX11_best 10 = .ok (.iload_n 2, 1) := by decide +kernel
theorem dX11_best_11 : decode cX11_best 11 = .ok (.iconst 1, 1) := by decide +kernel
theorem dX11_best_12 : decode cX11_best 12 = .ok (.invokestatic 258, 3) := by decide +kernel
theorem dX11_best_15 : decode cX11_best 15 = .ok (.iconst (-1), 1) := by decide +kernel
theorem dX11_best_16 : decode cX11_best 16 = .ok (.istore 4, 2) := by decide +kernel
theorem dX11_best_18 : decode cX11_best 18 = .ok (.iconst (-1), 1) := by decide +kernel
theorem dX11_best_19 : decode cX11_best 19 = .ok (.istore 5, 2) := by decide +kernel
theorem dX11_best_21 : decode cX11_best 21 = .ok (.iconst 0, 1) := by decide +kernel
theorem dX11_best_22 : decode cX11_best 22 = .ok (.istore 6, 2) := by decide +kernel
theorem dX11_best_24 : decode cX11_best 24 = .ok (.iload 6, 2) := by decide +kernel
theorem dX11_best_26 : decode cX11_best 26 = .ok (.aload_n 0, 1) := by decide +kernel
theorem dX11_best_27 : decode cX11_best 27 = .ok (.getfield 39, 3) := by decide +kernel
theorem dX11_best_30 : decode cX11_best 30 = .ok (.getfield 61, 3) := by decide +kernel
theorem dX11_best_33 : decode cX11_best 33 = .ok (.getfield 119, 3) := by decide +kernel
theorem dX11_best_36 : decode cX11_best 36 = .ok (.if_icmp .ge 71, 3) := by decide +kernel
theorem dX11_best_39 : decode cX11_best 39 = .ok (.aload_n 0, 1) := by decide +kernel
theorem dX11_best_40 : decode cX11_best 40 = .ok (.getfield 55, 3) := by decide +kernel
theorem dX11_best_43 : decode cX11_best 43 = .ok (.aload_n 0, 1) := by decide +kernel
theorem dX11_best_44 : decode cX11_best 44 = .ok (.getfield 39, 3) := by decide +kernel
theorem dX11_best_47 : decode cX11_best 47 = .ok (.getfield 61, 3) := by decide +kernel
theorem dX11_best_50 : decode cX11_best 50 = .ok (.invokevirtual 224, 3) := by decide +kernel
theorem dX11_best_53 : decode cX11_best 53 = .ok (.aload_n 0, 1) := by decide +kernel
theorem dX11_best_54 : decode cX11_best 54 = .ok (.getfield 55, 3) := by decide +kernel
theorem dX11_best_57 : decode cX11_best 57 = .ok (.getfield 230, 3) := by decide +kernel
theorem dX11_best_60 : decode cX11_best 60 = .ok (.iload_n 1, 1) := by decide +kernel
theorem dX11_best_61 : decode cX11_best 61 = .ok (.iload 6, 2) := by decide +kernel
theorem dX11_best_63 : decode cX11_best 63 = .ok (.invokevirtual 273, 3) := by decide +kernel
theorem dX11_best_66 : decode cX11_best 66 = .ok (.aload_n 0, 1) := by decide +kernel
theorem dX11_best_67 : decode cX11_best 67 = .ok (.getfield 55, 3) := by decide +kernel
theorem dX11_best_70 : decode cX11_best 70 = .ok (.iload_n 2, 1) := by decide +kernel
theorem dX11_best_71 : decode cX11_best 71 = .ok (.invokevirtual 227, 3) := by decide +kernel
theorem dX11_best_74 : decode cX11_best 74 = .ok (.aload_n 0, 1) := by decide +kernel
theorem dX11_best_75 : decode cX11_best 75 = .ok (.getfield 55, 3) := by decide +kernel
theorem dX11_best_78 : decode cX11_best 78 = .ok (.getfield 230, 3) := by decide +kernel
theorem dX11_best_81 : decode cX11_best 81 = .ok (.invokevirtual 148, 3) := by decide +kernel
theorem dX11_best_84 : decode cX11_best 84 = .ok (.istore 7, 2) := by decide +kernel
theorem dX11_best_86 : decode cX11_best 86 = .ok (.iload 7, 2) := by decide +kernel
theorem dX11_best_88 : decode cX11_best 88 = .ok (.iload 5, 2) := by decide +kernel
theorem dX11_best_90 : decode cX11_best 90 = .ok (.if_icmp .le 11, 3) := by decide +kernel
theorem dX11_best_93 : decode cX11_best 93 = .ok (.iload 6, 2) := by decide +kernel
theorem dX11_best_95 : decode cX11_best 95 = .ok (.istore 4, 2) := by decide +kernel
theorem dX11_best_97 : decode cX11_best 97 = .ok (.iload 7, 2) := by decide +kernel
theorem dX11_best_99 : decode cX11_best 99 = .ok (.istore 5, 2) := by decide +kernel
theorem dX11_best_101 : decode cX11_best 101 = .ok (.iinc 6 1, 3) := by decide +kernel
