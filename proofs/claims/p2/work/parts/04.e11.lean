set_option maxRecDepth 20000 in
theorem ggL_tower_X11_tower : GoodIn wsL_tower wsX11_tower := goodIn_ca (goodIn_r _ [6, 7, 8, 9, 10, 11, 12, 13, 14, 15, 16, 17, 18, 19, 20, 21, 22, 23, 24, 25, 26, 27, 28, 29, 30, 31, 32, 33, 34, 35, 36, 37, 38, 39, 40, 41, 42, 43, 44, 45, 46, 47, 48, 49, 50, 51, 52, 53, 54, 55, 56, 57, 58, 59, 60, 61, 62, 63, 64, 65, 66, 67, 68, 69, 70, 71, 72, 73, 74, 75, 76, 77, 78, 79, 80, 81, 82, 83, 84, 85, 86, 87, 88, 89, 90, 91, 92, 93, 94, 95, 96, 97, 98, 99, 100, 101, 102, 103, 104, 105, 106, 107, 108, 109, 110, 111, 112, 113, 114, 115, 116, 117, 118, 119, 120, 121, 122, 123, 124, 125, 126, 127, 128, 129, 130, 131, 132, 133, 134, 135, 136, 137, 138, 139, 140, 141, 142, 143, 144, 145, 146, 147, 148, 149, 150, 151, 152, 153, 154, 155, 156, 157, 158, 159, 160, 161, 162, 163, 164, 165, 166, 167, 168, 169, 170, 171, 172, 173, 174, 175, 176, 177, 178, 179, 180, 181, 182, 183, 184, 185, 186, 187, 188, 189, 190, 191, 192, 193, 194, 195, 196, 197, 198, 199, 200, 201, 202, 203, 204, 205, 206, 207, 208, 209, 210, 211, 212, 213, 214, 215, 216, 217, 218, 219, 220, 221, 222, 223, 224, 225, 226, 227, 228, 229, 230, 231, 232, 233, 234, 235, 236, 237, 238, 239, 240, 241, 242, 243, 244, 245, 246, 247, 248, 249, 250, 251, 252, 253, 254, 255, 256, 257, 258, 259, 260, 261, 262, 263, 264, 265, 266, 267, 268, 269, 270, 271, 272, 273, 274, 275, 276, 277, 278, 279, 280, 281, 282, 283, 284, 285, 286, 287, 288, 289, 290, 291, 292, 293, 294, 295, 296, 297, 298, 299, 300, 301, 302, 303, 304, 305, 306, 307, 308, 309, 310, 311, 312, 313, 314, 315, 316, 317, 318, 319, 320, 321, 322, 323, 324, 325, 326, 327, 328, 329, 330, 331, 332, 333, 334, 335, 336, 337, 338, 339, 340, 341, 342, 343, 344] (by decide +kernel) (by decide +kernel)) (goodIn_sub (fun _ h => List.mem_cons_of_mem _ (List.mem_append_right _ h)) (by decide +kernel))
set_option maxRecDepth 20000 in
theorem gL_tower_X11_tower : GoodIn wsL_tower (wsV RL 7 RX11 yX11_tower wsX11_tower) := goodIn_app (goodIn_of _ (by decide +kernel)) ggL_tower_X11_tower
theorem dL_tower_0 : decode cL_tower 0 = .ok (.aload_n 2, 1) := by decide +kernel
theorem dL_tower_1 : decode cL_tower 1 = .ok (.iconst 0, 1) := by decide +kernel
theorem dL_tower_2 : decode cL_tower 2 = .ok (.aload_n 0, 1) := by decide +kernel
theorem dL_tower_3 : decode cL_tower 3 = .ok (.iload_n 1, 1) := by decide +kernel
theorem dL_tower_4 : decode cL_tower 4 = .ok (.invokevirtual 7, 3) := by decide +kernel
theorem dL_tower_7 : decode cL_tower 7 = .ok (.i2l, 1) := by decide +kernel
theorem dL_tower_8 : decode cL_tower 8 = .ok (.lastore, 1) := by decide +kernel
theorem dL_tower_9 : decode cL_tower 9 = .ok (.goto 6, 3) := by decide +kernel
theorem dL_tower_12 : decode cL_tower 12 = .ok (.astore_n 3, 1) := by decide +kernel
theorem dL_tower_13 : decode cL_tower 13 = .ok (.iconst 1, 1) := by decide +kernel
theorem dL_tower_14 : decode cL_tower 14 = .ok (.ireturn, 1) := by decide +kernel
theorem dL_tower_15 : decode cL_tower 15 = .ok (.iconst 0, 1) := by decide +kernel
theorem dL_tower_16 : decode cL_tower 16 = .ok (.ireturn, 1) := by decide +kernel
set_option maxRecDepth 20000 in
theorem ggL_count_X11_count : GoodIn wsL_count wsX11_count := goodIn_ca (goodIn_r _ [6, 7, 8, 9, 10, 11, 12, 13, 14, 15, 16, 17, 18, 19, 20, 21, 22, 23, 24, 25, 26, 27, 28, 29, 30, 31, 32, 33, 34, 35, 36, 37, 38, 39, 40, 41, 42, 43, 44, 45, 46, 47, 48, 49, 50, 51, 52, 53, 54, 55, 56, 57, 58, 59, 60, 61, 62, 63, 64, 65, 66, 67, 68, 69, 70, 71, 72, 73, 74, 75, 76, 77, 78, 79, 80, 81, 82, 83, 84, 85, 86, 87, 88, 89, 90, 91, 92, 93, 94, 95, 96, 97, 98, 99, 100, 101, 102, 103, 104, 105, 106, 107, 108, 109, 110, 111, 112, 113, 114, 115, 116, 117, 118, 119] (by decide +kernel) (by decide +kernel)) (goodIn_sub (fun _ h => List.mem_cons_of_mem _ (List.mem_append_right _ h)) (by decide +kernel))
set_option maxRecDepth 20000 in
theorem gL_count_X11_count : GoodIn wsL_count (wsV RL 15 RX11 yX11_count wsX11_count) := goodIn_app (goodIn_of _ (by decide +kernel)) ggL_count_X11_count
theorem dL_count_0 : decode cL_count 0 = .ok (.aload_n 2, 1) := by decide +kernel
theorem dL_count_1 : decode cL_count 1 = .ok (.iconst 0, 1) := by decide +kernel
theorem dL_count_2 : decode cL_count 2 = .ok (.aload_n 0, 1) := by decide +kernel
theorem dL_count_3 : decode cL_count 3 = .ok (.iload_n 1, 1) := by decide +kernel
theorem dL_count_4 : decode cL_count 4 = .ok (.invokevirtual 15, 3) := by decide +kernel
theorem dL_count_7 : decode cL_count 7 = .ok (.i2l, 1) := by decide +kernel
theorem dL_count_8 : decode cL_count 8 = .ok (.lastore, 1) := by decide +kernel
theorem dL_count_9 : decode cL_count 9 = .ok (.goto 6, 3) := by decide +kernel
theorem dL_count_12 : decode cL_count 12 = .ok (.astore_n 3, 1) := by decide +kernel
theorem dL_count_13 : decode cL_count 13 = .ok (.iconst 1, 1) := by decide +kernel
theorem dL_count_14 : decode cL_count 14 = .ok (.ireturn, 1) := by decide +kernel
theorem dL_count_15 : decode cL_count 15 = .ok (.iconst 0, 1) := by decide +kernel
theorem dL_count_16 : decode cL_count 16 = .ok (.ireturn, 1) := by decide +kernel
set_option maxRecDepth 20000 in
theorem ggL_gargoyle_X11_gargoyle : GoodIn wsL_gargoyle wsX11_gargoyle := goodIn_ca (goodIn_r _ [6, 7, 8, 9, 10, 11, 12, 13, 14, 15, 16, 5, 17, 18, 19, 20, 21, 22, 23, 24, 25, 26, 27, 28, 29, 30, 31, 32, 33, 34, 35, 36, 37, 38, 39, 40, 41, 42, 43, 44, 45, 46, 47, 48, 49, 50, 51, 52, 53, 54, 55, 56] (by decide +kernel) (by decide +kernel)) (goodIn_sub (fun _ h => List.mem_cons_of_mem _ (List.mem_append_right _ h)) (by decide +kernel))
set_option maxRecDepth 20000 in
theorem gL_gargoyle_X11_gargoyle : GoodIn wsL_gargoyle (wsV RL 20 RX11 yX11_gargoyle wsX11_gargoyle) := goodIn_app (goodIn_of _ (by decide +kernel)) ggL_gargoyle_X11_gargoyle
theorem dL_gargoyle_0 : decode cL_gargoyle 0 = .ok (.aload_n 3, 1) := by decide +kernel
theorem dL_gargoyle_1 : decode cL_gargoyle 1 = .ok (.iconst 0, 1) := by decide +kernel
theorem dL_gargoyle_2 : decode cL_gargoyle 2 = .ok (.aload_n 0, 1) := by decide +kernel
theorem dL_gargoyle_3 : decode cL_gargoyle 3 = .ok (.iload_n 1, 1) := by decide +kernel
theorem dL_gargoyle_4 : decode cL_gargoyle 4 = .ok (.iload_n 2, 1) := by decide +kernel
theorem dL_gargoyle_5 : decode cL_gargoyle 5 = .ok (.invokevirtual 20, 3) := by decide +kernel
theorem dL_gargoyle_8 : decode cL_gargoyle 8 = .ok (.i2l, 1) := by decide +kernel
theorem dL_gargoyle_9 : decode cL_gargoyle 9 = .ok (.lastore, 1) := by decide +kernel
theorem dL_gargoyle_10 : decode cL_gargoyle 10 = .ok (.goto 7, 3) := by decide +kernel
theorem dL_gargoyle_13 : decode cL_gargoyle 13 = .ok (.astore 4, 2) := by decide +kernel
theorem dL_gargoyle_15 : decode cL_gargoyle 15 = .ok (.iconst 1, 1) := by decide +kernel
theorem dL_gargoyle_16 : decode cL_gargoyle 16 = .ok (.ireturn, 1) := by decide +kernel
theorem dL_gargoyle_17 : decode cL_gargoyle 17 = .ok (.iconst 0, 1) := by decide +kernel
theorem dL_gargoyle_18 : decode cL_gargoyle 18 = .ok (.ireturn, 1) := by decide +kernel
set_option maxRecDepth 20000 in
theorem ggL_person_X11_person : GoodIn wsL_person wsX11_person := goodIn_ca (goodIn_r _ [6, 7, 8, 9, 10, 11, 12, 13, 14, 15, 16, 17, 18, 19, 20, 5, 21, 22, 23, 24, 25, 26, 27, 28, 29, 30, 31, 32, 33, 34, 35, 36, 37, 38, 39, 40, 41, 42, 43, 44, 45, 46, 47, 48, 49, 50, 51, 52, 53, 54, 55, 56, 57, 58, 59, 60] (by decide +kernel) (by decide +kernel)) (goodIn_sub (fun _ h => List.mem_cons_of_mem _ (List.mem_append_right _ h)) (by decide +kernel))
set_option maxRecDepth 20000 in
theorem gL_person_X11_person : GoodIn wsL_person (wsV RL 24 RX11 yX11_person wsX11_person) := goodIn_app (goodIn_of _ (by decide +kernel)) ggL_person_X11_person
theorem dL_person_0 : decode cL_person 0 = .ok (.aload_n 3, 1) := by decide +kernel
theorem dL_person_1 : decode cL_person 1 = .ok (.iconst 0, 1) := by decide +kernel
theorem dL_person_2 : decode cL_person 2 = .ok (.aload_n 0, 1) := by decide +kernel
theorem dL_person_3 : decode cL_person 3 = .ok (.iload_n 1, 1) := by decide +kernel
theorem dL_person_4 : decode cL_person 4 = .ok (.iload_n 2, 1) := by decide +kernel
theorem dL_person_5 : decode cL_person 5 = .ok (.invokevirtual 24, 3) := by decide +kernel
theorem dL_person_8 : decode cL_person 8 = .ok (.i2l, 1) := by decide +kernel
theorem dL_person_9 : decode cL_person 9 = .ok (.lastore, 1) := by decide +kernel
theorem dL_person_10 : decode cL_person 10 = .ok (.goto 7, 3) := by decide +kernel
theorem dL_person_13 : decode cL_person 13 = .ok (.astore 4, 2) := by decide +kernel
theorem dL_person_15 : decode cL_person 15 = .ok (.iconst 1, 1) := by decide +kernel
theorem dL_person_16 : decode cL_person 16 = .ok (.ireturn, 1) := by decide +kernel
theorem dL_person_17 : decode cL_person 17 = .ok (.iconst 0, 1) := by decide +kernel
theorem dL_person_18 : decode cL_person 18 = .ok (.ireturn, 1) := by decide +kernel
set_option maxRecDepth 20000 in
theorem ggL_cut_X11_cut : GoodIn wsL_cut wsX11_cut := goodIn_ca (goodIn_r _ [6, 7, 8, 9, 10, 11, 12, 13, 5, 14, 15, 16, 17, 18, 19, 20, 21, 22, 23, 24, 25, 26, 27, 28, 29, 30, 31, 32, 33, 34, 35, 36, 37, 38, 39, 40, 41, 42, 43, 44, 45, 46, 47, 48, 49, 50, 51, 52, 53, 54, 55, 56, 57, 58, 59, 60, 61, 62, 63, 64, 65, 66, 67, 68, 69, 70, 71, 72, 73, 74, 75, 76, 77, 78, 79, 80, 81, 82] (by decide +kernel) (by decide +kernel)) (goodIn_sub (fun _ h => List.mem_cons_of_mem _ (List.mem_append_right _ h)) (by decide +kernel))
set_option maxRecDepth 20000 in
theorem gL_cut_X11_cut : GoodIn wsL_cut (wsV RL 27 RX11 yX11_cut wsX11_cut) := goodIn_app (goodIn_of _ (by decide +kernel)) ggL_cut_X11_cut
theorem dL_cut_0 : decode cL_cut 0 = .ok (.aload 4, 2) := by decide +kernel
theorem dL_cut_2 : decode cL_cut 2 = .ok (.iconst 0, 1) := by decide +kernel
theorem dL_cut_3 : decode cL_cut 3 = .ok (.aload_n 0, 1) := by decide +kernel
theorem dL_cut_4 : decode cL_cut 4 = .ok (.iload_n 1, 1) := by decide +kernel
theorem dL_cut_5 : decode cL_cut 5 = .ok (.iload_n 2, 1) := by decide +kernel
theorem dL_cut_6 : decode cL_cut 6 = .ok (.iload_n 3, 1) := by decide +kernel
theorem dL_cut_7 : decode cL_cut 7 = .ok (.invokevirtual 27, 3) := by decide +kernel
theorem dL_cut_10 : decode cL_cut 10 = .ok (.i2l, 1) := by decide +kernel
theorem dL_cut_11 : decode cL_cut 11 = .ok (.lastore, 1) := by decide +kernel
theorem dL_cut_12 : decode cL_cut 12 = .ok (.goto 7, 3) := by decide +kernel
theorem dL_cut_15 : decode cL_cut 15 = .ok (.astore 5, 2) := by decide +kernel
theorem dL_cut_17 : decode cL_cut 17 = .ok (.iconst 1, 1) := by decide +kernel
theorem dL_cut_18 : decode cL_cut 18 = .ok (.ireturn, 1) := by decide +kernel
theorem dL_cut_19 : decode cL_cut 19 = .ok (.iconst 0, 1) := by decide +kernel
theorem dL_cut_20 : decode cL_cut 20 = .ok (.ireturn, 1) := by decide +kernel
set_option maxRecDepth 20000 in
theorem ggL_call_X11_call : GoodIn wsL_call wsX11_call := goodIn_ca (goodIn_r _ [6, 7, 8, 9, 10, 11, 12, 13, 5, 14, 15, 16, 17, 18, 19, 20, 21, 22, 23, 24, 25, 26, 27, 28, 29, 30, 31, 32, 33, 34, 35, 36, 37, 38, 39, 40, 41, 42, 43, 44, 45, 46, 47, 48, 49, 50, 51, 52, 53, 54, 55, 56, 57, 58, 59, 60, 61, 62, 63, 64, 65, 66, 67, 68, 69, 70, 71, 72, 73, 74] (by decide +kernel) (by decide +kernel)) (goodIn_sub (fun _ h => List.mem_cons_of_mem _ (List.mem_append_right _ h)) (by decide +kernel))
set_option maxRecDepth 20000 in
theorem gL_call_X11_call : GoodIn wsL_call (wsV RL 31 RX11 yX11_call wsX11_call) := goodIn_app (goodIn_of _ (by decide +kernel)) ggL_call_X11_call
theorem dL_call_0 : decode cL_call 0 = .ok (.aload_n 2, 1) := by decide +kernel
theorem dL_call_1 : decode cL_call 1 = .ok (.iconst 0, 1) := by decide +kernel
theorem dL_call_2 : decode cL_call 2 = .ok (.aload_n 0, 1) := by decide +kernel
theorem dL_call_3 : decode cL_call 3 = .ok (.iload_n 1, 1) := by decide +kernel
theorem dL_call_4 : decode cL_call 4 = .ok (.invokevirtual 31, 3) := by decide +kernel
theorem dL_call_7 : decode cL_call 7 = .ok (.i2l, 1) := by decide +kernel
theorem dL_call_8 : decode cL_call 8 = .ok (.lastore, 1) := by decide +kernel
theorem dL_call_9 : decode cL_call 9 = .ok (.goto 6, 3) := by decide +kernel
theorem dL_call_12 : decode cL_call 12 = .ok (.astore_n 3, 1) := by decide +kernel
theorem dL_call_13 : decode cL_call 13 = .ok (.iconst 1, 1) := by decide +kernel
theorem dL_call_14 : decode cL_call 14 = .ok (.ireturn, 1) := by decide +kernel
theorem dL_call_15 : decode cL_call 15 = .ok (.iconst 0, 1) := by decide +kernel
theorem dL_call_16 : decode cL_call 16 = .ok (.ireturn, 1) := by decide +kernel
set_option maxRecDepth 20000 in
theorem ggL_lift_X11_lift : GoodIn wsL_lift wsX11_lift := goodIn_ca (goodIn_r _ [6, 7, 8, 9, 10, 11, 12, 13, 5, 14, 15, 16, 17, 18, 19, 20, 21, 22, 23, 24, 25, 26, 27, 28, 29, 30, 31, 32, 33, 34, 35, 36, 37, 38, 39, 40, 41, 42, 43, 44, 45, 46, 47, 48, 49, 50, 51, 52, 53, 54, 55, 56, 57, 58, 59, 60, 61, 62, 63, 64, 65, 66, 67, 68, 69, 70, 71, 72, 73, 74, 75, 76, 77, 78, 79, 80, 81, 82, 83, 84] (by decide +kernel) (by decide +kernel)) (goodIn_sub (fun _ h => List.mem_cons_of_mem _ (List.mem_append_right _ h)) (by decide +kernel))
set_option maxRecDepth 20000 in
theorem gL_lift_X11_lift : GoodIn wsL_lift (wsV RL 34 RX11 yX11_lift wsX11_lift) := goodIn_app (goodIn_of _ (by decide +kernel)) ggL_lift_X11_lift
theorem dL_lift_0 : decode cL_lift 0 = .ok (.aload_n 3, 1) := by decide +kernel
theorem dL_lift_1 : decode cL_lift 1 = .ok (.iconst 0, 1) := by decide +kernel
theorem dL_lift_2 : decode cL_lift 2 = .ok (.aload_n 0, 1) := by decide +kernel
theorem dL_lift_3 : decode cL_lift 3 = .ok (.iload_n 1, 1) := by decide +kernel
theorem dL_lift_4 : decode cL_lift 4 = .ok (.iload_n 2, 1) := by decide +kernel
theorem dL_lift_5 : decode cL_lift 5 = .ok (.invokevirtual 34, 3) := by decide +kernel
theorem dL_lift_8 : decode cL_lift 8 = .ok (.ifCond .eq 7, 3) := by decide +kernel
theorem dL_lift_11 : decode cL_lift 11 = .ok (.lconst 1, 1) := by decide +kernel
theorem dL_lift_12 : decode cL_lift 12 = .ok (.goto 4, 3) := by decide +kernel
theorem dL_lift_15 : decode cL_lift 15 = .ok (.lconst 0, 1) := by decide +kernel
theorem dL_lift_16 : decode cL_lift 16 = .ok (.lastore, 1) := by decide +kernel
theorem dL_lift_17 : decode cL_lift 17 = .ok (.goto 7, 3) := by decide +kernel
theorem dL_lift_20 : decode cL_lift 20 = .ok (.astore 4, 2) := by decide +kernel
theorem dL_lift_22 : decode cL_lift 22 = .ok (.iconst 1, 1) := by decide +kernel
theorem dL_lift_23 : decode cL_lift 23 = .ok (.ireturn, 1) := by decide +kernel
theorem dL_lift_24 : decode cL_lift 24 = .ok (.iconst 0, 1) := by decide +kernel
theorem dL_lift_25 : decode cL_lift 25 = .ok (.ireturn, 1) := by decide +kernel
set_option maxRecDepth 20000 in
theorem ggL_leave_X11_leave : GoodIn wsL_leave wsX11_leave := goodIn_ca (goodIn_r _ [6, 7, 8, 9, 10, 11, 12, 13, 5, 14, 15, 16, 17, 18, 19, 20, 21, 22, 23, 24, 25, 26, 27, 28, 29, 30, 31, 32, 33, 34, 35, 36, 37, 38, 39, 40, 41, 42, 43, 44, 45, 46, 47, 48, 49, 50, 51, 52, 53, 54, 55, 56, 57, 58, 59, 60, 61, 62, 63, 64, 65, 66, 67, 68, 69, 70, 71, 72, 73, 74, 75, 76, 77, 78, 79] (by decide +kernel) (by decide +kernel)) (goodIn_sub (fun _ h => List.mem_cons_of_mem _ (List.mem_append_right _ h)) (by decide +kernel))
set_option maxRecDepth 20000 in
theorem gL_leave_X11_leave : GoodIn wsL_leave (wsV RL 38 RX11 yX11_leave wsX11_leave) := goodIn_app (goodIn_of _ (by decide +kernel)) ggL_leave_X11_leave
theorem dL_leave_0 : decode cL_leave 0 = .ok (.aload_n 3, 1) := by decide +kernel
theorem dL_leave_1 : decode cL_leave 1 = .ok (.iconst 0, 1) := by decide +kernel
theorem dL_leave_2 : decode cL_leave 2 = .ok (.aload_n 0, 1) := by decide +kernel
theorem dL_leave_3 : decode cL_leave 3 = .ok (.iload_n 1, 1) := by decide +kernel
theorem dL_leave_4 : decode cL_leave 4 = .ok (.iload_n 2, 1) := by decide +kernel
theorem dL_leave_5 : decode cL_leave 5 = .ok (.invokevirtual 38, 3) := by decide +kernel
theorem dL_leave_8 : decode cL_leave 8 = .ok (.i2l, 1) := by decide +kernel
theorem dL_leave_9 : decode cL_leave 9 = .ok (.lastore, 1) := by decide +kernel
theorem dL_leave_10 : decode cL_leave 10 = .ok (.goto 7, 3) := by decide +kernel
theorem dL_leave_13 : decode cL_leave 13 = .ok (.astore 4, 2) := by decide +kernel
theorem dL_leave_15 : decode cL_leave 15 = .ok (.iconst 1, 1) := by decide +kernel
theorem dL_leave_16 : decode cL_leave 16 = .ok (.ireturn, 1) := by decide +kernel
theorem dL_leave_17 : decode cL_leave 17 = .ok (.iconst 0, 1) := by decide +kernel
theorem dL_leave_18 : decode cL_leave 18 = .ok (.ireturn, 1) := by decide +kernel
set_option maxRecDepth 20000 in
theorem ggL_then_X11_then : GoodIn wsL_then wsX11_then := goodIn_ca (goodIn_ca (goodIn_r _ [7, 8, 9, 10, 11, 12, 13, 6, 14, 15, 16, 17, 18, 19, 20, 21, 22, 23, 24, 25, 26, 27, 28, 29, 30, 31, 32, 33, 34, 35, 36, 37, 38, 39, 40, 41, 42, 43, 44, 45, 46, 47, 48, 49, 50, 51, 52, 53, 54, 55, 56, 57, 58, 59, 60, 61, 62, 63, 64, 65, 66, 67, 68, 69, 70, 71, 72, 73, 74, 75, 76, 77, 78, 79, 80, 81, 82, 83, 84, 85, 86, 87, 88, 89, 90, 91, 92, 93, 94, 95, 96, 97, 98, 99, 100, 101, 102, 103, 104, 105, 106, 107, 108, 109, 110, 111, 112, 113, 114, 115, 116, 117, 118, 119, 120, 121, 122, 123, 124, 125, 126, 127, 128, 129, 130, 131, 132, 133, 134, 135, 136, 137, 138, 139, 140, 141, 142, 143, 144, 145, 146, 147, 148, 149, 150, 151, 152, 153, 154, 155, 156, 157, 158, 159, 160, 161, 162, 163, 164, 165, 166, 167, 168, 169, 170, 171, 172, 173, 174, 175, 176, 177, 178, 179, 180, 181, 182, 183, 184, 185, 186, 187, 188, 189, 190, 191, 192, 193, 194, 195, 196, 197, 198, 199, 200, 201, 202, 203, 204, 205, 206, 207, 208, 209, 210] (by decide +kernel) (by decide +kernel)) (goodIn_sub (fun _ h => List.mem_cons_of_mem _ (List.mem_append_left _ (List.mem_append_right _ h))) (by decide +kernel))) (goodIn_sub (fun _ h => List.mem_cons_of_mem _ (List.mem_append_right _ h)) (by decide +kernel))
set_option maxRecDepth 20000 in
theorem gL_then_X11_then : GoodIn wsL_then (wsV RL 41 RX11 yX11_then wsX11_then) := goodIn_app (goodIn_of _ (by decide +kernel)) ggL_then_X11_then
theorem dL_then_0 : decode cL_then 0 = .ok (.aload 4, 2) := by decide +kernel
theorem dL_then_2 : decode cL_then 2 = .ok (.iconst 0, 1) := by decide +kernel
theorem dL_then_3 : decode cL_then 3 = .ok (.aload_n 0, 1) := by decide +kernel
theorem dL_then_4 : decode cL_then 4 = .ok (.iload_n 1, 1) := by decide +kernel
theorem dL_then_5 : decode cL_then 5 = .ok (.iload_n 2, 1) := by decide +kernel
theorem dL_then_6 : decode cL_then 6 = .ok (.iload_n 3, 1) := by decide +kernel
theorem dL_then_7 : decode cL_then 7 = .ok (.invokevirtual 41, 3) := by decide +kernel
theorem dL_then_10 : decode cL_then 10 = .ok (.i2l, 1) := by decide +kernel
theorem dL_then_11 : decode cL_then 11 = .ok (.lastore, 1) := by decide +kernel
theorem dL_then_12 : decode cL_then 12 = .ok (.goto 11, 3) := by decide +kernel
theorem dL_then_15 : decode cL_then 15 = .ok (.astore 5, 2) := by decide +kernel
theorem dL_then_17 : decode cL_then 17 = .ok (.iconst 1, 1) := by decide +kernel
theorem dL_then_18 : decode cL_then 18 = .ok (.ireturn, 1) := by decide +kernel
theorem dL_then_19 : decode cL_then 19 = .ok (.astore 5, 2) := by decide +kernel
theorem dL_then_21 : decode cL_then 21 = .ok (.iconst 2, 1) := by decide +kernel
theorem dL_then_22 : decode cL_then 22 = .ok (.ireturn, 1) := by decide +kernel
theorem dL_then_23 : decode cL_then 23 = .ok (.iconst 0, 1) := by decide +kernel
theorem dL_then_24 : decode cL_then 24 = .ok (.ireturn, 1) := by decide +kernel
set_option maxRecDepth 20000 in
theorem ggL_where_X11_where : GoodIn wsL_where wsX11_where := goodIn_ca (goodIn_ca (goodIn_r _ [7, 8, 9, 10, 11, 12, 13, 14, 6, 15, 16, 17, 18, 19, 20, 21, 22, 23, 24, 25, 26, 27, 28, 29, 30, 31, 32, 33, 34, 35, 36, 37, 38, 39, 40, 41, 42, 43, 44, 45, 46, 47, 48, 49, 50, 51, 52, 53, 54, 55, 56, 57, 58, 59, 60, 61, 62, 63, 64, 65, 66, 67, 68, 69, 70, 71, 72, 73, 74, 75, 76, 77, 78, 79, 80, 81, 82, 83, 84, 85, 86, 87, 88, 89, 90, 91, 92, 93, 94, 95, 96, 97, 98, 99, 100, 101, 102, 103, 104, 105, 106, 107, 108, 109, 110, 111, 112, 113, 114, 115, 116, 117, 118, 119, 120, 121, 122, 123, 124, 125, 126, 127, 128, 129, 130, 131, 132, 133, 134, 135, 136, 137, 138, 139, 140, 141, 142, 143, 144, 145, 146, 147, 148, 149, 150, 151, 152, 153, 154, 155, 156, 157, 158, 159, 160, 161, 162, 163, 164, 165, 166, 167, 168, 169, 170, 171, 172, 173, 174, 175, 176, 177, 178, 179, 180, 181, 182, 183, 184, 185, 186, 187, 188, 189, 190, 191, 192, 193, 194, 195, 196, 197, 198, 199, 200, 201, 202, 203, 204, 205, 206, 207, 208, 209, 210] (by decide +kernel) (by decide +kernel)) (goodIn_sub (fun _ h => List.mem_cons_of_mem _ (List.mem_append_left _ (List.mem_append_right _ h))) (by decide +kernel))) (goodIn_sub (fun _ h => List.mem_cons_of_mem _ (List.mem_append_right _ h)) (by decide +kernel))
set_option maxRecDepth 20000 in
theorem gL_where_X11_where : GoodIn wsL_where (wsV RL 44 RX11 yX11_where wsX11_where) := goodIn_app (goodIn_of _ (by decide +kernel)) ggL_where_X11_where
theorem dL_where_0 : decode cL_where 0 = .ok (.aload 4, 2) := by decide +kernel
theorem dL_where_2 : decode cL_where 2 = .ok (.iconst 0, 1) := by decide +kernel
theorem dL_where_3 : decode cL_where 3 = .ok (.aload_n 0, 1) := by decide +kernel
theorem dL_where_4 : decode cL_where 4 = .ok (.iload_n 1, 1) := by decide +kernel
theorem dL_where_5 : decode cL_where 5 = .ok (.iload_n 2, 1) := by decide +kernel
theorem dL_where_6 : decode cL_where 6 = .ok (.iload_n 3, 1) := by decide +kernel
theorem dL_where_7 : decode cL_where 7 = .ok (.invokevirtual 44, 3) := by decide +kernel
theorem dL_where_10 : decode cL_where 10 = .ok (.i2l, 1) := by decide +kernel
theorem dL_where_11 : decode cL_where 11 = .ok (.lastore, 1) := by decide +kernel
theorem dL_where_12 : decode cL_where 12 = .ok (.goto 11, 3) := by decide +kernel
theorem dL_where_15 : decode cL_where 15 = .ok (.astore 5, 2) := by decide +kernel
theorem dL_where_17 : decode cL_where 17 = .ok (.iconst 1, 1) := by decide +kernel
theorem dL_where_18 : decode cL_where 18 = .ok (.ireturn, 1) := by decide +kernel
theorem dL_where_19 : decode cL_where 19 = .ok (.astore 5, 2) := by decide +kernel
theorem dL_where_21 : decode cL_where 21 = .ok (.iconst 2, 1) := by decide +kernel
theorem dL_where_22 : decode cL_where 22 = .ok (.ireturn, 1) := by decide +kernel
theorem dL_where_23 : decode cL_where 23 = .ok (.iconst 0, 1) := by decide +kernel
theorem dL_where_24 : decode cL_where 24 = .ok (.ireturn, 1) := by decide +kernel
set_option maxRecDepth 20000 in
theorem ggL_loaf_X11_loaf : GoodIn wsL_loaf wsX11_loaf := goodIn_ca (goodIn_r _ [6, 7, 8, 9, 10, 11, 12, 5, 13, 14, 15, 16, 17, 18, 19, 20, 21, 22, 23, 24, 25, 26, 27, 28, 29, 30, 31, 32, 33, 34, 35, 36, 37, 38, 39, 40, 41, 42, 43, 44, 45, 46, 47, 48, 49, 50, 51, 52, 53, 54, 55, 56, 57, 58, 59, 60, 61, 62, 63, 64, 65, 66, 67, 68, 69, 70, 71, 72, 73, 74, 75, 76, 77, 78, 79, 80, 81, 82, 83, 84, 85, 86, 87, 88, 89, 90, 91, 92, 93, 94, 95, 96, 97, 98, 99, 100, 101, 102, 103, 104, 105, 106, 107, 108, 109, 110, 111, 112, 113, 114, 115, 116, 117, 118, 119, 120, 121, 122, 123, 124, 125, 126, 127, 128, 129, 130, 131, 132, 133, 134, 135, 136, 137, 138, 139, 140, 141, 142, 143, 144, 145, 146, 147, 148, 149, 150, 151, 152, 153, 154, 155, 156, 157, 158, 159, 160, 161, 162, 163, 164, 165, 166, 167, 168, 169, 170, 171, 172, 173, 174, 175, 176, 177, 178, 179, 180, 181, 182, 183, 184, 185, 186, 187, 188, 189] (by decide +kernel) (by decide +kernel)) (goodIn_sub (fun _ h => List.mem_cons_of_mem _ (List.mem_append_right _ h)) (by decide +kernel))
set_option maxRecDepth 20000 in
theorem gL_loaf_X11_loaf : GoodIn wsL_loaf (wsV RL 47 RX11 yX11_loaf wsX11_loaf) := goodIn_app (goodIn_of _ (by decide +kernel)) ggL_loaf_X11_loaf
theorem dL_loaf_0 : decode cL_loaf 0 = .ok (.aload_n 2, 1) := by decide +kernel
theorem dL_loaf_1 : decode cL_loaf 1 = .ok (.iconst 0, 1) := by decide +kernel
theorem dL_loaf_2 : decode cL_loaf 2 = .ok (.aload_n 0, 1) := by decide +kernel
theorem dL_loaf_3 : decode cL_loaf 3 = .ok (.iload_n 1, 1) := by decide +kernel
theorem dL_loaf_4 : decode cL_loaf 4 = .ok (.invokevirtual 47, 3) := by decide +kernel
theorem dL_loaf_7 : decode cL_loaf 7 = .ok (.i2l, 1) := by decide +kernel
theorem dL_loaf_8 : decode cL_loaf 8 = .ok (.lastore, 1) := by decide +kernel
theorem dL_loaf_9 : decode cL_loaf 9 = .ok (.goto 6, 3) := by decide +kernel
theorem dL_loaf_12 : decode cL_loaf 12 = .ok (.astore_n 3, 1) := by decide +kernel
theorem dL_loaf_13 : decode cL_loaf 13 = .ok (.iconst 1, 1) := by decide +kernel
theorem dL_loaf_14 : decode cL_loaf 14 = .ok (.ireturn, 1) := by decide +kernel
theorem dL_loaf_15 : decode cL_loaf 15 = .ok (.iconst 0, 1) := by decide +kernel
theorem dL_loaf_16 : decode cL_loaf 16 = .ok (.ireturn, 1) := by decide +kernel
set_option maxRecDepth 20000 in
theorem ggL_later_X11_later : GoodIn wsL_later wsX11_later := goodIn_ca (goodIn_ca (goodIn_r _ [7, 8, 9, 6, 10, 11, 12, 13, 14, 15, 16, 17, 18, 19, 20, 21, 22, 23, 24, 25, 26, 27, 28, 29, 30, 31, 32, 33, 34, 35, 36, 37, 38, 39, 40, 41, 42, 43, 44, 45, 46, 47, 48, 49, 50, 51, 52, 53, 54, 55, 56, 57, 58, 59, 60, 61, 62, 63, 64, 65, 66, 67, 68, 69, 70, 71, 72, 73, 74, 75, 76, 77, 78, 79, 80, 81, 82, 83, 84, 85, 86, 87, 88, 89, 90, 91, 92, 93, 94, 95, 96, 97, 98, 99, 100, 101, 102, 103, 104, 105, 106, 107, 108, 109, 110, 111, 112, 113, 114, 115, 116, 117, 118, 119, 120, 121, 122, 123, 124, 125, 126, 127, 128, 129, 130, 131, 132, 133, 134, 135, 136, 137, 138, 139, 140, 141, 142, 143, 144, 145, 146, 147, 148, 149, 150, 151, 152, 153, 154, 155, 156, 157, 158, 159, 160, 161, 162, 163, 164, 165, 166, 167, 168, 169, 170, 171, 172, 173, 174, 175, 176, 177, 178, 179, 180, 181, 182, 183, 184, 185, 186, 187, 188, 189, 190, 191, 192, 193, 194, 195, 196, 197, 198, 199, 200, 201, 202, 203, 204, 205, 206, 207, 208, 209, 210] (by decide +kernel) (by decide +kernel)) (goodIn_sub (fun _ h => List.mem_cons_of_mem _ (List.mem_append_left _ (List.mem_append_right _ h))) (by decide +kernel))) (goodIn_sub (fun _ h => List.mem_cons_of_mem _ (List.mem_append_right _ h)) (by decide +kernel))
set_option maxRecDepth 20000 in
theorem gL_later_X11_later : GoodIn wsL_later (wsV RL 50 RX11 yX11_later wsX11_later) := goodIn_app (goodIn_of _ (by decide +kernel)) ggL_later_X11_later
theorem dL_later_0 : decode cL_later 0 = .ok (.aload_n 3, 1) := by decide +kernel
theorem dL_later_1 : decode cL_later 1 = .ok (.iconst 0, 1) := by decide +kernel
theorem dL_later_2 : decode cL_later 2 = .ok (.aload_n 0, 1) := by decide +kernel
theorem dL_later_3 : decode cL_later 3 = .ok (.iload_n 1, 1) := by decide +kernel
theorem dL_later_4 : decode cL_later 4 = .ok (.iload_n 2, 1) := by decide +kernel
theorem dL_later_5 : decode cL_later 5 = .ok (.invokevirtual 50, 3) := by decide +kernel
theorem dL_later_8 : decode cL_later 8 = .ok (.i2l, 1) := by decide +kernel
theorem dL_later_9 : decode cL_later 9 = .ok (.lastore, 1) := by decide +kernel
theorem dL_later_10 : decode cL_later 10 = .ok (.goto 11, 3) := by decide +kernel
theorem dL_later_13 : decode cL_later 13 = .ok (.astore 4, 2) := by decide +kernel
theorem dL_later_15 : decode cL_later 15 = .ok (.iconst 1, 1) := by decide +kernel
theorem dL_later_16 : decode cL_later 16 = .ok (.ireturn, 1) := by decide +kernel
theorem dL_later_17 : decode cL_later 17 = .ok (.astore 4, 2) := by decide +kernel
theorem dL_later_19 : decode cL_later 19 = .ok (.iconst 2, 1) := by decide +kernel
theorem dL_later_20 : decode cL_later 20 = .ok (.ireturn, 1) := by decide +kernel
theorem dL_later_21 : decode cL_later 21 = .ok (.iconst 0, 1) := by decide +kernel
theorem dL_later_22 : decode cL_later 22 = .ok (.ireturn, 1) := by decide +kernel
set_option maxRecDepth 20000 in
theorem ggL_sat_X11_sat : GoodIn wsL_sat wsX11_sat := goodIn_ca (goodIn_ca (goodIn_r _ [7, 8, 9, 10, 11, 12, 13, 14, 6, 15, 16, 17, 18, 19, 20, 21, 22, 23, 24, 25, 26, 27, 28, 29, 30, 31, 32, 33, 34, 35, 36, 37, 38, 39, 40, 41, 42, 43, 44, 45, 46, 47, 48, 49, 50, 51, 52, 53, 54, 55, 56, 57, 58, 59, 60, 61, 62, 63, 64, 65, 66, 67, 68, 69, 70, 71, 72, 73, 74, 75, 76, 77, 78, 79, 80, 81, 82, 83, 84, 85, 86, 87, 88, 89, 90, 91, 92, 93, 94, 95, 96, 97, 98, 99, 100, 101, 102, 103, 104, 105, 106, 107, 108, 109, 110, 111, 112, 113, 114, 115, 116, 117, 118, 119, 120, 121, 122, 123, 124, 125, 126, 127, 128, 129, 130, 131, 132, 133, 134, 135, 136, 137, 138, 139, 140, 141, 142, 143, 144, 145, 146, 147, 148, 149, 150, 151, 152, 153, 154, 155, 156, 157, 158, 159, 160, 161, 162, 163, 164, 165, 166, 167, 168, 169, 170, 171, 172, 173, 174, 175, 176, 177, 178, 179, 180, 181, 182, 183, 184, 185, 186, 187, 188, 189, 190, 191, 192, 193, 194, 195, 196, 197, 198, 199, 200] (by decide +kernel) (by decide +kernel)) (goodIn_sub (fun _ h => List.mem_cons_of_mem _ (List.mem_append_left _ (List.mem_append_right _ h))) (by decide +kernel))) (goodIn_sub (fun _ h => List.mem_cons_of_mem _ (List.mem_append_right _ h)) (by decide +kernel))
set_option maxRecDepth 20000 in
theorem gL_sat_X11_sat : GoodIn wsL_sat (wsV RL 53 RX11 yX11_sat wsX11_sat) := goodIn_app (goodIn_of _ (by decide +kernel)) ggL_sat_X11_sat
theorem dL_sat_0 : decode cL_sat 0 = .ok (.aload_n 3, 1) := by decide +kernel
theorem dL_sat_1 : decode cL_sat 1 = .ok (.iconst 0, 1) := by decide +kernel
theorem dL_sat_2 : decode cL_sat 2 = .ok (.aload_n 0, 1) := by decide +kernel
theorem dL_sat_3 : decode cL_sat 3 = .ok (.iload_n 1, 1) := by decide +kernel
theorem dL_sat_4 : decode cL_sat 4 = .ok (.iload_n 2, 1) := by decide +kernel
theorem dL_sat_5 : decode cL_sat 5 = .ok (.invokevirtual 53, 3) := by decide +kernel
theorem dL_sat_8 : decode cL_sat 8 = .ok (.i2l, 1) := by decide +kernel
theorem dL_sat_9 : decode cL_sat 9 = .ok (.lastore, 1) := by decide +kernel
theorem dL_sat_10 : decode cL_sat 10 = .ok (.goto 11, 3) := by decide +kernel
theorem dL_sat_13 : decode cL_sat 13 = .ok (.astore 4, 2) := by decide +kernel
theorem dL_sat_15 : decode cL_sat 15 = .ok (.iconst 1, 1) := by decide +kernel
theorem dL_sat_16 : decode cL_sat 16 = .ok (.ireturn, 1) := by decide +kernel
theorem dL_sat_17 : decode cL_sat 17 = .ok (.astore 4, 2) := by decide +kernel
theorem dL_sat_19 : decode cL_sat 19 = .ok (.iconst 2, 1) := by decide +kernel
theorem dL_sat_20 : decode cL_sat 20 = .ok (.ireturn, 1) := by decide +kernel
theorem dL_sat_21 : decode cL_sat 21 = .ok (.iconst 0, 1) := by decide +kernel
theorem dL_sat_22 : decode cL_sat 22 = .ok (.ireturn, 1) := by decide +kernel
set_option maxRecDepth 20000 in
theorem ggL_fits_X11_fits : GoodIn wsL_fits wsX11_fits := goodIn_ca (goodIn_r _ [6, 7, 8, 9, 10, 11, 12, 13, 5, 14, 15, 16, 17, 18, 19, 20, 21, 22, 23, 24, 25, 26, 27, 28, 29, 30, 31, 32, 33, 34, 35, 36, 37, 38, 39, 40, 41, 42, 43, 44, 45, 46, 47, 48, 49, 50, 51, 52, 53, 54, 55, 56, 57, 58, 59, 60, 61, 62, 63, 64, 65, 66, 67, 68, 69, 70, 71, 72, 73, 74, 75, 76, 77, 78, 79, 80, 81, 82, 83, 84, 85, 86, 87, 88, 89, 90, 91, 92, 93, 94, 95, 96, 97, 98, 99, 100, 101, 102, 103, 104, 105, 106, 107, 108, 109, 110, 111, 112, 113, 114, 115, 116, 117, 118, 119, 120, 121, 122, 123, 124, 125, 126, 127, 128, 129, 130, 131, 132, 133, 134, 135, 136, 137, 138, 139, 140, 141, 142, 143, 144, 145, 146, 147, 148, 149, 150, 151, 152, 153, 154, 155, 156, 157, 158, 159, 160, 161, 162, 163, 164, 165, 166, 167, 168, 169, 170, 171, 172, 173, 174, 175, 176, 177, 178, 179, 180, 181, 182, 183, 184, 185, 186, 187, 188, 189, 190, 191, 192, 193, 194, 195, 196, 197] (by decide +kernel) (by decide +kernel)) (goodIn_sub (fun _ h => List.mem_cons_of_mem _ (List.mem_append_right _ h)) (by decide +kernel))
set_option maxRecDepth 20000 in
theorem gL_fits_X11_fits : GoodIn wsL_fits (wsV RL 56 RX11 yX11_fits wsX11_fits) := goodIn_app (goodIn_of _ (by decide +kernel)) ggL_fits_X11_fits
theorem dL_fits_0 : decode cL_fits 0 = .ok (.aload_n 3, 1) := by decide +kernel
theorem dL_fits_1 : decode cL_fits 1 = .ok (.iconst 0, 1) := by decide +kernel
theorem dL_fits_2 : decode cL_fits 2 = .ok (.aload_n 0, 1) := by decide +kernel
theorem dL_fits_3 : decode cL_fits 3 = .ok (.iload_n 1, 1) := by decide +kernel
theorem dL_fits_4 : decode cL_fits 4 = .ok (.iload_n 2, 1) := by decide +kernel
theorem dL_fits_5 : decode cL_fits 5 = .ok (.invokevirtual 56, 3) := by decide +kernel
theorem dL_fits_8 : decode cL_fits 8 = .ok (.i2l, 1) := by decide +kernel
theorem dL_fits_9 : decode cL_fits 9 = .ok (.lastore, 1) := by decide +kernel
theorem dL_fits_10 : decode cL_fits 10 = .ok (.goto 7, 3) := by decide +kernel
theorem dL_fits_13 : decode cL_fits 13 = .ok (.astore 4, 2) := by decide +kernel
theorem dL_fits_15 : decode cL_fits 15 = .ok (.iconst 1, 1) := by decide +kernel
theorem dL_fits_16 : decode cL_fits 16 = .ok (.ireturn, 1) := by decide +kernel
theorem dL_fits_17 : decode cL_fits 17 = .ok (.iconst 0, 1) := by decide +kernel
theorem dL_fits_18 : decode cL_fits 18 = .ok (.ireturn, 1) := by decide +kernel
set_option maxRecDepth 20000 in
theorem ggL_unlike_X11_unlike : GoodIn wsL_unlike wsX11_unlike := goodIn_ca (goodIn_r _ [6, 7, 8, 9, 10, 5, 11, 12, 13, 14, 15, 16, 17, 18, 19, 20, 21, 22, 23, 24, 25, 26, 27, 28, 29, 30, 31, 32, 33, 34, 35, 36, 37, 38, 39, 40, 41, 42, 43, 44, 45, 46, 47, 48, 49, 50, 51, 52, 53, 54, 55, 56, 57, 58, 59, 60, 61, 62, 63] (by decide +kernel) (by decide +kernel)) (goodIn_sub (fun _ h => List.mem_cons_of_mem _ (List.mem_append_right _ h)) (by decide +kernel))
set_option maxRecDepth 20000 in
theorem gL_unlike_X11_unlike : GoodIn wsL_unlike (wsV RL 59 RX11 yX11_unlike wsX11_unlike) := goodIn_app (goodIn_of _ (by decide +kernel)) ggL_unlike_X11_unlike
theorem dL_unlike_0 : decode cL_unlike 0 = .ok (.aload 4, 2) := by decide +kernel
theorem dL_unlike_2 : decode cL_unlike 2 = .ok (.iconst 0, 1) := by decide +kernel
theorem dL_unlike_3 : decode cL_unlike 3 = .ok (.aload_n 0, 1) := by decide +kernel
theorem dL_unlike_4 : decode cL_unlike 4 = .ok (.iload_n 1, 1) := by decide +kernel
theorem dL_unlike_5 : decode cL_unlike 5 = .ok (.iload_n 2, 1) := by decide +kernel
theorem dL_unlike_6 : decode cL_unlike 6 = .ok (.iload_n 3, 1) := by decide +kernel
theorem dL_unlike_7 : decode cL_unlike 7 = .ok (.invokevirtual 59, 3) := by decide +kernel
theorem dL_unlike_10 : decode cL_unlike 10 = .ok (.i2l, 1) := by decide +kernel
theorem dL_unlike_11 : decode cL_unlike 11 = .ok (.lastore, 1) := by decide +kernel
theorem dL_unlike_12 : decode cL_unlike 12 = .ok (.goto 7, 3) := by decide +kernel
theorem dL_unlike_15 : decode cL_unlike 15 = .ok (.astore 5, 2) := by decide +kernel
theorem dL_unlike_17 : decode cL_unlike 17 = .ok (.iconst 1, 1) := by decide +kernel
theorem dL_unlike_18 : decode cL_unlike 18 = .ok (.ireturn, 1) := by decide +kernel
theorem dL_unlike_19 : decode cL_unlike 19 = .ok (.iconst 0, 1) := by decide +kernel
theorem dL_unlike_20 : decode cL_unlike 20 = .ok (.ireturn, 1) := by decide +kernel
set_option maxRecDepth 20000 in
theorem ggL_seats_X11_seats : GoodIn wsL_seats wsX11_seats := goodIn_ca (goodIn_r _ [6, 7, 8, 9, 10, 5, 11, 12, 13, 14, 15, 16, 17, 18, 19, 20, 21, 22, 23, 24, 25, 26, 27, 28, 29, 30, 31, 32, 33, 34, 35, 36, 37, 38, 39, 40, 41, 42, 43, 44, 45, 46, 47, 48, 49, 50, 51, 52, 53, 54, 55, 56, 57, 58, 59, 60, 61, 62, 63, 64, 65, 66, 67, 68, 69, 70, 71, 72, 73, 74, 75, 76, 77, 78, 79, 80, 81, 82, 83, 84, 85, 86, 87, 88, 89, 90, 91, 92, 93, 94, 95, 96, 97, 98] (by decide +kernel) (by decide +kernel)) (goodIn_sub (fun _ h => List.mem_cons_of_mem _ (List.mem_append_right _ h)) (by decide +kernel))
set_option maxRecDepth 20000 in
theorem gL_seats_X11_seats : GoodIn wsL_seats (wsV RL 62 RX11 yX11_seats wsX11_seats) := goodIn_app (goodIn_of _ (by decide +kernel)) ggL_seats_X11_seats
theorem dL_seats_0 : decode cL_seats 0 = .ok (.aload_n 2, 1) := by decide +kernel
theorem dL_seats_1 : decode cL_seats 1 = .ok (.iconst 0, 1) := by decide +kernel
theorem dL_seats_2 : decode cL_seats 2 = .ok (.aload_n 0, 1) := by decide +kernel
theorem dL_seats_3 : decode cL_seats 3 = .ok (.iload_n 1, 1) := by decide +kernel
theorem dL_seats_4 : decode cL_seats 4 = .ok (.invokevirtual 62, 3) := by decide +kernel
theorem dL_seats_7 : decode cL_seats 7 = .ok (.i2l, 1) := by decide +kernel
theorem dL_seats_8 : decode cL_seats 8 = .ok (.lastore, 1) := by decide +kernel
theorem dL_seats_9 : decode cL_seats 9 = .ok (.goto 6, 3) := by decide +kernel
theorem dL_seats_12 : decode cL_seats 12 = .ok (.astore_n 3, 1) := by decide +kernel
theorem dL_seats_13 : decode cL_seats 13 = .ok (.iconst 1, 1) := by decide +kernel
theorem dL_seats_14 : decode cL_seats 14 = .ok (.ireturn, 1) := by decide +kernel
theorem dL_seats_15 : decode cL_seats 15 = .ok (.iconst 0, 1) := by decide +kernel
theorem dL_seats_16 : decode cL_seats 16 = .ok (.ireturn, 1) := by decide +kernel
set_option maxRecDepth 20000 in
theorem ggL_turn_X11_turn : GoodIn wsL_turn wsX11_turn := goodIn_ca (goodIn_r _ [6, 7, 8, 9, 10, 11, 5, 12, 13, 14, 15, 16, 17, 18, 19, 20, 21, 22, 23, 24, 25, 26, 27, 28, 29, 30, 31, 32, 33, 34, 35, 36, 37, 38, 39, 40, 41, 42, 43, 44, 45, 46, 47, 48, 49, 50, 51, 52, 53, 54, 55, 56, 57, 58, 59] (by decide +kernel) (by decide +kernel)) (goodIn_sub (fun _ h => List.mem_cons_of_mem _ (List.mem_append_right _ h)) (by decide +kernel))
set_option maxRecDepth 20000 in
theorem gL_turn_X11_turn : GoodIn wsL_turn (wsV RL 65 RX11 yX11_turn wsX11_turn) := goodIn_app (goodIn_of _ (by decide +kernel)) ggL_turn_X11_turn
theorem dL_turn_0 : decode cL_turn 0 = .ok (.aload_n 2, 1) := by decide +kernel
theorem dL_turn_1 : decode cL_turn 1 = .ok (.iconst 0, 1) := by decide +kernel
theorem dL_turn_2 : decode cL_turn 2 = .ok (.aload_n 0, 1) := by decide +kernel
theorem dL_turn_3 : decode cL_turn 3 = .ok (.iload_n 1, 1) := by decide +kernel
theorem dL_turn_4 : decode cL_turn 4 = .ok (.invokevirtual 65, 3) := by decide +kernel
theorem dL_turn_7 : decode cL_turn 7 = .ok (.i2l, 1) := by decide +kernel
theorem dL_turn_8 : decode cL_turn 8 = .ok (.lastore, 1) := by decide +kernel
theorem dL_turn_9 : decode cL_turn 9 = .ok (.goto 6, 3) := by decide +kernel
theorem dL_turn_12 : decode cL_turn 12 = .ok (.astore_n 3, 1) := by decide +kernel
theorem dL_turn_13 : decode cL_turn 13 = .ok (.iconst 1, 1) := by decide +kernel
theorem dL_turn_14 : decode cL_turn 14 = .ok (.ireturn, 1) := by decide +kernel
theorem dL_turn_15 : decode cL_turn 15 = .ok (.iconst 0, 1) := by decide +kernel
theorem dL_turn_16 : decode cL_turn 16 = .ok (.ireturn, 1) := by decide +kernel
set_option maxRecDepth 20000 in
theorem ggL_lasts_X11_lasts : GoodIn wsL_lasts wsX11_lasts := goodIn_ca (goodIn_r _ [6, 7, 8, 9, 10, 11, 12, 13, 5, 14, 15, 16, 17, 18, 19, 20, 21, 22, 23, 24, 25, 26, 27, 28, 29, 30, 31, 32, 33, 34, 35, 36, 37, 38, 39, 40, 41, 42, 43, 44, 45, 46, 47, 48, 49, 50, 51, 52, 53, 54, 55, 56, 57, 58, 59, 60, 61, 62, 63, 64, 65, 66, 67, 68, 69, 70, 71, 72, 73, 74, 75, 76, 77, 78, 79, 80, 81, 82, 83, 84, 85, 86, 87, 88, 89, 90, 91, 92, 93, 94, 95, 96, 97, 98, 99, 100, 101, 102, 103, 104, 105, 106, 107, 108, 109, 110, 111, 112, 113, 114, 115, 116, 117, 118, 119, 120, 121, 122, 123, 124, 125, 126, 127, 128, 129, 130, 131, 132, 133, 134, 135, 136, 137, 138, 139, 140, 141, 142, 143, 144, 145, 146, 147, 148, 149, 150, 151, 152, 153, 154, 155, 156, 157, 158, 159, 160, 161, 162, 163, 164, 165, 166, 167, 168, 169, 170, 171, 172, 173, 174, 175, 176, 177, 178, 179, 180, 181, 182, 183, 184, 185, 186, 187, 188, 189, 190, 191, 192, 193, 194, 195, 196, 197, 198, 199, 200, 201, 202, 203] (by decide +kernel) (by decide +kernel)) (goodIn_sub (fun _ h => List.mem_cons_of_mem _ (List.mem_append_right _ h)) (by decide +kernel))
set_option maxRecDepth 20000 in
theorem gL_lasts_X11_lasts : GoodIn wsL_lasts (wsV RL 68 RX11 yX11_lasts wsX11_lasts) := goodIn_app (goodIn_of _ (by decide +kernel)) ggL_lasts_X11_lasts
theorem dL_lasts_0 : decode cL_lasts 0 = .ok (.aload_n 3, 1) := by decide +kernel
theorem dL_lasts_1 : decode cL_lasts 1 = .ok (.iconst 0, 1) := by decide +kernel
theorem dL_lasts_2 : decode cL_lasts 2 = .ok (.aload_n 0, 1) := by decide +kernel
theorem dL_lasts_3 : decode cL_lasts 3 = .ok (.iload_n 1, 1) := by decide +kernel
theorem dL_lasts_4 : decode cL_lasts 4 = .ok (.iload_n 2, 1) := by decide +kernel
theorem dL_lasts_5 : decode cL_lasts 5 = .ok (.invokevirtual 68, 3) := by decide +kernel
theorem dL_lasts_8 : decode cL_lasts 8 = .ok (.i2l, 1) := by decide +kernel
theorem dL_lasts_9 : decode cL_lasts 9 = .ok (.lastore, 1) := by decide +kernel
theorem dL_lasts_10 : decode cL_lasts 10 = .ok (.goto 7, 3) := by decide +kernel
theorem dL_lasts_13 : decode cL_lasts 13 = .ok (.astore 4, 2) := by decide +kernel
theorem dL_lasts_15 : decode cL_lasts 15 = .ok (.iconst 1, 1) := by decide +kernel
theorem dL_lasts_16 : decode cL_lasts 16 = .ok (.ireturn, 1) := by decide +kernel
theorem dL_lasts_17 : decode cL_lasts 17 = .ok (.iconst 0, 1) := by decide +kernel
theorem dL_lasts_18 : decode cL_lasts 18 = .ok (.ireturn, 1) := by decide +kernel
set_option maxRecDepth 20000 in
theorem ggL_best_X11_best : GoodIn wsL_best wsX11_best := goodIn_ca (goodIn_ca (goodIn_r _ [7, 8, 9, 10, 11, 12, 13, 14, 15, 6, 16, 17, 18, 19, 20, 21, 22, 23, 24, 25, 26, 27, 28, 29, 30, 31, 32, 33, 34, 35, 36, 37, 38, 39, 40, 41, 42, 43, 44, 45, 46, 47, 48, 49, 50, 51, 52, 53, 54, 55, 56, 57, 58, 59, 60, 61, 62, 63, 64, 65, 66, 67, 68, 69, 70, 71, 72, 73, 74, 75, 76, 77, 78, 79, 80, 81, 82, 83, 84, 85, 86, 87, 88, 89, 90, 91, 92, 93, 94, 95, 96, 97, 98, 99, 100, 101, 102, 103, 104, 105, 106, 107, 108, 109, 110, 111, 112, 113, 114, 115, 116, 117, 118, 119, 120, 121, 122, 123, 124, 125, 126, 127, 128, 129, 130, 131, 132, 133, 134, 135, 136, 137, 138, 139, 140, 141, 142, 143, 144, 145, 146, 147, 148, 149, 150, 151, 152, 153, 154, 155, 156, 157, 158, 159, 160, 161, 162, 163, 164, 165, 166, 167, 168, 169, 170, 171, 172, 173, 174, 175, 176, 177, 178, 179, 180, 181, 182, 183, 184, 185, 186, 187, 188, 189, 190, 191, 192, 193, 194, 195, 196, 197, 198, 199, 200, 201, 202, 203, 204, 205, 206, 207, 208, 209, 210, 211, 212] (by decide +kernel) (by decide +kernel)) (goodIn_sub (fun _ h => List.mem_cons_of_mem _ (List.mem_append_left _ (List.mem_append_right _ h))) (by decide +kernel))) (goodIn_sub (fun _ h => List.mem_cons_of_mem _ (List.mem_append_right _ h)) (by decide +kernel))
set_option maxRecDepth 20000 in
theorem gL_best_X11_best : GoodIn wsL_best (wsV RL 71 RX11 yX11_best wsX11_best) := goodIn_app (goodIn_of _ (by decide +kernel)) ggL_best_X11_best
theorem dL_best_0 : decode cL_best 0 = .ok (.aload 4, 2) := by decide +kernel
theorem dL_best_2 : decode cL_best 2 = .ok (.iconst 0, 1) := by decide +kernel
theorem dL_best_3 : decode cL_best 3 = .ok (.aload_n 0, 1) := by decide +kernel
theorem dL_best_4 : decode cL_best 4 = .ok (.iload_n 1, 1) := by decide +kernel
theorem dL_best_5 : decode cL_best 5 = .ok (.iload_n 2, 1) := by decide +kernel
theorem dL_best_6 : decode cL_best 6 = .ok (.iload_n 3, 1) := by decide +kernel
theorem dL_best_7 : decode cL_best 7 = .ok (.invokevirtual 71, 3) := by decide +kernel
theorem dL_best_10 : decode cL_best 10 = .ok (.i2l, 1) := by decide +kernel
theorem dL_best_11 : decode cL_best 11 = .ok (.lastore, 1) := by decide +kernel
theorem dL_best_12 : decode cL_best 12 = .ok (.goto 11, 3) := by decide +kernel
theorem dL_best_15 : decode cL_best 15 = .ok (.astore 5, 2) := by decide +kernel
theorem dL_best_17 : decode cL_best 17 = .ok (.iconst 1, 1) := by decide +kernel
theorem dL_best_18 : decode cL_best 18 = .ok (.ireturn, 1) := by decide +kernel
theorem dL_best_19 : decode cL_best 19 = .ok (.astore 5, 2) := by decide +kernel
theorem dL_best_21 : decode cL_best 21 = .ok (.iconst 2, 1) := by decide +kernel
theorem dL_best_22 : decode cL_best 22 = .ok (.ireturn, 1) := by decide +kernel
theorem dL_best_23 : decode cL_best 23 = .ok (.iconst 0, 1) := by decide +kernel
theorem dL_best_24 : decode cL_best 24 = .ok (.ireturn, 1) := by decide +kernel
set_option maxRecDepth 20000 in
theorem ggL_greatest_X11_greatest : GoodIn wsL_greatest wsX11_greatest := goodIn_ca (goodIn_ca (goodIn_r _ [7, 8, 9, 6, 10, 11, 12, 13, 14, 15, 16, 17, 18, 19, 20, 21, 22, 23, 24, 25, 26, 27, 28, 29, 30, 31, 32, 33, 34, 35, 36, 37, 38, 39, 40, 41, 42, 43, 44, 45, 46, 47, 48, 49, 50, 51, 52, 53, 54, 55, 56, 57, 58, 59, 60, 61, 62, 63, 64, 65, 66, 67, 68, 69, 70, 71, 72, 73, 74, 75, 76, 77, 78, 79, 80, 81, 82, 83, 84, 85, 86, 87, 88, 89, 90, 91, 92, 93, 94, 95, 96, 97, 98, 99, 100, 101, 102, 103, 104, 105, 106, 107, 108, 109, 110, 111, 112, 113, 114, 115, 116, 117, 118, 119, 120, 121, 122, 123, 124, 125, 126, 127, 128, 129, 130, 131, 132, 133, 134, 135, 136, 137, 138, 139, 140, 141, 142, 143, 144, 145, 146, 147, 148, 149, 150, 151, 152, 153, 154, 155, 156, 157, 158, 159, 160, 161, 162, 163, 164, 165, 166, 167, 168, 169, 170, 171, 172, 173, 174, 175, 176, 177, 178, 179, 180, 181, 182, 183, 184, 185, 186, 187, 188, 189, 190, 191, 192, 193, 194, 195, 196, 197, 198, 199, 200, 201, 202, 203, 204, 205, 206] (by decide +kernel) (by decide +kernel)) (goodIn_sub (fun _ h => List.mem_cons_of_mem _ (List.mem_append_left _ (List.mem_append_right _ h))) (by decide +kernel))) (goodIn_sub (fun _ h => List.mem_cons_of_mem _ (List.mem_append_right _ h)) (by decide +kernel))
set_option maxRecDepth 20000 in
theorem gL_greatest_X11_greatest : GoodIn wsL_greatest (wsV RL 74 RX11 yX11_greatest wsX11_greatest) := goodIn_app (goodIn_of _ (by decide +kernel)) ggL_greatest_X11_greatest
theorem dL_greatest_0 : decode cL_greatest 0 = .ok (.aload_n 3, 1) := by decide +kernel
theorem dL_greatest_1 : decode cL_greatest 1 = .ok (.iconst 0, 1) := by decide +kernel
theorem dL_greatest_2 : decode cL_greatest 2 = .ok (.aload_n 0, 1) := by decide +kernel
theorem dL_greatest_3 : decode cL_greatest 3 = .ok (.iload_n 1, 1) := by decide +kernel
theorem dL_greatest_4 : decode cL_greatest 4 = .ok (.iload_n 2, 1) := by decide +kernel
theorem dL_greatest_5 : decode cL_greatest 5 = .ok (.invokevirtual 74, 3) := by decide +kernel
theorem dL_greatest_8 : decode cL_greatest 8 = .ok (.i2l, 1) := by decide +kernel
theorem dL_greatest_9 : decode cL_greatest 9 = .ok (.lastore, 1) := by decide +kernel
theorem dL_greatest_10 : decode cL_greatest 10 = .ok (.goto 11, 3) := by decide +kernel
theorem dL_greatest_13 : decode cL_greatest 13 = .ok (.astore 4, 2) := by decide +kernel
theorem dL_greatest_15 : decode cL_greatest 15 = .ok (.iconst 1, 1) := by decide +kernel
theorem dL_greatest_16 : decode cL_greatest 16 = .ok (.ireturn, 1) := by decide +kernel
theorem dL_greatest_17 : decode cL_greatest 17 = .ok (.astore 4, 2) := by decide +kernel
theorem dL_greatest_19 : decode cL_greatest 19 = .ok (.iconst 2, 1) := by decide +kernel
theorem dL_greatest_20 : decode cL_greatest 20 = .ok (.ireturn, 1) := by decide +kernel
theorem dL_greatest_21 : decode cL_greatest 21 = .ok (.iconst 0, 1) := by decide +kernel
theorem dL_greatest_22 : decode cL_greatest 22 = .ok (.ireturn, 1) := by decide +kernel
set_option maxRecDepth 20000 in
theorem ggL_empty_X11_empty : GoodIn wsL_empty wsX11_empty := goodIn_ca (goodIn_r _ [6, 7, 8, 9, 10, 11, 12, 5, 13, 14, 15, 16, 17, 18, 19, 20, 21, 22, 23, 24, 25, 26, 27, 28, 29, 30, 31, 32, 33, 34, 35, 36, 37, 38, 39, 40, 41, 42, 43, 44, 45, 46, 47, 48, 49, 50, 51, 52, 53, 54, 55, 56, 57, 58, 59, 60, 61, 62, 63, 64, 65, 66, 67, 68, 69, 70, 71, 72, 73, 74, 75, 76, 77, 78, 79, 80, 81, 82, 83, 84, 85, 86, 87, 88, 89, 90, 91, 92, 93, 94, 95, 96, 97, 98, 99, 100, 101, 102, 103, 104, 105, 106, 107, 108, 109, 110, 111, 112, 113, 114, 115, 116, 117, 118, 119, 120, 121, 122, 123, 124, 125, 126, 127, 128, 129, 130, 131, 132, 133, 134, 135, 136, 137, 138, 139, 140, 141, 142, 143, 144, 145, 146, 147, 148, 149, 150, 151, 152, 153, 154, 155, 156, 157, 158, 159, 160, 161, 162, 163, 164, 165, 166, 167, 168, 169, 170, 171, 172, 173, 174, 175, 176, 177, 178, 179, 180, 181, 182, 183, 184, 185, 186, 187, 188, 189, 190, 191, 192] (by decide +kernel) (by decide +kernel)) (goodIn_sub (fun _ h => List.mem_cons_of_mem _ (List.mem_append_right _ h)) (by decide +kernel))
set_option maxRecDepth 20000 in
theorem gL_empty_X11_empty : GoodIn wsL_empty (wsV RL 77 RX11 yX11_empty wsX11_empty) := goodIn_app (goodIn_of _ (by decide +kernel)) ggL_empty_X11_empty
theorem dL_empty_0 : decode cL_empty 0 = .ok (.aload_n 2, 1) := by decide +kernel
theorem dL_empty_1 : decode cL_empty 1 = .ok (.iconst 0, 1) := by decide +kernel
theorem dL_empty_2 : decode cL_empty 2 = .ok (.aload_n 0, 1) := by decide +kernel
theorem dL_empty_3 : decode cL_empty 3 = .ok (.iload_n 1, 1) := by decide +kernel
theorem dL_empty_4 : decode cL_empty 4 = .ok (.invokevirtual 77, 3) := by decide +kernel
theorem dL_empty_7 : decode cL_empty 7 = .ok (.i2l, 1) := by decide +kernel
theorem dL_empty_8 : decode cL_empty 8 = .ok (.lastore, 1) := by decide +kernel
theorem dL_empty_9 : decode cL_empty 9 = .ok (.goto 6, 3) := by decide +kernel
theorem dL_empty_12 : decode cL_empty 12 = .ok (.astore_n 3, 1) := by decide +kernel
theorem dL_empty_13 : decode cL_empty 13 = .ok (.iconst 1, 1) := by decide +kernel
theorem dL_empty_14 : decode cL_empty 14 = .ok (.ireturn, 1) := by decide +kernel
theorem dL_empty_15 : decode cL_empty 15 = .ok (.iconst 0, 1) := by decide +kernel
theorem dL_empty_16 : decode cL_empty 16 = .ok (.ireturn, 1) := by decide +kernel
set_option maxRecDepth 20000 in
theorem ggL_see_X11_see : GoodIn wsL_see wsX11_see := goodIn_ca (goodIn_r _ [6, 7, 8, 9, 10, 11, 12, 13, 5, 14, 15, 16, 17, 18, 19, 20, 21, 22, 23, 24, 25, 26, 27, 28, 29, 30, 31, 32, 33, 34, 35, 36, 37, 38, 39, 40, 41, 42, 43, 44, 45, 46, 47, 48, 49, 50, 51, 52, 53, 54, 55, 56, 57] (by decide +kernel) (by decide +kernel)) (goodIn_sub (fun _ h => List.mem_cons_of_mem _ (List.mem_append_right _ h)) (by decide +kernel))
set_option maxRecDepth 20000 in
theorem gL_see_X11_see : GoodIn wsL_see (wsV RL 80 RX11 yX11_see wsX11_see) := goodIn_app (goodIn_of _ (by decide +kernel)) ggL_see_X11_see
theorem dL_see_0 : decode cL_see 0 = .ok (.aload 4, 2) := by decide +kernel
theorem dL_see_2 : decode cL_see 2 = .ok (.iconst 0, 1) := by decide +kernel
theorem dL_see_3 : decode cL_see 3 = .ok (.aload_n 0, 1) := by decide +kernel
theorem dL_see_4 : decode cL_see 4 = .ok (.iload_n 1, 1) := by decide +kernel
theorem dL_see_5 : decode cL_see 5 = .ok (.iload_n 2, 1) := by decide +kernel
theorem dL_see_6 : decode cL_see 6 = .ok (.iload_n 3, 1) := by decide +kernel
theorem dL_see_7 : decode cL_see 7 = .ok (.invokevirtual 80, 3) := by decide +kernel
theorem dL_see_10 : decode cL_see 10 = .ok (.i2l, 1) := by decide +kernel
theorem dL_see_11 : decode cL_see 11 = .ok (.lastore, 1) := by decide +kernel
theorem dL_see_12 : decode cL_see 12 = .ok (.goto 7, 3) := by decide +kernel
theorem dL_see_15 : decode cL_see 15 = .ok (.astore 5, 2) := by decide +kernel
theorem dL_see_17 : decode cL_see 17 = .ok (.iconst 1, 1) := by decide +kernel
theorem dL_see_18 : decode cL_see 18 = .ok (.ireturn, 1) := by decide +kernel
theorem dL_see_19 : decode cL_see 19 = .ok (.iconst 0, 1) := by decide +kernel
theorem dL_see_20 : decode cL_see 20 = .ok (.ireturn, 1) := by decide +kernel
set_option maxRecDepth 20000 in
theorem ggL_old_X11_old : GoodIn wsL_old wsX11_old := goodIn_ca (goodIn_r _ [6, 7, 8, 9, 10, 11, 12, 13, 5, 14, 15, 16, 17, 18, 19, 20, 21, 22, 23, 24, 25, 26, 27, 28, 29, 30, 31, 32, 33, 34, 35, 36, 37, 38, 39, 40, 41, 42, 43, 44, 45, 46, 47, 48, 49, 50, 51, 52, 53, 54, 55, 56, 57, 58, 59, 60, 61, 62, 63, 64, 65, 66, 67, 68, 69, 70, 71, 72, 73, 74, 75, 76, 77, 78, 79, 80, 81, 82, 83, 84, 85, 86, 87, 88, 89, 90, 91, 92, 93, 94, 95, 96, 97, 98, 99, 100, 101, 102, 103, 104, 105, 106, 107, 108, 109, 110, 111, 112, 113, 114, 115, 116, 117, 118, 119, 120, 121, 122, 123, 124, 125, 126, 127, 128, 129, 130, 131, 132, 133, 134, 135, 136, 137, 138, 139, 140, 141, 142, 143, 144, 145, 146, 147, 148, 149, 150, 151, 152, 153, 154, 155, 156, 157, 158, 159, 160, 161, 162, 163, 164, 165, 166, 167, 168, 169, 170, 171, 172, 173, 174, 175, 176, 177, 178, 179, 180, 181, 182, 183, 184, 185, 186, 187, 188, 189, 190, 191, 192, 193, 194, 195, 196, 197, 198, 199, 200, 201, 202, 203, 204, 205, 206, 207, 208, 209, 210, 211, 212, 213, 214, 215, 216, 217, 218, 219] (by decide +kernel) (by decide +kernel)) (goodIn_sub (fun _ h => List.mem_cons_of_mem _ (List.mem_append_right _ h)) (by decide +kernel))
set_option maxRecDepth 20000 in
theorem gL_old_X11_old : GoodIn wsL_old (wsV RL 83 RX11 yX11_old wsX11_old) := goodIn_app (goodIn_of _ (by decide +kernel)) ggL_old_X11_old
theorem dL_old_0 : decode cL_old 0 = .ok (.aload_n 2, 1) := by decide +kernel
theorem dL_old_1 : decode cL_old 1 = .ok (.iconst 0, 1) := by decide +kernel
theorem dL_old_2 : decode cL_old 2 = .ok (.aload_n 0, 1) := by decide +kernel
theorem dL_old_3 : decode cL_old 3 = .ok (.iload_n 1, 1) := by decide +kernel
theorem dL_old_4 : decode cL_old 4 = .ok (.invokevirtual 83, 3) := by decide +kernel
theorem dL_old_7 : decode cL_old 7 = .ok (.i2l, 1) := by decide +kernel
theorem dL_old_8 : decode cL_old 8 = .ok (.lastore, 1) := by decide +kernel
theorem dL_old_9 : decode cL_old 9 = .ok (.goto 6, 3) := by decide +kernel
theorem dL_old_12 : decode cL_old 12 = .ok (.astore_n 3, 1) := by decide +kernel
theorem dL_old_13 : decode cL_old 13 = .ok (.iconst 1, 1) := by decide +kernel
theorem dL_old_14 : decode cL_old 14 = .ok (.ireturn, 1) := by decide +kernel
theorem dL_old_15 : decode cL_old 15 = .ok (.iconst 0, 1) := by decide +kernel
theorem dL_old_16 : decode cL_old 16 = .ok (.ireturn, 1) := by decide +kernel
set_option maxRecDepth 20000 in
theorem ggL_look_X11_look : GoodIn wsL_look wsX11_look := goodIn_ca (goodIn_r _ [6, 7, 8, 9, 10, 11, 12, 5, 13, 14, 15, 16, 17, 18, 19, 20, 21, 22, 23, 24, 25, 26, 27, 28, 29, 30, 31, 32, 33, 34, 35, 36, 37, 38, 39, 40, 41, 42, 43, 44, 45, 46, 47, 48, 49, 50, 51, 52, 53, 54, 55, 56, 57, 58, 59, 60, 61, 62, 63, 64, 65, 66, 67, 68, 69, 70, 71, 72, 73, 74, 75, 76, 77, 78, 79, 80, 81, 82, 83, 84, 85, 86, 87, 88, 89, 90, 91, 92, 93, 94, 95, 96, 97, 98, 99, 100, 101, 102, 103, 104, 105, 106, 107, 108, 109, 110, 111, 112, 113, 114, 115, 116, 117, 118, 119, 120, 121, 122, 123, 124, 125, 126, 127, 128, 129, 130, 131, 132, 133, 134, 135, 136, 137, 138, 139, 140, 141, 142, 143, 144, 145, 146, 147, 148, 149, 150, 151, 152, 153, 154, 155, 156, 157, 158, 159, 160, 161, 162, 163, 164, 165, 166, 167, 168, 169, 170, 171, 172, 173, 174, 175, 176, 177, 178, 179, 180, 181, 182, 183, 184, 185, 186, 187, 188, 189, 190, 191, 192, 193, 194, 195, 196, 197, 198, 199, 200, 201, 202, 203, 204, 205, 206, 207, 208, 209, 210, 211, 212, 213, 214, 215, 216, 217, 218, 219, 220, 221, 222, 223, 224, 225, 226, 227, 228, 229, 230, 231, 232, 233, 234, 235, 236, 237, 238, 239] (by decide +kernel) (by decide +kernel)) (goodIn_sub (fun _ h => List.mem_cons_of_mem _ (List.mem_append_right _ h)) (by decide +kernel))
set_option maxRecDepth 20000 in
theorem gL_look_X11_look : GoodIn wsL_look (wsV RL 86 RX11 yX11_look wsX11_look) := goodIn_app (goodIn_of _ (by decide +kernel)) ggL_look_X11_look
theorem dL_look_0 : decode cL_look 0 = .ok (.aload_n 2, 1) := by decide +kernel
theorem dL_look_1 : decode cL_look 1 = .ok (.iconst 0, 1) := by decide +kernel
theorem dL_look_2 : decode cL_look 2 = .ok (.aload_n 0, 1) := by decide +kernel
theorem dL_look_3 : decode cL_look 3 = .ok (.iload_n 1, 1) := by decide +kernel
theorem dL_look_4 : decode cL_look 4 = .ok (.invokevirtual 86, 3) := by decide +kernel
theorem dL_look_7 : decode cL_look 7 = .ok (.i2l, 1) := by decide +kernel
theorem dL_look_8 : decode cL_look 8 = .ok (.lastore, 1) := by decide +kernel
theorem dL_look_9 : decode cL_look 9 = .ok (.goto 6, 3) := by decide +kernel
theorem dL_look_12 : decode cL_look 12 = .ok (.astore_n 3, 1) := by decide +kernel
theorem dL_look_13 : decode cL_look 13 = .ok (.iconst 1, 1) := by decide +kernel
theorem dL_look_14 : decode cL_look 14 = .ok (.ireturn, 1) := by decide +kernel
theorem dL_look_15 : decode cL_look 15 = .ok (.iconst 0, 1) := by decide +kernel
theorem dL_look_16 : decode cL_look 16 = .ok (.ireturn, 1) := by decide +kernel
set_option maxRecDepth 20000 in
theorem ggL_wet_X11_wet : GoodIn wsL_wet wsX11_wet := goodIn_ca (goodIn_ca (goodIn_r _ [7, 8, 9, 10, 11, 12, 6, 13, 14, 15, 16, 17, 18, 19, 20, 21, 22, 23, 24, 25, 26, 27, 28, 29, 30, 31, 32, 33, 34, 35, 36, 37, 38, 39, 40, 41, 42, 43, 44, 45, 46, 47, 48, 49, 50, 51, 52, 53, 54, 55, 56, 57, 58, 59, 60, 61, 62, 63, 64, 65, 66, 67, 68, 69, 70, 71, 72, 73, 74, 75, 76, 77, 78, 79, 80, 81, 82, 83, 84, 85, 86, 87, 88, 89, 90, 91, 92, 93, 94, 95, 96, 97, 98, 99, 100, 101, 102, 103, 104, 105, 106, 107, 108, 109, 110, 111, 112, 113, 114, 115, 116, 117, 118, 119, 120, 121, 122, 123, 124, 125, 126, 127, 128, 129, 130, 131, 132, 133, 134, 135, 136, 137, 138, 139, 140, 141, 142, 143, 144, 145, 146, 147, 148, 149, 150, 151, 152, 153, 154, 155, 156, 157, 158, 159, 160, 161, 162, 163, 164, 165, 166, 167, 168, 169, 170, 171, 172, 173, 174, 175, 176, 177, 178, 179, 180, 181, 182, 183, 184, 185, 186, 187, 188, 189, 190] (by decide +kernel) (by decide +kernel)) (goodIn_sub (fun _ h => List.mem_cons_of_mem _ (List.mem_append_left _ (List.mem_append_right _ h))) (by decide +kernel))) (goodIn_sub (fun _ h => List.mem_cons_of_mem _ (List.mem_append_right _ h)) (by decide +kernel))
set_option maxRecDepth 20000 in
theorem gL_wet_X11_wet : GoodIn wsL_wet (wsV RL 89 RX11 yX11_wet wsX11_wet) := goodIn_app (goodIn_of _ (by decide +kernel)) ggL_wet_X11_wet
theorem dL_wet_0 : decode cL_wet 0 = .ok (.aload 4, 2) := by decide +kernel
theorem dL_wet_2 : decode cL_wet 2 = .ok (.iconst 0, 1) := by decide +kernel
theorem dL_wet_3 : decode cL_wet 3 = .ok (.aload_n 0, 1) := by decide +kernel
theorem dL_wet_4 : decode cL_wet 4 = .ok (.iload_n 1, 1) := by decide +kernel
theorem dL_wet_5 : decode cL_wet 5 = .ok (.iload_n 2, 1) := by decide +kernel
theorem dL_wet_6 : decode cL_wet 6 = .ok (.iload_n 3, 1) := by decide +kernel
theorem dL_wet_7 : decode cL_wet 7 = .ok (.invokevirtual 89, 3) := by decide +kernel
theorem dL_wet_10 : decode cL_wet 10 = .ok (.i2l, 1) := by decide +kernel
theorem dL_wet_11 : decode cL_wet 11 = .ok (.lastore, 1) := by decide +kernel
theorem dL_wet_12 : decode cL_wet 12 = .ok (.goto 11, 3) := by decide +kernel
theorem dL_wet_15 : decode cL_wet 15 = .ok (.astore 5, 2) := by decide +kernel
theorem dL_wet_17 : decode cL_wet 17 = .ok (.iconst 1, 1) := by decide +kernel
theorem dL_wet_18 : decode cL_wet 18 = .ok (.ireturn, 1) := by decide +kernel
theorem dL_wet_19 : decode cL_wet 19 = .ok (.astore 5, 2) := by decide +kernel
theorem dL_wet_21 : decode cL_wet 21 = .ok (.iconst 2, 1) := by decide +kernel
theorem dL_wet_22 : decode cL_wet 22 = .ok (.ireturn, 1) := by decide +kernel
theorem dL_wet_23 : decode cL_wet 23 = .ok (.iconst 0, 1) := by decide +kernel
theorem dL_wet_24 : decode cL_wet 24 = .ok (.ireturn, 1) := by decide +kernel
set_option maxRecDepth 20000 in
theorem ggL_game_X11_game : GoodIn wsL_game wsX11_game := goodIn_ca (goodIn_ca (goodIn_r _ [7, 8, 9, 10, 11, 12, 6, 13, 14, 15, 16, 17, 18, 19, 20, 21, 22, 23, 24, 25, 26, 27, 28, 29, 30, 31, 32, 33, 34, 35, 36, 37, 38, 39, 40, 41, 42, 43, 44, 45, 46, 47, 48, 49, 50, 51, 52, 53, 54, 55, 56, 57, 58, 59, 60, 61, 62, 63, 64, 65, 66, 67, 68, 69, 70, 71, 72, 73, 74, 75, 76, 77, 78, 79, 80, 81, 82, 83, 84, 85, 86, 87, 88, 89, 90, 91, 92, 93, 94, 95, 96, 97, 98, 99, 100, 101, 102, 103, 104, 105, 106, 107, 108, 109, 110, 111, 112, 113, 114, 115, 116, 117, 118, 119, 120, 121, 122, 123, 124, 125, 126, 127, 128, 129, 130, 131, 132, 133, 134, 135, 136, 137, 138, 139, 140, 141, 142, 143, 144, 145, 146, 147, 148, 149, 150, 151, 152, 153, 154, 155, 156, 157, 158, 159, 160, 161, 162, 163, 164, 165, 166, 167, 168, 169, 170, 171, 172, 173, 174, 175, 176, 177, 178, 179, 180, 181, 182, 183, 184, 185, 186, 187, 188, 189, 190, 191, 192, 193, 194, 195, 196, 197, 198, 199, 200, 201, 202, 203, 204, 205, 206, 207, 208, 209, 210, 211, 212, 213, 214, 215, 216, 217, 218, 219, 220, 221, 222, 223, 224, 225, 226, 227] (by decide +kernel) (by decide +kernel)) (goodIn_sub (fun _ h => List.mem_cons_of_mem _ (List.mem_append_left _ (List.mem_append_right _ h))) (by decide +kernel))) (goodIn_sub (fun _ h => List.mem_cons_of_mem _ (List.mem_append_right _ h)) (by decide +kernel))
set_option maxRecDepth 20000 in
theorem gL_game_X11_game : GoodIn wsL_game (wsV RL 92 RX11 yX11_game wsX11_game) := goodIn_app (goodIn_of _ (by decide +kernel)) ggL_game_X11_game
theorem dL_game_0 : decode cL_game 0 = .ok (.aload 4, 2) := by decide +kernel
theorem dL_game_2 : decode cL_game 2 = .ok (.iconst 0, 1) := by decide +kernel
theorem dL_game_3 : decode cL_game 3 = .ok (.aload_n 0, 1) := by decide +kernel
theorem dL_game_4 : decode cL_game 4 = .ok (.iload_n 1, 1) := by decide +kernel
theorem dL_game_5 : decode cL_game 5 = .ok (.iload_n 2, 1) := by decide +kernel
theorem dL_game_6 : decode cL_game 6 = .ok (.iload_n 3, 1) := by decide +kernel
theorem dL_game_7 : decode cL_game 7 = .ok (.invokevirtual 92, 3) := by decide +kernel
theorem dL_game_10 : decode cL_game 10 = .ok (.i2l, 1) := by decide +kernel
theorem dL_game_11 : decode cL_game 11 = .ok (.lastore, 1) := by decide +kernel
theorem dL_game_12 : decode cL_game 12 = .ok (.goto 11, 3) := by decide +kernel
theorem dL_game_15 : decode cL_game 15 = .ok (.astore 5, 2) := by decide +kernel
theorem dL_game_17 : decode cL_game 17 = .ok (.iconst 1, 1) := by decide +kernel
theorem dL_game_18 : decode cL_game 18 = .ok (.ireturn, 1) := by decide +kernel
theorem dL_game_19 : decode cL_game 19 = .ok (.astore 5, 2) := by decide +kernel
theorem dL_game_21 : decode cL_game 21 = .ok (.iconst 2, 1) := by decide +kernel
theorem dL_game_22 : decode cL_game 22 = .ok (.ireturn, 1) := by decide +kernel
theorem dL_game_23 : decode cL_game 23 = .ok (.iconst 0, 1) := by decide +kernel
theorem dL_game_24 : decode cL_game 24 = .ok (.ireturn, 1) := by decide +kernel
set_option maxRecDepth 20000 in
theorem ggL_ages_X11_ages : GoodIn wsL_ages wsX11_ages := goodIn_ca (goodIn_ca (goodIn_r _ [7, 8, 9, 10, 11, 12, 13, 14, 15, 16, 6, 17, 18, 19, 20, 21, 22, 23, 24, 25, 26, 27, 28, 29, 30, 31, 32, 33, 34, 35, 36, 37, 38, 39, 40, 41, 42, 43, 44, 45, 46, 47, 48, 49, 50, 51, 52, 53, 54, 55, 56, 57, 58, 59, 60, 61, 62, 63, 64, 65, 66, 67, 68, 69, 70, 71, 72, 73, 74, 75, 76, 77, 78, 79, 80, 81, 82, 83, 84, 85, 86, 87, 88, 89, 90, 91, 92, 93, 94, 95, 96, 97, 98, 99, 100, 101, 102, 103, 104, 105, 106, 107, 108, 109, 110, 111, 112, 113, 114, 115, 116, 117, 118, 119, 120, 121, 122, 123, 124, 125, 126, 127, 128, 129, 130, 131, 132, 133, 134, 135, 136, 137, 138, 139, 140, 141, 142, 143, 144, 145, 146, 147, 148, 149, 150, 151, 152, 153, 154, 155, 156, 157, 158, 159, 160, 161, 162, 163, 164, 165, 166, 167, 168, 169, 170, 171, 172, 173, 174, 175, 176, 177, 178, 179, 180, 181, 182, 183, 184, 185, 186, 187, 188, 189, 190, 191, 192, 193, 194, 195, 196, 197, 198, 199, 200, 201, 202, 203, 204, 205, 206, 207, 208, 209, 210, 211, 212, 213, 214, 215, 216, 217, 218, 219, 220, 221, 222, 223] (by decide +kernel) (by decide +kernel)) (goodIn_sub (fun _ h => List.mem_cons_of_mem _ (List.mem_append_left _ (List.mem_append_right _ h))) (by decide +kernel))) (goodIn_sub (fun _ h => List.mem_cons_of_mem _ (List.mem_append_right _ h)) (by decide +kernel))
set_option maxRecDepth 20000 in
theorem gL_ages_X11_ages : GoodIn wsL_ages (wsV RL 95 RX11 yX11_ages wsX11_ages) := goodIn_app (goodIn_of _ (by decide +kernel)) ggL_ages_X11_ages
theorem dL_ages_0 : decode cL_ages 0 = .ok (.aload 4, 2) := by decide +kernel
theorem dL_ages_2 : decode cL_ages 2 = .ok (.iconst 0, 1) := by decide +kernel
theorem dL_ages_3 : decode cL_ages 3 = .ok (.aload_n 0, 1) := by decide +kernel
theorem dL_ages_4 : decode cL_ages 4 = .ok (.iload_n 1, 1) := by decide +kernel
theorem dL_ages_5 : decode cL_ages 5 = .ok (.iload_n 2, 1) := by decide +kernel
theorem dL_ages_6 : decode cL_ages 6 = .ok (.iload_n 3, 1) := by decide +kernel
theorem dL_ages_7 : decode cL_ages 7 = .ok (.invokevirtual 95, 3) := by decide +kernel
theorem dL_ages_10 : decode cL_ages 10 = .ok (.i2l, 1) := by decide +kernel
theorem dL_ages_11 : decode cL_ages 11 = .ok (.lastore, 1) := by decide +kernel
theorem dL_ages_12 : decode cL_ages 12 = .ok (.goto 11, 3) := by decide +kernel
theorem dL_ages_15 : decode cL_ages 15 = .ok (.astore 5, 2) := by decide +kernel
theorem dL_ages_17 : decode cL_ages 17 = .ok (.iconst 1, 1) := by decide +kernel
theorem dL_ages_18 : decode cL_ages 18 = .ok (.ireturn, 1) := by decide +kernel
theorem dL_ages_19 : decode cL_ages 19 = .ok (.astore 5, 2) := by decide +kernel
theorem dL_ages_21 : decode cL_ages 21 = .ok (.iconst 2, 1) := by decide +kernel
theorem dL_ages_22 : decode cL_ages 22 = .ok (.ireturn, 1) := by decide +kernel
theorem dL_ages_23 : decode cL_ages 23 = .ok (.iconst 0, 1) := by decide +kernel
theorem dL_ages_24 : decode cL_ages 24 = .ok (.ireturn, 1) := by decide +kernel
set_option maxRecDepth 20000 in
theorem ggL_law_X11_init : GoodIn wsL_law wsX11_init := goodIn_r _ [9, 10, 11, 12, 13, 14, 15, 16, 17, 18, 19, 20, 21, 22, 23, 24, 25, 26, 27, 28, 29, 30, 31, 32, 33, 34, 35, 36, 37, 38, 39, 40, 41, 42, 43, 44, 45, 46, 47, 48, 49, 50, 51, 52, 53, 54, 55, 56, 57, 58, 59, 60, 61, 62, 63, 64, 65, 66, 67, 68, 69, 70, 71, 72, 73, 74, 75, 76, 77, 78, 79, 80, 81, 82, 83, 84, 85, 86, 87, 88, 89, 90, 91, 92, 93, 94, 95, 96, 97, 98, 99, 100, 101, 102, 103, 104, 105, 106, 107, 108, 109, 110, 111, 112, 113, 114, 115, 116, 117, 118, 119, 120, 121, 122, 123, 124, 125, 1457, 1458, 1459, 1460, 1461, 1462, 1463, 1464, 1465, 1466, 1467, 1468, 1469, 1535, 1536, 1537, 1538, 1539, 1540, 1541, 1542, 1543, 1544, 1545, 1546, 1547, 1548, 1549, 1550, 1551, 1552, 1553, 1554, 1555, 1556, 1557, 1558, 1559, 1560, 1561, 1562, 1563, 1564, 1565, 1566, 1567, 1568, 1569, 1570, 1571, 1572, 1573, 1574, 1575, 1576, 1577, 1578, 1579, 1580, 1581, 1582] (by decide +kernel) (by decide +kernel)
set_option maxRecDepth 20000 in
theorem gL_law_X11_init : GoodIn wsL_law (wsX11_init) := ggL_law_X11_init
set_option maxRecDepth 20000 in
theorem ggL_law_X12_init : GoodIn wsL_law wsX12_init := goodIn_r _ [128, 129, 11, 12, 130, 131, 132, 133, 134, 44, 135, 136, 137, 138, 139, 140, 141, 142, 143, 144, 145, 146, 147, 148, 149, 150, 151, 152, 153, 154, 155, 156, 157, 158, 159, 160, 161, 162, 163, 164, 165, 166, 167, 168, 169, 170, 171, 172, 173, 174, 175, 1470, 1471, 1472, 1473, 1474, 1475, 1476, 1477, 1478, 1479, 1480, 1481, 1482, 1483, 1484, 1485, 1486, 1487, 1488, 1489, 1490, 1491, 1492, 1493, 1494, 1495, 1496, 1497, 1498, 1499, 1500, 1501, 1502, 1503, 1504, 1505, 1506, 1507, 1508, 1509, 1510, 1511, 1512, 1513, 1514, 1515, 1516, 1517, 1518, 1519, 1520, 1521, 1522, 1523, 1524, 1525, 1526, 1527, 1528, 1529, 1530, 1531, 1532, 1533, 1534] (by decide +kernel) (by decide +kernel)
set_option maxRecDepth 20000 in
theorem gL_law_X12_init : GoodIn wsL_law (wsX12_init) := ggL_law_X12_init
set_option maxRecDepth 20000 in
theorem ggL_law_X11_feed : GoodIn wsL_law wsX11_feed := goodIn_r _ [179, 15, 180, 181, 182, 2, 183, 14, 1457, 1458, 1459, 1460, 1461, 1462, 1463, 1464, 1465, 1466, 1467, 1468, 1469] (by decide +kernel) (by decide +kernel)
set_option maxRecDepth 20000 in
theorem gL_law_X11_feed : GoodIn wsL_law (wsV RL 102 RX11 yX11_feed wsX11_feed) := goodIn_app (goodIn_of _ (by decide +kernel)) ggL_law_X11_feed
set_option maxRecDepth 20000 in
theorem ggL_law_X12_feed : GoodIn wsL_law wsX12_feed := goodIn_r _ [187, 188, 189, 148, 1470, 1471, 1472, 1473, 1474, 1475, 1476, 1477, 1478, 1479, 1480, 1481, 1482, 1483, 1484, 1485, 1486, 1487, 1488, 1489, 1490, 1491, 1492, 1493, 1494, 1495, 1496, 1497, 1498, 1499, 1500, 1501, 1502, 1503, 1504, 1505, 1506, 1507, 1508, 1509, 1510, 1511, 1512, 1513, 1514, 1515, 1516, 1517, 1518, 1519, 1520, 1521, 1522, 1523, 1524, 1525, 1526, 1527, 1528, 1529, 1530, 1531, 1532, 1533, 1534] (by decide +kernel) (by decide +kernel)
set_option maxRecDepth 20000 in
theorem gL_law_X12_feed : GoodIn wsL_law (wsV RL 106 RX12 yX12_feed wsX12_feed) := goodIn_app (goodIn_of _ (by decide +kernel)) ggL_law_X12_feed
set_option maxRecDepth 20000 in
theorem ggL_law_L_tower : GoodIn wsL_law wsL_tower := goodIn_ca (goodIn_r _ [193, 194, 195, 196, 197, 2, 198, 199, 200, 15, 20, 201, 16, 28, 202, 24, 203, 204, 30, 205, 206, 207, 19, 208, 209, 210, 211, 212, 213, 214, 215, 216, 217, 218, 219, 220, 221, 222, 54, 223, 224, 225, 226, 227, 228, 229, 230, 231, 52, 53, 232, 233, 234, 23, 235, 63, 236, 237, 238, 239, 240, 65, 241, 69, 242, 70, 243, 244, 245, 246, 247, 248, 249, 250, 251, 252, 253, 254, 255, 256, 257, 258, 259, 260, 261, 262, 263, 264, 265, 266, 267, 268, 269, 270, 271, 272, 273, 274, 275, 276, 277, 278, 279, 280, 281, 282, 283, 284, 285, 286, 287, 288, 289, 290, 291, 292, 293, 294, 295, 296, 297, 298, 299, 300, 301, 302, 303, 304, 305, 306, 307, 308, 309, 310, 311, 312, 313, 314, 315, 316, 317, 318, 319, 320, 321, 322, 323, 324, 325, 326, 327, 328, 329, 330, 331, 62, 332, 74, 75, 333, 334, 335, 336, 76, 337, 338, 339, 340, 341, 342, 343, 344, 345, 346, 347, 348, 349, 350, 351, 352, 353, 354, 355, 356, 357, 358, 359, 360, 361, 362, 363, 364, 365, 366, 367, 368, 369, 370, 371, 372, 373, 374, 375, 55, 376, 56, 377, 378, 379, 380, 381, 382, 383, 384, 385, 386, 387, 388, 68, 389, 390, 83, 391, 392, 393, 394, 395, 396, 397, 398, 399, 400, 401, 402, 403, 404, 405, 406, 407, 408, 409, 410, 411, 412, 413, 414, 415, 416, 417, 418, 419, 420, 421, 422, 423, 424, 425, 426, 427, 428, 64, 429, 430, 431, 432, 433, 434, 435, 436, 437, 438, 439, 440, 77, 78, 79, 441, 442, 443, 444, 445, 446, 447, 448, 27, 449, 88, 92, 450, 96, 451, 452, 1457, 1458, 1459, 1460, 1461, 1462, 1463, 1464, 1465, 1466, 1467, 1468, 1469, 1535, 1536, 1537, 1538, 1539, 1540, 1541, 1542, 1543, 1544, 1545, 1554, 1555, 1556, 1557, 1546, 1547, 1548, 1549, 1550, 1551, 1552, 1553, 1566, 1567, 1568, 1569, 1570, 1571, 1572, 1573, 1574, 1575, 1576, 1577, 1578, 1579, 1580, 1581, 1582] (by decide +kernel) (by decide +kernel)) (goodIn_sub (fun _ h => List.mem_append_left _ (List.mem_append_right _ h)) (by decide +kernel))
set_option maxRecDepth 20000 in
theorem gL_law_L_tower : GoodIn wsL_law (va_wsS RL 107 yL_tower wsL_tower) := goodIn_app (goodIn_of _ (by decide +kernel)) ggL_law_L_tower
set_option maxRecDepth 20000 in
theorem ggL_law_X12_tower : GoodIn wsL_law wsX12_tower := goodIn_r _ [456, 188, 189, 457, 458, 459, 149, 135, 460, 461, 147, 462, 463, 464, 5, 465, 466, 467, 468, 469, 470, 471, 472, 473, 224, 225, 226, 474, 475, 476, 477, 478, 148, 479, 480, 481, 482, 483, 484, 485, 486, 487, 488, 489, 490, 491, 131, 492, 493, 494, 495, 496, 497, 498, 499, 500, 263, 264, 265, 266, 267, 268, 269, 270, 271, 272, 273, 501, 275, 276, 277, 278, 279, 280, 281, 282, 283, 284, 285, 286, 287, 288, 289, 290, 291, 292, 293, 294, 295, 296, 297, 298, 299, 300, 301, 302, 303, 304, 305, 306, 307, 308, 309, 310, 502, 503, 504, 505, 506, 507, 508, 509, 510, 133, 132, 134, 511, 512, 513, 514, 144, 515, 516, 517, 518, 519, 520, 521, 522, 523, 524, 525, 526, 527, 528, 529, 530, 531, 532, 533, 534, 535, 536, 537, 146, 145, 538, 539, 540, 541, 542, 543, 544, 545, 546, 547, 548, 549, 550, 551, 552, 553, 554, 555, 556, 557, 558, 559, 560, 561, 562, 139, 140, 141, 142, 143, 563, 564, 565, 566, 567, 568, 569, 570, 136, 137, 138, 571, 572, 573, 574, 575, 152, 150, 151, 153, 154, 155, 156, 157, 576, 577, 578, 579, 580, 581, 1470, 1471, 1472, 1473, 1474, 1475, 1476, 1477, 1478, 1479, 1480, 1481, 1482, 1483, 1484, 1485, 1486, 1487, 1488, 1489, 1490, 1491, 1492, 1493, 1494, 1495, 1496, 1497, 1498, 1499, 1500, 1501, 1502, 1503, 1504, 1505, 1506, 1507, 1508, 1509, 1510, 1511, 1512, 1513, 1514, 1515, 1516, 1517, 1518, 1519, 1520, 1521, 1522, 1523, 1524, 1525, 1526, 1527, 1528, 1529, 1530, 1531, 1532, 1533, 1534] (by decide +kernel) (by decide +kernel)
set_option maxRecDepth 20000 in
theorem gL_law_X12_tower : GoodIn wsL_law (wsV RL 112 RX12 yX12_tower wsX12_tower) := goodIn_app (goodIn_of _ (by decide +kernel)) ggL_law_X12_tower
set_option maxRecDepth 20000 in
theorem ggL_law_X11_fault : GoodIn wsL_law wsX11_fault := goodIn_r _ [585, 16, 1457, 1458, 1459, 1460, 1461, 1462, 1463, 1464, 1465, 1466, 1467, 1468, 1469] (by decide +kernel) (by decide +kernel)
set_option maxRecDepth 20000 in
theorem gL_law_X11_fault : GoodIn wsL_law (wsV RL 113 RX11 yX11_fault wsX11_fault) := goodIn_app (goodIn_of _ (by decide +kernel)) ggL_law_X11_fault
set_option maxRecDepth 20000 in
theorem ggL_law_X12_fault : GoodIn wsL_law wsX12_fault := goodIn_r _ [589, 188, 149, 1470, 1471, 1472, 1473, 1474, 1475, 1476, 1477, 1478, 1479, 1480, 1481, 1482, 1483, 1484, 1485, 1486, 1487, 1488, 1489, 1490, 1491, 1492, 1493, 1494, 1495, 1496, 1497, 1498, 1499, 1500, 1501, 1502, 1503, 1504, 1505, 1506, 1507, 1508, 1509, 1510, 1511, 1512, 1513, 1514, 1515, 1516, 1517, 1518, 1519, 1520, 1521, 1522, 1523, 1524, 1525, 1526, 1527, 1528, 1529, 1530, 1531, 1532, 1533, 1534] (by decide +kernel) (by decide +kernel)
set_option maxRecDepth 20000 in
theorem gL_law_X12_fault : GoodIn wsL_law (wsV RL 117 RX12 yX12_fault wsX12_fault) := goodIn_app (goodIn_of _ (by decide +kernel)) ggL_law_X12_fault
set_option maxRecDepth 20000 in
theorem ggL_law_L_count : GoodIn wsL_law wsL_count := goodIn_ca (goodIn_r _ [592, 593, 594, 595, 596, 2, 597, 598, 599, 28, 38, 600, 601, 602, 24, 603, 604, 605, 606, 607, 15, 202, 608, 609, 610, 23, 611, 240, 64, 612, 613, 614, 62, 615, 437, 76, 616, 617, 618, 619, 620, 621, 622, 623, 624, 625, 626, 438, 79, 627, 628, 629, 630, 631, 632, 633, 634, 635, 350, 351, 636, 637, 638, 639, 74, 640, 641, 225, 642, 75, 643, 644, 645, 646, 337, 228, 229, 647, 224, 226, 1457, 1458, 1459, 1460, 1461, 1462, 1463, 1464, 1465, 1466, 1467, 1468, 1469, 1554, 1555, 1556, 1557, 1566, 1567, 1568, 1569, 1570, 1571, 1572, 1573, 1574, 1546, 1547, 1548, 1549, 1550, 1551, 1552, 1553, 1577, 1578, 1579, 1580, 1581, 1582] (by decide +kernel) (by decide +kernel)) (goodIn_sub (fun _ h => List.mem_append_right _ h) (by decide +kernel))
set_option maxRecDepth 20000 in
theorem gL_law_L_count : GoodIn wsL_law (va_wsS RL 118 yL_count wsL_count) := goodIn_app (goodIn_of _ (by decide +kernel)) ggL_law_L_count
set_option maxRecDepth 20000 in
theorem ggL_law_X12_count : GoodIn wsL_law wsX12_count := goodIn_r _ [651, 188, 135, 575, 576, 577, 189, 147, 652, 653, 654, 5, 655, 144, 656, 657, 658, 659, 152, 660, 661, 662, 663, 157, 664, 665, 666, 667, 668, 669, 670, 671, 672, 673, 674, 675, 153, 676, 641, 225, 642, 154, 677, 678, 679, 680, 681, 228, 229, 682, 683, 684, 462, 463, 464, 465, 1470, 1471, 1472, 1473, 1474, 1475, 1476, 1477, 1478, 1479, 1480, 1481, 1482, 1483, 1484, 1485, 1486, 1487, 1488, 1489, 1490, 1491, 1492, 1493, 1494, 1495, 1496, 1497, 1498, 1499, 1500, 1501, 1502, 1503, 1504, 1505, 1506, 1507, 1508, 1509, 1510, 1511, 1512, 1513, 1514, 1515, 1516, 1517, 1518, 1519, 1520, 1521, 1522, 1523, 1524, 1525, 1526, 1527, 1528, 1529, 1530, 1531, 1532, 1533, 1534] (by decide +kernel) (by decide +kernel)
set_option maxRecDepth 20000 in
theorem gL_law_X12_count : GoodIn wsL_law (wsV RL 120 RX12 yX12_count wsX12_count) := goodIn_app (goodIn_of _ (by decide +kernel)) ggL_law_X12_count
set_option maxRecDepth 20000 in
theorem ggL_law_L_gargoyle : GoodIn wsL_law wsL_gargoyle := goodIn_ca (goodIn_r _ [687, 593, 688, 689, 690, 2, 691, 598, 599, 28, 38, 692, 693, 694, 695, 696, 697, 698, 600, 699, 700, 701, 62, 702, 438, 79, 703, 704, 705, 706, 78, 1457, 1458, 1459, 1460, 1461, 1462, 1463, 1464, 1465, 1466, 1467, 1468, 1469, 1554, 1555, 1556, 1557, 1566, 1567, 1568, 1569, 1570, 1571, 1572, 1573, 1574] (by decide +kernel) (by decide +kernel)) (goodIn_sub (fun _ h => List.mem_append_right _ h) (by decide +kernel))
set_option maxRecDepth 20000 in
theorem gL_law_L_gargoyle : GoodIn wsL_law (va_wsS RL 121 yL_gargoyle wsL_gargoyle) := goodIn_app (goodIn_of _ (by decide +kernel)) ggL_law_L_gargoyle
set_option maxRecDepth 20000 in
theorem ggL_law_X12_gargoyle : GoodIn wsL_law wsX12_gargoyle := goodIn_r _ [710, 188, 150, 151, 152, 711, 712, 713, 5, 714, 135, 715, 716, 717, 462, 463, 464, 465, 718, 719, 720, 721, 157, 722, 723, 724, 725, 156, 1470, 1471, 1472, 1473, 1474, 1475, 1476, 1477, 1478, 1479, 1480, 1481, 1482, 1483, 1484, 1485, 1486, 1487, 1488, 1489, 1490, 1491, 1492, 1493, 1494, 1495, 1496, 1497, 1498, 1499, 1500, 1501, 1502, 1503, 1504, 1505, 1506, 1507, 1508, 1509, 1510, 1511, 1512, 1513, 1514, 1515, 1516, 1517, 1518, 1519, 1520, 1521, 1522, 1523, 1524, 1525, 1526, 1527, 1528, 1529, 1530, 1531, 1532, 1533, 1534] (by decide +kernel) (by decide +kernel)
set_option maxRecDepth 20000 in
theorem gL_law_X12_gargoyle : GoodIn wsL_law (wsV RL 124 RX12 yX12_gargoyle wsX12_gargoyle) := goodIn_app (goodIn_of _ (by decide +kernel)) ggL_law_X12_gargoyle
set_option maxRecDepth 20000 in
theorem ggL_law_L_person : GoodIn wsL_law wsL_person := goodIn_ca (goodIn_r _ [728, 593, 729, 730, 731, 2, 732, 598, 599, 28, 38, 692, 693, 733, 734, 735, 24, 736, 737, 738, 739, 740, 601, 741, 350, 62, 351, 1457, 1458, 1459, 1460, 1461, 1462, 1463, 1464, 1465, 1466, 1467, 1468, 1469, 1554, 1555, 1556, 1557, 1566, 1567, 1568, 1569, 1570, 1571, 1572, 1573, 1574, 1546, 1547, 1548, 1549, 1550, 1551, 1552, 1553] (by decide +kernel) (by decide +kernel)) (goodIn_sub (fun _ h => List.mem_append_right _ h) (by decide +kernel))
set_option maxRecDepth 20000 in
theorem gL_law_L_person : GoodIn wsL_law (va_wsS RL 125 yL_person wsL_person) := goodIn_app (goodIn_of _ (by decide +kernel)) ggL_law_L_person
set_option maxRecDepth 20000 in
theorem ggL_law_X12_person : GoodIn wsL_law wsX12_person := goodIn_r _ [745, 188, 153, 154, 155, 156, 157, 139, 746, 747, 748, 5, 749, 135, 715, 716, 717, 462, 463, 464, 465, 1470, 1471, 1472, 1473, 1474, 1475, 1476, 1477, 1478, 1479, 1480, 1481, 1482, 1483, 1484, 1485, 1486, 1487, 1488, 1489, 1490, 1491, 1492, 1493, 1494, 1495, 1496, 1497, 1498, 1499, 1500, 1501, 1502, 1503, 1504, 1505, 1506, 1507, 1508, 1509, 1510, 1511, 1512, 1513, 1514, 1515, 1516, 1517, 1518, 1519, 1520, 1521, 1522, 1523, 1524, 1525, 1526, 1527, 1528, 1529, 1530, 1531, 1532, 1533, 1534] (by decide +kernel) (by decide +kernel)
set_option maxRecDepth 20000 in
theorem gL_law_X12_person : GoodIn wsL_law (wsV RL 127 RX12 yX12_person wsX12_person) := goodIn_app (goodIn_of _ (by decide +kernel)) ggL_law_X12_person
set_option maxRecDepth 20000 in
theorem ggL_law_X11_years : GoodIn wsL_law wsX11_years := goodIn_r _ [753, 28, 38, 602, 604, 34, 754, 755, 756, 757, 2, 758, 202, 759, 760, 761, 91, 762, 763, 101, 764, 430, 431, 432, 765, 766, 767, 62, 768, 74, 440, 75, 76, 77, 78, 79, 439, 769, 770, 771, 33, 772, 113, 773, 774, 434, 435, 436, 437, 438, 775, 776, 777, 778, 116, 779, 780, 609, 610, 23, 611, 240, 64, 781, 782, 783, 784, 114, 785, 786, 787, 788, 789, 790, 791, 792, 793, 224, 225, 226, 794, 228, 229, 795, 796, 797, 798, 799, 800, 801, 802, 115, 803, 804, 805, 68, 806, 390, 83, 807, 808, 809, 810, 334, 335, 336, 337, 338, 330, 331, 332, 811, 812, 813, 814, 815, 816, 817, 818, 819, 820, 821, 822, 823, 635, 350, 351, 824, 825, 826, 827, 828, 618, 829, 830, 831, 832, 833, 834, 835, 836, 837, 838, 839, 840, 841, 637, 638, 639, 640, 641, 642, 842, 843, 844, 845, 636, 846, 1457, 1458, 1459, 1460, 1461, 1462, 1463, 1464, 1465, 1466, 1467, 1468, 1469, 1554, 1555, 1556, 1557, 1566, 1567, 1568, 1569, 1570, 1571, 1572, 1573, 1574, 1558, 1559, 1560, 1561, 1562, 1577, 1578, 1546, 1547, 1548, 1549, 1550, 1551, 1552, 1553, 1575, 1576] (by decide +kernel) (by decide +kernel)
set_option maxRecDepth 20000 in
theorem gL_law_X11_years : GoodIn wsL_law (wsV RL 128 RX11 yX11_years wsX11_years) := goodIn_app (goodIn_of _ (by decide +kernel)) ggL_law_X11_years
set_option maxRecDepth 20000 in
theorem ggL_law_X12_years : GoodIn wsL_law wsX12_years := goodIn_r _ [850, 188, 851, 575, 715, 716, 5, 717, 852, 853, 854, 855, 147, 856, 857, 858, 859, 576, 158, 860, 861, 862, 863, 150, 151, 152, 153, 154, 155, 156, 157, 864, 865, 866, 867, 652, 653, 654, 655, 135, 144, 868, 869, 870, 871, 872, 873, 874, 875, 681, 228, 225, 229, 718, 719, 720, 721, 876, 877, 878, 879, 159, 145, 473, 224, 226, 880, 881, 882, 883, 884, 885, 886, 887, 160, 888, 889, 890, 891, 892, 893, 894, 139, 895, 896, 897, 898, 899, 900, 901, 902, 903, 904, 905, 906, 146, 907, 908, 909, 910, 676, 641, 642, 911, 912, 913, 914, 1470, 1471, 1472, 1473, 1474, 1475, 1476, 1477, 1478, 1479, 1480, 1481, 1482, 1483, 1484, 1485, 1486, 1487, 1488, 1489, 1490, 1491, 1492, 1493, 1494, 1495, 1496, 1497, 1498, 1499, 1500, 1501, 1502, 1503, 1504, 1505, 1506, 1507, 1508, 1509, 1510, 1511, 1512, 1513, 1514, 1515, 1516, 1517, 1518, 1519, 1520, 1521, 1522, 1523, 1524, 1525, 1526, 1527, 1528, 1529, 1530, 1531, 1532, 1533, 1534] (by decide +kernel) (by decide +kernel)
set_option maxRecDepth 20000 in
theorem gL_law_X12_years : GoodIn wsL_law (wsV RL 131 RX12 yX12_years wsX12_years) := goodIn_app (goodIn_of _ (by decide +kernel)) ggL_law_X12_years
set_option maxRecDepth 20000 in
theorem ggL_law_L_cut : GoodIn wsL_law wsL_cut := goodIn_ca (goodIn_r _ [917, 593, 918, 919, 920, 2, 921, 28, 604, 38, 694, 695, 696, 697, 698, 598, 599, 600, 755, 756, 757, 758, 202, 759, 760, 761, 91, 762, 763, 101, 764, 430, 431, 432, 765, 766, 767, 62, 768, 74, 440, 75, 76, 77, 78, 79, 439, 922, 923, 924, 925, 338, 330, 331, 332, 1457, 1458, 1459, 1460, 1461, 1462, 1463, 1464, 1465, 1466, 1467, 1468, 1469, 1554, 1555, 1556, 1557, 1566, 1567, 1568, 1569, 1570, 1571, 1572, 1573, 1574, 1577, 1578] (by decide +kernel) (by decide +kernel)) (goodIn_sub (fun _ h => List.mem_append_right _ h) (by decide +kernel))
set_option maxRecDepth 20000 in
theorem gL_law_L_cut : GoodIn wsL_law (va_wsS RL 132 yL_cut wsL_cut) := goodIn_app (goodIn_of _ (by decide +kernel)) ggL_law_L_cut
set_option maxRecDepth 20000 in
theorem ggL_law_X12_cut : GoodIn wsL_law wsX12_cut := goodIn_r _ [929, 188, 930, 152, 711, 712, 713, 5, 714, 135, 715, 716, 717, 462, 463, 464, 465, 852, 853, 854, 855, 147, 856, 857, 858, 859, 576, 158, 860, 861, 862, 863, 575, 150, 151, 153, 154, 155, 156, 157, 931, 932, 933, 934, 1470, 1471, 1472, 1473, 1474, 1475, 1476, 1477, 1478, 1479, 1480, 1481, 1482, 1483, 1484, 1485, 1486, 1487, 1488, 1489, 1490, 1491, 1492, 1493, 1494, 1495, 1496, 1497, 1498, 1499, 1500, 1501, 1502, 1503, 1504, 1505, 1506, 1507, 1508, 1509, 1510, 1511, 1512, 1513, 1514, 1515, 1516, 1517, 1518, 1519, 1520, 1521, 1522, 1523, 1524, 1525, 1526, 1527, 1528, 1529, 1530, 1531, 1532, 1533, 1534] (by decide +kernel) (by decide +kernel)
set_option maxRecDepth 20000 in
theorem gL_law_X12_cut : GoodIn wsL_law (wsV RL 135 RX12 yX12_cut wsX12_cut) := goodIn_app (goodIn_of _ (by decide +kernel)) ggL_law_X12_cut
set_option maxRecDepth 20000 in
theorem ggL_law_L_call : GoodIn wsL_law wsL_call := goodIn_ca (goodIn_r _ [937, 593, 938, 939, 940, 2, 941, 28, 38, 735, 604, 737, 738, 739, 740, 598, 599, 601, 755, 756, 757, 758, 202, 759, 760, 761, 91, 762, 763, 101, 764, 430, 431, 432, 765, 766, 767, 62, 768, 74, 440, 75, 76, 77, 78, 79, 439, 1457, 1458, 1459, 1460, 1461, 1462, 1463, 1464, 1465, 1466, 1467, 1468, 1469, 1554, 1555, 1556, 1557, 1566, 1567, 1568, 1569, 1570, 1571, 1572, 1573, 1574, 1577, 1578] (by decide +kernel) (by decide +kernel)) (goodIn_sub (fun _ h => List.mem_append_right _ h) (by decide +kernel))
set_option maxRecDepth 20000 in
theorem gL_law_L_call : GoodIn wsL_law (va_wsS RL 136 yL_call wsL_call) := goodIn_app (goodIn_of _ (by decide +kernel)) ggL_law_L_call
set_option maxRecDepth 20000 in
theorem ggL_law_X12_call : GoodIn wsL_law wsX12_call := goodIn_r _ [945, 188, 157, 746, 747, 748, 5, 749, 135, 715, 716, 717, 462, 463, 464, 465, 852, 853, 854, 855, 147, 856, 857, 858, 859, 576, 158, 860, 861, 862, 863, 575, 150, 151, 152, 153, 154, 155, 156, 1470, 1471, 1472, 1473, 1474, 1475, 1476, 1477, 1478, 1479, 1480, 1481, 1482, 1483, 1484, 1485, 1486, 1487, 1488, 1489, 1490, 1491, 1492, 1493, 1494, 1495, 1496, 1497, 1498, 1499, 1500, 1501, 1502, 1503, 1504, 1505, 1506, 1507, 1508, 1509, 1510, 1511, 1512, 1513, 1514, 1515, 1516, 1517, 1518, 1519, 1520, 1521, 1522, 1523, 1524, 1525, 1526, 1527, 1528, 1529, 1530, 1531, 1532, 1533, 1534] (by decide +kernel) (by decide +kernel)
set_option maxRecDepth 20000 in
theorem gL_law_X12_call : GoodIn wsL_law (wsV RL 138 RX12 yX12_call wsX12_call) := goodIn_app (goodIn_of _ (by decide +kernel)) ggL_law_X12_call
set_option maxRecDepth 20000 in
theorem ggL_law_L_lift : GoodIn wsL_law wsL_lift := goodIn_ca (goodIn_r _ [948, 593, 949, 950, 951, 2, 952, 28, 38, 735, 604, 737, 738, 739, 740, 598, 599, 601, 695, 696, 697, 698, 600, 699, 700, 701, 62, 702, 438, 79, 755, 756, 757, 758, 202, 759, 760, 761, 91, 762, 763, 101, 764, 430, 431, 432, 765, 766, 767, 768, 74, 440, 75, 76, 77, 78, 439, 1457, 1458, 1459, 1460, 1461, 1462, 1463, 1464, 1465, 1466, 1467, 1468, 1469, 1554, 1555, 1556, 1557, 1566, 1567, 1568, 1569, 1570, 1571, 1572, 1573, 1574, 1577, 1578] (by decide +kernel) (by decide +kernel)) (goodIn_sub (fun _ h => List.mem_append_right _ h) (by decide +kernel))
set_option maxRecDepth 20000 in
theorem gL_law_L_lift : GoodIn wsL_law (va_wsS RL 139 yL_lift wsL_lift) := goodIn_app (goodIn_of _ (by decide +kernel)) ggL_law_L_lift
set_option maxRecDepth 20000 in
theorem ggL_law_X12_lift : GoodIn wsL_law wsX12_lift := goodIn_r _ [956, 188, 157, 147, 746, 747, 748, 5, 749, 135, 715, 716, 717, 711, 712, 713, 714, 957, 958, 959, 960, 718, 719, 720, 721, 856, 857, 858, 859, 576, 158, 860, 861, 862, 863, 575, 150, 151, 152, 153, 154, 155, 156, 1470, 1471, 1472, 1473, 1474, 1475, 1476, 1477, 1478, 1479, 1480, 1481, 1482, 1483, 1484, 1485, 1486, 1487, 1488, 1489, 1490, 1491, 1492, 1493, 1494, 1495, 1496, 1497, 1498, 1499, 1500, 1501, 1502, 1503, 1504, 1505, 1506, 1507, 1508, 1509, 1510, 1511, 1512, 1513, 1514, 1515, 1516, 1517, 1518, 1519, 1520, 1521, 1522, 1523, 1524, 1525, 1526, 1527, 1528, 1529, 1530, 1531, 1532, 1533, 1534] (by decide +kernel) (by decide +kernel)
set_option maxRecDepth 20000 in
theorem gL_law_X12_lift : GoodIn wsL_law (wsV RL 141 RX12 yX12_lift wsX12_lift) := goodIn_app (goodIn_of _ (by decide +kernel)) ggL_law_X12_lift
set_option maxRecDepth 20000 in
theorem ggL_law_L_leave : GoodIn wsL_law wsL_leave := goodIn_ca (goodIn_r _ [963, 593, 964, 965, 966, 2, 967, 28, 38, 734, 604, 737, 738, 739, 740, 598, 599, 601, 695, 696, 697, 698, 600, 755, 756, 757, 758, 202, 759, 760, 761, 91, 762, 763, 101, 764, 430, 431, 432, 765, 766, 767, 62, 768, 74, 440, 75, 76, 77, 78, 79, 439, 1457, 1458, 1459, 1460, 1461, 1462, 1463, 1464, 1465, 1466, 1467, 1468, 1469, 1554, 1555, 1556, 1557, 1566, 1567, 1568, 1569, 1570, 1571, 1572, 1573, 1574, 1577, 1578] (by decide +kernel) (by decide +kernel)) (goodIn_sub (fun _ h => List.mem_append_right _ h) (by decide +kernel))
set_option maxRecDepth 20000 in
theorem gL_law_L_leave : GoodIn wsL_law (va_wsS RL 142 yL_leave wsL_leave) := goodIn_app (goodIn_of _ (by decide +kernel)) ggL_law_L_leave
set_option maxRecDepth 20000 in
theorem ggL_law_X12_leave : GoodIn wsL_law wsX12_leave := goodIn_r _ [971, 188, 972, 135, 156, 147, 746, 747, 748, 5, 749, 715, 716, 717, 462, 463, 464, 465, 856, 857, 858, 859, 576, 158, 860, 861, 862, 863, 575, 150, 151, 152, 153, 154, 155, 157, 1470, 1471, 1472, 1473, 1474, 1475, 1476, 1477, 1478, 1479, 1480, 1481, 1482, 1483, 1484, 1485, 1486, 1487, 1488, 1489, 1490, 1491, 1492, 1493, 1494, 1495, 1496, 1497, 1498, 1499, 1500, 1501, 1502, 1503, 1504, 1505, 1506, 1507, 1508, 1509, 1510, 1511, 1512, 1513, 1514, 1515, 1516, 1517, 1518, 1519, 1520, 1521, 1522, 1523, 1524, 1525, 1526, 1527, 1528, 1529, 1530, 1531, 1532, 1533, 1534] (by decide +kernel) (by decide +kernel)
set_option maxRecDepth 20000 in
theorem gL_law_X12_leave : GoodIn wsL_law (wsV RL 144 RX12 yX12_leave wsX12_leave) := goodIn_app (goodIn_of _ (by decide +kernel)) ggL_law_X12_leave
set_option maxRecDepth 20000 in
theorem ggL_law_X11_undo : GoodIn wsL_law wsX11_undo := goodIn_r _ [976, 28, 604, 605, 38, 977, 978, 979, 91, 980, 763, 101, 981, 982, 983, 62, 984, 74, 440, 430, 431, 432, 75, 76, 77, 78, 79, 439, 1457, 1458, 1459, 1460, 1461, 1462, 1463, 1464, 1465, 1466, 1467, 1468, 1469, 1554, 1555, 1556, 1557, 1577, 1578, 1566, 1567, 1568, 1569, 1570, 1571, 1572, 1573, 1574] (by decide +kernel) (by decide +kernel)
set_option maxRecDepth 20000 in
theorem gL_law_X11_undo : GoodIn wsL_law (wsV RL 145 RX11 yX11_undo wsX11_undo) := goodIn_app (goodIn_of _ (by decide +kernel)) ggL_law_X11_undo
set_option maxRecDepth 20000 in
theorem ggL_law_X12_undo : GoodIn wsL_law wsX12_undo := goodIn_r _ [988, 188, 576, 158, 989, 990, 991, 5, 992, 575, 150, 151, 152, 153, 154, 155, 156, 157, 1470, 1471, 1472, 1473, 1474, 1475, 1476, 1477, 1478, 1479, 1480, 1481, 1482, 1483, 1484, 1485, 1486, 1487, 1488, 1489, 1490, 1491, 1492, 1493, 1494, 1495, 1496, 1497, 1498, 1499, 1500, 1501, 1502, 1503, 1504, 1505, 1506, 1507, 1508, 1509, 1510, 1511, 1512, 1513, 1514, 1515, 1516, 1517, 1518, 1519, 1520, 1521, 1522, 1523, 1524, 1525, 1526, 1527, 1528, 1529, 1530, 1531, 1532, 1533, 1534] (by decide +kernel) (by decide +kernel)
set_option maxRecDepth 20000 in
theorem gL_law_X12_undo : GoodIn wsL_law (wsV RL 148 RX12 yX12_undo wsX12_undo) := goodIn_app (goodIn_of _ (by decide +kernel)) ggL_law_X12_undo
set_option maxRecDepth 20000 in
theorem ggL_law_L_then : GoodIn wsL_law wsL_then := goodIn_ca (goodIn_ca (goodIn_r _ [995, 593, 194, 996, 997, 998, 2, 999, 694, 692, 693, 695, 696, 697, 698, 598, 599, 28, 38, 600, 1000, 1001, 1002, 1003, 1004, 1005, 1006, 34, 754, 1007, 1008, 1009, 199, 200, 769, 770, 771, 33, 772, 113, 773, 774, 434, 435, 62, 436, 437, 438, 439, 74, 440, 430, 431, 432, 75, 76, 77, 78, 79, 775, 776, 777, 778, 116, 779, 780, 609, 610, 23, 611, 240, 64, 781, 782, 783, 784, 114, 785, 786, 787, 788, 789, 790, 791, 792, 793, 224, 225, 226, 794, 228, 229, 795, 796, 797, 798, 799, 800, 801, 802, 115, 803, 804, 805, 68, 806, 390, 83, 807, 808, 809, 810, 334, 335, 336, 337, 338, 330, 331, 332, 811, 812, 813, 814, 815, 816, 817, 818, 819, 820, 821, 822, 823, 635, 350, 351, 824, 825, 826, 827, 828, 618, 829, 830, 831, 832, 833, 834, 835, 836, 837, 838, 839, 840, 841, 637, 638, 639, 640, 641, 642, 842, 843, 844, 845, 636, 699, 700, 701, 702, 1566, 1567, 1568, 1569, 1570, 1571, 1572, 1573, 1574, 1457, 1458, 1459, 1460, 1461, 1462, 1463, 1464, 1465, 1466, 1467, 1468, 1469, 1554, 1555, 1556, 1557, 1558, 1559, 1560, 1561, 1562, 1546, 1547, 1548, 1549, 1550, 1551, 1552, 1553, 1575, 1576] (by decide +kernel) (by decide +kernel)) (goodIn_sub (fun _ h => List.mem_append_right _ h) (by decide +kernel))) (goodIn_sub (fun _ h => List.mem_append_left _ (List.mem_append_right _ h)) (by decide +kernel))
set_option maxRecDepth 20000 in
theorem gL_law_L_then : GoodIn wsL_law (va_wsS RL 149 yL_then wsL_then) := goodIn_app (goodIn_of _ (by decide +kernel)) ggL_law_L_then
set_option maxRecDepth 20000 in
theorem ggL_law_X12_then : GoodIn wsL_law wsX12_then := goodIn_r _ [1013, 188, 1014, 1015, 161, 152, 150, 151, 711, 712, 713, 5, 714, 135, 715, 716, 717, 462, 463, 464, 465, 860, 861, 862, 863, 575, 153, 154, 155, 156, 157, 864, 865, 866, 867, 652, 653, 654, 655, 144, 868, 869, 870, 871, 872, 873, 874, 875, 681, 228, 225, 229, 718, 719, 720, 721, 876, 877, 878, 879, 159, 145, 473, 224, 226, 880, 881, 882, 883, 884, 885, 886, 887, 160, 888, 889, 890, 891, 892, 893, 894, 139, 895, 896, 897, 898, 899, 900, 901, 902, 903, 904, 905, 906, 146, 907, 908, 909, 910, 676, 641, 642, 911, 912, 913, 914, 989, 990, 991, 992, 1470, 1471, 1472, 1473, 1474, 1475, 1476, 1477, 1478, 1479, 1480, 1481, 1482, 1483, 1484, 1485, 1486, 1487, 1488, 1489, 1490, 1491, 1492, 1493, 1494, 1495, 1496, 1497, 1498, 1499, 1500, 1501, 1502, 1503, 1504, 1505, 1506, 1507, 1508, 1509, 1510, 1511, 1512, 1513, 1514, 1515, 1516, 1517, 1518, 1519, 1520, 1521, 1522, 1523, 1524, 1525, 1526, 1527, 1528, 1529, 1530, 1531, 1532, 1533, 1534] (by decide +kernel) (by decide +kernel)
set_option maxRecDepth 20000 in
theorem gL_law_X12_then : GoodIn wsL_law (wsV RL 151 RX12 yX12_then wsX12_then) := goodIn_app (goodIn_of _ (by decide +kernel)) ggL_law_X12_then
set_option maxRecDepth 20000 in
theorem ggL_law_L_where : GoodIn wsL_law wsL_where := goodIn_ca (goodIn_ca (goodIn_r _ [1018, 593, 194, 1019, 1020, 1021, 2, 1022, 735, 692, 693, 733, 737, 738, 739, 740, 598, 599, 28, 38, 601, 1000, 1001, 1002, 1003, 1004, 1005, 1006, 34, 754, 1007, 1008, 1009, 199, 200, 769, 770, 771, 33, 772, 113, 773, 774, 434, 435, 62, 436, 437, 438, 439, 74, 440, 430, 431, 432, 75, 76, 77, 78, 79, 775, 776, 777, 778, 116, 779, 780, 609, 610, 23, 611, 240, 64, 781, 782, 783, 784, 114, 785, 786, 787, 788, 789, 790, 791, 792, 793, 224, 225, 226, 794, 228, 229, 795, 796, 797, 798, 799, 800, 801, 802, 115, 803, 804, 805, 68, 806, 390, 83, 807, 808, 809, 810, 334, 335, 336, 337, 338, 330, 331, 332, 811, 812, 813, 814, 815, 816, 817, 818, 819, 820, 821, 822, 823, 635, 350, 351, 824, 825, 826, 827, 828, 618, 829, 830, 831, 832, 833, 834, 835, 836, 837, 838, 839, 840, 841, 637, 638, 639, 640, 641, 642, 842, 843, 844, 845, 636, 1023, 741, 1024, 1566, 1567, 1568, 1569, 1570, 1571, 1572, 1573, 1574, 1457, 1458, 1459, 1460, 1461, 1462, 1463, 1464, 1465, 1466, 1467, 1468, 1469, 1554, 1555, 1556, 1557, 1558, 1559, 1560, 1561, 1562, 1546, 1547, 1548, 1549, 1550, 1551, 1552, 1553, 1575, 1576] (by decide +kernel) (by decide +kernel)) (goodIn_sub (fun _ h => List.mem_append_right _ h) (by decide +kernel))) (goodIn_sub (fun _ h => List.mem_append_left _ (List.mem_append_right _ h)) (by decide +kernel))
set_option maxRecDepth 20000 in
theorem gL_law_L_where : GoodIn wsL_law (va_wsS RL 152 yL_where wsL_where) := goodIn_app (goodIn_of _ (by decide +kernel)) ggL_law_L_where
set_option maxRecDepth 20000 in
theorem ggL_law_X12_where : GoodIn wsL_law wsX12_where := goodIn_r _ [1028, 188, 1029, 1015, 161, 157, 153, 154, 155, 746, 747, 748, 5, 749, 135, 715, 716, 717, 462, 463, 464, 465, 860, 861, 862, 863, 575, 150, 151, 152, 156, 864, 865, 866, 867, 652, 653, 654, 655, 144, 868, 869, 870, 871, 872, 873, 874, 875, 681, 228, 225, 229, 718, 719, 720, 721, 876, 877, 878, 879, 159, 145, 473, 224, 226, 880, 881, 882, 883, 884, 885, 886, 887, 160, 888, 889, 890, 891, 892, 893, 894, 139, 895, 896, 897, 898, 899, 900, 901, 902, 903, 904, 905, 906, 146, 907, 908, 909, 910, 676, 641, 642, 911, 912, 913, 914, 989, 990, 991, 992, 1470, 1471, 1472, 1473, 1474, 1475, 1476, 1477, 1478, 1479, 1480, 1481, 1482, 1483, 1484, 1485, 1486, 1487, 1488, 1489, 1490, 1491, 1492, 1493, 1494, 1495, 1496, 1497, 1498, 1499, 1500, 1501, 1502, 1503, 1504, 1505, 1506, 1507, 1508, 1509, 1510, 1511, 1512, 1513, 1514, 1515, 1516, 1517, 1518, 1519, 1520, 1521, 1522, 1523, 1524, 1525, 1526, 1527, 1528, 1529, 1530, 1531, 1532, 1533, 1534] (by decide +kernel) (by decide +kernel)
set_option maxRecDepth 20000 in
theorem gL_law_X12_where : GoodIn wsL_law (wsV RL 154 RX12 yX12_where wsX12_where) := goodIn_app (goodIn_of _ (by decide +kernel)) ggL_law_X12_where
set_option maxRecDepth 20000 in
theorem ggL_law_L_loaf : GoodIn wsL_law wsL_loaf := goodIn_ca (goodIn_r _ [1032, 593, 1033, 1034, 1035, 2, 1036, 34, 28, 38, 695, 696, 697, 698, 598, 599, 600, 769, 770, 771, 33, 772, 113, 773, 774, 434, 435, 62, 436, 437, 438, 439, 74, 440, 430, 431, 432, 75, 76, 77, 78, 79, 1037, 1038, 1039, 1040, 790, 116, 779, 780, 609, 610, 23, 611, 240, 64, 781, 782, 783, 784, 114, 785, 786, 787, 788, 789, 791, 792, 793, 224, 225, 226, 794, 228, 229, 795, 796, 797, 798, 799, 800, 801, 802, 115, 803, 804, 805, 68, 806, 390, 83, 807, 808, 809, 810, 334, 335, 336, 337, 338, 330, 331, 332, 811, 812, 813, 814, 815, 816, 817, 818, 819, 820, 821, 822, 823, 635, 350, 351, 824, 825, 826, 827, 828, 618, 829, 830, 831, 832, 833, 834, 835, 836, 837, 838, 839, 840, 841, 637, 638, 639, 640, 641, 642, 842, 843, 844, 845, 636, 1457, 1458, 1459, 1460, 1461, 1462, 1463, 1464, 1465, 1466, 1467, 1468, 1469, 1554, 1555, 1556, 1557, 1566, 1567, 1568, 1569, 1570, 1571, 1572, 1573, 1574, 1558, 1559, 1560, 1561, 1562, 1546, 1547, 1548, 1549, 1550, 1551, 1552, 1553, 1575, 1576] (by decide +kernel) (by decide +kernel)) (goodIn_sub (fun _ h => List.mem_append_right _ h) (by decide +kernel))
set_option maxRecDepth 20000 in
theorem gL_law_L_loaf : GoodIn wsL_law (va_wsS RL 155 yL_loaf wsL_loaf) := goodIn_app (goodIn_of _ (by decide +kernel)) ggL_law_L_loaf
set_option maxRecDepth 20000 in
theorem ggL_law_X12_loaf : GoodIn wsL_law wsX12_loaf := goodIn_r _ [1044, 188, 161, 711, 712, 713, 5, 714, 135, 715, 716, 717, 462, 463, 464, 465, 860, 861, 862, 863, 575, 150, 151, 152, 153, 154, 155, 156, 157, 1045, 1046, 1047, 1048, 864, 865, 866, 867, 652, 653, 654, 655, 144, 868, 869, 870, 871, 872, 873, 874, 875, 681, 228, 225, 229, 718, 719, 720, 721, 876, 877, 878, 879, 159, 145, 473, 224, 226, 880, 881, 882, 883, 884, 885, 886, 887, 160, 888, 889, 890, 891, 892, 893, 894, 139, 895, 896, 897, 898, 899, 900, 901, 902, 903, 904, 905, 906, 146, 907, 908, 909, 910, 676, 641, 642, 911, 912, 913, 914, 989, 990, 991, 992, 1470, 1471, 1472, 1473, 1474, 1475, 1476, 1477, 1478, 1479, 1480, 1481, 1482, 1483, 1484, 1485, 1486, 1487, 1488, 1489, 1490, 1491, 1492, 1493, 1494, 1495, 1496, 1497, 1498, 1499, 1500, 1501, 1502, 1503, 1504, 1505, 1506, 1507, 1508, 1509, 1510, 1511, 1512, 1513, 1514, 1515, 1516, 1517, 1518, 1519, 1520, 1521, 1522, 1523, 1524, 1525, 1526, 1527, 1528, 1529, 1530, 1531, 1532, 1533, 1534] (by decide +kernel) (by decide +kernel)
set_option maxRecDepth 20000 in
theorem gL_law_X12_loaf : GoodIn wsL_law (wsV RL 157 RX12 yX12_loaf wsX12_loaf) := goodIn_app (goodIn_of _ (by decide +kernel)) ggL_law_X12_loaf
set_option maxRecDepth 20000 in
theorem ggL_law_L_later : GoodIn wsL_law wsL_later := goodIn_ca (goodIn_ca (goodIn_r _ [1051, 593, 194, 1052, 1053, 1054, 2, 1055, 1000, 1001, 1002, 598, 599, 1003, 1004, 1005, 1006, 34, 28, 38, 754, 1007, 1008, 1009, 199, 200, 769, 770, 771, 33, 772, 113, 773, 774, 434, 435, 62, 436, 437, 438, 439, 74, 440, 430, 431, 432, 75, 76, 77, 78, 79, 775, 776, 777, 778, 116, 779, 780, 609, 610, 23, 611, 240, 64, 781, 782, 783, 784, 114, 785, 786, 787, 788, 789, 790, 791, 792, 793, 224, 225, 226, 794, 228, 229, 795, 796, 797, 798, 799, 800, 801, 802, 115, 803, 804, 805, 68, 806, 390, 83, 807, 808, 809, 810, 334, 335, 336, 337, 338, 330, 331, 332, 811, 812, 813, 814, 815, 816, 817, 818, 819, 820, 821, 822, 823, 635, 350, 351, 824, 825, 826, 827, 828, 618, 829, 830, 831, 832, 833, 834, 835, 836, 837, 838, 839, 840, 841, 637, 638, 639, 640, 641, 642, 842, 843, 844, 845, 636, 612, 613, 614, 615, 623, 624, 625, 626, 627, 628, 629, 630, 1457, 1458, 1459, 1460, 1461, 1462, 1463, 1464, 1465, 1466, 1467, 1468, 1469, 1554, 1555, 1556, 1557, 1558, 1559, 1560, 1561, 1562, 1566, 1567, 1568, 1569, 1570, 1571, 1572, 1573, 1574, 1546, 1547, 1548, 1549, 1550, 1551, 1552, 1553, 1575, 1576] (by decide +kernel) (by decide +kernel)) (goodIn_sub (fun _ h => List.mem_append_right _ h) (by decide +kernel))) (goodIn_sub (fun _ h => List.mem_append_left _ (List.mem_append_right _ h)) (by decide +kernel))
set_option maxRecDepth 20000 in
theorem gL_law_L_later : GoodIn wsL_law (va_wsS RL 158 yL_later wsL_later) := goodIn_app (goodIn_of _ (by decide +kernel)) ggL_law_L_later
set_option maxRecDepth 20000 in
theorem ggL_law_X12_later : GoodIn wsL_law wsX12_later := goodIn_r _ [1059, 188, 1060, 1015, 161, 715, 716, 5, 717, 462, 463, 464, 465, 860, 861, 862, 863, 575, 150, 151, 152, 153, 154, 155, 156, 157, 864, 865, 866, 867, 652, 653, 654, 655, 135, 144, 868, 869, 870, 871, 872, 873, 874, 875, 681, 228, 225, 229, 718, 719, 720, 721, 876, 877, 878, 879, 159, 145, 473, 224, 226, 880, 881, 882, 883, 884, 885, 886, 887, 160, 888, 889, 890, 891, 892, 893, 894, 139, 895, 896, 897, 898, 899, 900, 901, 902, 903, 904, 905, 906, 146, 907, 908, 909, 910, 676, 641, 642, 911, 912, 913, 914, 656, 657, 658, 659, 660, 661, 662, 663, 664, 665, 666, 667, 989, 990, 991, 992, 1470, 1471, 1472, 1473, 1474, 1475, 1476, 1477, 1478, 1479, 1480, 1481, 1482, 1483, 1484, 1485, 1486, 1487, 1488, 1489, 1490, 1491, 1492, 1493, 1494, 1495, 1496, 1497, 1498, 1499, 1500, 1501, 1502, 1503, 1504, 1505, 1506, 1507, 1508, 1509, 1510, 1511, 1512, 1513, 1514, 1515, 1516, 1517, 1518, 1519, 1520, 1521, 1522, 1523, 1524, 1525, 1526, 1527, 1528, 1529, 1530, 1531, 1532, 1533, 1534] (by decide +kernel) (by decide +kernel)
set_option maxRecDepth 20000 in
theorem gL_law_X12_later : GoodIn wsL_law (wsV RL 160 RX12 yX12_later wsX12_later) := goodIn_app (goodIn_of _ (by decide +kernel)) ggL_law_X12_later
set_option maxRecDepth 20000 in
theorem ggL_law_L_sat : GoodIn wsL_law wsL_sat := goodIn_ca (goodIn_ca (goodIn_r _ [1063, 593, 194, 1064, 1065, 1066, 2, 1067, 34, 28, 38, 754, 695, 696, 697, 698, 598, 599, 600, 1007, 1008, 1009, 199, 200, 769, 770, 771, 33, 772, 113, 773, 774, 434, 435, 62, 436, 437, 438, 439, 74, 440, 430, 431, 432, 75, 76, 77, 78, 79, 775, 776, 777, 778, 116, 779, 780, 609, 610, 23, 611, 240, 64, 781, 782, 783, 784, 114, 785, 786, 787, 788, 789, 790, 791, 792, 793, 224, 225, 226, 794, 228, 229, 795, 796, 797, 798, 799, 800, 801, 802, 115, 803, 804, 805, 68, 806, 390, 83, 807, 808, 809, 810, 334, 335, 336, 337, 338, 330, 331, 332, 811, 812, 813, 814, 815, 816, 817, 818, 819, 820, 821, 822, 823, 635, 350, 351, 824, 825, 826, 827, 828, 618, 829, 830, 831, 832, 833, 834, 835, 836, 837, 838, 839, 840, 841, 637, 638, 639, 640, 641, 642, 842, 843, 844, 845, 636, 699, 700, 701, 702, 1457, 1458, 1459, 1460, 1461, 1462, 1463, 1464, 1465, 1466, 1467, 1468, 1469, 1554, 1555, 1556, 1557, 1558, 1559, 1560, 1561, 1562, 1566, 1567, 1568, 1569, 1570, 1571, 1572, 1573, 1574, 1546, 1547, 1548, 1549, 1550, 1551, 1552, 1553, 1575, 1576] (by decide +kernel) (by decide +kernel)) (goodIn_sub (fun _ h => List.mem_append_right _ h) (by decide +kernel))) (goodIn_sub (fun _ h => List.mem_append_left _ (List.mem_append_right _ h)) (by decide +kernel))
set_option maxRecDepth 20000 in
theorem gL_law_L_sat : GoodIn wsL_law (va_wsS RL 161 yL_sat wsL_sat) := goodIn_app (goodIn_of _ (by decide +kernel)) ggL_law_L_sat
set_option maxRecDepth 20000 in
theorem ggL_law_X12_sat : GoodIn wsL_law wsX12_sat := goodIn_r _ [1071, 188, 1015, 161, 711, 712, 713, 5, 714, 135, 715, 716, 717, 462, 463, 464, 465, 860, 861, 862, 863, 575, 150, 151, 152, 153, 154, 155, 156, 157, 864, 865, 866, 867, 652, 653, 654, 655, 144, 868, 869, 870, 871, 872, 873, 874, 875, 681, 228, 225, 229, 718, 719, 720, 721, 876, 877, 878, 879, 159, 145, 473, 224, 226, 880, 881, 882, 883, 884, 885, 886, 887, 160, 888, 889, 890, 891, 892, 893, 894, 139, 895, 896, 897, 898, 899, 900, 901, 902, 903, 904, 905, 906, 146, 907, 908, 909, 910, 676, 641, 642, 911, 912, 913, 914, 989, 990, 991, 992, 1470, 1471, 1472, 1473, 1474, 1475, 1476, 1477, 1478, 1479, 1480, 1481, 1482, 1483, 1484, 1485, 1486, 1487, 1488, 1489, 1490, 1491, 1492, 1493, 1494, 1495, 1496, 1497, 1498, 1499, 1500, 1501, 1502, 1503, 1504, 1505, 1506, 1507, 1508, 1509, 1510, 1511, 1512, 1513, 1514, 1515, 1516, 1517, 1518, 1519, 1520, 1521, 1522, 1523, 1524, 1525, 1526, 1527, 1528, 1529, 1530, 1531, 1532, 1533, 1534] (by decide +kernel) (by decide +kernel)
set_option maxRecDepth 20000 in
theorem gL_law_X12_sat : GoodIn wsL_law (wsV RL 163 RX12 yX12_sat wsX12_sat) := goodIn_app (goodIn_of _ (by decide +kernel)) ggL_law_X12_sat
set_option maxRecDepth 20000 in
theorem ggL_law_L_fits : GoodIn wsL_law wsL_fits := goodIn_ca (goodIn_r _ [1074, 593, 1075, 1076, 1077, 2, 1078, 34, 28, 38, 754, 737, 738, 739, 740, 598, 599, 601, 695, 696, 697, 698, 600, 769, 770, 771, 33, 772, 113, 773, 774, 434, 435, 62, 436, 437, 438, 439, 74, 440, 430, 431, 432, 75, 76, 77, 78, 79, 741, 350, 351, 1024, 637, 638, 639, 640, 641, 225, 642, 775, 776, 777, 778, 116, 779, 780, 609, 610, 23, 611, 240, 64, 781, 782, 783, 784, 114, 785, 786, 787, 788, 789, 790, 791, 792, 793, 224, 226, 794, 228, 229, 795, 796, 797, 798, 799, 800, 801, 802, 115, 803, 804, 805, 68, 806, 390, 83, 807, 808, 809, 810, 334, 335, 336, 337, 338, 330, 331, 332, 811, 812, 813, 814, 815, 816, 817, 818, 819, 820, 821, 822, 823, 635, 824, 825, 826, 827, 828, 618, 829, 830, 831, 832, 833, 834, 835, 836, 837, 838, 839, 840, 841, 842, 843, 844, 845, 636, 1457, 1458, 1459, 1460, 1461, 1462, 1463, 1464, 1465, 1466, 1467, 1468, 1469, 1554, 1555, 1556, 1557, 1558, 1559, 1560, 1561, 1562, 1566, 1567, 1568, 1569, 1570, 1571, 1572, 1573, 1574, 1546, 1547, 1548, 1549, 1550, 1551, 1552, 1553, 1575, 1576] (by decide +kernel) (by decide +kernel)) (goodIn_sub (fun _ h => List.mem_append_right _ h) (by decide +kernel))
set_option maxRecDepth 20000 in
theorem gL_law_L_fits : GoodIn wsL_law (va_wsS RL 164 yL_fits wsL_fits) := goodIn_app (goodIn_of _ (by decide +kernel)) ggL_law_L_fits
set_option maxRecDepth 20000 in
theorem ggL_law_X12_fits : GoodIn wsL_law wsX12_fits := goodIn_r _ [1082, 188, 161, 746, 747, 748, 5, 749, 135, 715, 716, 717, 711, 712, 713, 714, 462, 463, 464, 465, 860, 861, 862, 863, 575, 150, 151, 152, 153, 154, 155, 156, 157, 907, 908, 909, 910, 676, 641, 225, 642, 864, 865, 866, 867, 652, 653, 654, 655, 144, 868, 869, 870, 871, 872, 873, 874, 875, 681, 228, 229, 718, 719, 720, 721, 876, 877, 878, 879, 159, 145, 473, 224, 226, 880, 881, 882, 883, 884, 885, 886, 887, 160, 888, 889, 890, 891, 892, 893, 894, 139, 895, 896, 897, 898, 899, 900, 901, 902, 903, 904, 905, 906, 146, 911, 912, 913, 914, 989, 990, 991, 992, 1470, 1471, 1472, 1473, 1474, 1475, 1476, 1477, 1478, 1479, 1480, 1481, 1482, 1483, 1484, 1485, 1486, 1487, 1488, 1489, 1490, 1491, 1492, 1493, 1494, 1495, 1496, 1497, 1498, 1499, 1500, 1501, 1502, 1503, 1504, 1505, 1506, 1507, 1508, 1509, 1510, 1511, 1512, 1513, 1514, 1515, 1516, 1517, 1518, 1519, 1520, 1521, 1522, 1523, 1524, 1525, 1526, 1527, 1528, 1529, 1530, 1531, 1532, 1533, 1534] (by decide +kernel) (by decide +kernel)
set_option maxRecDepth 20000 in
theorem gL_law_X12_fits : GoodIn wsL_law (wsV RL 166 RX12 yX12_fits wsX12_fits) := goodIn_app (goodIn_of _ (by decide +kernel)) ggL_law_X12_fits
set_option maxRecDepth 20000 in
theorem ggL_law_L_unlike : GoodIn wsL_law wsL_unlike := goodIn_ca (goodIn_r _ [1085, 593, 1086, 1087, 1088, 2, 1089, 28, 38, 1000, 1001, 1002, 598, 599, 695, 696, 697, 698, 600, 737, 738, 739, 740, 601, 741, 350, 62, 351, 1024, 637, 638, 639, 74, 640, 641, 225, 642, 75, 1457, 1458, 1459, 1460, 1461, 1462, 1463, 1464, 1465, 1466, 1467, 1468, 1469, 1554, 1555, 1556, 1557, 1566, 1567, 1568, 1569, 1570, 1571, 1572, 1573, 1574] (by decide +kernel) (by decide +kernel)) (goodIn_sub (fun _ h => List.mem_append_right _ h) (by decide +kernel))
set_option maxRecDepth 20000 in
theorem gL_law_L_unlike : GoodIn wsL_law (va_wsS RL 167 yL_unlike wsL_unlike) := goodIn_app (goodIn_of _ (by decide +kernel)) ggL_law_L_unlike
set_option maxRecDepth 20000 in
theorem ggL_law_X12_unlike : GoodIn wsL_law wsX12_unlike := goodIn_r _ [1093, 188, 1060, 150, 676, 641, 225, 642, 151, 711, 712, 713, 5, 714, 135, 715, 716, 717, 746, 747, 748, 749, 462, 463, 464, 465, 907, 908, 909, 910, 153, 154, 672, 673, 674, 675, 1470, 1471, 1472, 1473, 1474, 1475, 1476, 1477, 1478, 1479, 1480, 1481, 1482, 1483, 1484, 1485, 1486, 1487, 1488, 1489, 1490, 1491, 1492, 1493, 1494, 1495, 1496, 1497, 1498, 1499, 1500, 1501, 1502, 1503, 1504, 1505, 1506, 1507, 1508, 1509, 1510, 1511, 1512, 1513, 1514, 1515, 1516, 1517, 1518, 1519, 1520, 1521, 1522, 1523, 1524, 1525, 1526, 1527, 1528, 1529, 1530, 1531, 1532, 1533, 1534] (by decide +kernel) (by decide +kernel)
set_option maxRecDepth 20000 in
theorem gL_law_X12_unlike : GoodIn wsL_law (wsV RL 169 RX12 yX12_unlike wsX12_unlike) := goodIn_app (goodIn_of _ (by decide +kernel)) ggL_law_X12_unlike
set_option maxRecDepth 20000 in
theorem ggL_law_L_seats : GoodIn wsL_law wsL_seats := goodIn_ca (goodIn_r _ [1096, 593, 1097, 1098, 1099, 2, 1100, 39, 737, 738, 739, 740, 598, 599, 28, 38, 601, 1101, 1102, 1103, 37, 1104, 122, 1105, 1106, 1107, 224, 225, 226, 121, 1108, 1109, 617, 618, 619, 620, 621, 622, 1110, 1111, 1112, 1113, 1114, 1115, 1116, 1117, 1118, 350, 62, 351, 1119, 637, 638, 639, 74, 640, 641, 642, 75, 1120, 1121, 1122, 1123, 1124, 1125, 1126, 1127, 1128, 1129, 1130, 1131, 1457, 1458, 1459, 1460, 1461, 1462, 1463, 1464, 1465, 1466, 1467, 1468, 1469, 1554, 1555, 1556, 1557, 1566, 1567, 1568, 1569, 1570, 1571, 1572, 1573, 1574, 1563, 1564] (by decide +kernel) (by decide +kernel)) (goodIn_sub (fun _ h => List.mem_append_right _ h) (by decide +kernel))
set_option maxRecDepth 20000 in
theorem gL_law_L_seats : GoodIn wsL_law (va_wsS RL 170 yL_seats wsL_seats) := goodIn_app (goodIn_of _ (by decide +kernel)) ggL_law_L_seats
set_option maxRecDepth 20000 in
theorem ggL_law_X12_seats : GoodIn wsL_law wsX12_seats := goodIn_r _ [1135, 188, 972, 135, 162, 715, 716, 5, 717, 462, 463, 464, 465, 1136, 1137, 1138, 1139, 473, 224, 225, 226, 1140, 1141, 1142, 1143, 682, 683, 684, 907, 908, 909, 910, 153, 150, 676, 641, 642, 154, 151, 1470, 1471, 1472, 1473, 1474, 1475, 1476, 1477, 1478, 1479, 1480, 1481, 1482, 1483, 1484, 1485, 1486, 1487, 1488, 1489, 1490, 1491, 1492, 1493, 1494, 1495, 1496, 1497, 1498, 1499, 1500, 1501, 1502, 1503, 1504, 1505, 1506, 1507, 1508, 1509, 1510, 1511, 1512, 1513, 1514, 1515, 1516, 1517, 1518, 1519, 1520, 1521, 1522, 1523, 1524, 1525, 1526, 1527, 1528, 1529, 1530, 1531, 1532, 1533, 1534] (by decide +kernel) (by decide +kernel)
set_option maxRecDepth 20000 in
theorem gL_law_X12_seats : GoodIn wsL_law (wsV RL 172 RX12 yX12_seats wsX12_seats) := goodIn_app (goodIn_of _ (by decide +kernel)) ggL_law_X12_seats
set_option maxRecDepth 20000 in
theorem ggL_law_L_turn : GoodIn wsL_law wsL_turn := goodIn_ca (goodIn_r _ [1146, 593, 1147, 1148, 1149, 2, 1150, 28, 38, 600, 1000, 1001, 1002, 598, 599, 1151, 1152, 1153, 1154, 601, 741, 350, 62, 351, 1024, 637, 638, 639, 74, 640, 641, 225, 642, 75, 1457, 1458, 1459, 1460, 1461, 1462, 1463, 1464, 1465, 1466, 1467, 1468, 1469, 1554, 1555, 1556, 1557, 1566, 1567, 1568, 1569, 1570, 1571, 1572, 1573, 1574] (by decide +kernel) (by decide +kernel)) (goodIn_sub (fun _ h => List.mem_append_right _ h) (by decide +kernel))
set_option maxRecDepth 20000 in
theorem gL_law_L_turn : GoodIn wsL_law (va_wsS RL 173 yL_turn wsL_turn) := goodIn_app (goodIn_of _ (by decide +kernel)) ggL_law_L_turn
set_option maxRecDepth 20000 in
theorem ggL_law_X12_turn : GoodIn wsL_law wsX12_turn := goodIn_r _ [1158, 188, 1159, 135, 715, 716, 5, 717, 462, 463, 464, 465, 907, 908, 909, 910, 153, 150, 676, 641, 225, 642, 154, 151, 1470, 1471, 1472, 1473, 1474, 1475, 1476, 1477, 1478, 1479, 1480, 1481, 1482, 1483, 1484, 1485, 1486, 1487, 1488, 1489, 1490, 1491, 1492, 1493, 1494, 1495, 1496, 1497, 1498, 1499, 1500, 1501, 1502, 1503, 1504, 1505, 1506, 1507, 1508, 1509, 1510, 1511, 1512, 1513, 1514, 1515, 1516, 1517, 1518, 1519, 1520, 1521, 1522, 1523, 1524, 1525, 1526, 1527, 1528, 1529, 1530, 1531, 1532, 1533, 1534] (by decide +kernel) (by decide +kernel)
set_option maxRecDepth 20000 in
theorem gL_law_X12_turn : GoodIn wsL_law (wsV RL 175 RX12 yX12_turn wsX12_turn) := goodIn_app (goodIn_of _ (by decide +kernel)) ggL_law_X12_turn
set_option maxRecDepth 20000 in
theorem ggL_law_L_lasts : GoodIn wsL_law wsL_lasts := goodIn_ca (goodIn_r _ [1162, 593, 1163, 1164, 1165, 2, 1166, 34, 28, 38, 754, 737, 738, 739, 740, 598, 599, 601, 695, 696, 697, 698, 600, 769, 770, 771, 33, 772, 113, 773, 774, 434, 435, 62, 436, 437, 438, 439, 74, 440, 430, 431, 432, 75, 76, 77, 78, 79, 1167, 1168, 1169, 1170, 1171, 700, 701, 702, 1037, 1038, 1039, 1040, 790, 116, 779, 780, 609, 610, 23, 611, 240, 64, 781, 782, 783, 784, 114, 785, 786, 787, 788, 789, 791, 792, 793, 224, 225, 226, 794, 228, 229, 795, 796, 797, 798, 799, 800, 801, 802, 115, 803, 804, 805, 68, 806, 390, 83, 807, 808, 809, 810, 334, 335, 336, 337, 338, 330, 331, 332, 811, 812, 813, 814, 815, 816, 817, 818, 819, 820, 821, 822, 823, 635, 350, 351, 824, 825, 826, 827, 828, 618, 829, 830, 831, 832, 833, 834, 835, 836, 837, 838, 839, 840, 841, 637, 638, 639, 640, 641, 642, 842, 843, 844, 845, 636, 1457, 1458, 1459, 1460, 1461, 1462, 1463, 1464, 1465, 1466, 1467, 1468, 1469, 1554, 1555, 1556, 1557, 1558, 1559, 1560, 1561, 1562, 1566, 1567, 1568, 1569, 1570, 1571, 1572, 1573, 1574, 1546, 1547, 1548, 1549, 1550, 1551, 1552, 1553, 1575, 1576] (by decide +kernel) (by decide +kernel)) (goodIn_sub (fun _ h => List.mem_append_right _ h) (by decide +kernel))
set_option maxRecDepth 20000 in
theorem gL_law_L_lasts : GoodIn wsL_law (va_wsS RL 176 yL_lasts wsL_lasts) := goodIn_app (goodIn_of _ (by decide +kernel)) ggL_law_L_lasts
set_option maxRecDepth 20000 in
theorem ggL_law_X12_lasts : GoodIn wsL_law wsX12_lasts := goodIn_r _ [1175, 188, 161, 746, 747, 748, 5, 749, 135, 715, 716, 717, 711, 712, 713, 714, 462, 463, 464, 465, 860, 861, 862, 863, 575, 150, 151, 152, 153, 154, 155, 156, 157, 1176, 1177, 1178, 1179, 718, 719, 720, 721, 1045, 1046, 1047, 1048, 864, 865, 866, 867, 652, 653, 654, 655, 144, 868, 869, 870, 871, 872, 873, 874, 875, 681, 228, 225, 229, 876, 877, 878, 879, 159, 145, 473, 224, 226, 880, 881, 882, 883, 884, 885, 886, 887, 160, 888, 889, 890, 891, 892, 893, 894, 139, 895, 896, 897, 898, 899, 900, 901, 902, 903, 904, 905, 906, 146, 907, 908, 909, 910, 676, 641, 642, 911, 912, 913, 914, 989, 990, 991, 992, 1470, 1471, 1472, 1473, 1474, 1475, 1476, 1477, 1478, 1479, 1480, 1481, 1482, 1483, 1484, 1485, 1486, 1487, 1488, 1489, 1490, 1491, 1492, 1493, 1494, 1495, 1496, 1497, 1498, 1499, 1500, 1501, 1502, 1503, 1504, 1505, 1506, 1507, 1508, 1509, 1510, 1511, 1512, 1513, 1514, 1515, 1516, 1517, 1518, 1519, 1520, 1521, 1522, 1523, 1524, 1525, 1526, 1527, 1528, 1529, 1530, 1531, 1532, 1533, 1534] (by decide +kernel) (by decide +kernel)
set_option maxRecDepth 20000 in
theorem gL_law_X12_lasts : GoodIn wsL_law (wsV RL 178 RX12 yX12_lasts wsX12_lasts) := goodIn_app (goodIn_of _ (by decide +kernel)) ggL_law_X12_lasts
set_option maxRecDepth 20000 in
theorem ggL_law_L_best : GoodIn wsL_law wsL_best := goodIn_ca (goodIn_ca (goodIn_r _ [1182, 593, 194, 1183, 1184, 1185, 2, 1186, 28, 38, 600, 34, 754, 737, 738, 739, 740, 598, 599, 601, 1000, 1001, 1002, 1007, 1008, 1009, 199, 200, 769, 770, 771, 33, 772, 113, 773, 774, 434, 435, 62, 436, 437, 438, 439, 74, 440, 430, 431, 432, 75, 76, 77, 78, 79, 1167, 1168, 1169, 1170, 1171, 700, 701, 702, 775, 776, 777, 778, 116, 779, 780, 609, 610, 23, 611, 240, 64, 781, 782, 783, 784, 114, 785, 786, 787, 788, 789, 790, 791, 792, 793, 224, 225, 226, 794, 228, 229, 795, 796, 797, 798, 799, 800, 801, 802, 115, 803, 804, 805, 68, 806, 390, 83, 807, 808, 809, 810, 334, 335, 336, 337, 338, 330, 331, 332, 811, 812, 813, 814, 815, 816, 817, 818, 819, 820, 821, 822, 823, 635, 350, 351, 824, 825, 826, 827, 828, 618, 829, 830, 831, 832, 833, 834, 835, 836, 837, 838, 839, 840, 841, 637, 638, 639, 640, 641, 642, 842, 843, 844, 845, 636, 627, 628, 629, 630, 1457, 1458, 1459, 1460, 1461, 1462, 1463, 1464, 1465, 1466, 1467, 1468, 1469, 1554, 1555, 1556, 1557, 1566, 1567, 1568, 1569, 1570, 1571, 1572, 1573, 1574, 1558, 1559, 1560, 1561, 1562, 1546, 1547, 1548, 1549, 1550, 1551, 1552, 1553, 1575, 1576] (by decide +kernel) (by decide +kernel)) (goodIn_sub (fun _ h => List.mem_append_right _ h) (by decide +kernel))) (goodIn_sub (fun _ h => List.mem_append_left _ (List.mem_append_right _ h)) (by decide +kernel))
set_option maxRecDepth 20000 in
theorem gL_law_L_best : GoodIn wsL_law (va_wsS RL 179 yL_best wsL_best) := goodIn_app (goodIn_of _ (by decide +kernel)) ggL_law_L_best
set_option maxRecDepth 20000 in
theorem ggL_law_X12_best : GoodIn wsL_law wsX12_best := goodIn_r _ [1190, 188, 1015, 161, 135, 746, 747, 748, 5, 749, 715, 716, 717, 462, 463, 464, 465, 860, 861, 862, 863, 575, 150, 151, 152, 153, 154, 155, 156, 157, 1176, 1177, 1178, 1179, 718, 719, 720, 721, 864, 865, 866, 867, 652, 653, 654, 655, 144, 868, 869, 870, 871, 872, 873, 874, 875, 681, 228, 225, 229, 876, 877, 878, 879, 159, 145, 473, 224, 226, 880, 881, 882, 883, 884, 885, 886, 887, 160, 888, 889, 890, 891, 892, 893, 894, 139, 895, 896, 897, 898, 899, 900, 901, 902, 903, 904, 905, 906, 146, 907, 908, 909, 910, 676, 641, 642, 911, 912, 913, 914, 664, 665, 666, 667, 989, 990, 991, 992, 1470, 1471, 1472, 1473, 1474, 1475, 1476, 1477, 1478, 1479, 1480, 1481, 1482, 1483, 1484, 1485, 1486, 1487, 1488, 1489, 1490, 1491, 1492, 1493, 1494, 1495, 1496, 1497, 1498, 1499, 1500, 1501, 1502, 1503, 1504, 1505, 1506, 1507, 1508, 1509, 1510, 1511, 1512, 1513, 1514, 1515, 1516, 1517, 1518, 1519, 1520, 1521, 1522, 1523, 1524, 1525, 1526, 1527, 1528, 1529, 1530, 1531, 1532, 1533, 1534] (by decide +kernel) (by decide +kernel)
set_option maxRecDepth 20000 in
theorem gL_law_X12_best : GoodIn wsL_law (wsV RL 181 RX12 yX12_best wsX12_best) := goodIn_app (goodIn_of _ (by decide +kernel)) ggL_law_X12_best
set_option maxRecDepth 20000 in
theorem ggL_law_L_greatest : GoodIn wsL_law wsL_greatest := goodIn_ca (goodIn_ca (goodIn_r _ [1193, 593, 194, 1194, 1195, 1196, 2, 1197, 1000, 1001, 1002, 598, 599, 1003, 1004, 1005, 1006, 34, 28, 38, 754, 1007, 1008, 1009, 199, 200, 769, 770, 771, 33, 772, 113, 773, 774, 434, 435, 62, 436, 437, 438, 439, 74, 440, 430, 431, 432, 75, 76, 77, 78, 79, 775, 776, 777, 778, 116, 779, 780, 609, 610, 23, 611, 240, 64, 781, 782, 783, 784, 114, 785, 786, 787, 788, 789, 790, 791, 792, 793, 224, 225, 226, 794, 228, 229, 795, 796, 797, 798, 799, 800, 801, 802, 115, 803, 804, 805, 68, 806, 390, 83, 807, 808, 809, 810, 334, 335, 336, 337, 338, 330, 331, 332, 811, 812, 813, 814, 815, 816, 817, 818, 819, 820, 821, 822, 823, 635, 350, 351, 824, 825, 826, 827, 828, 618, 829, 830, 831, 832, 833, 834, 835, 836, 837, 838, 839, 840, 841, 637, 638, 639, 640, 641, 642, 842, 843, 844, 845, 636, 1198, 1199, 1200, 1201, 1202, 1203, 1204, 1205, 1457, 1458, 1459, 1460, 1461, 1462, 1463, 1464, 1465, 1466, 1467, 1468, 1469, 1554, 1555, 1556, 1557, 1558, 1559, 1560, 1561, 1562, 1566, 1567, 1568, 1569, 1570, 1571, 1572, 1573, 1574, 1546, 1547, 1548, 1549, 1550, 1551, 1552, 1553, 1575, 1576] (by decide +kernel) (by decide +kernel)) (goodIn_sub (fun _ h => List.mem_append_right _ h) (by decide +kernel))) (goodIn_sub (fun _ h => List.mem_append_left _ (List.mem_append_right _ h)) (by decide +kernel))
set_option maxRecDepth 20000 in
theorem gL_law_L_greatest : GoodIn wsL_law (va_wsS RL 182 yL_greatest wsL_greatest) := goodIn_app (goodIn_of _ (by decide +kernel)) ggL_law_L_greatest
set_option maxRecDepth 20000 in
theorem ggL_law_X12_greatest : GoodIn wsL_law wsX12_greatest := goodIn_r _ [1209, 188, 1015, 161, 715, 716, 5, 717, 462, 463, 464, 465, 860, 861, 862, 863, 575, 150, 151, 152, 153, 154, 155, 156, 157, 864, 865, 866, 867, 652, 653, 654, 655, 135, 144, 868, 869, 870, 871, 872, 873, 874, 875, 681, 228, 225, 229, 718, 719, 720, 721, 876, 877, 878, 879, 159, 145, 473, 224, 226, 880, 881, 882, 883, 884, 885, 886, 887, 160, 888, 889, 890, 891, 892, 893, 894, 139, 895, 896, 897, 898, 899, 900, 901, 902, 903, 904, 905, 906, 146, 907, 908, 909, 910, 676, 641, 642, 911, 912, 913, 914, 1210, 1211, 1212, 1213, 1214, 1215, 1216, 1217, 989, 990, 991, 992, 1470, 1471, 1472, 1473, 1474, 1475, 1476, 1477, 1478, 1479, 1480, 1481, 1482, 1483, 1484, 1485, 1486, 1487, 1488, 1489, 1490, 1491, 1492, 1493, 1494, 1495, 1496, 1497, 1498, 1499, 1500, 1501, 1502, 1503, 1504, 1505, 1506, 1507, 1508, 1509, 1510, 1511, 1512, 1513, 1514, 1515, 1516, 1517, 1518, 1519, 1520, 1521, 1522, 1523, 1524, 1525, 1526, 1527, 1528, 1529, 1530, 1531, 1532, 1533, 1534] (by decide +kernel) (by decide +kernel)
set_option maxRecDepth 20000 in
theorem gL_law_X12_greatest : GoodIn wsL_law (wsV RL 184 RX12 yX12_greatest wsX12_greatest) := goodIn_app (goodIn_of _ (by decide +kernel)) ggL_law_X12_greatest
set_option maxRecDepth 20000 in
theorem ggL_law_L_empty : GoodIn wsL_law wsL_empty := goodIn_ca (goodIn_r _ [1220, 194, 1221, 1222, 1223, 2, 1224, 34, 28, 38, 754, 1007, 1008, 1009, 199, 200, 769, 770, 771, 33, 772, 113, 773, 774, 434, 435, 62, 436, 437, 438, 439, 74, 440, 430, 431, 432, 75, 76, 77, 78, 79, 775, 776, 777, 778, 116, 779, 780, 609, 610, 23, 611, 240, 64, 781, 782, 783, 784, 114, 785, 786, 787, 788, 789, 790, 791, 792, 793, 224, 225, 226, 794, 228, 229, 795, 796, 797, 798, 799, 800, 801, 802, 115, 803, 804, 805, 68, 806, 390, 83, 807, 808, 809, 810, 334, 335, 336, 337, 338, 330, 331, 332, 811, 812, 813, 814, 815, 816, 817, 818, 819, 820, 821, 822, 823, 635, 350, 351, 824, 825, 826, 827, 828, 618, 829, 830, 831, 832, 833, 834, 835, 836, 837, 838, 839, 840, 841, 637, 638, 639, 640, 641, 642, 842, 843, 844, 845, 636, 623, 624, 625, 626, 1457, 1458, 1459, 1460, 1461, 1462, 1463, 1464, 1465, 1466, 1467, 1468, 1469, 1554, 1555, 1556, 1557, 1558, 1559, 1560, 1561, 1562, 1566, 1567, 1568, 1569, 1570, 1571, 1572, 1573, 1574, 1546, 1547, 1548, 1549, 1550, 1551, 1552, 1553, 1575, 1576] (by decide +kernel) (by decide +kernel)) (goodIn_sub (fun _ h => List.mem_append_left _ (List.mem_append_right _ h)) (by decide +kernel))
set_option maxRecDepth 20000 in
theorem gL_law_L_empty : GoodIn wsL_law (va_wsS RL 185 yL_empty wsL_empty) := goodIn_app (goodIn_of _ (by decide +kernel)) ggL_law_L_empty
set_option maxRecDepth 20000 in
theorem ggL_law_X12_empty : GoodIn wsL_law wsX12_empty := goodIn_r _ [1228, 188, 1015, 161, 715, 716, 5, 717, 462, 463, 464, 465, 860, 861, 862, 863, 575, 150, 151, 152, 153, 154, 155, 156, 157, 864, 865, 866, 867, 652, 653, 654, 655, 135, 144, 868, 869, 870, 871, 872, 873, 874, 875, 681, 228, 225, 229, 718, 719, 720, 721, 876, 877, 878, 879, 159, 145, 473, 224, 226, 880, 881, 882, 883, 884, 885, 886, 887, 160, 888, 889, 890, 891, 892, 893, 894, 139, 895, 896, 897, 898, 899, 900, 901, 902, 903, 904, 905, 906, 146, 907, 908, 909, 910, 676, 641, 642, 911, 912, 913, 914, 660, 661, 662, 663, 989, 990, 991, 992, 1470, 1471, 1472, 1473, 1474, 1475, 1476, 1477, 1478, 1479, 1480, 1481, 1482, 1483, 1484, 1485, 1486, 1487, 1488, 1489, 1490, 1491, 1492, 1493, 1494, 1495, 1496, 1497, 1498, 1499, 1500, 1501, 1502, 1503, 1504, 1505, 1506, 1507, 1508, 1509, 1510, 1511, 1512, 1513, 1514, 1515, 1516, 1517, 1518, 1519, 1520, 1521, 1522, 1523, 1524, 1525, 1526, 1527, 1528, 1529, 1530, 1531, 1532, 1533, 1534] (by decide +kernel) (by decide +kernel)
set_option maxRecDepth 20000 in
theorem gL_law_X12_empty : GoodIn wsL_law (wsV RL 187 RX12 yX12_empty wsX12_empty) := goodIn_app (goodIn_of _ (by decide +kernel)) ggL_law_X12_empty
set_option maxRecDepth 20000 in
theorem ggL_law_X11_homes : GoodIn wsL_law wsX11_homes := goodIn_r _ [1232, 28, 38, 1233, 1234, 1235, 62, 1236, 438, 79, 78, 1457, 1458, 1459, 1460, 1461, 1462, 1463, 1464, 1465, 1466, 1467, 1468, 1469, 1554, 1555, 1556, 1557, 1566, 1567, 1568, 1569, 1570, 1571, 1572, 1573, 1574] (by decide +kernel) (by decide +kernel)
set_option maxRecDepth 20000 in
theorem gL_law_X11_homes : GoodIn wsL_law (wsV RL 188 RX11 yX11_homes wsX11_homes) := goodIn_app (goodIn_of _ (by decide +kernel)) ggL_law_X11_homes
set_option maxRecDepth 20000 in
theorem ggL_law_X12_homes : GoodIn wsL_law wsX12_homes := goodIn_r _ [1240, 188, 135, 157, 156, 1470, 1471, 1472, 1473, 1474, 1475, 1476, 1477, 1478, 1479, 1480, 1481, 1482, 1483, 1484, 1485, 1486, 1487, 1488, 1489, 1490, 1491, 1492, 1493, 1494, 1495, 1496, 1497, 1498, 1499, 1500, 1501, 1502, 1503, 1504, 1505, 1506, 1507, 1508, 1509, 1510, 1511, 1512, 1513, 1514, 1515, 1516, 1517, 1518, 1519, 1520, 1521, 1522, 1523, 1524, 1525, 1526, 1527, 1528, 1529, 1530, 1531, 1532, 1533, 1534] (by decide +kernel) (by decide +kernel)
set_option maxRecDepth 20000 in
theorem gL_law_X12_homes : GoodIn wsL_law (wsV RL 191 RX12 yX12_homes wsX12_homes) := goodIn_app (goodIn_of _ (by decide +kernel)) ggL_law_X12_homes
set_option maxRecDepth 20000 in
theorem ggL_law_L_see : GoodIn wsL_law wsL_see := goodIn_ca (goodIn_r _ [1243, 593, 1244, 1245, 1246, 2, 1247, 28, 606, 607, 202, 737, 738, 739, 740, 598, 599, 38, 601, 1248, 1249, 1250, 95, 1251, 1252, 105, 106, 107, 1457, 1458, 1459, 1460, 1461, 1462, 1463, 1464, 1465, 1466, 1467, 1468, 1469, 1554, 1555, 1556, 1557, 1579, 1580, 1581, 1582, 1566, 1567, 1568, 1569, 1570, 1571, 1572, 1573, 1574] (by decide +kernel) (by decide +kernel)) (goodIn_sub (fun _ h => List.mem_append_right _ h) (by decide +kernel))
set_option maxRecDepth 20000 in
theorem gL_law_L_see : GoodIn wsL_law (va_wsS RL 192 yL_see wsL_see) := goodIn_app (goodIn_of _ (by decide +kernel)) ggL_law_L_see
set_option maxRecDepth 20000 in
theorem ggL_law_X12_see : GoodIn wsL_law wsX12_see := goodIn_r _ [1256, 188, 577, 851, 930, 163, 164, 165, 746, 747, 748, 5, 749, 135, 715, 716, 717, 462, 463, 464, 465, 852, 853, 854, 855, 147, 1470, 1471, 1472, 1473, 1474, 1475, 1476, 1477, 1478, 1479, 1480, 1481, 1482, 1483, 1484, 1485, 1486, 1487, 1488, 1489, 1490, 1491, 1492, 1493, 1494, 1495, 1496, 1497, 1498, 1499, 1500, 1501, 1502, 1503, 1504, 1505, 1506, 1507, 1508, 1509, 1510, 1511, 1512, 1513, 1514, 1515, 1516, 1517, 1518, 1519, 1520, 1521, 1522, 1523, 1524, 1525, 1526, 1527, 1528, 1529, 1530, 1531, 1532, 1533, 1534] (by decide +kernel) (by decide +kernel)
set_option maxRecDepth 20000 in
theorem gL_law_X12_see : GoodIn wsL_law (wsV RL 194 RX12 yX12_see wsX12_see) := goodIn_app (goodIn_of _ (by decide +kernel)) ggL_law_X12_see
set_option maxRecDepth 20000 in
theorem ggL_law_L_old : GoodIn wsL_law wsL_old := goodIn_ca (goodIn_r _ [1259, 593, 1260, 1261, 1262, 2, 1263, 34, 28, 38, 606, 601, 1000, 1001, 1002, 598, 599, 769, 770, 771, 33, 772, 113, 773, 774, 434, 435, 62, 436, 437, 438, 439, 74, 440, 430, 431, 432, 75, 76, 77, 78, 79, 1264, 1265, 1266, 1267, 116, 779, 1268, 1269, 1270, 95, 1271, 1252, 106, 1272, 228, 225, 229, 1273, 1274, 1275, 1276, 1277, 105, 107, 1278, 350, 351, 780, 609, 610, 23, 611, 240, 64, 781, 782, 783, 784, 114, 785, 786, 787, 788, 789, 790, 791, 792, 793, 224, 226, 794, 795, 796, 797, 798, 799, 800, 801, 802, 115, 803, 804, 805, 68, 806, 390, 83, 807, 808, 809, 810, 334, 335, 336, 337, 338, 330, 331, 332, 811, 812, 813, 814, 815, 816, 817, 818, 819, 820, 821, 822, 823, 635, 824, 825, 826, 827, 828, 618, 829, 830, 831, 832, 833, 834, 835, 836, 837, 838, 839, 840, 841, 637, 638, 639, 640, 641, 642, 842, 843, 844, 845, 636, 1279, 1280, 1281, 1282, 733, 1283, 1284, 1285, 1286, 754, 1457, 1458, 1459, 1460, 1461, 1462, 1463, 1464, 1465, 1466, 1467, 1468, 1469, 1554, 1555, 1556, 1557, 1566, 1567, 1568, 1569, 1570, 1571, 1572, 1573, 1574, 1558, 1559, 1560, 1561, 1562, 1579, 1580, 1581, 1582, 1546, 1547, 1548, 1549, 1550, 1551, 1552, 1553, 1575, 1576] (by decide +kernel) (by decide +kernel)) (goodIn_sub (fun _ h => List.mem_append_right _ h) (by decide +kernel))
set_option maxRecDepth 20000 in
theorem gL_law_L_old : GoodIn wsL_law (va_wsS RL 195 yL_old wsL_old) := goodIn_app (goodIn_of _ (by decide +kernel)) ggL_law_L_old
set_option maxRecDepth 20000 in
theorem ggL_law_X12_old : GoodIn wsL_law wsX12_old := goodIn_r _ [1290, 188, 1060, 1291, 167, 715, 716, 5, 717, 462, 463, 464, 465, 1292, 1293, 1294, 1295, 166, 577, 164, 681, 228, 225, 229, 153, 163, 165, 860, 861, 862, 863, 575, 150, 151, 152, 154, 155, 156, 157, 864, 865, 866, 867, 652, 653, 654, 655, 135, 144, 868, 869, 870, 871, 872, 873, 874, 875, 718, 719, 720, 721, 876, 877, 878, 879, 159, 145, 473, 224, 226, 880, 881, 882, 883, 884, 885, 886, 887, 160, 888, 889, 890, 891, 892, 893, 894, 139, 895, 896, 897, 898, 899, 900, 901, 902, 903, 904, 905, 906, 146, 907, 908, 909, 910, 676, 641, 642, 911, 912, 913, 914, 989, 990, 991, 992, 1296, 1297, 1298, 1299, 1470, 1471, 1472, 1473, 1474, 1475, 1476, 1477, 1478, 1479, 1480, 1481, 1482, 1483, 1484, 1485, 1486, 1487, 1488, 1489, 1490, 1491, 1492, 1493, 1494, 1495, 1496, 1497, 1498, 1499, 1500, 1501, 1502, 1503, 1504, 1505, 1506, 1507, 1508, 1509, 1510, 1511, 1512, 1513, 1514, 1515, 1516, 1517, 1518, 1519, 1520, 1521, 1522, 1523, 1524, 1525, 1526, 1527, 1528, 1529, 1530, 1531, 1532, 1533, 1534] (by decide +kernel) (by decide +kernel)
set_option maxRecDepth 20000 in
theorem gL_law_X12_old : GoodIn wsL_law (wsV RL 197 RX12 yX12_old wsX12_old) := goodIn_app (goodIn_of _ (by decide +kernel)) ggL_law_X12_old
set_option maxRecDepth 20000 in
theorem ggL_law_L_look : GoodIn wsL_law wsL_look := goodIn_ca (goodIn_r _ [1302, 593, 1303, 1304, 1305, 2, 1306, 46, 28, 38, 601, 1000, 1001, 1002, 598, 599, 1307, 1308, 1309, 1310, 1279, 1280, 1281, 1282, 733, 34, 606, 1283, 1284, 1285, 1286, 754, 769, 770, 771, 33, 772, 113, 773, 774, 434, 435, 62, 436, 437, 438, 439, 74, 440, 430, 431, 432, 75, 76, 77, 78, 79, 1264, 1265, 1266, 1267, 116, 779, 1268, 1269, 1270, 95, 1271, 1252, 106, 1272, 228, 225, 229, 1273, 1274, 1275, 1276, 1277, 105, 107, 1278, 350, 351, 780, 609, 610, 23, 611, 240, 64, 781, 782, 783, 784, 114, 785, 786, 787, 788, 789, 790, 791, 792, 793, 224, 226, 794, 795, 796, 797, 798, 799, 800, 801, 802, 115, 803, 804, 805, 68, 806, 390, 83, 807, 808, 809, 810, 334, 335, 336, 337, 338, 330, 331, 332, 811, 812, 813, 814, 815, 816, 817, 818, 819, 820, 821, 822, 823, 635, 824, 825, 826, 827, 828, 618, 829, 830, 831, 832, 833, 834, 835, 836, 837, 838, 839, 840, 841, 637, 638, 639, 640, 641, 642, 842, 843, 844, 845, 636, 1311, 1312, 1313, 1314, 735, 775, 776, 777, 778, 616, 617, 619, 620, 621, 622, 1457, 1458, 1459, 1460, 1461, 1462, 1463, 1464, 1465, 1466, 1467, 1468, 1469, 1554, 1555, 1556, 1557, 1566, 1567, 1568, 1569, 1570, 1571, 1572, 1573, 1574, 1558, 1559, 1560, 1561, 1562, 1579, 1580, 1581, 1582, 1546, 1547, 1548, 1549, 1550, 1551, 1552, 1553, 1575, 1576] (by decide +kernel) (by decide +kernel)) (goodIn_sub (fun _ h => List.mem_append_right _ h) (by decide +kernel))
set_option maxRecDepth 20000 in
theorem gL_law_L_look : GoodIn wsL_law (va_wsS RL 198 yL_look wsL_look) := goodIn_app (goodIn_of _ (by decide +kernel)) ggL_law_L_look
set_option maxRecDepth 20000 in
theorem ggL_law_X12_look : GoodIn wsL_law wsX12_look := goodIn_r _ [1318, 188, 161, 168, 1291, 155, 167, 135, 157, 715, 716, 5, 717, 462, 463, 464, 465, 1296, 1297, 1298, 1299, 1292, 1293, 1294, 1295, 166, 577, 164, 681, 228, 225, 229, 153, 163, 165, 860, 861, 862, 863, 575, 150, 151, 152, 154, 156, 864, 865, 866, 867, 652, 653, 654, 655, 144, 868, 869, 870, 871, 872, 873, 874, 875, 718, 719, 720, 721, 876, 877, 878, 879, 159, 145, 473, 224, 226, 880, 881, 882, 883, 884, 885, 886, 887, 160, 888, 889, 890, 891, 892, 893, 894, 139, 895, 896, 897, 898, 899, 900, 901, 902, 903, 904, 905, 906, 146, 907, 908, 909, 910, 676, 641, 642, 911, 912, 913, 914, 989, 990, 991, 992, 1319, 1320, 1321, 1470, 1471, 1472, 1473, 1474, 1475, 1476, 1477, 1478, 1479, 1480, 1481, 1482, 1483, 1484, 1485, 1486, 1487, 1488, 1489, 1490, 1491, 1492, 1493, 1494, 1495, 1496, 1497, 1498, 1499, 1500, 1501, 1502, 1503, 1504, 1505, 1506, 1507, 1508, 1509, 1510, 1511, 1512, 1513, 1514, 1515, 1516, 1517, 1518, 1519, 1520, 1521, 1522, 1523, 1524, 1525, 1526, 1527, 1528, 1529, 1530, 1531, 1532, 1533, 1534] (by decide +kernel) (by decide +kernel)
set_option maxRecDepth 20000 in
theorem gL_law_X12_look : GoodIn wsL_law (wsV RL 200 RX12 yX12_look wsX12_look) := goodIn_app (goodIn_of _ (by decide +kernel)) ggL_law_X12_look
set_option maxRecDepth 20000 in
theorem ggL_law_X11_forget : GoodIn wsL_law wsX11_forget := goodIn_r _ [1325, 28, 606, 607, 1457, 1458, 1459, 1460, 1461, 1462, 1463, 1464, 1465, 1466, 1467, 1468, 1469, 1554, 1555, 1556, 1557, 1579, 1580, 1581, 1582] (by decide +kernel) (by decide +kernel)
set_option maxRecDepth 20000 in
theorem gL_law_X11_forget : GoodIn wsL_law (wsV RL 201 RX11 yX11_forget wsX11_forget) := goodIn_app (goodIn_of _ (by decide +kernel)) ggL_law_X11_forget
set_option maxRecDepth 20000 in
theorem ggL_law_X12_forget : GoodIn wsL_law wsX12_forget := goodIn_r _ [1329, 188, 577, 1470, 1471, 1472, 1473, 1474, 1475, 1476, 1477, 1478, 1479, 1480, 1481, 1482, 1483, 1484, 1485, 1486, 1487, 1488, 1489, 1490, 1491, 1492, 1493, 1494, 1495, 1496, 1497, 1498, 1499, 1500, 1501, 1502, 1503, 1504, 1505, 1506, 1507, 1508, 1509, 1510, 1511, 1512, 1513, 1514, 1515, 1516, 1517, 1518, 1519, 1520, 1521, 1522, 1523, 1524, 1525, 1526, 1527, 1528, 1529, 1530, 1531, 1532, 1533, 1534] (by decide +kernel) (by decide +kernel)
set_option maxRecDepth 20000 in
theorem gL_law_X12_forget : GoodIn wsL_law (wsV RL 204 RX12 yX12_forget wsX12_forget) := goodIn_app (goodIn_of _ (by decide +kernel)) ggL_law_X12_forget
set_option maxRecDepth 20000 in
theorem ggL_law_L_wet : GoodIn wsL_law wsL_wet := goodIn_ca (goodIn_ca (goodIn_r _ [1332, 593, 194, 1333, 1334, 1335, 2, 1336, 199, 200, 695, 696, 697, 698, 598, 599, 28, 38, 600, 1337, 1338, 1339, 1340, 1341, 1342, 1343, 34, 754, 694, 769, 770, 771, 33, 772, 113, 773, 774, 434, 435, 62, 436, 437, 438, 439, 74, 440, 430, 431, 432, 75, 76, 77, 78, 79, 1344, 782, 783, 784, 114, 779, 785, 786, 787, 788, 789, 790, 116, 791, 792, 793, 224, 225, 226, 794, 228, 229, 795, 796, 797, 798, 799, 800, 801, 802, 115, 803, 804, 805, 68, 806, 390, 83, 807, 808, 809, 810, 334, 335, 336, 337, 338, 330, 331, 332, 811, 812, 813, 814, 815, 816, 817, 818, 819, 820, 821, 822, 823, 635, 350, 351, 824, 825, 826, 827, 828, 618, 829, 830, 831, 832, 833, 834, 835, 836, 837, 838, 839, 840, 841, 637, 638, 639, 640, 641, 642, 842, 843, 844, 845, 636, 1457, 1458, 1459, 1460, 1461, 1462, 1463, 1464, 1465, 1466, 1467, 1468, 1469, 1554, 1555, 1556, 1557, 1566, 1567, 1568, 1569, 1570, 1571, 1572, 1573, 1574, 1558, 1559, 1560, 1561, 1562, 1546, 1547, 1548, 1549, 1550, 1551, 1552, 1553, 1575, 1576] (by decide +kernel) (by decide +kernel)) (goodIn_sub (fun _ h => List.mem_append_left _ (List.mem_append_right _ h)) (by decide +kernel))) (goodIn_sub (fun _ h => List.mem_append_right _ h) (by decide +kernel))
set_option maxRecDepth 20000 in
theorem gL_law_L_wet : GoodIn wsL_law (va_wsS RL 205 yL_wet wsL_wet) := goodIn_app (goodIn_of _ (by decide +kernel)) ggL_law_L_wet
set_option maxRecDepth 20000 in
theorem ggL_law_X12_wet : GoodIn wsL_law wsX12_wet := goodIn_r _ [1348, 188, 1029, 1349, 161, 152, 711, 712, 713, 5, 714, 135, 715, 716, 717, 462, 463, 464, 465, 860, 861, 862, 863, 575, 150, 151, 153, 154, 155, 156, 157, 682, 683, 684, 868, 869, 870, 871, 872, 873, 874, 875, 681, 228, 225, 229, 718, 719, 720, 721, 876, 877, 878, 879, 159, 145, 473, 224, 226, 880, 881, 882, 883, 884, 885, 886, 887, 160, 888, 889, 890, 891, 892, 893, 894, 139, 895, 896, 897, 898, 899, 900, 901, 902, 903, 904, 905, 906, 146, 907, 908, 909, 910, 676, 641, 642, 911, 912, 913, 914, 989, 990, 991, 992, 1470, 1471, 1472, 1473, 1474, 1475, 1476, 1477, 1478, 1479, 1480, 1481, 1482, 1483, 1484, 1485, 1486, 1487, 1488, 1489, 1490, 1491, 1492, 1493, 1494, 1495, 1496, 1497, 1498, 1499, 1500, 1501, 1502, 1503, 1504, 1505, 1506, 1507, 1508, 1509, 1510, 1511, 1512, 1513, 1514, 1515, 1516, 1517, 1518, 1519, 1520, 1521, 1522, 1523, 1524, 1525, 1526, 1527, 1528, 1529, 1530, 1531, 1532, 1533, 1534] (by decide +kernel) (by decide +kernel)
set_option maxRecDepth 20000 in
theorem gL_law_X12_wet : GoodIn wsL_law (wsV RL 207 RX12 yX12_wet wsX12_wet) := goodIn_app (goodIn_of _ (by decide +kernel)) ggL_law_X12_wet
set_option maxRecDepth 20000 in
theorem ggL_law_L_game : GoodIn wsL_law wsL_game := goodIn_ca (goodIn_ca (goodIn_r _ [1352, 593, 194, 1353, 1354, 1355, 2, 1356, 199, 200, 695, 696, 697, 698, 598, 599, 28, 38, 600, 1000, 1001, 1002, 1357, 1358, 1359, 1360, 34, 754, 45, 769, 770, 771, 33, 772, 113, 773, 774, 434, 435, 62, 436, 437, 438, 439, 74, 440, 430, 431, 432, 75, 76, 77, 78, 79, 1361, 1362, 1363, 1364, 775, 776, 777, 778, 116, 779, 780, 609, 610, 23, 611, 240, 64, 781, 782, 783, 784, 114, 785, 786, 787, 788, 789, 790, 791, 792, 793, 224, 225, 226, 794, 228, 229, 795, 796, 797, 798, 799, 800, 801, 802, 115, 803, 804, 805, 68, 806, 390, 83, 807, 808, 809, 810, 334, 335, 336, 337, 338, 330, 331, 332, 811, 812, 813, 814, 815, 816, 817, 818, 819, 820, 821, 822, 823, 635, 350, 351, 824, 825, 826, 827, 828, 618, 829, 830, 831, 832, 833, 834, 835, 836, 837, 838, 839, 840, 841, 637, 638, 639, 640, 641, 642, 842, 843, 844, 845, 636, 1365, 1366, 1367, 1368, 1369, 704, 705, 706, 1370, 624, 625, 626, 1371, 617, 619, 620, 621, 622, 1372, 1373, 1374, 1375, 1457, 1458, 1459, 1460, 1461, 1462, 1463, 1464, 1465, 1466, 1467, 1468, 1469, 1554, 1555, 1556, 1557, 1566, 1567, 1568, 1569, 1570, 1571, 1572, 1573, 1574, 1558, 1559, 1560, 1561, 1562, 1546, 1547, 1548, 1549, 1550, 1551, 1552, 1553, 1575, 1576] (by decide +kernel) (by decide +kernel)) (goodIn_sub (fun _ h => List.mem_append_left _ (List.mem_append_right _ h)) (by decide +kernel))) (goodIn_sub (fun _ h => List.mem_append_right _ h) (by decide +kernel))
set_option maxRecDepth 20000 in
theorem gL_law_L_game : GoodIn wsL_law (va_wsS RL 208 yL_game wsL_game) := goodIn_app (goodIn_of _ (by decide +kernel)) ggL_law_L_game
set_option maxRecDepth 20000 in
theorem ggL_law_X12_game : GoodIn wsL_law wsX12_game := goodIn_r _ [1379, 188, 169, 711, 712, 713, 5, 714, 135, 715, 716, 717, 462, 463, 464, 465, 1380, 1381, 1382, 1383, 161, 150, 151, 860, 861, 862, 863, 575, 152, 153, 154, 155, 156, 157, 931, 932, 933, 934, 864, 865, 866, 867, 652, 653, 654, 655, 144, 868, 869, 870, 871, 872, 873, 874, 875, 681, 228, 225, 229, 718, 719, 720, 721, 876, 877, 878, 879, 159, 145, 473, 224, 226, 880, 881, 882, 883, 884, 885, 886, 887, 160, 888, 889, 890, 891, 892, 893, 894, 139, 895, 896, 897, 898, 899, 900, 901, 902, 903, 904, 905, 906, 146, 907, 908, 909, 910, 676, 641, 642, 911, 912, 913, 914, 1384, 1385, 1386, 1387, 722, 723, 724, 725, 660, 661, 662, 663, 1319, 1320, 1321, 989, 990, 991, 992, 1470, 1471, 1472, 1473, 1474, 1475, 1476, 1477, 1478, 1479, 1480, 1481, 1482, 1483, 1484, 1485, 1486, 1487, 1488, 1489, 1490, 1491, 1492, 1493, 1494, 1495, 1496, 1497, 1498, 1499, 1500, 1501, 1502, 1503, 1504, 1505, 1506, 1507, 1508, 1509, 1510, 1511, 1512, 1513, 1514, 1515, 1516, 1517, 1518, 1519, 1520, 1521, 1522, 1523, 1524, 1525, 1526, 1527, 1528, 1529, 1530, 1531, 1532, 1533, 1534] (by decide +kernel) (by decide +kernel)
set_option maxRecDepth 20000 in
theorem gL_law_X12_game : GoodIn wsL_law (wsV RL 210 RX12 yX12_game wsX12_game) := goodIn_app (goodIn_of _ (by decide +kernel)) ggL_law_X12_game
set_option maxRecDepth 20000 in
theorem ggL_law_L_ages : GoodIn wsL_law wsL_ages := goodIn_ca (goodIn_ca (goodIn_r _ [1390, 593, 194, 1391, 1392, 1393, 2, 1394, 43, 1395, 34, 28, 38, 754, 1396, 1000, 1001, 1002, 598, 599, 1007, 1008, 1009, 199, 200, 769, 770, 771, 33, 772, 113, 773, 774, 434, 435, 62, 436, 437, 438, 439, 74, 440, 430, 431, 432, 75, 76, 77, 78, 79, 1397, 1398, 1399, 1400, 116, 779, 789, 815, 834, 780, 609, 610, 23, 611, 240, 64, 1401, 1402, 1403, 42, 1404, 1405, 1406, 1407, 1362, 1363, 1364, 781, 782, 783, 784, 114, 785, 786, 787, 788, 790, 791, 792, 793, 224, 225, 226, 794, 228, 229, 795, 796, 797, 798, 799, 800, 801, 802, 115, 803, 804, 805, 68, 806, 390, 83, 807, 808, 809, 810, 334, 335, 336, 337, 338, 330, 331, 332, 811, 812, 813, 814, 816, 817, 818, 819, 820, 821, 822, 823, 635, 350, 351, 824, 825, 826, 827, 828, 618, 829, 830, 831, 832, 833, 835, 836, 837, 838, 839, 840, 841, 637, 638, 639, 640, 641, 642, 842, 843, 844, 845, 636, 612, 613, 614, 615, 616, 617, 619, 620, 621, 622, 627, 628, 629, 630, 1457, 1458, 1459, 1460, 1461, 1462, 1463, 1464, 1465, 1466, 1467, 1468, 1469, 1565, 1554, 1555, 1556, 1557, 1558, 1559, 1560, 1561, 1562, 1566, 1567, 1568, 1569, 1570, 1571, 1572, 1573, 1574, 1546, 1547, 1548, 1549, 1550, 1551, 1552, 1553, 1575, 1576] (by decide +kernel) (by decide +kernel)) (goodIn_sub (fun _ h => List.mem_append_right _ h) (by decide +kernel))) (goodIn_sub (fun _ h => List.mem_append_left _ (List.mem_append_right _ h)) (by decide +kernel))
set_option maxRecDepth 20000 in
theorem gL_law_L_ages : GoodIn wsL_law (va_wsS RL 211 yL_ages wsL_ages) := goodIn_app (goodIn_of _ (by decide +kernel)) ggL_law_L_ages
set_option maxRecDepth 20000 in
theorem ggL_law_X12_ages : GoodIn wsL_law wsX12_ages := goodIn_r _ [1411, 188, 1060, 1015, 161, 1412, 902, 715, 716, 5, 717, 462, 463, 464, 465, 860, 861, 862, 863, 575, 150, 151, 152, 153, 154, 155, 156, 157, 1413, 1414, 1415, 1416, 135, 1417, 1418, 1419, 1420, 1421, 931, 932, 933, 934, 652, 653, 654, 655, 144, 868, 869, 870, 871, 872, 873, 874, 875, 681, 228, 225, 229, 718, 719, 720, 721, 876, 877, 878, 879, 159, 145, 473, 224, 226, 880, 881, 882, 883, 884, 885, 886, 887, 160, 888, 889, 890, 891, 892, 893, 894, 139, 895, 896, 897, 898, 899, 900, 901, 903, 904, 905, 906, 146, 907, 908, 909, 910, 676, 641, 642, 911, 912, 913, 914, 656, 657, 658, 659, 1319, 1320, 1321, 664, 665, 666, 667, 989, 990, 991, 992, 1470, 1471, 1472, 1473, 1474, 1475, 1476, 1477, 1478, 1479, 1480, 1481, 1482, 1483, 1484, 1485, 1486, 1487, 1488, 1489, 1490, 1491, 1492, 1493, 1494, 1495, 1496, 1497, 1498, 1499, 1500, 1501, 1502, 1503, 1504, 1505, 1506, 1507, 1508, 1509, 1510, 1511, 1512, 1513, 1514, 1515, 1516, 1517, 1518, 1519, 1520, 1521, 1522, 1523, 1524, 1525, 1526, 1527, 1528, 1529, 1530, 1531, 1532, 1533, 1534] (by decide +kernel) (by decide +kernel)
set_option maxRecDepth 20000 in
theorem gL_law_X12_ages : GoodIn wsL_law (wsV RL 213 RX12 yX12_ages wsX12_ages) := goodIn_app (goodIn_of _ (by decide +kernel)) ggL_law_X12_ages
set_option maxRecDepth 20000 in
theorem ggL_law_X11_image : GoodIn wsL_law wsX11_image := goodIn_r _ [1425, 29, 28, 30, 1426, 1427, 1428, 27, 1429, 88, 92, 96, 97, 1430, 430, 431, 432, 452, 434, 435, 62, 436, 437, 438, 439, 74, 440, 75, 76, 77, 78, 79, 1431, 1432, 1433, 91, 1434, 763, 101, 764, 1435, 1436, 1437, 95, 1438, 1252, 105, 1439, 106, 107, 1457, 1458, 1459, 1460, 1461, 1462, 1463, 1464, 1465, 1466, 1467, 1468, 1469, 1554, 1555, 1556, 1557, 1566, 1567, 1568, 1569, 1570, 1571, 1572, 1573, 1574, 1577, 1578, 1579, 1580, 1581, 1582] (by decide +kernel) (by decide +kernel)
set_option maxRecDepth 20000 in
theorem gL_law_X11_image : GoodIn wsL_law (wsV RL 214 RX11 yX11_image wsX11_image) := goodIn_app (goodIn_of _ (by decide +kernel)) ggL_law_X11_image
set_option maxRecDepth 20000 in
theorem ggL_law_X12_image : GoodIn wsL_law wsX12_image := goodIn_r _ [1443, 188, 578, 576, 1444, 577, 1445, 170, 171, 158, 172, 163, 173, 164, 174, 165, 175, 147, 860, 861, 862, 5, 863, 575, 150, 151, 152, 153, 154, 155, 156, 157, 1446, 1447, 1448, 1470, 1471, 1472, 1473, 1474, 1475, 1476, 1477, 1478, 1479, 1480, 1481, 1482, 1483, 1484, 1485, 1486, 1487, 1488, 1489, 1490, 1491, 1492, 1493, 1494, 1495, 1496, 1497, 1498, 1499, 1500, 1501, 1502, 1503, 1504, 1505, 1506, 1507, 1508, 1509, 1510, 1511, 1512, 1513, 1514, 1515, 1516, 1517, 1518, 1519, 1520, 1521, 1522, 1523, 1524, 1525, 1526, 1527, 1528, 1529, 1530, 1531, 1532, 1533, 1534] (by decide +kernel) (by decide +kernel)
set_option maxRecDepth 20000 in
theorem gL_law_X12_image : GoodIn wsL_law (wsV RL 217 RX12 yX12_image wsX12_image) := goodIn_app (goodIn_of _ (by decide +kernel)) ggL_law_X12_image
set_option maxRecDepth 20000 in
theorem ggL_law_X11_restore : GoodIn wsL_law wsX11_restore := goodIn_r _ [1452, 30, 28, 29, 1426, 1427, 1428, 27, 1429, 88, 92, 96, 97, 1430, 430, 431, 432, 452, 434, 435, 62, 436, 437, 438, 439, 74, 440, 75, 76, 77, 78, 79, 1431, 1432, 1433, 91, 1434, 763, 101, 764, 1435, 1436, 1437, 95, 1438, 1252, 105, 1439, 106, 107, 1457, 1458, 1459, 1460, 1461, 1462, 1463, 1464, 1465, 1466, 1467, 1468, 1469, 1554, 1555, 1556, 1557, 1566, 1567, 1568, 1569, 1570, 1571, 1572, 1573, 1574, 1577, 1578, 1579, 1580, 1581, 1582] (by decide +kernel) (by decide +kernel)
set_option maxRecDepth 20000 in
theorem gL_law_X11_restore : GoodIn wsL_law (wsV RL 218 RX11 yX11_restore wsX11_restore) := goodIn_app (goodIn_of _ (by decide +kernel)) ggL_law_X11_restore
