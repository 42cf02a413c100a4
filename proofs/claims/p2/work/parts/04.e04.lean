theorem dX12_lay_38 : decode cX12_lay 38 = .ok (.aload_n 0, 1) := by decide +kernel
theorem dX12_lay_39 : decode cX12_lay 39 = .ok (.getfield 72, 3) := by decide +kernel
theorem dX12_lay_42 : decode cX12_lay 42 = .ok (.astore_n 3, 1) := by decide +kernel
theorem dX12_lay_43 : decode cX12_lay 43 = .ok (.aload_n 3, 1) := by decide +kernel
theorem dX12_lay_44 : decode cX12_lay 44 = .ok (.sipush 700, 3) := by decide +kernel
theorem dX12_lay_47 : decode cX12_lay 47 = .ok (.aload_n 0, 1) := by decide +kernel
theorem dX12_lay_48 : decode cX12_lay 48 = .ok (.getfield 42, 3) := by decide +kernel
theorem dX12_lay_51 : decode cX12_lay 51 = .ok (.iload_n 2, 1) := by decide +kernel
theorem dX12_lay_52 : decode cX12_lay 52 = .ok (.iaload, 1) := by decide +kernel
theorem dX12_lay_53 : decode cX12_lay 53 = .ok (.iadd, 1) := by decide +kernel
theorem dX12_lay_54 : decode cX12_lay 54 = .ok (.iload_n 1, 1) := by decide +kernel
theorem dX12_lay_55 : decode cX12_lay 55 = .ok (.iastore, 1) := by decide +kernel
theorem dX12_lay_56 : decode cX12_lay 56 = .ok (.aload_n 0, 1) := by decide +kernel
theorem dX12_lay_57 : decode cX12_lay 57 = .ok (.getfield 42, 3) := by decide +kernel
theorem dX12_lay_60 : decode cX12_lay 60 = .ok (.iload_n 2, 1) := by decide +kernel
theorem dX12_lay_61 : decode cX12_lay 61 = .ok (.dup2, 1) := by decide +kernel
theorem dX12_lay_62 : decode cX12_lay 62 = .ok (.iaload, 1) := by decide +kernel
theorem dX12_lay_63 : decode cX12_lay 63 = .ok (.iconst 1, 1) := by decide +kernel
theorem dX12_lay_64 : decode cX12_lay 64 = .ok (.iadd, 1) := by decide +kernel
theorem dX12_lay_65 : decode cX12_lay 65 = .ok (.iastore, 1) := by decide +kernel
theorem dX12_lay_66 : decode cX12_lay 66 = .ok (.return_, 1) := by decide +kernel
set_option maxRecDepth 20000 in
theorem ggX12_readPart_X12_readNumber : GoodIn wsX12_readPart wsX12_readNumber := goodIn_r _ [8, 1, 9, 10, 11, 7, 12, 2, 13, 14, 15, 16, 17, 18, 19, 20, 21, 22, 23, 24, 25, 26, 27, 28, 29, 30, 31, 32, 33, 34, 35, 36, 37, 38, 39, 40, 41, 42, 43, 44, 45, 142, 143, 144, 145, 146, 147, 148, 149, 150, 151, 152, 153, 154, 155, 156, 157, 158, 159, 160, 161, 162, 163, 164, 165, 166, 167, 168, 169, 170, 171, 172, 173, 174, 175, 176, 177, 178, 179, 180, 181, 182, 183, 184, 185, 186, 187, 188, 189, 190, 191, 192, 193, 194, 195, 196, 197, 198, 199, 200, 201, 202, 203, 204, 205, 206] (by decide +kernel) (by decide +kernel)
set_option maxRecDepth 20000 in
theorem gX12_readPart_X12_readNumber : GoodIn wsX12_readPart (wsV RX12 247 RX12 yX12_readNumber wsX12_readNumber) := goodIn_app (goodIn_of _ (by decide +kernel)) ggX12_readPart_X12_readNumber
set_option maxRecDepth 20000 in
theorem ggX12_readPart_X12_lay : GoodIn wsX12_readPart wsX12_lay := goodIn_r _ [49, 1, 50, 51, 52, 53, 142, 143, 144, 145, 146, 147, 148, 149, 150, 151, 152, 153, 154, 155, 156, 157, 158, 159, 160, 161, 162, 163, 164, 165, 166, 167, 168, 169, 170, 171, 172, 173, 174, 175, 176, 177, 178, 179, 180, 181, 182, 183, 184, 185, 186, 187, 188, 189, 190, 191, 192, 193, 194, 195, 196, 197, 198, 199, 200, 201, 202, 203, 204, 205, 206] (by decide +kernel) (by decide +kernel)
set_option maxRecDepth 20000 in
theorem gX12_readPart_X12_lay : GoodIn wsX12_readPart (wsV RX12 250 RX12 yX12_lay wsX12_lay) := goodIn_app (goodIn_of _ (by decide +kernel)) ggX12_readPart_X12_lay
set_option maxRecDepth 20000 in
theorem ggX12_readPart_X12_which : GoodIn wsX12_readPart wsX12_which := goodIn_r _ [57, 58, 59, 60, 7, 61, 1, 2, 13, 14, 36, 62, 63, 64, 65, 66, 67, 68, 69, 70, 71, 72, 73, 74, 75, 76, 77, 78, 79, 80, 81, 82, 83, 84, 85, 86, 87, 88, 89, 90, 91, 92, 93, 94, 95, 96, 97, 98, 99, 100, 101, 102, 103, 104, 105, 106, 107, 108, 109, 110, 142, 143, 144, 145, 146, 147, 148, 149, 150, 151, 152, 153, 154, 155, 156, 157, 158, 159, 160, 161, 162, 163, 164, 165, 166, 167, 168, 169, 170, 171, 172, 173, 174, 175, 176, 177, 178, 179, 180, 181, 182, 183, 184, 185, 186, 187, 188, 189, 190, 191, 192, 193, 194, 195, 196, 197, 198, 199, 200, 201, 202, 203, 204, 205, 206] (by decide +kernel) (by decide +kernel)
set_option maxRecDepth 20000 in
theorem gX12_readPart_X12_which : GoodIn wsX12_readPart (wsV RX12 253 RX12 yX12_which wsX12_which) := goodIn_app (goodIn_of _ (by decide +kernel)) ggX12_readPart_X12_which
set_option maxRecDepth 20000 in
theorem ggX12_readPart_X12_wrong : GoodIn wsX12_readPart wsX12_wrong := goodIn_r _ [19, 1, 14, 20, 142, 143, 144, 145, 146, 147, 148, 149, 150, 151, 152, 153, 154, 155, 156, 157, 158, 159, 160, 161, 162, 163, 164, 165, 166, 167, 168, 169, 170, 171, 172, 173, 174, 175, 176, 177, 178, 179, 180, 181, 182, 183, 184, 185, 186, 187, 188, 189, 190, 191, 192, 193, 194, 195, 196, 197, 198, 199, 200, 201, 202, 203, 204, 205, 206] (by decide +kernel) (by decide +kernel)
set_option maxRecDepth 20000 in
theorem gX12_readPart_X12_wrong : GoodIn wsX12_readPart (wsV RX12 233 RX12 yX12_wrong wsX12_wrong) := goodIn_app (goodIn_of _ (by decide +kernel)) ggX12_readPart_X12_wrong
set_option maxRecDepth 20000 in
theorem ggX12_readPart_X12_stepOn : GoodIn wsX12_readPart wsX12_stepOn := goodIn_r _ [24, 25, 14, 2, 15, 26, 27, 28, 29, 30, 13, 31, 32, 33, 7, 34, 35, 36, 37, 38, 39, 40, 41, 42, 43, 44, 45, 142, 143, 144, 145, 146, 147, 148, 149, 150, 151, 152, 153, 154, 155, 156, 157, 158, 159, 160, 161, 162, 163, 164, 165, 166, 167, 168, 169, 170, 171, 172, 173, 174, 175, 176, 177, 178, 179, 180, 181, 182, 183, 184, 185, 186, 187, 188, 189, 190, 191, 192, 193, 194, 195, 196, 197, 198, 199, 200, 201, 202, 203, 204, 205, 206] (by decide +kernel) (by decide +kernel)
set_option maxRecDepth 20000 in
theorem gX12_readPart_X12_stepOn : GoodIn wsX12_readPart (wsV RX12 237 RX12 yX12_stepOn wsX12_stepOn) := goodIn_app (goodIn_of _ (by decide +kernel)) ggX12_readPart_X12_stepOn
set_option maxRecDepth 20000 in
theorem ggX12_readPart_X12_mark : GoodIn wsX12_readPart wsX12_mark := goodIn_r _ [114, 1, 115, 116, 117, 7, 118, 2, 36, 14, 16, 17, 18, 19, 20, 21, 22, 23, 24, 25, 15, 26, 27, 28, 29, 30, 13, 31, 32, 33, 34, 35, 37, 38, 39, 40, 41, 42, 43, 44, 45, 142, 143, 144, 145, 146, 147, 148, 149, 150, 151, 152, 153, 154, 155, 156, 157, 158, 159, 160, 161, 162, 163, 164, 165, 166, 167, 168, 169, 170, 171, 172, 173, 174, 175, 176, 177, 178, 179, 180, 181, 182, 183, 184, 185, 186, 187, 188, 189, 190, 191, 192, 193, 194, 195, 196, 197, 198, 199, 200, 201, 202, 203, 204, 205, 206] (by decide +kernel) (by decide +kernel)
set_option maxRecDepth 20000 in
theorem gX12_readPart_X12_mark : GoodIn wsX12_readPart (wsV RX12 257 RX12 yX12_mark wsX12_mark) := goodIn_app (goodIn_of _ (by decide +kernel)) ggX12_readPart_X12_mark
set_option maxRecDepth 20000 in
theorem ggX12_readPart_X12_readExpression : GoodIn wsX12_readPart wsX12_readExpression := goodIn_r _ [126, 1, 2, 115, 116, 117, 7, 118, 36, 14, 16, 17, 18, 19, 20, 127, 128, 129, 58, 59, 60, 61, 13, 62, 63, 64, 65, 66, 67, 68, 69, 70, 71, 72, 73, 74, 75, 76, 77, 78, 79, 80, 81, 82, 83, 84, 85, 86, 87, 88, 89, 90, 91, 92, 93, 94, 95, 96, 97, 98, 99, 100, 101, 102, 103, 104, 105, 106, 107, 108, 109, 110, 21, 22, 23, 24, 25, 15, 26, 27, 28, 29, 30, 31, 32, 33, 34, 35, 37, 38, 39, 40, 41, 42, 43, 44, 45, 46, 47, 48, 49, 50, 51, 52, 53, 122, 123, 124, 125, 130, 131, 132, 133, 0, 3, 4, 5, 6, 8, 9, 10, 11, 12, 54, 55, 56, 57, 111, 112, 113, 114, 119, 120, 121, 134, 135, 136, 137, 138, 139, 140, 141, 142, 143, 144, 145, 146, 147, 148, 149, 150, 151, 152, 153, 154, 155, 156, 157, 158, 159, 160, 161, 162, 163, 164, 165, 166, 167, 168, 169, 170, 171, 172, 173, 174, 175, 176, 177, 178, 179, 180, 181, 182, 183, 184, 185, 186, 187, 188, 189, 190, 191, 192, 193, 194, 195, 196, 197, 198, 199, 200, 201, 202, 203, 204, 205, 206] (by decide +kernel) (by decide +kernel)
set_option maxRecDepth 20000 in
theorem gX12_readPart_X12_readExpression : GoodIn wsX12_readPart (wsV RX12 260 RX12 yX12_readExpression wsX12_readExpression) := goodIn_app (goodIn_of _ (by decide +kernel)) ggX12_readPart_X12_readExpression
theorem dX12_readPart_0 : decode cX12_readPart 0 = .ok (.aload_n 0, 1) := by decide +kernel
theorem dX12_readPart_1 : decode cX12_readPart 1 = .ok (.getfield 212, 3) := by decide +kernel
theorem dX12_readPart_4 : decode cX12_readPart 4 = .ok (.ifCond .eq 4, 3) := by decide +kernel
theorem dX12_readPart_7 : decode cX12_readPart 7 = .ok (.return_, 1) := by decide +kernel
theorem dX12_readPart_8 : decode cX12_readPart 8 = .ok (.aload_n 0, 1) := by decide +kernel
theorem dX12_readPart_9 : decode cX12_readPart 9 = .ok (.getfield 186, 3) := by decide +kernel
theorem dX12_readPart_12 : decode cX12_readPart 12 = .ok (.iconst 2, 1) := by decide +kernel
theorem dX12_readPart_13 : decode cX12_readPart 13 = .ok (.if_icmp .ne 16, 3) := by decide +kernel
theorem dX12_readPart_16 : decode cX12_readPart 16 = .ok (.aload_n 0, 1) := by decide +kernel
theorem dX12_readPart_17 : decode cX12_readPart 17 = .ok (.aload_n 0, 1) := by decide +kernel
theorem dX12_readPart_18 : decode cX12_readPart 18 = .ok (.iconst 0, 1) := by decide +kernel
theorem dX12_readPart_19 : decode cX12_readPart 19 = .ok (.sipush 9999, 3) := by decide +kernel
theorem dX12_readPart_22 : decode cX12_readPart 22 = .ok (.invokevirtual 247, 3) := by decide +kernel
theorem dX12_readPart_25 : decode cX12_readPart 25 = .ok (.invokevirtual 250, 3) := by decide +kernel
theorem dX12_readPart_28 : decode cX12_readPart 28 = .ok (.return_, 1) := by decide +kernel
theorem dX12_readPart_29 : decode cX12_readPart 29 = .ok (.aload_n 0, 1) := by decide +kernel
theorem dX12_readPart_30 : decode cX12_readPart 30 = .ok (.getfield 186, 3) := by decide +kernel
theorem dX12_readPart_33 : decode cX12_readPart 33 = .ok (.iconst 1, 1) := by decide +kernel
theorem dX12_readPart_34 : decode cX12_readPart 34 = .ok (.if_icmp .ne 41, 3) := by decide +kernel
theorem dX12_readPart_37 : decode cX12_readPart 37 = .ok (.aload_n 0, 1) := by decide +kernel
theorem dX12_readPart_38 : decode cX12_readPart 38 = .ok (.aload_n 0, 1) := by decide +kernel
theorem dX12_readPart_39 : decode cX12_readPart 39 = .ok (.getfield 39, 3) := by decide +kernel
theorem dX12_readPart_42 : decode cX12_readPart 42 = .ok (.invokevirtual 253, 3) := by decide +kernel
theorem dX12_readPart_45 : decode cX12_readPart 45 = .ok (.istore_n 2, 1) := by decide +kernel
theorem dX12_readPart_46 : decode cX12_readPart 46 = .ok (.iload_n 2, 1) := by decide +kernel
theorem dX12_readPart_47 : decode cX12_readPart 47 = .ok (.iconst (-1), 1) := by decide +kernel
theorem dX12_readPart_48 : decode cX12_readPart 48 = .ok (.if_icmp .ne 8, 3) := by decide +kernel
theorem dX12_readPart_51 : decode cX12_readPart 51 = .ok (.aload_n 0, 1) := by decide +kernel
theorem dX12_readPart_52 : decode cX12_readPart 52 = .ok (.iconst 3, 1) := by decide +kernel
theorem dX12_readPart_53 : decode cX12_readPart 53 = .ok (.invokevirtual 233, 3) := by decide +kernel
theorem dX12_readPart_56 : decode cX12_readPart 56 = .ok (.aload_n 0, 1) := by decide +kernel
theorem dX12_readPart_57 : decode cX12_readPart 57 = .ok (.iconst (-1), 1) := by decide +kernel
theorem dX12_readPart_58 : decode cX12_readPart 58 = .ok (.iload_n 2, 1) := by decide +kernel
theorem dX12_readPart_59 : decode cX12_readPart 59 = .ok (.isub, 1) := by decide +kernel
theorem dX12_readPart_60 : decode cX12_readPart 60 = .ok (.invokevirtual 250, 3) := by decide +kernel
theorem dX12_readPart_63 : decode cX12_readPart 63 = .ok (.aload_n 0, 1) := by decide +kernel
theorem dX12_readPart_64 : decode cX12_readPart 64 = .ok (.getfield 212, 3) := by decide +kernel
theorem dX12_readPart_67 : decode cX12_readPart 67 = .ok (.ifCond .ne 7, 3) := by decide +kernel
theorem dX12_readPart_70 : decode cX12_readPart 70 = .ok (.aload_n 0, 1) := by decide +kernel
theorem dX12_readPart_71 : decode cX12_readPart 71 = .ok (.invokevirtual 237, 3) := by decide +kernel
theorem dX12_readPart_74 : decode cX12_readPart 74 = .ok (.return_, 1) := by decide +kernel
theorem dX12_readPart_75 : decode cX12_readPart 75 = .ok (.aload_n 0, 1) := by decide +kernel
theorem dX12_readPart_76 : decode cX12_readPart 76 = .ok (.bipush 40, 2) := by decide +kernel
theorem dX12_readPart_78 : decode cX12_readPart 78 = .ok (.invokevirtual 257, 3) := by decide +kernel
theorem dX12_readPart_81 : decode cX12_readPart 81 = .ok (.aload_n 0, 1) := by decide +kernel
theorem dX12_readPart_82 : decode cX12_readPart 82 = .ok (.iload_n 1, 1) := by decide +kernel
theorem dX12_readPart_83 : decode cX12_readPart 83 = .ok (.iconst 1, 1) := by decide +kernel
theorem dX12_readPart_84 : decode cX12_readPart 84 = .ok (.iadd, 1) := by decide +kernel
theorem dX12_readPart_85 : decode cX12_readPart 85 = .ok (.invokevirtual 260, 3) := by decide +kernel
theorem dX12_readPart_88 : decode cX12_readPart 88 = .ok (.aload_n 0, 1) := by decide +kernel
theorem dX12_readPart_89 : decode cX12_readPart 89 = .ok (.bipush 41, 2) := by decide +kernel
theorem dX12_readPart_91 : decode cX12_readPart 91 = .ok (.invokevirtual 257, 3) := by decide +kernel
theorem dX12_readPart_94 : decode cX12_readPart 94 = .ok (.return_, 1) := by decide +kernel
set_option maxRecDepth 20000 in
theorem ggX12_readProduct_X12_readPart : GoodIn wsX12_readProduct wsX12_readPart := goodIn_r _ [117, 9, 10, 118, 119, 120, 121, 4, 122, 123, 124, 125, 126, 24, 12, 18, 105, 106, 107, 108, 109, 13, 14, 15, 16, 17, 19, 20, 21, 22, 23, 25, 26, 27, 28, 29, 11, 30, 31, 32, 33, 34, 35, 36, 37, 38, 39, 40, 41, 42, 43, 44, 45, 46, 127, 128, 129, 130, 51, 52, 53, 54, 55, 56, 57, 58, 59, 60, 61, 62, 63, 64, 65, 66, 67, 68, 69, 70, 71, 72, 73, 74, 75, 76, 77, 78, 79, 80, 81, 82, 83, 84, 85, 86, 87, 88, 89, 90, 91, 92, 93, 94, 95, 96, 97, 98, 99, 100, 101, 102, 103, 131, 132, 133, 134, 5, 6, 7, 8, 135, 136, 137, 47, 48, 49, 50, 104, 110, 111, 112, 113, 114, 115, 116, 0, 1, 2, 3, 138, 139, 140, 141, 142, 143, 144, 145, 146, 147, 148, 149, 150, 151, 152, 153, 154, 155, 156, 157, 158, 159, 160, 161, 162, 163, 164, 165, 166, 167, 168, 169, 170, 171, 172, 173, 174, 175, 176, 177, 178, 179, 180, 181, 182, 183, 184, 185, 186, 187, 188, 189, 190, 191, 192, 193, 194, 195, 196, 197, 198, 199, 200, 201, 202, 203, 204, 205, 206] (by decide +kernel) (by decide +kernel)
set_option maxRecDepth 20000 in
theorem gX12_readProduct_X12_readPart : GoodIn wsX12_readProduct (wsV RX12 263 RX12 yX12_readPart wsX12_readPart) := goodIn_app (goodIn_of _ (by decide +kernel)) ggX12_readProduct_X12_readPart
set_option maxRecDepth 20000 in
theorem ggX12_readProduct_X12_isMarked : GoodIn wsX12_readProduct wsX12_isMarked := goodIn_r _ [8, 9, 10, 11, 12, 142, 143, 144, 145, 146, 147, 148, 149, 150, 151, 152, 153, 154, 155, 156, 157, 158, 159, 160, 161, 162, 163, 164, 165, 166, 167, 168, 169, 170, 171, 172, 173, 174, 175, 176, 177, 178, 179, 180, 181, 182, 183, 184, 185, 186, 187, 188, 189, 190, 191, 192, 193, 194, 195, 196, 197, 198, 199, 200, 201, 202, 203, 204, 205, 206] (by decide +kernel) (by decide +kernel)
set_option maxRecDepth 20000 in
theorem gX12_readProduct_X12_isMarked : GoodIn wsX12_readProduct (wsV RX12 230 RX12 yX12_isMarked wsX12_isMarked) := goodIn_app (goodIn_of _ (by decide +kernel)) ggX12_readProduct_X12_isMarked
set_option maxRecDepth 20000 in
theorem ggX12_readProduct_X12_stepOn : GoodIn wsX12_readProduct wsX12_stepOn := goodIn_r _ [16, 17, 12, 10, 18, 19, 20, 21, 22, 23, 24, 25, 26, 27, 4, 28, 29, 11, 30, 31, 32, 33, 34, 35, 36, 37, 38, 142, 143, 144, 145, 146, 147, 148, 149, 150, 151, 152, 153, 154, 155, 156, 157, 158, 159, 160, 161, 162, 163, 164, 165, 166, 167, 168, 169, 170, 171, 172, 173, 174, 175, 176, 177, 178, 179, 180, 181, 182, 183, 184, 185, 186, 187, 188, 189, 190, 191, 192, 193, 194, 195, 196, 197, 198, 199, 200, 201, 202, 203, 204, 205, 206] (by decide +kernel) (by decide +kernel)
set_option maxRecDepth 20000 in
theorem gX12_readProduct_X12_stepOn : GoodIn wsX12_readProduct (wsV RX12 237 RX12 yX12_stepOn wsX12_stepOn) := goodIn_app (goodIn_of _ (by decide +kernel)) ggX12_readProduct_X12_stepOn
set_option maxRecDepth 20000 in
theorem ggX12_readProduct_X12_lay : GoodIn wsX12_readProduct wsX12_lay := goodIn_r _ [42, 9, 43, 44, 45, 46, 142, 143, 144, 145, 146, 147, 148, 149, 150, 151, 152, 153, 154, 155, 156, 157, 158, 159, 160, 161, 162, 163, 164, 165, 166, 167, 168, 169, 170, 171, 172, 173, 174, 175, 176, 177, 178, 179, 180, 181, 182, 183, 184, 185, 186, 187, 188, 189, 190, 191, 192, 193, 194, 195, 196, 197, 198, 199, 200, 201, 202, 203, 204, 205, 206] (by decide +kernel) (by decide +kernel)
set_option maxRecDepth 20000 in
theorem gX12_readProduct_X12_lay : GoodIn wsX12_readProduct (wsV RX12 250 RX12 yX12_lay wsX12_lay) := goodIn_app (goodIn_of _ (by decide +kernel)) ggX12_readProduct_X12_lay
theorem dX12_readProduct_0 : decode cX12_readProduct 0 = .ok (.aload_n 0, 1) := by decide +kernel
theorem dX12_readProduct_1 : decode cX12_readProduct 1 = .ok (.iload_n 1, 1) := by decide +kernel
theorem dX12_readProduct_2 : decode cX12_readProduct 2 = .ok (.invokevirtual 263, 3) := by decide +kernel
theorem dX12_readProduct_5 : decode cX12_readProduct 5 = .ok (.aload_n 0, 1) := by decide +kernel
theorem dX12_readProduct_6 : decode cX12_readProduct 6 = .ok (.bipush 42, 2) := by decide +kernel
theorem dX12_readProduct_8 : decode cX12_readProduct 8 = .ok (.invokevirtual 230, 3) := by decide +kernel
theorem dX12_readProduct_11 : decode cX12_readProduct 11 = .ok (.ifCond .ne 12, 3) := by decide +kernel
theorem dX12_readProduct_14 : decode cX12_readProduct 14 = .ok (.aload_n 0, 1) := by decide +kernel
theorem dX12_readProduct_15 : decode cX12_readProduct 15 = .ok (.bipush 47, 2) := by decide +kernel
theorem dX12_readProduct_17 : decode cX12_readProduct 17 = .ok (.invokevirtual 230, 3) := by decide +kernel
theorem dX12_readProduct_20 : decode cX12_readProduct 20 = .ok (.ifCond .eq 37, 3) := by decide +kernel
theorem dX12_readProduct_23 : decode cX12_readProduct 23 = .ok (.aload_n 0, 1) := by decide +kernel
theorem dX12_readProduct_24 : decode cX12_readProduct 24 = .ok (.bipush 42, 2) := by decide +kernel
theorem dX12_readProduct_26 : decode cX12_readProduct 26 = .ok (.invokevirtual 230, 3) := by decide +kernel
theorem dX12_readProduct_29 : decode cX12_readProduct 29 = .ok (.ifCond .eq 8, 3) := by decide +kernel
theorem dX12_readProduct_32 : decode cX12_readProduct 32 = .ok (.bipush (-22), 2) := by decide +kernel
theorem dX12_readProduct_34 : decode cX12_readProduct 34 = .ok (.goto 5, 3) := by decide +kernel
theorem dX12_readProduct_37 : decode cX12_readProduct 37 = .ok (.bipush (-23), 2) := by decide +kernel
theorem dX12_readProduct_39 : decode cX12_readProduct 39 = .ok (.istore_n 2, 1) := by decide +kernel
theorem dX12_readProduct_40 : decode cX12_readProduct 40 = .ok (.aload_n 0, 1) := by decide +kernel
theorem dX12_readProduct_41 : decode cX12_readProduct 41 = .ok (.invokevirtual 237, 3) := by decide +kernel
theorem dX12_readProduct_44 : decode cX12_readProduct 44 = .ok (.aload_n 0, 1) := by decide +kernel
theorem dX12_readProduct_45 : decode cX12_readProduct 45 = .ok (.iload_n 1, 1) := by decide +kernel
theorem dX12_readProduct_46 : decode cX12_readProduct 46 = .ok (.invokevirtual 263, 3) := by decide +kernel
theorem dX12_readProduct_49 : decode cX12_readProduct 49 = .ok (.aload_n 0, 1) := by decide +kernel
theorem dX12_readProduct_50 : decode cX12_readProduct 50 = .ok (.iload_n 2, 1) := by decide +kernel
theorem dX12_readProduct_51 : decode cX12_readProduct 51 = .ok (.invokevirtual 250, 3) := by decide +kernel
theorem dX12_readProduct_54 : decode cX12_readProduct 54 = .ok (.goto (-49), 3) := by decide +kernel
theorem dX12_readProduct_57 : decode cX12_readProduct 57 = .ok (.return_, 1) := by decide +kernel
set_option maxRecDepth 20000 in
theorem ggX12_readSum_X12_readProduct : GoodIn wsX12_readSum wsX12_readProduct := goodIn_r _ [138, 139, 140, 141, 4, 5, 6, 7, 8, 9, 10, 11, 12, 13, 14, 15, 16, 17, 18, 19, 20, 21, 22, 23, 24, 25, 26, 27, 28, 29, 30, 31, 32, 33, 34, 35, 36, 37, 38, 39, 40, 41, 42, 43, 44, 45, 46, 47, 48, 49, 50, 51, 52, 53, 54, 55, 56, 57, 58, 59, 60, 61, 62, 63, 64, 65, 66, 67, 68, 69, 70, 71, 72, 73, 74, 75, 76, 77, 78, 79, 80, 81, 82, 83, 84, 85, 86, 87, 88, 89, 90, 91, 92, 93, 94, 95, 96, 97, 98, 99, 100, 101, 102, 103, 104, 105, 106, 107, 108, 109, 110, 111, 112, 113, 114, 115, 116, 117, 118, 119, 120, 121, 122, 123, 124, 125, 126, 127, 128, 129, 130, 131, 132, 133, 134, 135, 136, 137, 0, 1, 2, 3, 142, 143, 144, 145, 146, 147, 148, 149, 150, 151, 152, 153, 154, 155, 156, 157, 158, 159, 160, 161, 162, 163, 164, 165, 166, 167, 168, 169, 170, 171, 172, 173, 174, 175, 176, 177, 178, 179, 180, 181, 182, 183, 184, 185, 186, 187, 188, 189, 190, 191, 192, 193, 194, 195, 196, 197, 198, 199, 200, 201, 202, 203, 204, 205, 206] (by decide +kernel) (by decide +kernel)
set_option maxRecDepth 20000 in
theorem gX12_readSum_X12_readProduct : GoodIn wsX12_readSum (wsV RX12 266 RX12 yX12_readProduct wsX12_readProduct) := goodIn_app (goodIn_of _ (by decide +kernel)) ggX12_readSum_X12_readProduct
set_option maxRecDepth 20000 in
theorem ggX12_readSum_X12_isMarked : GoodIn wsX12_readSum wsX12_isMarked := goodIn_r _ [8, 9, 10, 11, 12, 142, 143, 144, 145, 146, 147, 148, 149, 150, 151, 152, 153, 154, 155, 156, 157, 158, 159, 160, 161, 162, 163, 164, 165, 166, 167, 168, 169, 170, 171, 172, 173, 174, 175, 176, 177, 178, 179, 180, 181, 182, 183, 184, 185, 186, 187, 188, 189, 190, 191, 192, 193, 194, 195, 196, 197, 198, 199, 200, 201, 202, 203, 204, 205, 206] (by decide +kernel) (by decide +kernel)
set_option maxRecDepth 20000 in
theorem gX12_readSum_X12_isMarked : GoodIn wsX12_readSum (wsV RX12 230 RX12 yX12_isMarked wsX12_isMarked) := goodIn_app (goodIn_of _ (by decide +kernel)) ggX12_readSum_X12_isMarked
set_option maxRecDepth 20000 in
theorem ggX12_readSum_X12_stepOn : GoodIn wsX12_readSum wsX12_stepOn := goodIn_r _ [16, 17, 12, 10, 18, 19, 20, 21, 22, 23, 24, 25, 26, 27, 4, 28, 29, 11, 30, 31, 32, 33, 34, 35, 36, 37, 38, 142, 143, 144, 145, 146, 147, 148, 149, 150, 151, 152, 153, 154, 155, 156, 157, 158, 159, 160, 161, 162, 163, 164, 165, 166, 167, 168, 169, 170, 171, 172, 173, 174, 175, 176, 177, 178, 179, 180, 181, 182, 183, 184, 185, 186, 187, 188, 189, 190, 191, 192, 193, 194, 195, 196, 197, 198, 199, 200, 201, 202, 203, 204, 205, 206] (by decide +kernel) (by decide +kernel)
set_option maxRecDepth 20000 in
theorem gX12_readSum_X12_stepOn : GoodIn wsX12_readSum (wsV RX12 237 RX12 yX12_stepOn wsX12_stepOn) := goodIn_app (goodIn_of _ (by decide +kernel)) ggX12_readSum_X12_stepOn
set_option maxRecDepth 20000 in
theorem ggX12_readSum_X12_lay : GoodIn wsX12_readSum wsX12_lay := goodIn_r _ [42, 9, 43, 44, 45, 46, 142, 143, 144, 145, 146, 147, 148, 149, 150, 151, 152, 153, 154, 155, 156, 157, 158, 159, 160, 161, 162, 163, 164, 165, 166, 167, 168, 169, 170, 171, 172, 173, 174, 175, 176, 177, 178, 179, 180, 181, 182, 183, 184, 185, 186, 187, 188, 189, 190, 191, 192, 193, 194, 195, 196, 197, 198, 199, 200, 201, 202, 203, 204, 205, 206] (by decide +kernel) (by decide +kernel)
set_option maxRecDepth 20000 in
theorem gX12_readSum_X12_lay : GoodIn wsX12_readSum (wsV RX12 250 RX12 yX12_lay wsX12_lay) := goodIn_app (goodIn_of _ (by decide +kernel)) ggX12_readSum_X12_lay
theorem dX12_readSum_0 : decode cX12_readSum 0 = .ok (.aload_n 0, 1) := by decide +kernel
theorem dX12_readSum_1 : decode cX12_readSum 1 = .ok (.iload_n 1, 1) := by decide +kernel
theorem dX12_readSum_2 : decode cX12_readSum 2 = .ok (.invokevirtual 266, 3) := by decide +kernel
theorem dX12_readSum_5 : decode cX12_readSum 5 = .ok (.aload_n 0, 1) := by decide +kernel
theorem dX12_readSum_6 : decode cX12_readSum 6 = .ok (.bipush 43, 2) := by decide +kernel
theorem dX12_readSum_8 : decode cX12_readSum 8 = .ok (.invokevirtual 230, 3) := by decide +kernel
theorem dX12_readSum_11 : decode cX12_readSum 11 = .ok (.ifCond .ne 12, 3) := by decide +kernel
theorem dX12_readSum_14 : decode cX12_readSum 14 = .ok (.aload_n 0, 1) := by decide +kernel
theorem dX12_readSum_15 : decode cX12_readSum 15 = .ok (.bipush 45, 2) := by decide +kernel
theorem dX12_readSum_17 : decode cX12_readSum 17 = .ok (.invokevirtual 230, 3) := by decide +kernel
theorem dX12_readSum_20 : decode cX12_readSum 20 = .ok (.ifCond .eq 37, 3) := by decide +kernel
theorem dX12_readSum_23 : decode cX12_readSum 23 = .ok (.aload_n 0, 1) := by decide +kernel
theorem dX12_readSum_24 : decode cX12_readSum 24 = .ok (.bipush 43, 2) := by decide +kernel
theorem dX12_readSum_26 : decode cX12_readSum 26 = .ok (.invokevirtual 230, 3) := by decide +kernel
theorem dX12_readSum_29 : decode cX12_readSum 29 = .ok (.ifCond .eq 8, 3) := by decide +kernel
theorem dX12_readSum_32 : decode cX12_readSum 32 = .ok (.bipush (-20), 2) := by decide +kernel
theorem dX12_readSum_34 : decode cX12_readSum 34 = .ok (.goto 5, 3) := by decide +kernel
theorem dX12_readSum_37 : decode cX12_readSum 37 = .ok (.bipush (-21), 2) := by decide +kernel
theorem dX12_readSum_39 : decode cX12_readSum 39 = .ok (.istore_n 2, 1) := by decide +kernel
theorem dX12_readSum_40 : decode cX12_readSum 40 = .ok (.aload_n 0, 1) := by decide +kernel
theorem dX12_readSum_41 : decode cX12_readSum 41 = .ok (.invokevirtual 237, 3) := by decide +kernel
theorem dX12_readSum_44 : decode cX12_readSum 44 = .ok (.aload_n 0, 1) := by decide +kernel
theorem dX12_readSum_45 : decode cX12_readSum 45 = .ok (.iload_n 1, 1) := by decide +kernel
theorem dX12_readSum_46 : decode cX12_readSum 46 = .ok (.invokevirtual 266, 3) := by decide +kernel
theorem dX12_readSum_49 : decode cX12_readSum 49 = .ok (.aload_n 0, 1) := by decide +kernel
theorem dX12_readSum_50 : decode cX12_readSum 50 = .ok (.iload_n 2, 1) := by decide +kernel
theorem dX12_readSum_51 : decode cX12_readSum 51 = .ok (.invokevirtual 250, 3) := by decide +kernel
theorem dX12_readSum_54 : decode cX12_readSum 54 = .ok (.goto (-49), 3) := by decide +kernel
theorem dX12_readSum_57 : decode cX12_readSum 57 = .ok (.return_, 1) := by decide +kernel
set_option maxRecDepth 20000 in
theorem ggX12_readNot_X12_is : GoodIn wsX12_readNot wsX12_is := goodIn_r _ [6, 1, 7, 8, 9, 10, 11, 12, 13, 14, 15, 16, 17, 18, 19, 20, 21, 22, 23, 24, 25, 26, 27, 28, 29, 30, 31, 32, 33, 34, 35, 36, 37, 38, 39, 40, 41, 42, 43, 44, 45, 46, 47, 48, 49, 50, 51, 52, 53, 54, 55, 56, 57, 58, 59, 142, 143, 144, 145, 146, 147, 148, 149, 150, 151, 152, 153, 154, 155, 156, 157, 158, 159, 160, 161, 162, 163, 164, 165, 166, 167, 168, 169, 170, 171, 172, 173, 174, 175, 176, 177, 178, 179, 180, 181, 182, 183, 184, 185, 186, 187, 188, 189, 190, 191, 192, 193, 194, 195, 196, 197, 198, 199, 200, 201, 202, 203, 204, 205, 206] (by decide +kernel) (by decide +kernel)
set_option maxRecDepth 20000 in
theorem gX12_readNot_X12_is : GoodIn wsX12_readNot (wsV RX12 226 RX12 yX12_is wsX12_is) := goodIn_app (goodIn_of _ (by decide +kernel)) ggX12_readNot_X12_is
set_option maxRecDepth 20000 in
theorem ggX12_readNot_X12_wrong : GoodIn wsX12_readNot wsX12_wrong := goodIn_r _ [63, 1, 9, 64, 142, 143, 144, 145, 146, 147, 148, 149, 150, 151, 152, 153, 154, 155, 156, 157, 158, 159, 160, 161, 162, 163, 164, 165, 166, 167, 168, 169, 170, 171, 172, 173, 174, 175, 176, 177, 178, 179, 180, 181, 182, 183, 184, 185, 186, 187, 188, 189, 190, 191, 192, 193, 194, 195, 196, 197, 198, 199, 200, 201, 202, 203, 204, 205, 206] (by decide +kernel) (by decide +kernel)
set_option maxRecDepth 20000 in
theorem gX12_readNot_X12_wrong : GoodIn wsX12_readNot (wsV RX12 233 RX12 yX12_wrong wsX12_wrong) := goodIn_app (goodIn_of _ (by decide +kernel)) ggX12_readNot_X12_wrong
set_option maxRecDepth 20000 in
theorem ggX12_readNot_X12_stepOn : GoodIn wsX12_readNot wsX12_stepOn := goodIn_r _ [68, 69, 9, 7, 70, 71, 72, 73, 74, 75, 8, 76, 77, 78, 5, 79, 80, 10, 81, 82, 83, 84, 85, 86, 87, 88, 89, 142, 143, 144, 145, 146, 147, 148, 149, 150, 151, 152, 153, 154, 155, 156, 157, 158, 159, 160, 161, 162, 163, 164, 165, 166, 167, 168, 169, 170, 171, 172, 173, 174, 175, 176, 177, 178, 179, 180, 181, 182, 183, 184, 185, 186, 187, 188, 189, 190, 191, 192, 193, 194, 195, 196, 197, 198, 199, 200, 201, 202, 203, 204, 205, 206] (by decide +kernel) (by decide +kernel)
set_option maxRecDepth 20000 in
theorem gX12_readNot_X12_stepOn : GoodIn wsX12_readNot (wsV RX12 237 RX12 yX12_stepOn wsX12_stepOn) := goodIn_app (goodIn_of _ (by decide +kernel)) ggX12_readNot_X12_stepOn
set_option maxRecDepth 20000 in
theorem ggX12_readNot_X12_readSum : GoodIn wsX12_readNot wsX12_readSum := goodIn_r _ [138, 139, 140, 141, 5, 93, 94, 95, 96, 1, 7, 10, 9, 65, 66, 67, 68, 69, 70, 71, 72, 73, 74, 75, 8, 76, 77, 78, 79, 80, 81, 82, 83, 84, 85, 86, 87, 88, 89, 97, 98, 99, 100, 101, 102, 103, 104, 105, 106, 107, 108, 2, 3, 4, 6, 11, 12, 13, 14, 15, 16, 17, 18, 19, 20, 21, 22, 23, 24, 25, 26, 27, 28, 29, 30, 31, 32, 33, 34, 35, 36, 37, 38, 39, 40, 41, 42, 43, 44, 45, 46, 47, 48, 49, 50, 51, 52, 53, 54, 55, 56, 57, 58, 59, 109, 60, 61, 62, 63, 64, 110, 111, 112, 0, 90, 91, 92, 113, 114, 115, 116, 117, 118, 119, 120, 121, 122, 123, 124, 125, 126, 127, 128, 129, 130, 131, 132, 133, 134, 135, 136, 137, 142, 143, 144, 145, 146, 147, 148, 149, 150, 151, 152, 153, 154, 155, 156, 157, 158, 159, 160, 161, 162, 163, 164, 165, 166, 167, 168, 169, 170, 171, 172, 173, 174, 175, 176, 177, 178, 179, 180, 181, 182, 183, 184, 185, 186, 187, 188, 189, 190, 191, 192, 193, 194, 195, 196, 197, 198, 199, 200, 201, 202, 203, 204, 205, 206] (by decide +kernel) (by decide +kernel)
set_option maxRecDepth 20000 in
theorem gX12_readNot_X12_readSum : GoodIn wsX12_readNot (wsV RX12 271 RX12 yX12_readSum wsX12_readSum) := goodIn_app (goodIn_of _ (by decide +kernel)) ggX12_readNot_X12_readSum
set_option maxRecDepth 20000 in
theorem ggX12_readNot_X12_isMarked : GoodIn wsX12_readNot wsX12_isMarked := goodIn_r _ [96, 1, 7, 10, 9, 142, 143, 144, 145, 146, 147, 148, 149, 150, 151, 152, 153, 154, 155, 156, 157, 158, 159, 160, 161, 162, 163, 164, 165, 166, 167, 168, 169, 170, 171, 172, 173, 174, 175, 176, 177, 178, 179, 180, 181, 182, 183, 184, 185, 186, 187, 188, 189, 190, 191, 192, 193, 194, 195, 196, 197, 198, 199, 200, 201, 202, 203, 204, 205, 206] (by decide +kernel) (by decide +kernel)
set_option maxRecDepth 20000 in
theorem gX12_readNot_X12_isMarked : GoodIn wsX12_readNot (wsV RX12 230 RX12 yX12_isMarked wsX12_isMarked) := goodIn_app (goodIn_of _ (by decide +kernel)) ggX12_readNot_X12_isMarked
set_option maxRecDepth 20000 in
theorem ggX12_readNot_X12_lay : GoodIn wsX12_readNot wsX12_lay := goodIn_r _ [100, 1, 101, 102, 103, 104, 142, 143, 144, 145, 146, 147, 148, 149, 150, 151, 152, 153, 154, 155, 156, 157, 158, 159, 160, 161, 162, 163, 164, 165, 166, 167, 168, 169, 170, 171, 172, 173, 174, 175, 176, 177, 178, 179, 180, 181, 182, 183, 184, 185, 186, 187, 188, 189, 190, 191, 192, 193, 194, 195, 196, 197, 198, 199, 200, 201, 202, 203, 204, 205, 206] (by decide +kernel) (by decide +kernel)
set_option maxRecDepth 20000 in
theorem gX12_readNot_X12_lay : GoodIn wsX12_readNot (wsV RX12 250 RX12 yX12_lay wsX12_lay) := goodIn_app (goodIn_of _ (by decide +kernel)) ggX12_readNot_X12_lay
theorem dX12_readNot_0 : decode cX12_readNot 0 = .ok (.iconst 0, 1) := by decide +kernel
theorem dX12_readNot_1 : decode cX12_readNot 1 = .ok (.istore_n 2, 1) := by decide +kernel
theorem dX12_readNot_2 : decode cX12_readNot 2 = .ok (.aload_n 0, 1) := by decide +kernel
theorem dX12_readNot_3 : decode cX12_readNot 3 = .ok (.ldc_w 269, 3) := by decide +kernel
theorem dX12_readNot_6 : decode cX12_readNot 6 = .ok (.invokevirtual 226, 3) := by decide +kernel
theorem dX12_readNot_9 : decode cX12_readNot 9 = .ok (.ifCond .eq 31, 3) := by decide +kernel
theorem dX12_readNot_12 : decode cX12_readNot 12 = .ok (.iload_n 2, 1) := by decide +kernel
theorem dX12_readNot_13 : decode cX12_readNot 13 = .ok (.bipush 6, 2) := by decide +kernel
theorem dX12_readNot_15 : decode cX12_readNot 15 = .ok (.if_icmp .ne 8, 3) := by decide +kernel
theorem dX12_readNot_18 : decode cX12_readNot 18 = .ok (.aload_n 0, 1) := by decide +kernel
theorem dX12_readNot_19 : decode cX12_readNot 19 = .ok (.iconst 2, 1) := by decide +kernel
theorem dX12_readNot_20 : decode cX12_readNot 20 = .ok (.invokevirtual 233, 3) := by decide +kernel
theorem dX12_readNot_23 : decode cX12_readNot 23 = .ok (.iinc 2 1, 3) := by decide +kernel
theorem dX12_readNot_26 : decode cX12_readNot 26 = .ok (.aload_n 0, 1) := by decide +kernel
theorem dX12_readNot_27 : decode cX12_readNot 27 = .ok (.getfield 212, 3) := by decide +kernel
theorem dX12_readNot_30 : decode cX12_readNot 30 = .ok (.ifCond .ne (-28), 3) := by decide +kernel
theorem dX12_readNot_33 : decode cX12_readNot 33 = .ok (.aload_n 0, 1) := by decide +kernel
theorem dX12_readNot_34 : decode cX12_readNot 34 = .ok (.invokevirtual 237, 3) := by decide +kernel
theorem dX12_readNot_37 : decode cX12_readNot 37 = .ok (.goto (-35), 3) := by decide +kernel
theorem dX12_readNot_40 : decode cX12_readNot 40 = .ok (.aload_n 0, 1) := by decide +kernel
theorem dX12_readNot_41 : decode cX12_readNot 41 = .ok (.iload_n 1, 1) := by decide +kernel
theorem dX12_readNot_42 : decode cX12_readNot 42 = .ok (.invokevirtual 271, 3) := by decide +kernel
theorem dX12_readNot_45 : decode cX12_readNot 45 = .ok (.aload_n 0, 1) := by decide +kernel
theorem dX12_readNot_46 : decode cX12_readNot 46 = .ok (.bipush 60, 2) := by decide +kernel
theorem dX12_readNot_48 : decode cX12_readNot 48 = .ok (.invokevirtual 230, 3) := by decide +kernel
theorem dX12_readNot_51 : decode cX12_readNot 51 = .ok (.ifCond .ne 12, 3) := by decide +kernel
theorem dX12_readNot_54 : decode cX12_readNot 54 = .ok (.aload_n 0, 1) := by decide +kernel
theorem dX12_readNot_55 : decode cX12_readNot 55 = .ok (.bipush 61, 2) := by decide +kernel
theorem dX12_readNot_57 : decode cX12_readNot 57 = .ok (.invokevirtual 230, 3) := by decide +kernel
theorem dX12_readNot_60 : decode cX12_readNot 60 = .ok (.ifCond .eq 34, 3) := by decide +kernel
theorem dX12_readNot_63 : decode cX12_readNot 63 = .ok (.aload_n 0, 1) := by decide +kernel
theorem dX12_readNot_64 : decode cX12_readNot 64 = .ok (.bipush 60, 2) := by decide +kernel
theorem dX12_readNot_66 : decode cX12_readNot 66 = .ok (.invokevirtual 230, 3) := by decide +kernel
theorem dX12_readNot_69 : decode cX12_readNot 69 = .ok (.ifCond .eq 8, 3) := by decide +kernel
theorem dX12_readNot_72 : decode cX12_readNot 72 = .ok (.bipush (-24), 2) := by decide +kernel
theorem dX12_readNot_74 : decode cX12_readNot 74 = .ok (.goto 5, 3) := by decide +kernel
theorem dX12_readNot_77 : decode cX12_readNot 77 = .ok (.bipush (-25), 2) := by decide +kernel
theorem dX12_readNot_79 : decode cX12_readNot 79 = .ok (.istore_n 3, 1) := by decide +kernel
theorem dX12_readNot_80 : decode cX12_readNot 80 = .ok (.aload_n 0, 1) := by decide +kernel
theorem dX12_readNot_81 : decode cX12_readNot 81 = .ok (.invokevirtual 237, 3) := by decide +kernel
theorem dX12_readNot_84 : decode cX12_readNot 84 = .ok (.aload_n 0, 1) := by decide +kernel
theorem dX12_readNot_85 : decode cX12_readNot 85 = .ok (.iload_n 1, 1) := by decide +kernel
theorem dX12_readNot_86 : decode cX12_readNot 86 = .ok (.invokevirtual 271, 3) := by decide +kernel
theorem dX12_readNot_89 : decode cX12_readNot 89 = .ok (.aload_n 0, 1) := by decide +kernel
theorem dX12_readNot_90 : decode cX12_readNot 90 = .ok (.iload_n 3, 1) := by decide +kernel
theorem dX12_readNot_91 : decode cX12_readNot 91 = .ok (.invokevirtual 250, 3) := by decide +kernel
theorem dX12_readNot_94 : decode cX12_readNot 94 = .ok (.iconst 0, 1) := by decide +kernel
theorem dX12_readNot_95 : decode cX12_readNot 95 = .ok (.istore_n 3, 1) := by decide +kernel
theorem dX12_readNot_96 : decode cX12_readNot 96 = .ok (.iload_n 3, 1) := by decide +kernel
theorem dX12_readNot_97 : decode cX12_readNot 97 = .ok (.iload_n 2, 1) := by decide +kernel
theorem dX12_readNot_98 : decode cX12_readNot 98 = .ok (.if_icmp .ge 15, 3) := by decide +kernel
theorem dX12_readNot_101 : decode cX12_readNot 101 = .ok (.aload_n 0, 1) := by decide +kernel
theorem dX12_readNot_102 : decode cX12_readNot 102 = .ok (.bipush (-28), 2) := by decide +kernel
theorem dX12_readNot_104 : decode cX12_readNot 104 = .ok (.invokevirtual 250, 3) := by decide +kernel
theorem dX12_readNot_107 : decode cX12_readNot 107 = .ok (.iinc 3 1, 3) := by decide +kernel
theorem dX12_readNot_110 : decode cX12_readNot 110 = .ok (.goto (-14), 3) := by decide +kernel
theorem dX12_readNot_113 : decode cX12_readNot 113 = .ok (.return_, 1) := by decide +kernel
set_option maxRecDepth 20000 in
theorem ggX12_readAnd_X12_readNot : GoodIn wsX12_readAnd wsX12_readNot := goodIn_r _ [109, 9, 5, 6, 7, 4, 8, 10, 11, 12, 13, 14, 15, 16, 17, 18, 19, 20, 21, 22, 23, 24, 25, 26, 27, 28, 29, 30, 31, 32, 33, 34, 35, 36, 37, 38, 39, 40, 41, 42, 43, 44, 45, 46, 47, 48, 49, 50, 51, 52, 53, 54, 55, 56, 57, 58, 59, 60, 61, 62, 101, 102, 103, 104, 105, 63, 64, 65, 66, 67, 68, 69, 70, 71, 72, 73, 74, 75, 76, 77, 78, 79, 80, 81, 82, 83, 84, 85, 86, 87, 110, 111, 112, 97, 98, 99, 100, 88, 89, 90, 91, 92, 93, 94, 95, 0, 1, 2, 3, 96, 106, 107, 108, 113, 114, 115, 116, 117, 118, 119, 120, 121, 122, 123, 124, 125, 126, 127, 128, 129, 130, 131, 132, 133, 134, 135, 136, 137, 138, 139, 140, 141, 142, 143, 144, 145, 146, 147, 148, 149, 150, 151, 152, 153, 154, 155, 156, 157, 158, 159, 160, 161, 162, 163, 164, 165, 166, 167, 168, 169, 170, 171, 172, 173, 174, 175, 176, 177, 178, 179, 180, 181, 182, 183, 184, 185, 186, 187, 188, 189, 190, 191, 192, 193, 194, 195, 196, 197, 198, 199, 200, 201, 202, 203, 204, 205, 206] (by decide +kernel) (by decide +kernel)
set_option maxRecDepth 20000 in
theorem gX12_readAnd_X12_readNot : GoodIn wsX12_readAnd (wsV RX12 274 RX12 yX12_readNot wsX12_readNot) := goodIn_app (goodIn_of _ (by decide +kernel)) ggX12_readAnd_X12_readNot
set_option maxRecDepth 20000 in
theorem ggX12_readAnd_X12_is : GoodIn wsX12_readAnd wsX12_is := goodIn_r _ [8, 9, 10, 11, 12, 13, 14, 15, 16, 17, 18, 19, 20, 21, 22, 23, 24, 25, 26, 27, 28, 29, 30, 31, 32, 33, 34, 35, 36, 37, 38, 39, 40, 41, 42, 43, 44, 45, 46, 47, 48, 49, 50, 51, 52, 53, 54, 55, 56, 57, 58, 59, 60, 61, 62, 142, 143, 144, 145, 146, 147, 148, 149, 150, 151, 152, 153, 154, 155, 156, 157, 158, 159, 160, 161, 162, 163, 164, 165, 166, 167, 168, 169, 170, 171, 172, 173, 174, 175, 176, 177, 178, 179, 180, 181, 182, 183, 184, 185, 186, 187, 188, 189, 190, 191, 192, 193, 194, 195, 196, 197, 198, 199, 200, 201, 202, 203, 204, 205, 206] (by decide +kernel) (by decide +kernel)
set_option maxRecDepth 20000 in
theorem gX12_readAnd_X12_is : GoodIn wsX12_readAnd (wsV RX12 226 RX12 yX12_is wsX12_is) := goodIn_app (goodIn_of _ (by decide +kernel)) ggX12_readAnd_X12_is
set_option maxRecDepth 20000 in
theorem ggX12_readAnd_X12_stepOn : GoodIn wsX12_readAnd wsX12_stepOn := goodIn_r _ [66, 67, 12, 10, 68, 69, 70, 71, 72, 73, 11, 74, 75, 76, 4, 77, 78, 13, 79, 80, 81, 82, 83, 84, 85, 86, 87, 142, 143, 144, 145, 146, 147, 148, 149, 150, 151, 152, 153, 154, 155, 156, 157, 158, 159, 160, 161, 162, 163, 164, 165, 166, 167, 168, 169, 170, 171, 172, 173, 174, 175, 176, 177, 178, 179, 180, 181, 182, 183, 184, 185, 186, 187, 188, 189, 190, 191, 192, 193, 194, 195, 196, 197, 198, 199, 200, 201, 202, 203, 204, 205, 206] (by decide +kernel) (by decide +kernel)
set_option maxRecDepth 20000 in
theorem gX12_readAnd_X12_stepOn : GoodIn wsX12_readAnd (wsV RX12 237 RX12 yX12_stepOn wsX12_stepOn) := goodIn_app (goodIn_of _ (by decide +kernel)) ggX12_readAnd_X12_stepOn
set_option maxRecDepth 20000 in
theorem ggX12_readAnd_X12_lay : GoodIn wsX12_readAnd wsX12_lay := goodIn_r _ [91, 9, 92, 93, 94, 95, 142, 143, 144, 145, 146, 147, 148, 149, 150, 151, 152, 153, 154, 155, 156, 157, 158, 159, 160, 161, 162, 163, 164, 165, 166, 167, 168, 169, 170, 171, 172, 173, 174, 175, 176, 177, 178, 179, 180, 181, 182, 183, 184, 185, 186, 187, 188, 189, 190, 191, 192, 193, 194, 195, 196, 197, 198, 199, 200, 201, 202, 203, 204, 205, 206] (by decide +kernel) (by decide +kernel)
set_option maxRecDepth 20000 in
theorem gX12_readAnd_X12_lay : GoodIn wsX12_readAnd (wsV RX12 250 RX12 yX12_lay wsX12_lay) := goodIn_app (goodIn_of _ (by decide +kernel)) ggX12_readAnd_X12_lay
theorem dX12_readAnd_0 : decode cX12_readAnd 0 = .ok (.aload_n 0, 1) := by decide +kernel
theorem dX12_readAnd_1 : decode cX12_readAnd 1 = .ok (.iload_n 1, 1) := by decide +kernel
theorem dX12_readAnd_2 : decode cX12_readAnd 2 = .ok (.invokevirtual 274, 3) := by decide +kernel
theorem dX12_readAnd_5 : decode cX12_readAnd 5 = .ok (.aload_n 0, 1) := by decide +kernel
theorem dX12_readAnd_6 : decode cX12_readAnd 6 = .ok (.ldc_w 277, 3) := by decide +kernel
theorem dX12_readAnd_9 : decode cX12_readAnd 9 = .ok (.invokevirtual 226, 3) := by decide +kernel
theorem dX12_readAnd_12 : decode cX12_readAnd 12 = .ok (.ifCond .eq 21, 3) := by decide +kernel
theorem dX12_readAnd_15 : decode cX12_readAnd 15 = .ok (.aload_n 0, 1) := by decide +kernel
theorem dX12_readAnd_16 : decode cX12_readAnd 16 = .ok (.invokevirtual 237, 3) := by decide +kernel
theorem dX12_readAnd_19 : decode cX12_readAnd 19 = .ok (.aload_n 0, 1) := by decide +kernel
theorem dX12_readAnd_20 : decode cX12_readAnd 20 = .ok (.iload_n 1, 1) := by decide +kernel
theorem dX12_readAnd_21 : decode cX12_readAnd 21 = .ok (.invokevirtual 274, 3) := by decide +kernel
theorem dX12_readAnd_24 : decode cX12_readAnd 24 = .ok (.aload_n 0, 1) := by decide +kernel
theorem dX12_readAnd_25 : decode cX12_readAnd 25 = .ok (.bipush (-26), 2) := by decide +kernel
theorem dX12_readAnd_27 : decode cX12_readAnd 27 = .ok (.invokevirtual 250, 3) := by decide +kernel
theorem dX12_readAnd_30 : decode cX12_readAnd 30 = .ok (.goto (-25), 3) := by decide +kernel
theorem dX12_readAnd_33 : decode cX12_readAnd 33 = .ok (.return_, 1) := by decide +kernel
set_option maxRecDepth 20000 in
theorem ggX12_readExpression_X12_isMarked : GoodIn wsX12_readExpression wsX12_isMarked := goodIn_r _ [7, 1, 2, 8, 9, 142, 143, 144, 145, 146, 147, 148, 149, 150, 151, 152, 153, 154, 155, 156, 157, 158, 159, 160, 161, 162, 163, 164, 165, 166, 167, 168, 169, 170, 171, 172, 173, 174, 175, 176, 177, 178, 179, 180, 181, 182, 183, 184, 185, 186, 187, 188, 189, 190, 191, 192, 193, 194, 195, 196, 197, 198, 199, 200, 201, 202, 203, 204, 205, 206] (by decide +kernel) (by decide +kernel)
set_option maxRecDepth 20000 in
theorem gX12_readExpression_X12_isMarked : GoodIn wsX12_readExpression (wsV RX12 230 RX12 yX12_isMarked wsX12_isMarked) := goodIn_app (goodIn_of _ (by decide +kernel)) ggX12_readExpression_X12_isMarked
set_option maxRecDepth 20000 in
theorem ggX12_readExpression_X12_wrong : GoodIn wsX12_readExpression wsX12_wrong := goodIn_r _ [13, 1, 9, 14, 142, 143, 144, 145, 146, 147, 148, 149, 150, 151, 152, 153, 154, 155, 156, 157, 158, 159, 160, 161, 162, 163, 164, 165, 166, 167, 168, 169, 170, 171, 172, 173, 174, 175, 176, 177, 178, 179, 180, 181, 182, 183, 184, 185, 186, 187, 188, 189, 190, 191, 192, 193, 194, 195, 196, 197, 198, 199, 200, 201, 202, 203, 204, 205, 206] (by decide +kernel) (by decide +kernel)
set_option maxRecDepth 20000 in
theorem gX12_readExpression_X12_wrong : GoodIn wsX12_readExpression (wsV RX12 233 RX12 yX12_wrong wsX12_wrong) := goodIn_app (goodIn_of _ (by decide +kernel)) ggX12_readExpression_X12_wrong
set_option maxRecDepth 20000 in
theorem ggX12_readExpression_X12_readAnd : GoodIn wsX12_readExpression wsX12_readAnd := goodIn_r _ [105, 106, 107, 108, 6, 18, 19, 20, 21, 1, 2, 22, 9, 8, 23, 24, 25, 26, 27, 28, 29, 30, 31, 32, 33, 34, 35, 36, 37, 38, 39, 40, 41, 42, 43, 44, 45, 46, 47, 48, 49, 50, 51, 52, 53, 54, 55, 56, 57, 58, 59, 60, 61, 62, 63, 64, 65, 66, 67, 68, 69, 70, 71, 72, 73, 74, 75, 76, 77, 78, 79, 80, 81, 82, 83, 84, 85, 86, 87, 88, 89, 90, 91, 92, 93, 94, 95, 96, 97, 98, 99, 100, 101, 102, 103, 104, 0, 3, 4, 5, 7, 10, 11, 12, 13, 14, 15, 16, 17, 109, 110, 111, 112, 113, 114, 115, 116, 117, 118, 119, 120, 121, 122, 123, 124, 125, 126, 127, 128, 129, 130, 131, 132, 133, 134, 135, 136, 137, 138, 139, 140, 141, 142, 143, 144, 145, 146, 147, 148, 149, 150, 151, 152, 153, 154, 155, 156, 157, 158, 159, 160, 161, 162, 163, 164, 165, 166, 167, 168, 169, 170, 171, 172, 173, 174, 175, 176, 177, 178, 179, 180, 181, 182, 183, 184, 185, 186, 187, 188, 189, 190, 191, 192, 193, 194, 195, 196, 197, 198, 199, 200, 201, 202, 203, 204, 205, 206] (by decide +kernel) (by decide +kernel)
set_option maxRecDepth 20000 in
theorem gX12_readExpression_X12_readAnd : GoodIn wsX12_readExpression (wsV RX12 279 RX12 yX12_readAnd wsX12_readAnd) := goodIn_app (goodIn_of _ (by decide +kernel)) ggX12_readExpression_X12_readAnd
set_option maxRecDepth 20000 in
theorem ggX12_readExpression_X12_is : GoodIn wsX12_readExpression wsX12_is := goodIn_r _ [21, 1, 2, 22, 9, 8, 23, 24, 25, 26, 27, 28, 29, 30, 31, 32, 33, 34, 35, 36, 37, 38, 39, 40, 41, 42, 43, 44, 45, 46, 47, 48, 49, 50, 51, 52, 53, 54, 55, 56, 57, 58, 59, 60, 61, 62, 63, 64, 65, 66, 67, 68, 69, 70, 71, 142, 143, 144, 145, 146, 147, 148, 149, 150, 151, 152, 153, 154, 155, 156, 157, 158, 159, 160, 161, 162, 163, 164, 165, 166, 167, 168, 169, 170, 171, 172, 173, 174, 175, 176, 177, 178, 179, 180, 181, 182, 183, 184, 185, 186, 187, 188, 189, 190, 191, 192, 193, 194, 195, 196, 197, 198, 199, 200, 201, 202, 203, 204, 205, 206] (by decide +kernel) (by decide +kernel)
set_option maxRecDepth 20000 in
theorem gX12_readExpression_X12_is : GoodIn wsX12_readExpression (wsV RX12 226 RX12 yX12_is wsX12_is) := goodIn_app (goodIn_of _ (by decide +kernel)) ggX12_readExpression_X12_is
set_option maxRecDepth 20000 in
theorem ggX12_readExpression_X12_stepOn : GoodIn wsX12_readExpression wsX12_stepOn := goodIn_r _ [75, 76, 9, 2, 77, 78, 79, 80, 81, 82, 22, 83, 84, 85, 6, 86, 87, 8, 88, 89, 90, 91, 92, 93, 94, 95, 96, 142, 143, 144, 145, 146, 147, 148, 149, 150, 151, 152, 153, 154, 155, 156, 157, 158, 159, 160, 161, 162, 163, 164, 165, 166, 167, 168, 169, 170, 171, 172, 173, 174, 175, 176, 177, 178, 179, 180, 181, 182, 183, 184, 185, 186, 187, 188, 189, 190, 191, 192, 193, 194, 195, 196, 197, 198, 199, 200, 201, 202, 203, 204, 205, 206] (by decide +kernel) (by decide +kernel)
set_option maxRecDepth 20000 in
theorem gX12_readExpression_X12_stepOn : GoodIn wsX12_readExpression (wsV RX12 237 RX12 yX12_stepOn wsX12_stepOn) := goodIn_app (goodIn_of _ (by decide +kernel)) ggX12_readExpression_X12_stepOn
set_option maxRecDepth 20000 in
theorem ggX12_readExpression_X12_lay : GoodIn wsX12_readExpression wsX12_lay := goodIn_r _ [100, 1, 101, 102, 103, 104, 142, 143, 144, 145, 146, 147, 148, 149, 150, 151, 152, 153, 154, 155, 156, 157, 158, 159, 160, 161, 162, 163, 164, 165, 166, 167, 168, 169, 170, 171, 172, 173, 174, 175, 176, 177, 178, 179, 180, 181, 182, 183, 184, 185, 186, 187, 188, 189, 190, 191, 192, 193, 194, 195, 196, 197, 198, 199, 200, 201, 202, 203, 204, 205, 206] (by decide +kernel) (by decide +kernel)
set_option maxRecDepth 20000 in
theorem gX12_readExpression_X12_lay : GoodIn wsX12_readExpression (wsV RX12 250 RX12 yX12_lay wsX12_lay) := goodIn_app (goodIn_of _ (by decide +kernel)) ggX12_readExpression_X12_lay
theorem dX12_readExpression_0 : decode cX12_readExpression 0 = .ok (.aload_n 0, 1) := by decide +kernel
theorem dX12_readExpression_1 : decode cX12_readExpression 1 = .ok (.getfield 212, 3) := by decide +kernel
theorem dX12_readExpression_4 : decode cX12_readExpression 4 = .ok (.ifCond .eq 4, 3) := by decide +kernel
theorem dX12_readExpression_7 : decode cX12_readExpression 7 = .ok (.return_, 1) := by decide +kernel
theorem dX12_readExpression_8 : decode cX12_readExpression 8 = .ok (.aload_n 0, 1) := by decide +kernel
theorem dX12_readExpression_9 : decode cX12_readExpression 9 = .ok (.getfield 186, 3) := by decide +kernel
theorem dX12_readExpression_12 : decode cX12_readExpression 12 = .ok (.iconst 2, 1) := by decide +kernel
theorem dX12_readExpression_13 : decode cX12_readExpression 13 = .ok (.if_icmp .eq 20, 3) := by decide +kernel
theorem dX12_readExpression_16 : decode cX12_readExpression 16 = .ok (.aload_n 0, 1) := by decide +kernel
theorem dX12_readExpression_17 : decode cX12_readExpression 17 = .ok (.getfield 186, 3) := by decide +kernel
theorem dX12_readExpression_20 : decode cX12_readExpression 20 = .ok (.iconst 1, 1) := by decide +kernel
theorem dX12_readExpression_21 : decode cX12_readExpression 21 = .ok (.if_icmp .eq 12, 3) := by decide +kernel
theorem dX12_readExpression_24 : decode cX12_readExpression 24 = .ok (.aload_n 0, 1) := by decide +kernel
theorem dX12_readExpression_25 : decode cX12_readExpression 25 = .ok (.bipush 40, 2) := by decide +kernel
theorem dX12_readExpression_27 : decode cX12_readExpression 27 = .ok (.invokevirtual 230, 3) := by decide +kernel
theorem dX12_readExpression_30 : decode cX12_readExpression 30 = .ok (.ifCond .eq 7, 3) := by decide +kernel
theorem dX12_readExpression_33 : decode cX12_readExpression 33 = .ok (.iconst 1, 1) := by decide +kernel
theorem dX12_readExpression_34 : decode cX12_readExpression 34 = .ok (.goto 4, 3) := by decide +kernel
theorem dX12_readExpression_37 : decode cX12_readExpression 37 = .ok (.iconst 0, 1) := by decide +kernel
theorem dX12_readExpression_38 : decode cX12_readExpression 38 = .ok (.istore_n 2, 1) := by decide +kernel
theorem dX12_readExpression_39 : decode cX12_readExpression 39 = .ok (.iload_n 2, 1) := by decide +kernel
theorem dX12_readExpression_40 : decode cX12_readExpression 40 = .ok (.ifCond .ne 11, 3) := by decide +kernel
theorem dX12_readExpression_43 : decode cX12_readExpression 43 = .ok (.aload_n 0, 1) := by decide +kernel
theorem dX12_readExpression_44 : decode cX12_readExpression 44 = .ok (.iconst 1, 1) := by decide +kernel
theorem dX12_readExpression_45 : decode cX12_readExpression 45 = .ok (.invokevirtual 233, 3) := by decide +kernel
theorem dX12_readExpression_48 : decode cX12_readExpression 48 = .ok (.goto 14, 3) := by decide +kernel
theorem dX12_readExpression_51 : decode cX12_readExpression 51 = .ok (.iload_n 1, 1) := by decide +kernel
theorem dX12_readExpression_52 : decode cX12_readExpression 52 = .ok (.bipush 6, 2) := by decide +kernel
theorem dX12_readExpression_54 : decode cX12_readExpression 54 = .ok (.if_icmp .ne 8, 3) := by decide +kernel
theorem dX12_readExpression_57 : decode cX12_readExpression 57 = .ok (.aload_n 0, 1) := by decide +kernel
theorem dX12_readExpression_58 : decode cX12_readExpression 58 = .ok (.iconst 2, 1) := by decide +kernel
theorem dX12_readExpression_59 : decode cX12_readExpression 59 = .ok (.invokevirtual 233, 3) := by decide +kernel
theorem dX12_readExpression_62 : decode cX12_readExpression 62 = .ok (.aload_n 0, 1) := by decide +kernel
theorem dX12_readExpression_63 : decode cX12_readExpression 63 = .ok (.iload_n 1, 1) := by decide +kernel
theorem dX12_readExpression_64 : decode cX12_readExpression 64 = .ok (.invokevirtual 279, 3) := by decide +kernel
theorem dX12_readExpression_67 : decode cX12_readExpression 67 = .ok (.aload_n 0, 1) := by decide +kernel
theorem dX12_readExpression_68 : decode cX12_readExpression 68 = .ok (.ldc_w 282, 3) := by decide +kernel
theorem dX12_readExpression_71 : decode cX12_readExpression 71 = .ok (.invokevirtual 226, 3) := by decide +kernel
theorem dX12_readExpression_74 : decode cX12_readExpression 74 = .ok (.ifCond .eq 21, 3) := by decide +kernel
theorem dX12_readExpression_77 : decode cX12_readExpression 77 = .ok (.aload_n 0, 1) := by decide +kernel
theorem dX12_readExpression_78 : decode cX12_readExpression 78 = .ok (.invokevirtual 237, 3) := by decide +kernel
theorem dX12_readExpression_81 : decode cX12_readExpression 81 = .ok (.aload_n 0, 1) := by decide +kernel
theorem dX12_readExpression_82 : decode cX12_readExpression 82 = .ok (.iload_n 1, 1) := by decide +kernel
theorem dX12_readExpression_83 : decode cX12_readExpression 83 = .ok (.invokevirtual 279, 3) := by decide +kernel
theorem dX12_readExpression_86 : decode cX12_readExpression 86 = .ok (.aload_n 0, 1) := by decide +kernel
theorem dX12_readExpression_87 : decode cX12_readExpression 87 = .ok (.bipush (-27), 2) := by decide +kernel
theorem dX12_readExpression_89 : decode cX12_readExpression 89 = .ok (.invokevirtual 250, 3) := by decide +kernel
theorem dX12_readExpression_92 : decode cX12_readExpression 92 = .ok (.goto (-25), 3) := by decide +kernel
theorem dX12_readExpression_95 : decode cX12_readExpression 95 = .ok (.return_, 1) := by decide +kernel
set_option maxRecDepth 20000 in
theorem ggX12_another_X12_wrong : GoodIn wsX12_another wsX12_wrong := goodIn_r _ [7, 2, 8, 9, 38, 39, 40, 41, 42, 43, 44, 45, 46, 47, 48, 49, 50, 51, 52, 53, 54, 55, 56, 57, 58, 59, 60, 61, 62, 63, 64, 65, 66, 67, 68, 69, 70, 71, 72, 73, 74, 75, 76, 77, 78, 79, 80, 81, 82, 83, 84, 85, 86, 87, 88, 89, 90, 91, 92, 93, 94, 95, 96, 97, 98, 99, 100, 101, 102] (by decide +kernel) (by decide +kernel)
set_option maxRecDepth 20000 in
theorem gX12_another_X12_wrong : GoodIn wsX12_another (wsV RX12 233 RX12 yX12_wrong wsX12_wrong) := goodIn_app (goodIn_of _ (by decide +kernel)) ggX12_another_X12_wrong
set_option maxRecDepth 20000 in
theorem ggX12_another_X12_stepOn : GoodIn wsX12_another wsX12_stepOn := goodIn_r _ [13, 14, 8, 15, 16, 17, 18, 19, 20, 21, 22, 23, 24, 25, 6, 26, 27, 28, 29, 30, 31, 32, 33, 34, 35, 36, 37, 38, 39, 40, 41, 42, 43, 44, 45, 46, 47, 48, 49, 50, 51, 52, 53, 54, 55, 56, 57, 58, 59, 60, 61, 62, 63, 64, 65, 66, 67, 68, 69, 70, 71, 72, 73, 74, 75, 76, 77, 78, 79, 80, 81, 82, 83, 84, 85, 86, 87, 88, 89, 90, 91, 92, 93, 94, 95, 96, 97, 98, 99, 100, 101, 102] (by decide +kernel) (by decide +kernel)
set_option maxRecDepth 20000 in
theorem gX12_another_X12_stepOn : GoodIn wsX12_another (wsV RX12 237 RX12 yX12_stepOn wsX12_stepOn) := goodIn_app (goodIn_of _ (by decide +kernel)) ggX12_another_X12_stepOn
theorem dX12_another_0 : decode cX12_another 0 = .ok (.aload_n 0, 1) := by decide +kernel
theorem dX12_another_1 : decode cX12_another 1 = .ok (.getfield 42, 3) := by decide +kernel
theorem dX12_another_4 : decode cX12_another 4 = .ok (.bipush 6, 2) := by decide +kernel
theorem dX12_another_6 : decode cX12_another 6 = .ok (.iload_n 1, 1) := by decide +kernel
theorem dX12_another_7 : decode cX12_another 7 = .ok (.iadd, 1) := by decide +kernel
theorem dX12_another_8 : decode cX12_another 8 = .ok (.iaload, 1) := by decide +kernel
theorem dX12_another_9 : decode cX12_another 9 = .ok (.iload_n 2, 1) := by decide +kernel
theorem dX12_another_10 : decode cX12_another 10 = .ok (.if_icmp .ne 8, 3) := by decide +kernel
theorem dX12_another_13 : decode cX12_another 13 = .ok (.aload_n 0, 1) := by decide +kernel
theorem dX12_another_14 : decode cX12_another 14 = .ok (.iconst 2, 1) := by decide +kernel
theorem dX12_another_15 : decode cX12_another 15 = .ok (.invokevirtual 233, 3) := by decide +kernel
theorem dX12_another_18 : decode cX12_another 18 = .ok (.aload_n 0, 1) := by decide +kernel
theorem dX12_another_19 : decode cX12_another 19 = .ok (.getfield 212, 3) := by decide +kernel
theorem dX12_another_22 : decode cX12_another 22 = .ok (.ifCond .eq 5, 3) := by decide +kernel
theorem dX12_another_25 : decode cX12_another 25 = .ok (.iconst 0, 1) := by decide +kernel
theorem dX12_another_26 : decode cX12_another 26 = .ok (.ireturn, 1) := by decide +kernel
theorem dX12_another_27 : decode cX12_another 27 = .ok (.aload_n 0, 1) := by decide +kernel
theorem dX12_another_28 : decode cX12_another 28 = .ok (.invokevirtual 237, 3) := by decide +kernel
theorem dX12_another_31 : decode cX12_another 31 = .ok (.iconst 1, 1) := by decide +kernel
theorem dX12_another_32 : decode cX12_another 32 = .ok (.ireturn, 1) := by decide +kernel
set_option maxRecDepth 20000 in
theorem ggX12_sayStone_X12_another : GoodIn wsX12_sayStone wsX12_another := goodIn_r _ [9, 1, 10, 11, 12, 13, 8, 14, 15, 16, 17, 18, 19, 20, 21, 22, 23, 24, 25, 26, 27, 28, 29, 30, 31, 32, 33, 34, 35, 36, 37, 38, 39, 40, 41, 42, 43, 44, 53, 54, 55, 56, 57, 58, 59, 60, 61, 62, 63, 64, 65, 66, 67, 68, 69, 70, 71, 72, 73, 74, 75, 76, 77, 78, 79, 80, 81, 82, 83, 84, 85, 86, 87, 88, 89, 90, 91, 92, 93, 94, 95, 96, 97, 98, 99, 100, 101, 102, 103, 104, 105, 106, 107, 108, 109, 110, 111, 112, 113, 114, 115, 116, 117] (by decide +kernel) (by decide +kernel)
set_option maxRecDepth 20000 in
theorem gX12_sayStone_X12_another : GoodIn wsX12_sayStone (wsV RX12 284 RX12 yX12_another wsX12_another) := goodIn_app (goodIn_of _ (by decide +kernel)) ggX12_sayStone_X12_another
set_option maxRecDepth 20000 in
theorem ggX12_sayStone_X12_readNumber : GoodIn wsX12_sayStone wsX12_readNumber := goodIn_r _ [48, 10, 49, 50, 51, 8, 52, 22, 29, 15, 23, 11, 12, 13, 14, 16, 17, 18, 19, 20, 21, 24, 25, 26, 27, 28, 30, 31, 32, 33, 34, 35, 36, 37, 38, 39, 40, 41, 42, 43, 44, 53, 54, 55, 56, 57, 58, 59, 60, 61, 62, 63, 64, 65, 66, 67, 68, 69, 70, 71, 72, 73, 74, 75, 76, 77, 78, 79, 80, 81, 82, 83, 84, 85, 86, 87, 88, 89, 90, 91, 92, 93, 94, 95, 96, 97, 98, 99, 100, 101, 102, 103, 104, 105, 106, 107, 108, 109, 110, 111, 112, 113, 114, 115, 116, 117] (by decide +kernel) (by decide +kernel)
set_option maxRecDepth 20000 in
theorem gX12_sayStone_X12_readNumber : GoodIn wsX12_sayStone (wsV RX12 247 RX12 yX12_readNumber wsX12_readNumber) := goodIn_app (goodIn_of _ (by decide +kernel)) ggX12_sayStone_X12_readNumber
theorem dX12_sayStone_0 : decode cX12_sayStone 0 = .ok (.aload_n 0, 1) := by decide +kernel
theorem dX12_sayStone_1 : decode cX12_sayStone 1 = .ok (.iconst 0, 1) := by decide +kernel
theorem dX12_sayStone_2 : decode cX12_sayStone 2 = .ok (.bipush 8, 2) := by decide +kernel
theorem dX12_sayStone_4 : decode cX12_sayStone 4 = .ok (.invokevirtual 284, 3) := by decide +kernel
theorem dX12_sayStone_7 : decode cX12_sayStone 7 = .ok (.ifCond .ne 4, 3) := by decide +kernel
theorem dX12_sayStone_10 : decode cX12_sayStone 10 = .ok (.return_, 1) := by decide +kernel
theorem dX12_sayStone_11 : decode cX12_sayStone 11 = .ok (.bipush 8, 2) := by decide +kernel
theorem dX12_sayStone_13 : decode cX12_sayStone 13 = .ok (.aload_n 0, 1) := by decide +kernel
theorem dX12_sayStone_14 : decode cX12_sayStone 14 = .ok (.getfield 42, 3) := by decide +kernel
theorem dX12_sayStone_17 : decode cX12_sayStone 17 = .ok (.bipush 6, 2) := by decide +kernel
theorem dX12_sayStone_19 : decode cX12_sayStone 19 = .ok (.iaload, 1) := by decide +kernel
theorem dX12_sayStone_20 : decode cX12_sayStone 20 = .ok (.iadd, 1) := by decide +kernel
theorem dX12_sayStone_21 : decode cX12_sayStone 21 = .ok (.istore_n 1, 1) := by decide +kernel
theorem dX12_sayStone_22 : decode cX12_sayStone 22 = .ok (.aload_n 0, 1) := by decide +kernel
theorem dX12_sayStone_23 : decode cX12_sayStone 23 = .ok (.getfield 46, 3) := by decide +kernel
theorem dX12_sayStone_26 : decode cX12_sayStone 26 = .ok (.iload_n 1, 1) := by decide +kernel
theorem dX12_sayStone_27 : decode cX12_sayStone 27 = .ok (.aload_n 0, 1) := by decide +kernel
theorem dX12_sayStone_28 : decode cX12_sayStone 28 = .ok (.iconst 0, 1) := by decide +kernel
theorem dX12_sayStone_29 : decode cX12_sayStone 29 = .ok (.bipush 9, 2) := by decide +kernel
theorem dX12_sayStone_31 : decode cX12_sayStone 31 = .ok (.invokevirtual 247, 3) := by decide +kernel
theorem dX12_sayStone_34 : decode cX12_sayStone 34 = .ok (.iastore, 1) := by decide +kernel
theorem dX12_sayStone_35 : decode cX12_sayStone 35 = .ok (.aload_n 0, 1) := by decide +kernel
theorem dX12_sayStone_36 : decode cX12_sayStone 36 = .ok (.getfield 49, 3) := by decide +kernel
theorem dX12_sayStone_39 : decode cX12_sayStone 39 = .ok (.iload_n 1, 1) := by decide +kernel
theorem dX12_sayStone_40 : decode cX12_sayStone 40 = .ok (.aload_n 0, 1) := by decide +kernel
theorem dX12_sayStone_41 : decode cX12_sayStone 41 = .ok (.iconst 0, 1) := by decide +kernel
theorem dX12_sayStone_42 : decode cX12_sayStone 42 = .ok (.bipush 9, 2) := by decide +kernel
theorem dX12_sayStone_44 : decode cX12_sayStone 44 = .ok (.invokevirtual 247, 3) := by decide +kernel
theorem dX12_sayStone_47 : decode cX12_sayStone 47 = .ok (.iastore, 1) := by decide +kernel
theorem dX12_sayStone_48 : decode cX12_sayStone 48 = .ok (.aload_n 0, 1) := by decide +kernel
theorem dX12_sayStone_49 : decode cX12_sayStone 49 = .ok (.getfield 52, 3) := by decide +kernel
theorem dX12_sayStone_52 : decode cX12_sayStone 52 = .ok (.iload_n 1, 1) := by decide +kernel
theorem dX12_sayStone_53 : decode cX12_sayStone 53 = .ok (.aload_n 0, 1) := by decide +kernel
theorem dX12_sayStone_54 : decode cX12_sayStone 54 = .ok (.iconst 0, 1) := by decide +kernel
theorem dX12_sayStone_55 : decode cX12_sayStone 55 = .ok (.bipush 99, 2) := by decide +kernel
theorem dX12_sayStone_57 : decode cX12_sayStone 57 = .ok (.invokevirtual 247, 3) := by decide +kernel
theorem dX12_sayStone_60 : decode cX12_sayStone 60 = .ok (.iastore, 1) := by decide +kernel
theorem dX12_sayStone_61 : decode cX12_sayStone 61 = .ok (.aload_n 0, 1) := by decide +kernel
theorem dX12_sayStone_62 : decode cX12_sayStone 62 = .ok (.getfield 42, 3) := by decide +kernel
theorem dX12_sayStone_65 : decode cX12_sayStone 65 = .ok (.bipush 6, 2) := by decide +kernel
theorem dX12_sayStone_67 : decode cX12_sayStone 67 = .ok (.dup2, 1) := by decide +kernel
theorem dX12_sayStone_68 : decode cX12_sayStone 68 = .ok (.iaload, 1) := by decide +kernel
theorem dX12_sayStone_69 : decode cX12_sayStone 69 = .ok (.iconst 1, 1) := by decide +kernel
theorem dX12_sayStone_70 : decode cX12_sayStone 70 = .ok (.iadd, 1) := by decide +kernel
theorem dX12_sayStone_71 : decode cX12_sayStone 71 = .ok (.iastore, 1) := by decide +kernel
theorem dX12_sayStone_72 : decode cX12_sayStone 72 = .ok (.return_, 1) := by decide +kernel
set_option maxRecDepth 20000 in
theorem ggX12_sayPerson_X12_another : GoodIn wsX12_sayPerson wsX12_another := goodIn_r _ [12, 1, 7, 13, 14, 15, 11, 16, 17, 18, 19, 20, 21, 22, 23, 24, 25, 26, 27, 28, 29, 30, 31, 32, 33, 34, 35, 36, 37, 38, 39, 40, 41, 42, 43, 44, 45, 46, 108, 109, 110, 111, 112, 113, 114, 115, 116, 117, 118, 119, 120, 121, 122, 123, 124, 125, 126, 127, 128, 129, 130, 131, 132, 133, 134, 135, 136, 137, 138, 139, 140, 141, 142, 143, 144, 145, 146, 147, 148, 149, 150, 151, 152, 153, 154, 155, 156, 157, 158, 159, 160, 161, 162, 163, 164, 165, 166, 167, 168, 169, 170, 171, 172] (by decide +kernel) (by decide +kernel)
set_option maxRecDepth 20000 in
theorem gX12_sayPerson_X12_another : GoodIn wsX12_sayPerson (wsV RX12 284 RX12 yX12_another wsX12_another) := goodIn_app (goodIn_of _ (by decide +kernel)) ggX12_sayPerson_X12_another
set_option maxRecDepth 20000 in
theorem ggX12_sayPerson_X12_readNumber : GoodIn wsX12_sayPerson wsX12_readNumber := goodIn_r _ [50, 7, 51, 52, 53, 11, 54, 24, 31, 17, 25, 13, 14, 15, 16, 18, 19, 20, 21, 22, 23, 26, 27, 28, 29, 30, 32, 33, 34, 35, 36, 37, 38, 39, 40, 41, 42, 43, 44, 45, 46, 108, 109, 110, 111, 112, 113, 114, 115, 116, 117, 118, 119, 120, 121, 122, 123, 124, 125, 126, 127, 128, 129, 130, 131, 132, 133, 134, 135, 136, 137, 138, 139, 140, 141, 142, 143, 144, 145, 146, 147, 148, 149, 150, 151, 152, 153, 154, 155, 156, 157, 158, 159, 160, 161, 162, 163, 164, 165, 166, 167, 168, 169, 170, 171, 172] (by decide +kernel) (by decide +kernel)
set_option maxRecDepth 20000 in
theorem gX12_sayPerson_X12_readNumber : GoodIn wsX12_sayPerson (wsV RX12 247 RX12 yX12_readNumber wsX12_readNumber) := goodIn_app (goodIn_of _ (by decide +kernel)) ggX12_sayPerson_X12_readNumber
set_option maxRecDepth 20000 in
theorem ggX12_sayPerson_X12_is : GoodIn wsX12_sayPerson wsX12_is := goodIn_r _ [58, 7, 24, 31, 17, 37, 59, 60, 61, 62, 63, 64, 65, 66, 67, 68, 69, 70, 71, 72, 73, 74, 75, 76, 77, 78, 79, 80, 81, 82, 83, 84, 85, 86, 87, 88, 89, 90, 91, 92, 93, 94, 95, 96, 97, 98, 99, 100, 101, 102, 103, 104, 105, 106, 107, 108, 109, 110, 111, 112, 113, 114, 115, 116, 117, 118, 119, 120, 121, 122, 123, 124, 125, 126, 127, 128, 129, 130, 131, 132, 133, 134, 135, 136, 137, 138, 139, 140, 141, 142, 143, 144, 145, 146, 147, 148, 149, 150, 151, 152, 153, 154, 155, 156, 157, 158, 159, 160, 161, 162, 163, 164, 165, 166, 167, 168, 169, 170, 171, 172] (by decide +kernel) (by decide +kernel)
set_option maxRecDepth 20000 in
theorem gX12_sayPerson_X12_is : GoodIn wsX12_sayPerson (wsV RX12 226 RX12 yX12_is wsX12_is) := goodIn_app (goodIn_of _ (by decide +kernel)) ggX12_sayPerson_X12_is
set_option maxRecDepth 20000 in
theorem ggX12_sayPerson_X12_stepOn : GoodIn wsX12_sayPerson wsX12_stepOn := goodIn_r _ [22, 23, 17, 24, 25, 26, 27, 28, 29, 30, 31, 32, 33, 34, 11, 35, 36, 37, 38, 39, 40, 41, 42, 43, 44, 45, 46, 108, 109, 110, 111, 112, 113, 114, 115, 116, 117, 118, 119, 120, 121, 122, 123, 124, 125, 126, 127, 128, 129, 130, 131, 132, 133, 134, 135, 136, 137, 138, 139, 140, 141, 142, 143, 144, 145, 146, 147, 148, 149, 150, 151, 152, 153, 154, 155, 156, 157, 158, 159, 160, 161, 162, 163, 164, 165, 166, 167, 168, 169, 170, 171, 172] (by decide +kernel) (by decide +kernel)
set_option maxRecDepth 20000 in
theorem gX12_sayPerson_X12_stepOn : GoodIn wsX12_sayPerson (wsV RX12 237 RX12 yX12_stepOn wsX12_stepOn) := goodIn_app (goodIn_of _ (by decide +kernel)) ggX12_sayPerson_X12_stepOn
set_option maxRecDepth 20000 in
theorem ggX12_sayPerson_X12_numberNow : GoodIn wsX12_sayPerson wsX12_numberNow := goodIn_r _ [54, 7, 24, 31, 17, 25, 13, 14, 15, 11, 16, 18, 108, 109, 110, 111, 112, 113, 114, 115, 116, 117, 118, 119, 120, 121, 122, 123, 124, 125, 126, 127, 128, 129, 130, 131, 132, 133, 134, 135, 136, 137, 138, 139, 140, 141, 142, 143, 144, 145, 146, 147, 148, 149, 150, 151, 152, 153, 154, 155, 156, 157, 158, 159, 160, 161, 162, 163, 164, 165, 166, 167, 168, 169, 170, 171, 172] (by decide +kernel) (by decide +kernel)
set_option maxRecDepth 20000 in
theorem gX12_sayPerson_X12_numberNow : GoodIn wsX12_sayPerson (wsV RX12 240 RX12 yX12_numberNow wsX12_numberNow) := goodIn_app (goodIn_of _ (by decide +kernel)) ggX12_sayPerson_X12_numberNow
set_option maxRecDepth 20000 in
theorem ggX12_sayPerson_X12_wrong : GoodIn wsX12_sayPerson wsX12_wrong := goodIn_r _ [16, 7, 17, 18, 108, 109, 110, 111, 112, 113, 114, 115, 116, 117, 118, 119, 120, 121, 122, 123, 124, 125, 126, 127, 128, 129, 130, 131, 132, 133, 134, 135, 136, 137, 138, 139, 140, 141, 142, 143, 144, 145, 146, 147, 148, 149, 150, 151, 152, 153, 154, 155, 156, 157, 158, 159, 160, 161, 162, 163, 164, 165, 166, 167, 168, 169, 170, 171, 172] (by decide +kernel) (by decide +kernel)
set_option maxRecDepth 20000 in
theorem gX12_sayPerson_X12_wrong : GoodIn wsX12_sayPerson (wsV RX12 233 RX12 yX12_wrong wsX12_wrong) := goodIn_app (goodIn_of _ (by decide +kernel)) ggX12_sayPerson_X12_wrong
theorem dX12_sayPerson_0 : decode cX12_sayPerson 0 = .ok (.aload_n 0, 1) := by decide +kernel
theorem dX12_sayPerson_1 : decode cX12_sayPerson 1 = .ok (.iconst 1, 1) := by decide +kernel
theorem dX12_sayPerson_2 : decode cX12_sayPerson 2 = .ok (.bipush 8, 2) := by decide +kernel
theorem dX12_sayPerson_4 : decode cX12_sayPerson 4 = .ok (.invokevirtual 284, 3) := by decide +kernel
theorem dX12_sayPerson_7 : decode cX12_sayPerson 7 = .ok (.ifCond .ne 4, 3) := by decide +kernel
theorem dX12_sayPerson_10 : decode cX12_sayPerson 10 = .ok (.return_, 1) := by decide +kernel
theorem dX12_sayPerson_11 : decode cX12_sayPerson 11 = .ok (.bipush 8, 2) := by decide +kernel
theorem dX12_sayPerson_13 : decode cX12_sayPerson 13 = .ok (.aload_n 0, 1) := by decide +kernel
theorem dX12_sayPerson_14 : decode cX12_sayPerson 14 = .ok (.getfield 42, 3) := by decide +kernel
theorem dX12_sayPerson_17 : decode cX12_sayPerson 17 = .ok (.bipush 7, 2) := by decide +kernel
theorem dX12_sayPerson_19 : decode cX12_sayPerson 19 = .ok (.iaload, 1) := by decide +kernel
theorem dX12_sayPerson_20 : decode cX12_sayPerson 20 = .ok (.iadd, 1) := by decide +kernel
theorem dX12_sayPerson_21 : decode cX12_sayPerson 21 = .ok (.istore_n 2, 1) := by decide +kernel
theorem dX12_sayPerson_22 : decode cX12_sayPerson 22 = .ok (.aload_n 0, 1) := by decide +kernel
theorem dX12_sayPerson_23 : decode cX12_sayPerson 23 = .ok (.getfield 55, 3) := by decide +kernel
theorem dX12_sayPerson_26 : decode cX12_sayPerson 26 = .ok (.iload_n 2, 1) := by decide +kernel
theorem dX12_sayPerson_27 : decode cX12_sayPerson 27 = .ok (.iload_n 1, 1) := by decide +kernel
theorem dX12_sayPerson_28 : decode cX12_sayPerson 28 = .ok (.iastore, 1) := by decide +kernel
theorem dX12_sayPerson_29 : decode cX12_sayPerson 29 = .ok (.aload_n 0, 1) := by decide +kernel
theorem dX12_sayPerson_30 : decode cX12_sayPerson 30 = .ok (.getfield 57, 3) := by decide +kernel
theorem dX12_sayPerson_33 : decode cX12_sayPerson 33 = .ok (.iload_n 2, 1) := by decide +kernel
theorem dX12_sayPerson_34 : decode cX12_sayPerson 34 = .ok (.aload_n 0, 1) := by decide +kernel
theorem dX12_sayPerson_35 : decode cX12_sayPerson 35 = .ok (.iconst 0, 1) := by decide +kernel
theorem dX12_sayPerson_36 : decode cX12_sayPerson 36 = .ok (.bipush 9, 2) := by decide +kernel
theorem dX12_sayPerson_38 : decode cX12_sayPerson 38 = .ok (.invokevirtual 247, 3) := by decide +kernel
theorem dX12_sayPerson_41 : decode cX12_sayPerson 41 = .ok (.iastore, 1) := by decide +kernel
theorem dX12_sayPerson_42 : decode cX12_sayPerson 42 = .ok (.aload_n 0, 1) := by decide +kernel
theorem dX12_sayPerson_43 : decode cX12_sayPerson 43 = .ok (.getfield 60, 3) := by decide +kernel
theorem dX12_sayPerson_46 : decode cX12_sayPerson 46 = .ok (.iload_n 2, 1) := by decide +kernel
theorem dX12_sayPerson_47 : decode cX12_sayPerson 47 = .ok (.aload_n 0, 1) := by decide +kernel
theorem dX12_sayPerson_48 : decode cX12_sayPerson 48 = .ok (.iconst 0, 1) := by decide +kernel
theorem dX12_sayPerson_49 : decode cX12_sayPerson 49 = .ok (.bipush 9, 2) := by decide +kernel
theorem dX12_sayPerson_51 : decode cX12_sayPerson 51 = .ok (.invokevirtual 247, 3) := by decide +kernel
theorem dX12_sayPerson_54 : decode cX12_sayPerson 54 = .ok (.iastore, 1) := by decide +kernel
theorem dX12_sayPerson_55 : decode cX12_sayPerson 55 = .ok (.aload_n 0, 1) := by decide +kernel
theorem dX12_sayPerson_56 : decode cX12_sayPerson 56 = .ok (.getfield 63, 3) := by decide +kernel
theorem dX12_sayPerson_59 : decode cX12_sayPerson 59 = .ok (.iload_n 2, 1) := by decide +kernel
theorem dX12_sayPerson_60 : decode cX12_sayPerson 60 = .ok (.aload_n 0, 1) := by decide +kernel
theorem dX12_sayPerson_61 : decode cX12_sayPerson 61 = .ok (.iconst 0, 1) := by decide +kernel
theorem dX12_sayPerson_62 : decode cX12_sayPerson 62 = .ok (.bipush 99, 2) := by decide +kernel
theorem dX12_sayPerson_64 : decode cX12_sayPerson 64 = .ok (.invokevirtual 247, 3) := by decide +kernel
theorem dX12_sayPerson_67 : decode cX12_sayPerson 67 = .ok (.iastore, 1) := by decide +kernel
theorem dX12_sayPerson_68 : decode cX12_sayPerson 68 = .ok (.aload_n 0, 1) := by decide +kernel
theorem dX12_sayPerson_69 : decode cX12_sayPerson 69 = .ok (.getfield 66, 3) := by decide +kernel
theorem dX12_sayPerson_72 : decode cX12_sayPerson 72 = .ok (.iload_n 2, 1) := by decide +kernel
theorem dX12_sayPerson_73 : decode cX12_sayPerson 73 = .ok (.iconst (-1), 1) := by decide +kernel
theorem dX12_sayPerson_74 : decode cX12_sayPerson 74 = .ok (.iastore, 1) := by decide +kernel
theorem dX12_sayPerson_75 : decode cX12_sayPerson 75 = .ok (.aload_n 0, 1) := by decide +kernel
theorem dX12_sayPerson_76 : decode cX12_sayPerson 76 = .ok (.ldc_w 288, 3) := by decide +kernel
theorem dX12_sayPerson_79 : decode cX12_sayPerson 79 = .ok (.invokevirtual 226, 3) := by decide +kernel
theorem dX12_sayPerson_82 : decode cX12_sayPerson 82 = .ok (.ifCond .eq 57, 3) := by decide +kernel
theorem dX12_sayPerson_85 : decode cX12_sayPerson 85 = .ok (.aload_n 0, 1) := by decide +kernel
theorem dX12_sayPerson_86 : decode cX12_sayPerson 86 = .ok (.invokevirtual 237, 3) := by decide +kernel
theorem dX12_sayPerson_89 : decode cX12_sayPerson 89 = .ok (.aload_n 0, 1) := by decide +kernel
theorem dX12_sayPerson_90 : decode cX12_sayPerson 90 = .ok (.iconst 0, 1) := by decide +kernel
theorem dX12_sayPerson_91 : decode cX12_sayPerson 91 = .ok (.sipush 9999, 3) := by decide +kernel
theorem dX12_sayPerson_94 : decode cX12_sayPerson 94 = .ok (.invokevirtual 240, 3) := by decide +kernel
theorem dX12_sayPerson_97 : decode cX12_sayPerson 97 = .ok (.istore_n 3, 1) := by decide +kernel
theorem dX12_sayPerson_98 : decode cX12_sayPerson 98 = .ok (.aload_n 0, 1) := by decide +kernel
theorem dX12_sayPerson_99 : decode cX12_sayPerson 99 = .ok (.getfield 212, 3) := by decide +kernel
theorem dX12_sayPerson_102 : decode cX12_sayPerson 102 = .ok (.ifCond .ne 19, 3) := by decide +kernel
theorem dX12_sayPerson_105 : decode cX12_sayPerson 105 = .ok (.iload_n 3, 1) := by decide +kernel
theorem dX12_sayPerson_106 : decode cX12_sayPerson 106 = .ok (.aload_n 0, 1) := by decide +kernel
theorem dX12_sayPerson_107 : decode cX12_sayPerson 107 = .ok (.getfield 42, 3) := by decide +kernel
theorem dX12_sayPerson_110 : decode cX12_sayPerson 110 = .ok (.bipush 6, 2) := by decide +kernel
theorem dX12_sayPerson_112 : decode cX12_sayPerson 112 = .ok (.iaload, 1) := by decide +kernel
theorem dX12_sayPerson_113 : decode cX12_sayPerson 113 = .ok (.if_icmp .lt 8, 3) := by decide +kernel
theorem dX12_sayPerson_116 : decode cX12_sayPerson 116 = .ok (.aload_n 0, 1) := by decide +kernel
theorem dX12_sayPerson_117 : decode cX12_sayPerson 117 = .ok (.iconst 3, 1) := by decide +kernel
theorem dX12_sayPerson_118 : decode cX12_sayPerson 118 = .ok (.invokevirtual 233, 3) := by decide +kernel
theorem dX12_sayPerson_121 : decode cX12_sayPerson 121 = .ok (.aload_n 0, 1) := by decide +kernel
theorem dX12_sayPerson_122 : decode cX12_sayPerson 122 = .ok (.getfield 212, 3) := by decide +kernel
theorem dX12_sayPerson_125 : decode cX12_sayPerson 125 = .ok (.ifCond .ne 7, 3) := by decide +kernel
theorem dX12_sayPerson_128 : decode cX12_sayPerson 128 = .ok (.aload_n 0, 1) := by decide +kernel
theorem dX12_sayPerson_129 : decode cX12_sayPerson 129 = .ok (.invokevirtual 237, 3) := by decide +kernel
theorem dX12_sayPerson_132 : decode cX12_sayPerson 132 = .ok (.aload_n 0, 1) := by decide +kernel
theorem dX12_sayPerson_133 : decode cX12_sayPerson 133 = .ok (.getfield 66, 3) := by decide +kernel
theorem dX12_sayPerson_136 : decode cX12_sayPerson 136 = .ok (.iload_n 2, 1) := by decide +kernel
theorem dX12_sayPerson_137 : decode cX12_sayPerson 137 = .ok (.iload_n 3, 1) := by decide +kernel
theorem dX12_sayPerson_138 : decode cX12_sayPerson 138 = .ok (.iastore, 1) := by decide +kernel
theorem dX12_sayPerson_139 : decode cX12_sayPerson 139 = .ok (.aload_n 0, 1) := by decide +kernel
theorem dX12_sayPerson_140 : decode cX12_sayPerson 140 = .ok (.getfield 42, 3) := by decide +kernel
theorem dX12_sayPerson_143 : decode cX12_sayPerson 143 = .ok (.bipush 7, 2) := by decide +kernel
theorem dX12_sayPerson_145 : decode cX12_sayPerson 145 = .ok (.dup2, 1) := by decide +kernel
theorem dX12_sayPerson_146 : decode cX12_sayPerson 146 = .ok (.iaload, 1) := by decide +kernel
theorem dX12_sayPerson_147 : decode cX12_sayPerson 147 = .ok (.iconst 1, 1) := by decide +kernel
theorem dX12_sayPerson_148 : decode cX12_sayPerson 148 = .ok (.iadd, 1) := by decide +kernel
theorem dX12_sayPerson_149 : decode cX12_sayPerson 149 = .ok (.iastore, 1) := by decide +kernel
theorem dX12_sayPerson_150 : decode cX12_sayPerson 150 = .ok (.return_, 1) := by decide +kernel
set_option maxRecDepth 20000 in
theorem ggX12_sayRain_X12_wrong : GoodIn wsX12_sayRain wsX12_wrong := goodIn_r _ [9, 2, 10, 11, 47, 48, 49, 50, 51, 52, 53, 54, 55, 56, 57, 58, 59, 60, 61, 62, 63, 64, 65, 66, 67, 68, 69, 70, 71, 72, 73, 74, 75, 76, 77, 78, 79, 80, 81, 82, 83, 84, 85, 86, 87, 88, 89, 90, 91, 92, 93, 94, 95, 96, 97, 98, 99, 100, 101, 102, 103, 104, 105, 106, 107, 108, 109, 110, 111] (by decide +kernel) (by decide +kernel)
set_option maxRecDepth 20000 in
theorem gX12_sayRain_X12_wrong : GoodIn wsX12_sayRain (wsV RX12 233 RX12 yX12_wrong wsX12_wrong) := goodIn_app (goodIn_of _ (by decide +kernel)) ggX12_sayRain_X12_wrong
set_option maxRecDepth 20000 in
theorem ggX12_sayRain_X12_readNumber : GoodIn wsX12_sayRain wsX12_readNumber := goodIn_r _ [15, 2, 16, 17, 18, 8, 19, 1, 20, 10, 21, 5, 6, 7, 9, 11, 22, 23, 24, 25, 26, 27, 28, 29, 30, 31, 32, 33, 34, 35, 36, 37, 38, 39, 40, 41, 42, 43, 44, 45, 46, 47, 48, 49, 50, 51, 52, 53, 54, 55, 56, 57, 58, 59, 60, 61, 62, 63, 64, 65, 66, 67, 68, 69, 70, 71, 72, 73, 74, 75, 76, 77, 78, 79, 80, 81, 82, 83, 84, 85, 86, 87, 88, 89, 90, 91, 92, 93, 94, 95, 96, 97, 98, 99, 100, 101, 102, 103, 104, 105, 106, 107, 108, 109, 110, 111] (by decide +kernel) (by decide +kernel)
set_option maxRecDepth 20000 in
theorem gX12_sayRain_X12_readNumber : GoodIn wsX12_sayRain (wsV RX12 247 RX12 yX12_readNumber wsX12_readNumber) := goodIn_app (goodIn_of _ (by decide +kernel)) ggX12_sayRain_X12_readNumber
theorem dX12_sayRain_0 : decode cX12_sayRain 0 = .ok (.aload_n 0, 1) := by decide +kernel
theorem dX12_sayRain_1 : decode cX12_sayRain 1 = .ok (.getfield 186, 3) := by decide +kernel
theorem dX12_sayRain_4 : decode cX12_sayRain 4 = .ok (.iconst 2, 1) := by decide +kernel
theorem dX12_sayRain_5 : decode cX12_sayRain 5 = .ok (.if_icmp .eq 8, 3) := by decide +kernel
theorem dX12_sayRain_8 : decode cX12_sayRain 8 = .ok (.aload_n 0, 1) := by decide +kernel
theorem dX12_sayRain_9 : decode cX12_sayRain 9 = .ok (.iconst 1, 1) := by decide +kernel
theorem dX12_sayRain_10 : decode cX12_sayRain 10 = .ok (.invokevirtual 233, 3) := by decide +kernel
theorem dX12_sayRain_13 : decode cX12_sayRain 13 = .ok (.aload_n 0, 1) := by decide +kernel
theorem dX12_sayRain_14 : decode cX12_sayRain 14 = .ok (.getfield 212, 3) := by decide +kernel
theorem dX12_sayRain_17 : decode cX12_sayRain 17 = .ok (.ifCond .ne 84, 3) := by decide +kernel
theorem dX12_sayRain_20 : decode cX12_sayRain 20 = .ok (.aload_n 0, 1) := by decide +kernel
theorem dX12_sayRain_21 : decode cX12_sayRain 21 = .ok (.getfield 186, 3) := by decide +kernel
theorem dX12_sayRain_24 : decode cX12_sayRain 24 = .ok (.iconst 2, 1) := by decide +kernel
theorem dX12_sayRain_25 : decode cX12_sayRain 25 = .ok (.if_icmp .ne 76, 3) := by decide +kernel
theorem dX12_sayRain_28 : decode cX12_sayRain 28 = .ok (.aload_n 0, 1) := by decide +kernel
theorem dX12_sayRain_29 : decode cX12_sayRain 29 = .ok (.getfield 42, 3) := by decide +kernel
theorem dX12_sayRain_32 : decode cX12_sayRain 32 = .ok (.bipush 8, 2) := by decide +kernel
theorem dX12_sayRain_34 : decode cX12_sayRain 34 = .ok (.iaload, 1) := by decide +kernel
theorem dX12_sayRain_35 : decode cX12_sayRain 35 = .ok (.bipush 8, 2) := by decide +kernel
theorem dX12_sayRain_37 : decode cX12_sayRain 37 = .ok (.if_icmp .ne 8, 3) := by decide +kernel
theorem dX12_sayRain_40 : decode cX12_sayRain 40 = .ok (.aload_n 0, 1) := by decide +kernel
theorem dX12_sayRain_41 : decode cX12_sayRain 41 = .ok (.iconst 2, 1) := by decide +kernel
theorem dX12_sayRain_42 : decode cX12_sayRain 42 = .ok (.invokevirtual 233, 3) := by decide +kernel
theorem dX12_sayRain_45 : decode cX12_sayRain 45 = .ok (.aload_n 0, 1) := by decide +kernel
theorem dX12_sayRain_46 : decode cX12_sayRain 46 = .ok (.iconst 0, 1) := by decide +kernel
theorem dX12_sayRain_47 : decode cX12_sayRain 47 = .ok (.bipush 9, 2) := by decide +kernel
theorem dX12_sayRain_49 : decode cX12_sayRain 49 = .ok (.invokevirtual 247, 3) := by decide +kernel
theorem dX12_sayRain_52 : decode cX12_sayRain 52 = .ok (.istore_n 1, 1) := by decide +kernel
theorem dX12_sayRain_53 : decode cX12_sayRain 53 = .ok (.aload_n 0, 1) := by decide +kernel
theorem dX12_sayRain_54 : decode cX12_sayRain 54 = .ok (.getfield 212, 3) := by decide +kernel
theorem dX12_sayRain_57 : decode cX12_sayRain 57 = .ok (.ifCond .ne 19, 3) := by decide +kernel
theorem dX12_sayRain_60 : decode cX12_sayRain 60 = .ok (.aload_n 0, 1) := by decide +kernel
theorem dX12_sayRain_61 : decode cX12_sayRain 61 = .ok (.getfield 69, 3) := by decide +kernel
theorem dX12_sayRain_64 : decode cX12_sayRain 64 = .ok (.bipush 8, 2) := by decide +kernel
theorem dX12_sayRain_66 : decode cX12_sayRain 66 = .ok (.aload_n 0, 1) := by decide +kernel
theorem dX12_sayRain_67 : decode cX12_sayRain 67 = .ok (.getfield 42, 3) := by decide +kernel
theorem dX12_sayRain_70 : decode cX12_sayRain 70 = .ok (.bipush 8, 2) := by decide +kernel
theorem dX12_sayRain_72 : decode cX12_sayRain 72 = .ok (.iaload, 1) := by decide +kernel
theorem dX12_sayRain_73 : decode cX12_sayRain 73 = .ok (.iadd, 1) := by decide +kernel
theorem dX12_sayRain_74 : decode cX12_sayRain 74 = .ok (.iload_n 1, 1) := by decide +kernel
theorem dX12_sayRain_75 : decode cX12_sayRain 75 = .ok (.iastore, 1) := by decide +kernel
theorem dX12_sayRain_76 : decode cX12_sayRain 76 = .ok (.aload_n 0, 1) := by decide +kernel
theorem dX12_sayRain_77 : decode cX12_sayRain 77 = .ok (.getfield 42, 3) := by decide +kernel
theorem dX12_sayRain_80 : decode cX12_sayRain 80 = .ok (.bipush 8, 2) := by decide +kernel
theorem dX12_sayRain_82 : decode cX12_sayRain 82 = .ok (.dup2, 1) := by decide +kernel
theorem dX12_sayRain_83 : decode cX12_sayRain 83 = .ok (.iaload, 1) := by decide +kernel
theorem dX12_sayRain_84 : decode cX12_sayRain 84 = .ok (.aload_n 0, 1) := by decide +kernel
theorem dX12_sayRain_85 : decode cX12_sayRain 85 = .ok (.getfield 212, 3) := by decide +kernel
theorem dX12_sayRain_88 : decode cX12_sayRain 88 = .ok (.ifCond .ne 7, 3) := by decide +kernel
theorem dX12_sayRain_91 : decode cX12_sayRain 91 = .ok (.iconst 1, 1) := by decide +kernel
theorem dX12_sayRain_92 : decode cX12_sayRain 92 = .ok (.goto 4, 3) := by decide +kernel
theorem dX12_sayRain_95 : decode cX12_sayRain 95 = .ok (.iconst 0, 1) := by decide +kernel
theorem dX12_sayRain_96 : decode cX12_sayRain 96 = .ok (.iadd, 1) := by decide +kernel
theorem dX12_sayRain_97 : decode cX12_sayRain 97 = .ok (.iastore, 1) := by decide +kernel
theorem dX12_sayRain_98 : decode cX12_sayRain 98 = .ok (.goto (-85), 3) := by decide +kernel
theorem dX12_sayRain_101 : decode cX12_sayRain 101 = .ok (.return_, 1) := by decide +kernel
set_option maxRecDepth 20000 in
theorem ggX12_sayOnce_X12_stepOn : GoodIn wsX12_sayOnce wsX12_stepOn := goodIn_r _ [10, 11, 12, 13, 14, 15, 16, 17, 18, 19, 20, 21, 22, 23, 9, 24, 25, 26, 27, 28, 29, 30, 31, 32, 33, 34, 35, 150, 151, 152, 153, 154, 155, 156, 157, 158, 159, 160, 161, 162, 163, 164, 165, 166, 167, 168, 169, 170, 171, 172, 173, 174, 175, 176, 177, 178, 179, 180, 181, 182, 183, 184, 185, 186, 187, 188, 189, 190, 191, 192, 193, 194, 195, 196, 197, 198, 199, 200, 201, 202, 203, 204, 205, 206, 207, 208, 209, 210, 211, 212, 213, 214] (by decide +kernel) (by decide +kernel)
set_option maxRecDepth 20000 in
theorem gX12_sayOnce_X12_stepOn : GoodIn wsX12_sayOnce (wsV RX12 237 RX12 yX12_stepOn wsX12_stepOn) := goodIn_app (goodIn_of _ (by decide +kernel)) ggX12_sayOnce_X12_stepOn
set_option maxRecDepth 20000 in
theorem ggX12_sayOnce_X12_sayRain : GoodIn wsX12_sayOnce wsX12_sayRain := goodIn_r _ [39, 13, 40, 1, 41, 42, 43, 44, 9, 45, 12, 46, 47, 48, 49, 50, 51, 52, 53, 54, 20, 14, 6, 7, 8, 10, 11, 15, 16, 17, 18, 19, 21, 22, 23, 24, 25, 26, 27, 28, 29, 30, 31, 32, 33, 34, 35, 150, 151, 152, 153, 154, 155, 156, 157, 158, 159, 160, 161, 162, 163, 164, 165, 166, 167, 168, 169, 170, 171, 172, 173, 174, 175, 176, 177, 178, 179, 180, 181, 182, 183, 184, 185, 186, 187, 188, 189, 190, 191, 192, 193, 194, 195, 196, 197, 198, 199, 200, 201, 202, 203, 204, 205, 206, 207, 208, 209, 210, 211, 212, 213, 214] (by decide +kernel) (by decide +kernel)
set_option maxRecDepth 20000 in
theorem gX12_sayOnce_X12_sayRain : GoodIn wsX12_sayOnce (wsV RX12 290 RX12 yX12_sayRain wsX12_sayRain) := goodIn_app (goodIn_of _ (by decide +kernel)) ggX12_sayOnce_X12_sayRain
set_option maxRecDepth 20000 in
theorem ggX12_sayOnce_X12_readNumber : GoodIn wsX12_sayOnce wsX12_readNumber := goodIn_r _ [50, 40, 51, 52, 53, 9, 54, 13, 20, 12, 14, 42, 43, 44, 45, 46, 6, 7, 8, 10, 11, 15, 16, 17, 18, 19, 21, 22, 23, 24, 25, 26, 27, 28, 29, 30, 31, 32, 33, 34, 35, 150, 151, 152, 153, 154, 155, 156, 157, 158, 159, 160, 161, 162, 163, 164, 165, 166, 167, 168, 169, 170, 171, 172, 173, 174, 175, 176, 177, 178, 179, 180, 181, 182, 183, 184, 185, 186, 187, 188, 189, 190, 191, 192, 193, 194, 195, 196, 197, 198, 199, 200, 201, 202, 203, 204, 205, 206, 207, 208, 209, 210, 211, 212, 213, 214] (by decide +kernel) (by decide +kernel)
set_option maxRecDepth 20000 in
theorem gX12_sayOnce_X12_readNumber : GoodIn wsX12_sayOnce (wsV RX12 247 RX12 yX12_readNumber wsX12_readNumber) := goodIn_app (goodIn_of _ (by decide +kernel)) ggX12_sayOnce_X12_readNumber
set_option maxRecDepth 20000 in
theorem ggX12_sayOnce_X12_readExpression : GoodIn wsX12_sayOnce wsX12_readExpression := goodIn_r _ [58, 40, 13, 59, 60, 61, 9, 62, 26, 12, 42, 43, 44, 45, 46, 63, 64, 65, 66, 67, 68, 69, 20, 70, 71, 72, 73, 74, 75, 76, 77, 78, 79, 80, 81, 82, 83, 84, 85, 86, 87, 88, 89, 90, 91, 92, 93, 94, 95, 96, 97, 98, 99, 100, 101, 102, 103, 104, 105, 106, 107, 108, 109, 110, 111, 112, 113, 114, 115, 116, 117, 118, 6, 7, 8, 10, 11, 14, 15, 16, 17, 18, 19, 21, 22, 23, 24, 25, 27, 28, 29, 30, 31, 32, 33, 34, 35, 119, 120, 121, 122, 2, 123, 124, 1, 125, 126, 127, 128, 129, 130, 131, 132, 133, 5, 47, 48, 49, 50, 51, 52, 53, 54, 134, 135, 136, 137, 138, 139, 140, 141, 55, 56, 57, 142, 143, 144, 145, 146, 147, 148, 149, 150, 151, 152, 153, 154, 155, 156, 157, 158, 159, 160, 161, 162, 163, 164, 165, 166, 167, 168, 169, 170, 171, 172, 173, 174, 175, 176, 177, 178, 179, 180, 181, 182, 183, 184, 185, 186, 187, 188, 189, 190, 191, 192, 193, 194, 195, 196, 197, 198, 199, 200, 201, 202, 203, 204, 205, 206, 207, 208, 209, 210, 211, 212, 213, 214] (by decide +kernel) (by decide +kernel)
set_option maxRecDepth 20000 in
theorem gX12_sayOnce_X12_readExpression : GoodIn wsX12_sayOnce (wsV RX12 260 RX12 yX12_readExpression wsX12_readExpression) := goodIn_app (goodIn_of _ (by decide +kernel)) ggX12_sayOnce_X12_readExpression
theorem dX12_sayOnce_0 : decode cX12_sayOnce 0 = .ok (.aload_n 0, 1) := by decide +kernel
theorem dX12_sayOnce_1 : decode cX12_sayOnce 1 = .ok (.invokevirtual 237, 3) := by decide +kernel
theorem dX12_sayOnce_4 : decode cX12_sayOnce 4 = .ok (.iload_n 1, 1) := by decide +kernel
theorem dX12_sayOnce_5 : decode cX12_sayOnce 5 = .ok (.iconst 1, 1) := by decide +kernel
theorem dX12_sayOnce_6 : decode cX12_sayOnce 6 = .ok (.if_icmp .ne 7, 3) := by decide +kernel
theorem dX12_sayOnce_9 : decode cX12_sayOnce 9 = .ok (.aload_n 0, 1) := by decide +kernel
theorem dX12_sayOnce_10 : decode cX12_sayOnce 10 = .ok (.invokevirtual 290, 3) := by decide +kernel
theorem dX12_sayOnce_13 : decode cX12_sayOnce 13 = .ok (.iload_n 1, 1) := by decide +kernel
theorem dX12_sayOnce_14 : decode cX12_sayOnce 14 = .ok (.iconst 2, 1) := by decide +kernel
theorem dX12_sayOnce_15 : decode cX12_sayOnce 15 = .ok (.if_icmp .ne 17, 3) := by decide +kernel
theorem dX12_sayOnce_18 : decode cX12_sayOnce 18 = .ok (.aload_n 0, 1) := by decide +kernel
theorem dX12_sayOnce_19 : decode cX12_sayOnce 19 = .ok (.getfield 42, 3) := by decide +kernel
theorem dX12_sayOnce_22 : decode cX12_sayOnce 22 = .ok (.bipush 9, 2) := by decide +kernel
theorem dX12_sayOnce_24 : decode cX12_sayOnce 24 = .ok (.aload_n 0, 1) := by decide +kernel
theorem dX12_sayOnce_25 : decode cX12_sayOnce 25 = .ok (.iconst 0, 1) := by decide +kernel
theorem dX12_sayOnce_26 : decode cX12_sayOnce 26 = .ok (.bipush 99, 2) := by decide +kernel
theorem dX12_sayOnce_28 : decode cX12_sayOnce 28 = .ok (.invokevirtual 247, 3) := by decide +kernel
theorem dX12_sayOnce_31 : decode cX12_sayOnce 31 = .ok (.iastore, 1) := by decide +kernel
theorem dX12_sayOnce_32 : decode cX12_sayOnce 32 = .ok (.iload_n 1, 1) := by decide +kernel
theorem dX12_sayOnce_33 : decode cX12_sayOnce 33 = .ok (.iconst 4, 1) := by decide +kernel
theorem dX12_sayOnce_34 : decode cX12_sayOnce 34 = .ok (.if_icmp .ge 4, 3) := by decide +kernel
theorem dX12_sayOnce_37 : decode cX12_sayOnce 37 = .ok (.return_, 1) := by decide +kernel
theorem dX12_sayOnce_38 : decode cX12_sayOnce 38 = .ok (.aload_n 0, 1) := by decide +kernel
theorem dX12_sayOnce_39 : decode cX12_sayOnce 39 = .ok (.iload_n 1, 1) := by decide +kernel
theorem dX12_sayOnce_40 : decode cX12_sayOnce 40 = .ok (.bipush 8, 2) := by decide +kernel
theorem dX12_sayOnce_42 : decode cX12_sayOnce 42 = .ok (.if_icmp .ne 7, 3) := by decide +kernel
theorem dX12_sayOnce_45 : decode cX12_sayOnce 45 = .ok (.iconst 1, 1) := by decide +kernel
theorem dX12_sayOnce_46 : decode cX12_sayOnce 46 = .ok (.goto 4, 3) := by decide +kernel
theorem dX12_sayOnce_49 : decode cX12_sayOnce 49 = .ok (.iconst 0, 1) := by decide +kernel
theorem dX12_sayOnce_50 : decode cX12_sayOnce 50 = .ok (.putfield 243, 3) := by decide +kernel
theorem dX12_sayOnce_53 : decode cX12_sayOnce 53 = .ok (.aload_n 0, 1) := by decide +kernel
theorem dX12_sayOnce_54 : decode cX12_sayOnce 54 = .ok (.aload_n 0, 1) := by decide +kernel
theorem dX12_sayOnce_55 : decode cX12_sayOnce 55 = .ok (.getfield 243, 3) := by decide +kernel
theorem dX12_sayOnce_58 : decode cX12_sayOnce 58 = .ok (.ifCond .eq 10, 3) := by decide +kernel
theorem dX12_sayOnce_61 : decode cX12_sayOnce 61 = .ok (.aload_n 0, 1) := by decide +kernel
theorem dX12_sayOnce_62 : decode cX12_sayOnce 62 = .ok (.getfield 36, 3) := by decide +kernel
theorem dX12_sayOnce_65 : decode cX12_sayOnce 65 = .ok (.goto 7, 3) := by decide +kernel
theorem dX12_sayOnce_68 : decode cX12_sayOnce 68 = .ok (.aload_n 0, 1) := by decide +kernel
theorem dX12_sayOnce_69 : decode cX12_sayOnce 69 = .ok (.getfield 27, 3) := by decide +kernel
theorem dX12_sayOnce_72 : decode cX12_sayOnce 72 = .ok (.putfield 39, 3) := by decide +kernel
theorem dX12_sayOnce_75 : decode cX12_sayOnce 75 = .ok (.aload_n 0, 1) := by decide +kernel
theorem dX12_sayOnce_76 : decode cX12_sayOnce 76 = .ok (.iconst 0, 1) := by decide +kernel
theorem dX12_sayOnce_77 : decode cX12_sayOnce 77 = .ok (.invokevirtual 260, 3) := by decide +kernel
theorem dX12_sayOnce_80 : decode cX12_sayOnce 80 = .ok (.return_, 1) := by decide +kernel
set_option maxRecDepth 20000 in
theorem ggX12_readLine_X12_which : GoodIn wsX12_readLine wsX12_which := goodIn_r _ [7, 8, 9, 10, 6, 11, 2, 12, 13, 14, 15, 16, 17, 18, 19, 20, 21, 22, 23, 24, 25, 26, 27, 28, 29, 30, 31, 32, 33, 34, 35, 36, 37, 38, 39, 40, 41, 42, 43, 44, 45, 46, 47, 48, 49, 50, 51, 52, 53, 54, 55, 56, 57, 58, 59, 60, 61, 62, 63, 64, 175, 176, 177, 178, 179, 180, 181, 182, 183, 184, 185, 186, 187, 188, 189, 190, 191, 192, 193, 194, 195, 196, 197, 198, 199, 200, 201, 202, 203, 204, 205, 206, 207, 208, 209, 210, 211, 212, 213, 214, 215, 216, 217, 218, 219, 220, 221, 222, 223, 224, 225, 226, 227, 228, 229, 230, 231, 232, 233, 234, 235, 236, 237, 238, 239] (by decide +kernel) (by decide +kernel)
set_option maxRecDepth 20000 in
theorem gX12_readLine_X12_which : GoodIn wsX12_readLine (wsV RX12 253 RX12 yX12_which wsX12_which) := goodIn_app (goodIn_of _ (by decide +kernel)) ggX12_readLine_X12_which
set_option maxRecDepth 20000 in
theorem ggX12_readLine_X12_is : GoodIn wsX12_readLine wsX12_is := goodIn_r _ [11, 2, 12, 13, 14, 15, 16, 17, 18, 19, 20, 21, 22, 23, 24, 25, 26, 27, 28, 29, 30, 31, 32, 33, 34, 35, 36, 37, 38, 39, 40, 41, 42, 43, 44, 45, 46, 47, 48, 49, 50, 51, 52, 53, 54, 55, 56, 57, 58, 59, 60, 61, 62, 63, 64, 175, 176, 177, 178, 179, 180, 181, 182, 183, 184, 185, 186, 187, 188, 189, 190, 191, 192, 193, 194, 195, 196, 197, 198, 199, 200, 201, 202, 203, 204, 205, 206, 207, 208, 209, 210, 211, 212, 213, 214, 215, 216, 217, 218, 219, 220, 221, 222, 223, 224, 225, 226, 227, 228, 229, 230, 231, 232, 233, 234, 235, 236, 237, 238, 239] (by decide +kernel) (by decide +kernel)
set_option maxRecDepth 20000 in
theorem gX12_readLine_X12_is : GoodIn wsX12_readLine (wsV RX12 226 RX12 yX12_is wsX12_is) := goodIn_app (goodIn_of _ (by decide +kernel)) ggX12_readLine_X12_is
set_option maxRecDepth 20000 in
theorem ggX12_readLine_X12_wrong : GoodIn wsX12_readLine wsX12_wrong := goodIn_r _ [68, 2, 14, 69, 175, 176, 177, 178, 179, 180, 181, 182, 183, 184, 185, 186, 187, 188, 189, 190, 191, 192, 193, 194, 195, 196, 197, 198, 199, 200, 201, 202, 203, 204, 205, 206, 207, 208, 209, 210, 211, 212, 213, 214, 215, 216, 217, 218, 219, 220, 221, 222, 223, 224, 225, 226, 227, 228, 229, 230, 231, 232, 233, 234, 235, 236, 237, 238, 239] (by decide +kernel) (by decide +kernel)
set_option maxRecDepth 20000 in
theorem gX12_readLine_X12_wrong : GoodIn wsX12_readLine (wsV RX12 233 RX12 yX12_wrong wsX12_wrong) := goodIn_app (goodIn_of _ (by decide +kernel)) ggX12_readLine_X12_wrong
set_option maxRecDepth 20000 in
theorem ggX12_readLine_X12_sayOnce : GoodIn wsX12_readLine wsX12_sayOnce := goodIn_r _ [73, 74, 75, 76, 77, 78, 79, 80, 81, 6, 82, 83, 14, 12, 84, 85, 86, 87, 88, 89, 13, 90, 91, 92, 93, 94, 15, 95, 96, 97, 98, 99, 100, 101, 102, 103, 104, 105, 106, 107, 2, 108, 65, 66, 67, 68, 69, 109, 110, 111, 112, 113, 114, 115, 116, 117, 118, 119, 120, 121, 122, 123, 124, 125, 126, 127, 8, 9, 10, 11, 16, 17, 18, 19, 20, 21, 22, 23, 24, 25, 26, 27, 28, 29, 30, 31, 32, 33, 34, 35, 36, 37, 38, 39, 40, 41, 42, 43, 44, 45, 46, 47, 48, 49, 50, 51, 52, 53, 54, 55, 56, 57, 58, 59, 60, 61, 62, 63, 64, 128, 129, 130, 131, 132, 133, 134, 135, 136, 137, 138, 139, 140, 141, 142, 3, 4, 5, 7, 143, 144, 145, 146, 147, 148, 149, 150, 151, 152, 153, 154, 175, 176, 177, 178, 179, 180, 181, 182, 183, 184, 185, 186, 187, 188, 189, 190, 191, 192, 193, 194, 195, 196, 197, 198, 199, 200, 201, 202, 203, 204, 205, 206, 207, 208, 209, 210, 211, 212, 213, 214, 215, 216, 217, 218, 219, 220, 221, 222, 223, 224, 225, 226, 227, 228, 229, 230, 231, 232, 233, 234, 235, 236, 237, 238, 239] (by decide +kernel) (by decide +kernel)
set_option maxRecDepth 20000 in
theorem gX12_readLine_X12_sayOnce : GoodIn wsX12_readLine (wsV RX12 299 RX12 yX12_sayOnce wsX12_sayOnce) := goodIn_app (goodIn_of _ (by decide +kernel)) ggX12_readLine_X12_sayOnce
set_option maxRecDepth 20000 in
theorem ggX12_readLine_X12_sayPerson : GoodIn wsX12_readLine wsX12_sayPerson := goodIn_r _ [158, 74, 159, 160, 161, 162, 163, 2, 164, 165, 166, 6, 167, 65, 66, 67, 68, 14, 69, 79, 80, 81, 82, 83, 12, 84, 85, 86, 87, 88, 89, 13, 90, 91, 92, 93, 94, 15, 95, 96, 97, 98, 99, 100, 101, 102, 103, 109, 110, 111, 112, 113, 114, 115, 116, 8, 9, 10, 11, 16, 17, 18, 19, 20, 21, 22, 23, 24, 25, 26, 27, 28, 29, 30, 31, 32, 33, 34, 35, 36, 37, 38, 39, 40, 41, 42, 43, 44, 45, 46, 47, 48, 49, 50, 51, 52, 53, 54, 55, 56, 57, 58, 59, 60, 61, 62, 63, 64, 175, 176, 177, 178, 179, 180, 181, 182, 183, 184, 185, 186, 187, 188, 189, 190, 191, 192, 193, 194, 195, 196, 197, 198, 199, 200, 201, 202, 203, 204, 205, 206, 207, 208, 209, 210, 211, 212, 213, 214, 215, 216, 217, 218, 219, 220, 221, 222, 223, 224, 225, 226, 227, 228, 229, 230, 231, 232, 233, 234, 235, 236, 237, 238, 239] (by decide +kernel) (by decide +kernel)
set_option maxRecDepth 20000 in
theorem gX12_readLine_X12_sayPerson : GoodIn wsX12_readLine (wsV RX12 302 RX12 yX12_sayPerson wsX12_sayPerson) := goodIn_app (goodIn_of _ (by decide +kernel)) ggX12_readLine_X12_sayPerson
set_option maxRecDepth 20000 in
theorem ggX12_readLine_X12_sayStone : GoodIn wsX12_readLine wsX12_sayStone := goodIn_r _ [171, 74, 172, 173, 174, 164, 165, 166, 6, 167, 2, 65, 66, 67, 68, 14, 69, 79, 80, 81, 82, 83, 12, 84, 85, 86, 87, 88, 89, 13, 90, 91, 92, 93, 94, 15, 95, 96, 97, 98, 99, 100, 101, 102, 103, 109, 110, 111, 112, 113, 114, 115, 116, 175, 176, 177, 178, 179, 180, 181, 182, 183, 184, 185, 186, 187, 188, 189, 190, 191, 192, 193, 194, 195, 196, 197, 198, 199, 200, 201, 202, 203, 204, 205, 206, 207, 208, 209, 210, 211, 212, 213, 214, 215, 216, 217, 218, 219, 220, 221, 222, 223, 224, 225, 226, 227, 228, 229, 230, 231, 232, 233, 234, 235, 236, 237, 238, 239] (by decide +kernel) (by decide +kernel)
set_option maxRecDepth 20000 in
theorem gX12_readLine_X12_sayStone : GoodIn wsX12_readLine (wsV RX12 307 RX12 yX12_sayStone wsX12_sayStone) := goodIn_app (goodIn_of _ (by decide +kernel)) ggX12_readLine_X12_sayStone
set_option maxRecDepth 20000 in
theorem ggX12_readLine_X12_mark : GoodIn wsX12_readLine wsX12_mark := goodIn_r _ [146, 2, 121, 122, 123, 6, 124, 12, 15, 14, 65, 66, 67, 68, 69, 79, 80, 81, 82, 83, 84, 85, 86, 87, 88, 89, 13, 90, 91, 92, 93, 94, 95, 96, 97, 98, 99, 100, 101, 102, 103, 175, 176, 177, 178, 179, 180, 181, 182, 183, 184, 185, 186, 187, 188, 189, 190, 191, 192, 193, 194, 195, 196, 197, 198, 199, 200, 201, 202, 203, 204, 205, 206, 207, 208, 209, 210, 211, 212, 213, 214, 215, 216, 217, 218, 219, 220, 221, 222, 223, 224, 225, 226, 227, 228, 229, 230, 231, 232, 233, 234, 235, 236, 237, 238, 239] (by decide +kernel) (by decide +kernel)
set_option maxRecDepth 20000 in
theorem gX12_readLine_X12_mark : GoodIn wsX12_readLine (wsV RX12 257 RX12 yX12_mark wsX12_mark) := goodIn_app (goodIn_of _ (by decide +kernel)) ggX12_readLine_X12_mark
theorem dX12_readLine_0 : decode cX12_readLine 0 = .ok (.aload_n 0, 1) := by decide +kernel
theorem dX12_readLine_1 : decode cX12_readLine 1 = .ok (.aload_n 0, 1) := by decide +kernel
theorem dX12_readLine_2 : decode cX12_readLine 2 = .ok (.getfield 15, 3) := by decide +kernel
theorem dX12_readLine_5 : decode cX12_readLine 5 = .ok (.invokevirtual 253, 3) := by decide +kernel
theorem dX12_readLine_8 : decode cX12_readLine 8 = .ok (.istore_n 2, 1) := by decide +kernel
theorem dX12_readLine_9 : decode cX12_readLine 9 = .ok (.aload_n 0, 1) := by decide +kernel
theorem dX12_readLine_10 : decode cX12_readLine 10 = .ok (.ldc 19, 2) := by decide +kernel
theorem dX12_readLine_12 : decode cX12_readLine 12 = .ok (.invokevirtual 226, 3) := by decide +kernel
theorem dX12_readLine_15 : decode cX12_readLine 15 = .ok (.ifCond .eq 7, 3) := by decide +kernel
theorem dX12_readLine_18 : decode cX12_readLine 18 = .ok (.iconst 1, 1) := by decide +kernel
theorem dX12_readLine_19 : decode cX12_readLine 19 = .ok (.goto 47, 3) := by decide +kernel
theorem dX12_readLine_22 : decode cX12_readLine 22 = .ok (.aload_n 0, 1) := by decide +kernel
theorem dX12_readLine_23 : decode cX12_readLine 23 = .ok (.ldc_w 293, 3) := by decide +kernel
theorem dX12_readLine_26 : decode cX12_readLine 26 = .ok (.invokevirtual 226, 3) := by decide +kernel
theorem dX12_readLine_29 : decode cX12_readLine 29 = .ok (.ifCond .eq 7, 3) := by decide +kernel
theorem dX12_readLine_32 : decode cX12_readLine 32 = .ok (.iconst 2, 1) := by decide +kernel
theorem dX12_readLine_33 : decode cX12_readLine 33 = .ok (.goto 33, 3) := by decide +kernel
theorem dX12_readLine_36 : decode cX12_readLine 36 = .ok (.aload_n 0, 1) := by decide +kernel
theorem dX12_readLine_37 : decode cX12_readLine 37 = .ok (.ldc_w 295, 3) := by decide +kernel
theorem dX12_readLine_40 : decode cX12_readLine 40 = .ok (.invokevirtual 226, 3) := by decide +kernel
theorem dX12_readLine_43 : decode cX12_readLine 43 = .ok (.ifCond .eq 7, 3) := by decide +kernel
theorem dX12_readLine_46 : decode cX12_readLine 46 = .ok (.iconst 4, 1) := by decide +kernel
theorem dX12_readLine_47 : decode cX12_readLine 47 = .ok (.goto 19, 3) := by decide +kernel
theorem dX12_readLine_50 : decode cX12_readLine 50 = .ok (.aload_n 0, 1) := by decide +kernel
theorem dX12_readLine_51 : decode cX12_readLine 51 = .ok (.ldc_w 297, 3) := by decide +kernel
theorem dX12_readLine_54 : decode cX12_readLine 54 = .ok (.invokevirtual 226, 3) := by decide +kernel
theorem dX12_readLine_57 : decode cX12_readLine 57 = .ok (.ifCond .eq 8, 3) := by decide +kernel
theorem dX12_readLine_60 : decode cX12_readLine 60 = .ok (.bipush 8, 2) := by decide +kernel
theorem dX12_readLine_62 : decode cX12_readLine 62 = .ok (.goto 4, 3) := by decide +kernel
theorem dX12_readLine_65 : decode cX12_readLine 65 = .ok (.iconst 0, 1) := by decide +kernel
theorem dX12_readLine_66 : decode cX12_readLine 66 = .ok (.istore_n 3, 1) := by decide +kernel
theorem dX12_readLine_67 : decode cX12_readLine 67 = .ok (.iload_n 3, 1) := by decide +kernel
theorem dX12_readLine_68 : decode cX12_readLine 68 = .ok (.iload_n 1, 1) := by decide +kernel
theorem dX12_readLine_69 : decode cX12_readLine 69 = .ok (.iand, 1) := by decide +kernel
theorem dX12_readLine_70 : decode cX12_readLine 70 = .ok (.ifCond .eq 8, 3) := by decide +kernel
theorem dX12_readLine_73 : decode cX12_readLine 73 = .ok (.aload_n 0, 1) := by decide +kernel
theorem dX12_readLine_74 : decode cX12_readLine 74 = .ok (.iconst 5, 1) := by decide +kernel
theorem dX12_readLine_75 : decode cX12_readLine 75 = .ok (.invokevirtual 233, 3) := by decide +kernel
theorem dX12_readLine_78 : decode cX12_readLine 78 = .ok (.iload_n 3, 1) := by decide +kernel
theorem dX12_readLine_79 : decode cX12_readLine 79 = .ok (.ifCond .le 18, 3) := by decide +kernel
theorem dX12_readLine_82 : decode cX12_readLine 82 = .ok (.aload_n 0, 1) := by decide +kernel
theorem dX12_readLine_83 : decode cX12_readLine 83 = .ok (.getfield 212, 3) := by decide +kernel
theorem dX12_readLine_86 : decode cX12_readLine 86 = .ok (.ifCond .ne 11, 3) := by decide +kernel
theorem dX12_readLine_89 : decode cX12_readLine 89 = .ok (.aload_n 0, 1) := by decide +kernel
theorem dX12_readLine_90 : decode cX12_readLine 90 = .ok (.iload_n 3, 1) := by decide +kernel
theorem dX12_readLine_91 : decode cX12_readLine 91 = .ok (.invokevirtual 299, 3) := by decide +kernel
theorem dX12_readLine_94 : decode cX12_readLine 94 = .ok (.goto 38, 3) := by decide +kernel
theorem dX12_readLine_97 : decode cX12_readLine 97 = .ok (.iload_n 2, 1) := by decide +kernel
theorem dX12_readLine_98 : decode cX12_readLine 98 = .ok (.iconst (-1), 1) := by decide +kernel
theorem dX12_readLine_99 : decode cX12_readLine 99 = .ok (.if_icmp .eq 11, 3) := by decide +kernel
theorem dX12_readLine_102 : decode cX12_readLine 102 = .ok (.aload_n 0, 1) := by decide +kernel
theorem dX12_readLine_103 : decode cX12_readLine 103 = .ok (.iload_n 2, 1) := by decide +kernel
theorem dX12_readLine_104 : decode cX12_readLine 104 = .ok (.invokevirtual 302, 3) := by decide +kernel
theorem dX12_readLine_107 : decode cX12_readLine 107 = .ok (.goto 25, 3) := by decide +kernel
theorem dX12_readLine_110 : decode cX12_readLine 110 = .ok (.aload_n 0, 1) := by decide +kernel
theorem dX12_readLine_111 : decode cX12_readLine 111 = .ok (.ldc_w 305, 3) := by decide +kernel
theorem dX12_readLine_114 : decode cX12_readLine 114 = .ok (.invokevirtual 226, 3) := by decide +kernel
theorem dX12_readLine_117 : decode cX12_readLine 117 = .ok (.ifCond .eq 10, 3) := by decide +kernel
theorem dX12_readLine_120 : decode cX12_readLine 120 = .ok (.aload_n 0, 1) := by decide +kernel
theorem dX12_readLine_121 : decode cX12_readLine 121 = .ok (.invokevirtual 307, 3) := by decide +kernel
theorem dX12_readLine_124 : decode cX12_readLine 124 = .ok (.goto 8, 3) := by decide +kernel
theorem dX12_readLine_127 : decode cX12_readLine 127 = .ok (.aload_n 0, 1) := by decide +kernel
theorem dX12_readLine_128 : decode cX12_readLine 128 = .ok (.iconst 1, 1) := by decide +kernel
theorem dX12_readLine_129 : decode cX12_readLine 129 = .ok (.invokevirtual 233, 3) := by decide +kernel
theorem dX12_readLine_132 : decode cX12_readLine 132 = .ok (.aload_n 0, 1) := by decide +kernel
theorem dX12_readLine_133 : decode cX12_readLine 133 = .ok (.bipush 59, 2) := by decide +kernel
theorem dX12_readLine_135 : decode cX12_readLine 135 = .ok (.invokevirtual 257, 3) := by decide +kernel
theorem dX12_readLine_138 : decode cX12_readLine 138 = .ok (.iload_n 1, 1) := by decide +kernel
theorem dX12_readLine_139 : decode cX12_readLine 139 = .ok (.iload_n 3, 1) := by decide +kernel
theorem dX12_readLine_140 : decode cX12_readLine 140 = .ok (.ior, 1) := by decide +kernel
theorem dX12_readLine_141 : decode cX12_readLine 141 = .ok (.ireturn, 1) := by decide +kernel
set_option maxRecDepth 20000 in
theorem ggX12_tower_X12_fail : GoodIn wsX12_tower wsX12_fail := goodIn_r _ [15, 1, 206, 207, 208, 209, 210, 211, 212, 213, 214, 215, 216, 217, 218, 219, 220, 221, 222, 223, 224, 225, 226, 227, 228, 229, 230, 231, 232, 233, 234, 235, 236, 237, 238, 239, 240, 241, 242, 243, 244, 245, 246, 247, 248, 249, 250, 251, 252, 253, 254, 255, 256, 257, 258, 259, 260, 261, 262, 263, 264, 265, 266, 267, 268, 269, 270] (by decide +kernel) (by decide +kernel)
set_option maxRecDepth 20000 in
theorem gX12_tower_X12_fail : GoodIn wsX12_tower (wsV RX12 310 RX12 yX12_fail wsX12_fail) := goodIn_app (goodIn_of _ (by decide +kernel)) ggX12_tower_X12_fail
