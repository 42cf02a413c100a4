theorem bg00_0 : (((decode cX12_init 0 = .ok (.aload_n 0, 1) ∧ decode cX12_init 1 = .ok (.invokespecial 3, 3)) ∧ (decode cX12_init 4 = .ok (.aload_n 0, 1) ∧ decode cX12_init 5 = .ok (.iconst 2, 1))) ∧ ((decode cX12_init 6 = .ok (.anewarray 9, 3) ∧ decode cX12_init 9 = .ok (.dup, 1)) ∧ (decode cX12_init 10 = .ok (.iconst 0, 1) ∧ decode cX12_init 11 = .ok (.ldc 11, 2)))) ∧ (((decode cX12_init 13 = .ok (.aastore, 1) ∧ decode cX12_init 14 = .ok (.dup, 1)) ∧ (decode cX12_init 15 = .ok (.iconst 1, 1) ∧ decode cX12_init 16 = .ok (.ldc 13, 2))) ∧ ((decode cX12_init 18 = .ok (.aastore, 1) ∧ decode cX12_init 19 = .ok (.putfield 15, 3)) ∧ (decode cX12_init 22 = .ok (.aload_n 0, 1) ∧ decode cX12_init 23 = .ok (.iconst 4, 1)))) := by decide +kernel
theorem dX12_init_0 : decode cX12_init 0 = .ok (.aload_n 0, 1) := bg00_0.1.1.1.1
theorem dX12_init_1 : decode cX12_init 1 = .ok (.invokespecial 3, 3) := bg00_0.1.1.1.2
theorem dX12_init_4 : decode cX12_init 4 = .ok (.aload_n 0, 1) := bg00_0.1.1.2.1
theorem dX12_init_5 : decode cX12_init 5 = .ok (.iconst 2, 1) := bg00_0.1.1.2.2
theorem dX12_init_6 : decode cX12_init 6 = .ok (.anewarray 9, 3) := bg00_0.1.2.1.1
theorem dX12_init_9 : decode cX12_init 9 = .ok (.dup, 1) := bg00_0.1.2.1.2
theorem dX12_init_10 : decode cX12_init 10 = .ok (.iconst 0, 1) := bg00_0.1.2.2.1
theorem dX12_init_11 : decode cX12_init 11 = .ok (.ldc 11, 2) := bg00_0.1.2.2.2
theorem dX12_init_13 : decode cX12_init 13 = .ok (.aastore, 1) := bg00_0.2.1.1.1
theorem dX12_init_14 : decode cX12_init 14 = .ok (.dup, 1) := bg00_0.2.1.1.2
theorem dX12_init_15 : decode cX12_init 15 = .ok (.iconst 1, 1) := bg00_0.2.1.2.1
theorem dX12_init_16 : decode cX12_init 16 = .ok (.ldc 13, 2) := bg00_0.2.1.2.2
theorem dX12_init_18 : decode cX12_init 18 = .ok (.aastore, 1) := bg00_0.2.2.1.1
theorem dX12_init_19 : decode cX12_init 19 = .ok (.putfield 15, 3) := bg00_0.2.2.1.2
theorem dX12_init_22 : decode cX12_init 22 = .ok (.aload_n 0, 1) := bg00_0.2.2.2.1
theorem dX12_init_23 : decode cX12_init 23 = .ok (.iconst 4, 1) := bg00_0.2.2.2.2
theorem bg00_1 : (((decode cX12_init 24 = .ok (.anewarray 9, 3) ∧ decode cX12_init 27 = .ok (.dup, 1)) ∧ (decode cX12_init 28 = .ok (.iconst 0, 1) ∧ decode cX12_init 29 = .ok (.ldc 19, 2))) ∧ ((decode cX12_init 31 = .ok (.aastore, 1) ∧ decode cX12_init 32 = .ok (.dup, 1)) ∧ (decode cX12_init 33 = .ok (.iconst 1, 1) ∧ decode cX12_init 34 = .ok (.ldc 21, 2)))) ∧ (((decode cX12_init 36 = .ok (.aastore, 1) ∧ decode cX12_init 37 = .ok (.dup, 1)) ∧ (decode cX12_init 38 = .ok (.iconst 2, 1) ∧ decode cX12_init 39 = .ok (.ldc 23, 2))) ∧ ((decode cX12_init 41 = .ok (.aastore, 1) ∧ decode cX12_init 42 = .ok (.dup, 1)) ∧ (decode cX12_init 43 = .ok (.iconst 3, 1) ∧ decode cX12_init 44 = .ok (.ldc 25, 2)))) := by decide +kernel
theorem dX12_init_24 : decode cX12_init 24 = .ok (.anewarray 9, 3) := bg00_1.1.1.1.1
theorem dX12_init_27 : decode cX12_init 27 = .ok (.dup, 1) := bg00_1.1.1.1.2
theorem dX12_init_28 : decode cX12_init 28 = .ok (.iconst 0, 1) := bg00_1.1.1.2.1
theorem dX12_init_29 : decode cX12_init 29 = .ok (.ldc 19, 2) := bg00_1.1.1.2.2
theorem dX12_init_31 : decode cX12_init 31 = .ok (.aastore, 1) := bg00_1.1.2.1.1
theorem dX12_init_32 : decode cX12_init 32 = .ok (.dup, 1) := bg00_1.1.2.1.2
theorem dX12_init_33 : decode cX12_init 33 = .ok (.iconst 1, 1) := bg00_1.1.2.2.1
theorem dX12_init_34 : decode cX12_init 34 = .ok (.ldc 21, 2) := bg00_1.1.2.2.2
theorem dX12_init_36 : decode cX12_init 36 = .ok (.aastore, 1) := bg00_1.2.1.1.1
theorem dX12_init_37 : decode cX12_init 37 = .ok (.dup, 1) := bg00_1.2.1.1.2
theorem dX12_init_38 : decode cX12_init 38 = .ok (.iconst 2, 1) := bg00_1.2.1.2.1
theorem dX12_init_39 : decode cX12_init 39 = .ok (.ldc 23, 2) := bg00_1.2.1.2.2
theorem dX12_init_41 : decode cX12_init 41 = .ok (.aastore, 1) := bg00_1.2.2.1.1
theorem dX12_init_42 : decode cX12_init 42 = .ok (.dup, 1) := bg00_1.2.2.1.2
theorem dX12_init_43 : decode cX12_init 43 = .ok (.iconst 3, 1) := bg00_1.2.2.2.1
theorem dX12_init_44 : decode cX12_init 44 = .ok (.ldc 25, 2) := bg00_1.2.2.2.2
theorem bg00_2 : (((decode cX12_init 46 = .ok (.aastore, 1) ∧ decode cX12_init 47 = .ok (.putfield 27, 3)) ∧ (decode cX12_init 50 = .ok (.aload_n 0, 1) ∧ decode cX12_init 51 = .ok (.iconst 5, 1))) ∧ ((decode cX12_init 52 = .ok (.anewarray 9, 3) ∧ decode cX12_init 55 = .ok (.dup, 1)) ∧ (decode cX12_init 56 = .ok (.iconst 0, 1) ∧ decode cX12_init 57 = .ok (.ldc 30, 2)))) ∧ (((decode cX12_init 59 = .ok (.aastore, 1) ∧ decode cX12_init 60 = .ok (.dup, 1)) ∧ (decode cX12_init 61 = .ok (.iconst 1, 1) ∧ decode cX12_init 62 = .ok (.ldc 32, 2))) ∧ ((decode cX12_init 64 = .ok (.aastore, 1) ∧ decode cX12_init 65 = .ok (.dup, 1)) ∧ (decode cX12_init 66 = .ok (.iconst 2, 1) ∧ decode cX12_init 67 = .ok (.ldc 21, 2)))) := by decide +kernel
theorem dX12_init_46 : decode cX12_init 46 = .ok (.aastore, 1) := bg00_2.1.1.1.1
theorem dX12_init_47 : decode cX12_init 47 = .ok (.putfield 27, 3) := bg00_2.1.1.1.2
theorem dX12_init_50 : decode cX12_init 50 = .ok (.aload_n 0, 1) := bg00_2.1.1.2.1
theorem dX12_init_51 : decode cX12_init 51 = .ok (.iconst 5, 1) := bg00_2.1.1.2.2
theorem dX12_init_52 : decode cX12_init 52 = .ok (.anewarray 9, 3) := bg00_2.1.2.1.1
theorem dX12_init_55 : decode cX12_init 55 = .ok (.dup, 1) := bg00_2.1.2.1.2
theorem dX12_init_56 : decode cX12_init 56 = .ok (.iconst 0, 1) := bg00_2.1.2.2.1
theorem dX12_init_57 : decode cX12_init 57 = .ok (.ldc 30, 2) := bg00_2.1.2.2.2
theorem dX12_init_59 : decode cX12_init 59 = .ok (.aastore, 1) := bg00_2.2.1.1.1
theorem dX12_init_60 : decode cX12_init 60 = .ok (.dup, 1) := bg00_2.2.1.1.2
theorem dX12_init_61 : decode cX12_init 61 = .ok (.iconst 1, 1) := bg00_2.2.1.2.1
theorem dX12_init_62 : decode cX12_init 62 = .ok (.ldc 32, 2) := bg00_2.2.1.2.2
theorem dX12_init_64 : decode cX12_init 64 = .ok (.aastore, 1) := bg00_2.2.2.1.1
theorem dX12_init_65 : decode cX12_init 65 = .ok (.dup, 1) := bg00_2.2.2.1.2
theorem dX12_init_66 : decode cX12_init 66 = .ok (.iconst 2, 1) := bg00_2.2.2.2.1
theorem dX12_init_67 : decode cX12_init 67 = .ok (.ldc 21, 2) := bg00_2.2.2.2.2
theorem bg00_3 : (((decode cX12_init 69 = .ok (.aastore, 1) ∧ decode cX12_init 70 = .ok (.dup, 1)) ∧ (decode cX12_init 71 = .ok (.iconst 3, 1) ∧ decode cX12_init 72 = .ok (.ldc 34, 2))) ∧ ((decode cX12_init 74 = .ok (.aastore, 1) ∧ decode cX12_init 75 = .ok (.dup, 1)) ∧ (decode cX12_init 76 = .ok (.iconst 4, 1) ∧ decode cX12_init 77 = .ok (.ldc 25, 2)))) ∧ (((decode cX12_init 79 = .ok (.aastore, 1) ∧ decode cX12_init 80 = .ok (.putfield 36, 3)) ∧ (decode cX12_init 83 = .ok (.aload_n 0, 1) ∧ decode cX12_init 84 = .ok (.aload_n 0, 1))) ∧ ((decode cX12_init 85 = .ok (.getfield 27, 3) ∧ decode cX12_init 88 = .ok (.putfield 39, 3)) ∧ (decode cX12_init 91 = .ok (.aload_n 0, 1) ∧ decode cX12_init 92 = .ok (.bipush 12, 2)))) := by decide +kernel
theorem dX12_init_69 : decode cX12_init 69 = .ok (.aastore, 1) := bg00_3.1.1.1.1
theorem dX12_init_70 : decode cX12_init 70 = .ok (.dup, 1) := bg00_3.1.1.1.2
theorem dX12_init_71 : decode cX12_init 71 = .ok (.iconst 3, 1) := bg00_3.1.1.2.1
theorem dX12_init_72 : decode cX12_init 72 = .ok (.ldc 34, 2) := bg00_3.1.1.2.2
theorem dX12_init_74 : decode cX12_init 74 = .ok (.aastore, 1) := bg00_3.1.2.1.1
theorem dX12_init_75 : decode cX12_init 75 = .ok (.dup, 1) := bg00_3.1.2.1.2
theorem dX12_init_76 : decode cX12_init 76 = .ok (.iconst 4, 1) := bg00_3.1.2.2.1
theorem dX12_init_77 : decode cX12_init 77 = .ok (.ldc 25, 2) := bg00_3.1.2.2.2
theorem dX12_init_79 : decode cX12_init 79 = .ok (.aastore, 1) := bg00_3.2.1.1.1
theorem dX12_init_80 : decode cX12_init 80 = .ok (.putfield 36, 3) := bg00_3.2.1.1.2
theorem dX12_init_83 : decode cX12_init 83 = .ok (.aload_n 0, 1) := bg00_3.2.1.2.1
theorem dX12_init_84 : decode cX12_init 84 = .ok (.aload_n 0, 1) := bg00_3.2.1.2.2
theorem dX12_init_85 : decode cX12_init 85 = .ok (.getfield 27, 3) := bg00_3.2.2.1.1
theorem dX12_init_88 : decode cX12_init 88 = .ok (.putfield 39, 3) := bg00_3.2.2.1.2
theorem dX12_init_91 : decode cX12_init 91 = .ok (.aload_n 0, 1) := bg00_3.2.2.2.1
theorem dX12_init_92 : decode cX12_init 92 = .ok (.bipush 12, 2) := bg00_3.2.2.2.2
theorem bg00_4 : (((decode cX12_init 94 = .ok (.newarray .int, 2) ∧ decode cX12_init 96 = .ok (.putfield 42, 3)) ∧ (decode cX12_init 99 = .ok (.aload_n 0, 1) ∧ decode cX12_init 100 = .ok (.bipush 16, 2))) ∧ ((decode cX12_init 102 = .ok (.newarray .int, 2) ∧ decode cX12_init 104 = .ok (.putfield 46, 3)) ∧ (decode cX12_init 107 = .ok (.aload_n 0, 1) ∧ decode cX12_init 108 = .ok (.bipush 16, 2)))) ∧ (((decode cX12_init 110 = .ok (.newarray .int, 2) ∧ decode cX12_init 112 = .ok (.putfield 49, 3)) ∧ (decode cX12_init 115 = .ok (.aload_n 0, 1) ∧ decode cX12_init 116 = .ok (.bipush 16, 2))) ∧ ((decode cX12_init 118 = .ok (.newarray .int, 2) ∧ decode cX12_init 120 = .ok (.putfield 52, 3)) ∧ (decode cX12_init 123 = .ok (.aload_n 0, 1) ∧ decode cX12_init 124 = .ok (.bipush 16, 2)))) := by decide +kernel
theorem dX12_init_94 : decode cX12_init 94 = .ok (.newarray .int, 2) := bg00_4.1.1.1.1
theorem dX12_init_96 : decode cX12_init 96 = .ok (.putfield 42, 3) := bg00_4.1.1.1.2
theorem dX12_init_99 : decode cX12_init 99 = .ok (.aload_n 0, 1) := bg00_4.1.1.2.1
theorem dX12_init_100 : decode cX12_init 100 = .ok (.bipush 16, 2) := bg00_4.1.1.2.2
theorem dX12_init_102 : decode cX12_init 102 = .ok (.newarray .int, 2) := bg00_4.1.2.1.1
theorem dX12_init_104 : decode cX12_init 104 = .ok (.putfield 46, 3) := bg00_4.1.2.1.2
theorem dX12_init_107 : decode cX12_init 107 = .ok (.aload_n 0, 1) := bg00_4.1.2.2.1
theorem dX12_init_108 : decode cX12_init 108 = .ok (.bipush 16, 2) := bg00_4.1.2.2.2
theorem dX12_init_110 : decode cX12_init 110 = .ok (.newarray .int, 2) := bg00_4.2.1.1.1
theorem dX12_init_112 : decode cX12_init 112 = .ok (.putfield 49, 3) := bg00_4.2.1.1.2
theorem dX12_init_115 : decode cX12_init 115 = .ok (.aload_n 0, 1) := bg00_4.2.1.2.1
theorem dX12_init_116 : decode cX12_init 116 = .ok (.bipush 16, 2) := bg00_4.2.1.2.2
theorem dX12_init_118 : decode cX12_init 118 = .ok (.newarray .int, 2) := bg00_4.2.2.1.1
theorem dX12_init_120 : decode cX12_init 120 = .ok (.putfield 52, 3) := bg00_4.2.2.1.2
theorem dX12_init_123 : decode cX12_init 123 = .ok (.aload_n 0, 1) := bg00_4.2.2.2.1
theorem dX12_init_124 : decode cX12_init 124 = .ok (.bipush 16, 2) := bg00_4.2.2.2.2
theorem bg00_5 : (((decode cX12_init 126 = .ok (.newarray .int, 2) ∧ decode cX12_init 128 = .ok (.putfield 55, 3)) ∧ (decode cX12_init 131 = .ok (.aload_n 0, 1) ∧ decode cX12_init 132 = .ok (.bipush 16, 2))) ∧ ((decode cX12_init 134 = .ok (.newarray .int, 2) ∧ decode cX12_init 136 = .ok (.putfield 57, 3)) ∧ (decode cX12_init 139 = .ok (.aload_n 0, 1) ∧ decode cX12_init 140 = .ok (.bipush 16, 2)))) ∧ (((decode cX12_init 142 = .ok (.newarray .int, 2) ∧ decode cX12_init 144 = .ok (.putfield 60, 3)) ∧ (decode cX12_init 147 = .ok (.aload_n 0, 1) ∧ decode cX12_init 148 = .ok (.bipush 16, 2))) ∧ ((decode cX12_init 150 = .ok (.newarray .int, 2) ∧ decode cX12_init 152 = .ok (.putfield 63, 3)) ∧ (decode cX12_init 155 = .ok (.aload_n 0, 1) ∧ decode cX12_init 156 = .ok (.bipush 16, 2)))) := by decide +kernel
theorem dX12_init_126 : decode cX12_init 126 = .ok (.newarray .int, 2) := bg00_5.1.1.1.1
theorem dX12_init_128 : decode cX12_init 128 = .ok (.putfield 55, 3) := bg00_5.1.1.1.2
theorem dX12_init_131 : decode cX12_init 131 = .ok (.aload_n 0, 1) := bg00_5.1.1.2.1
theorem dX12_init_132 : decode cX12_init 132 = .ok (.bipush 16, 2) := bg00_5.1.1.2.2
theorem dX12_init_134 : decode cX12_init 134 = .ok (.newarray .int, 2) := bg00_5.1.2.1.1
theorem dX12_init_136 : decode cX12_init 136 = .ok (.putfield 57, 3) := bg00_5.1.2.1.2
theorem dX12_init_139 : decode cX12_init 139 = .ok (.aload_n 0, 1) := bg00_5.1.2.2.1
theorem dX12_init_140 : decode cX12_init 140 = .ok (.bipush 16, 2) := bg00_5.1.2.2.2
theorem dX12_init_142 : decode cX12_init 142 = .ok (.newarray .int, 2) := bg00_5.2.1.1.1
theorem dX12_init_144 : decode cX12_init 144 = .ok (.putfield 60, 3) := bg00_5.2.1.1.2
theorem dX12_init_147 : decode cX12_init 147 = .ok (.aload_n 0, 1) := bg00_5.2.1.2.1
theorem dX12_init_148 : decode cX12_init 148 = .ok (.bipush 16, 2) := bg00_5.2.1.2.2
theorem dX12_init_150 : decode cX12_init 150 = .ok (.newarray .int, 2) := bg00_5.2.2.1.1
theorem dX12_init_152 : decode cX12_init 152 = .ok (.putfield 63, 3) := bg00_5.2.2.1.2
theorem dX12_init_155 : decode cX12_init 155 = .ok (.aload_n 0, 1) := bg00_5.2.2.2.1
theorem dX12_init_156 : decode cX12_init 156 = .ok (.bipush 16, 2) := bg00_5.2.2.2.2
theorem bg00_6 : (((decode cX12_init 158 = .ok (.newarray .int, 2) ∧ decode cX12_init 160 = .ok (.putfield 66, 3)) ∧ (decode cX12_init 163 = .ok (.aload_n 0, 1) ∧ decode cX12_init 164 = .ok (.bipush 16, 2))) ∧ ((decode cX12_init 166 = .ok (.newarray .int, 2) ∧ decode cX12_init 168 = .ok (.putfield 69, 3)) ∧ (decode cX12_init 171 = .ok (.aload_n 0, 1) ∧ decode cX12_init 172 = .ok (.sipush 1400, 3)))) ∧ (((decode cX12_init 175 = .ok (.newarray .int, 2) ∧ decode cX12_init 177 = .ok (.putfield 72, 3)) ∧ (decode cX12_init 180 = .ok (.aload_n 0, 1) ∧ decode cX12_init 181 = .ok (.sipush 1400, 3))) ∧ ((decode cX12_init 184 = .ok (.newarray .int, 2) ∧ decode cX12_init 186 = .ok (.putfield 75, 3)) ∧ (decode cX12_init 189 = .ok (.aload_n 0, 1) ∧ decode cX12_init 190 = .ok (.iconst 3, 1)))) := by decide +kernel
theorem dX12_init_158 : decode cX12_init 158 = .ok (.newarray .int, 2) := bg00_6.1.1.1.1
theorem dX12_init_160 : decode cX12_init 160 = .ok (.putfield 66, 3) := bg00_6.1.1.1.2
theorem dX12_init_163 : decode cX12_init 163 = .ok (.aload_n 0, 1) := bg00_6.1.1.2.1
theorem dX12_init_164 : decode cX12_init 164 = .ok (.bipush 16, 2) := bg00_6.1.1.2.2
theorem dX12_init_166 : decode cX12_init 166 = .ok (.newarray .int, 2) := bg00_6.1.2.1.1
theorem dX12_init_168 : decode cX12_init 168 = .ok (.putfield 69, 3) := bg00_6.1.2.1.2
theorem dX12_init_171 : decode cX12_init 171 = .ok (.aload_n 0, 1) := bg00_6.1.2.2.1
theorem dX12_init_172 : decode cX12_init 172 = .ok (.sipush 1400, 3) := bg00_6.1.2.2.2
theorem dX12_init_175 : decode cX12_init 175 = .ok (.newarray .int, 2) := bg00_6.2.1.1.1
theorem dX12_init_177 : decode cX12_init 177 = .ok (.putfield 72, 3) := bg00_6.2.1.1.2
theorem dX12_init_180 : decode cX12_init 180 = .ok (.aload_n 0, 1) := bg00_6.2.1.2.1
theorem dX12_init_181 : decode cX12_init 181 = .ok (.sipush 1400, 3) := bg00_6.2.1.2.2
theorem dX12_init_184 : decode cX12_init 184 = .ok (.newarray .int, 2) := bg00_6.2.2.1.1
theorem dX12_init_186 : decode cX12_init 186 = .ok (.putfield 75, 3) := bg00_6.2.2.1.2
theorem dX12_init_189 : decode cX12_init 189 = .ok (.aload_n 0, 1) := bg00_6.2.2.2.1
theorem dX12_init_190 : decode cX12_init 190 = .ok (.iconst 3, 1) := bg00_6.2.2.2.2
theorem bg00_7 : (((decode cX12_init 191 = .ok (.newarray .int, 2) ∧ decode cX12_init 193 = .ok (.putfield 78, 3)) ∧ (decode cX12_init 196 = .ok (.aload_n 0, 1) ∧ decode cX12_init 197 = .ok (.sipush 700, 3))) ∧ ((decode cX12_init 200 = .ok (.newarray .int, 2) ∧ decode cX12_init 202 = .ok (.putfield 81, 3)) ∧ (decode cX12_init 205 = .ok (.aload_n 0, 1) ∧ decode cX12_init 206 = .ok (.iconst (-1), 1)))) ∧ (((decode cX12_init 207 = .ok (.putfield 84, 3) ∧ decode cX12_init 210 = .ok (.aload_n 0, 1)) ∧ (decode cX12_init 211 = .ok (.bipush 8, 2) ∧ decode cX12_init 213 = .ok (.newarray .int, 2))) ∧ ((decode cX12_init 215 = .ok (.putfield 88, 3) ∧ decode cX12_init 218 = .ok (.aload_n 0, 1)) ∧ (decode cX12_init 219 = .ok (.bipush 8, 2) ∧ decode cX12_init 221 = .ok (.newarray .int, 2)))) := by decide +kernel
theorem dX12_init_191 : decode cX12_init 191 = .ok (.newarray .int, 2) := bg00_7.1.1.1.1
theorem dX12_init_193 : decode cX12_init 193 = .ok (.putfield 78, 3) := bg00_7.1.1.1.2
theorem dX12_init_196 : decode cX12_init 196 = .ok (.aload_n 0, 1) := bg00_7.1.1.2.1
theorem dX12_init_197 : decode cX12_init 197 = .ok (.sipush 700, 3) := bg00_7.1.1.2.2
theorem dX12_init_200 : decode cX12_init 200 = .ok (.newarray .int, 2) := bg00_7.1.2.1.1
theorem dX12_init_202 : decode cX12_init 202 = .ok (.putfield 81, 3) := bg00_7.1.2.1.2
theorem dX12_init_205 : decode cX12_init 205 = .ok (.aload_n 0, 1) := bg00_7.1.2.2.1
theorem dX12_init_206 : decode cX12_init 206 = .ok (.iconst (-1), 1) := bg00_7.1.2.2.2
theorem dX12_init_207 : decode cX12_init 207 = .ok (.putfield 84, 3) := bg00_7.2.1.1.1
theorem dX12_init_210 : decode cX12_init 210 = .ok (.aload_n 0, 1) := bg00_7.2.1.1.2
theorem dX12_init_211 : decode cX12_init 211 = .ok (.bipush 8, 2) := bg00_7.2.1.2.1
theorem dX12_init_213 : decode cX12_init 213 = .ok (.newarray .int, 2) := bg00_7.2.1.2.2
theorem dX12_init_215 : decode cX12_init 215 = .ok (.putfield 88, 3) := bg00_7.2.2.1.1
theorem dX12_init_218 : decode cX12_init 218 = .ok (.aload_n 0, 1) := bg00_7.2.2.1.2
theorem dX12_init_219 : decode cX12_init 219 = .ok (.bipush 8, 2) := bg00_7.2.2.2.1
theorem dX12_init_221 : decode cX12_init 221 = .ok (.newarray .int, 2) := bg00_7.2.2.2.2
theorem bg00_8 : (((decode cX12_init 223 = .ok (.putfield 91, 3) ∧ decode cX12_init 226 = .ok (.aload_n 0, 1)) ∧ (decode cX12_init 227 = .ok (.bipush 8, 2) ∧ decode cX12_init 229 = .ok (.newarray .int, 2))) ∧ ((decode cX12_init 231 = .ok (.putfield 94, 3) ∧ decode cX12_init 234 = .ok (.aload_n 0, 1)) ∧ (decode cX12_init 235 = .ok (.bipush 8, 2) ∧ decode cX12_init 237 = .ok (.newarray .int, 2)))) ∧ (((decode cX12_init 239 = .ok (.putfield 96, 3) ∧ decode cX12_init 242 = .ok (.aload_n 0, 1)) ∧ (decode cX12_init 243 = .ok (.bipush 8, 2) ∧ decode cX12_init 245 = .ok (.newarray .int, 2))) ∧ ((decode cX12_init 247 = .ok (.putfield 99, 3) ∧ decode cX12_init 250 = .ok (.aload_n 0, 1)) ∧ (decode cX12_init 251 = .ok (.bipush 8, 2) ∧ decode cX12_init 253 = .ok (.newarray .int, 2)))) := by decide +kernel
theorem dX12_init_223 : decode cX12_init 223 = .ok (.putfield 91, 3) := bg00_8.1.1.1.1
theorem dX12_init_226 : decode cX12_init 226 = .ok (.aload_n 0, 1) := bg00_8.1.1.1.2
theorem dX12_init_227 : decode cX12_init 227 = .ok (.bipush 8, 2) := bg00_8.1.1.2.1
theorem dX12_init_229 : decode cX12_init 229 = .ok (.newarray .int, 2) := bg00_8.1.1.2.2
theorem dX12_init_231 : decode cX12_init 231 = .ok (.putfield 94, 3) := bg00_8.1.2.1.1
theorem dX12_init_234 : decode cX12_init 234 = .ok (.aload_n 0, 1) := bg00_8.1.2.1.2
theorem dX12_init_235 : decode cX12_init 235 = .ok (.bipush 8, 2) := bg00_8.1.2.2.1
theorem dX12_init_237 : decode cX12_init 237 = .ok (.newarray .int, 2) := bg00_8.1.2.2.2
theorem dX12_init_239 : decode cX12_init 239 = .ok (.putfield 96, 3) := bg00_8.2.1.1.1
theorem dX12_init_242 : decode cX12_init 242 = .ok (.aload_n 0, 1) := bg00_8.2.1.1.2
theorem dX12_init_243 : decode cX12_init 243 = .ok (.bipush 8, 2) := bg00_8.2.1.2.1
theorem dX12_init_245 : decode cX12_init 245 = .ok (.newarray .int, 2) := bg00_8.2.1.2.2
theorem dX12_init_247 : decode cX12_init 247 = .ok (.putfield 99, 3) := bg00_8.2.2.1.1
theorem dX12_init_250 : decode cX12_init 250 = .ok (.aload_n 0, 1) := bg00_8.2.2.1.2
theorem dX12_init_251 : decode cX12_init 251 = .ok (.bipush 8, 2) := bg00_8.2.2.2.1
theorem dX12_init_253 : decode cX12_init 253 = .ok (.newarray .int, 2) := bg00_8.2.2.2.2
theorem bg00_9 : (((decode cX12_init 255 = .ok (.putfield 102, 3) ∧ decode cX12_init 258 = .ok (.aload_n 0, 1)) ∧ (decode cX12_init 259 = .ok (.bipush 8, 2) ∧ decode cX12_init 261 = .ok (.newarray .int, 2))) ∧ ((decode cX12_init 263 = .ok (.putfield 104, 3) ∧ decode cX12_init 266 = .ok (.aload_n 0, 1)) ∧ (decode cX12_init 267 = .ok (.bipush 8, 2) ∧ decode cX12_init 269 = .ok (.newarray .int, 2)))) ∧ (((decode cX12_init 271 = .ok (.putfield 106, 3) ∧ decode cX12_init 274 = .ok (.aload_n 0, 1)) ∧ (decode cX12_init 275 = .ok (.sipush 2600, 3) ∧ decode cX12_init 278 = .ok (.newarray .int, 2))) ∧ ((decode cX12_init 280 = .ok (.putfield 109, 3) ∧ decode cX12_init 283 = .ok (.aload_n 0, 1)) ∧ (decode cX12_init 284 = .ok (.iconst 5, 1) ∧ decode cX12_init 285 = .ok (.newarray .int, 2)))) := by decide +kernel
theorem dX12_init_255 : decode cX12_init 255 = .ok (.putfield 102, 3) := bg00_9.1.1.1.1
theorem dX12_init_258 : decode cX12_init 258 = .ok (.aload_n 0, 1) := bg00_9.1.1.1.2
theorem dX12_init_259 : decode cX12_init 259 = .ok (.bipush 8, 2) := bg00_9.1.1.2.1
theorem dX12_init_261 : decode cX12_init 261 = .ok (.newarray .int, 2) := bg00_9.1.1.2.2
theorem dX12_init_263 : decode cX12_init 263 = .ok (.putfield 104, 3) := bg00_9.1.2.1.1
theorem dX12_init_266 : decode cX12_init 266 = .ok (.aload_n 0, 1) := bg00_9.1.2.1.2
theorem dX12_init_267 : decode cX12_init 267 = .ok (.bipush 8, 2) := bg00_9.1.2.2.1
theorem dX12_init_269 : decode cX12_init 269 = .ok (.newarray .int, 2) := bg00_9.1.2.2.2
theorem dX12_init_271 : decode cX12_init 271 = .ok (.putfield 106, 3) := bg00_9.2.1.1.1
theorem dX12_init_274 : decode cX12_init 274 = .ok (.aload_n 0, 1) := bg00_9.2.1.1.2
theorem dX12_init_275 : decode cX12_init 275 = .ok (.sipush 2600, 3) := bg00_9.2.1.2.1
theorem dX12_init_278 : decode cX12_init 278 = .ok (.newarray .int, 2) := bg00_9.2.1.2.2
theorem dX12_init_280 : decode cX12_init 280 = .ok (.putfield 109, 3) := bg00_9.2.2.1.1
theorem dX12_init_283 : decode cX12_init 283 = .ok (.aload_n 0, 1) := bg00_9.2.2.1.2
theorem dX12_init_284 : decode cX12_init 284 = .ok (.iconst 5, 1) := bg00_9.2.2.2.1
theorem dX12_init_285 : decode cX12_init 285 = .ok (.newarray .int, 2) := bg00_9.2.2.2.2
theorem bg00_10 : (((decode cX12_init 287 = .ok (.putfield 112, 3) ∧ decode cX12_init 290 = .ok (.aload_n 0, 1)) ∧ (decode cX12_init 291 = .ok (.bipush 64, 2) ∧ decode cX12_init 293 = .ok (.newarray .int, 2))) ∧ ((decode cX12_init 295 = .ok (.putfield 115, 3) ∧ decode cX12_init 298 = .ok (.aload_n 0, 1)) ∧ (decode cX12_init 299 = .ok (.bipush 65, 2) ∧ decode cX12_init 301 = .ok (.newarray .int, 2)))) ∧ (((decode cX12_init 303 = .ok (.putfield 118, 3) ∧ decode cX12_init 306 = .ok (.aload_n 0, 1)) ∧ (decode cX12_init 307 = .ok (.sipush 2304, 3) ∧ decode cX12_init 310 = .ok (.newarray .int, 2))) ∧ ((decode cX12_init 312 = .ok (.putfield 121, 3) ∧ decode cX12_init 315 = .ok (.aload_n 0, 1)) ∧ (decode cX12_init 316 = .ok (.bipush 8, 2) ∧ decode cX12_init 318 = .ok (.newarray .int, 2)))) := by decide +kernel
theorem dX12_init_287 : decode cX12_init 287 = .ok (.putfield 112, 3) := bg00_10.1.1.1.1
theorem dX12_init_290 : decode cX12_init 290 = .ok (.aload_n 0, 1) := bg00_10.1.1.1.2
theorem dX12_init_291 : decode cX12_init 291 = .ok (.bipush 64, 2) := bg00_10.1.1.2.1
theorem dX12_init_293 : decode cX12_init 293 = .ok (.newarray .int, 2) := bg00_10.1.1.2.2
theorem dX12_init_295 : decode cX12_init 295 = .ok (.putfield 115, 3) := bg00_10.1.2.1.1
theorem dX12_init_298 : decode cX12_init 298 = .ok (.aload_n 0, 1) := bg00_10.1.2.1.2
theorem dX12_init_299 : decode cX12_init 299 = .ok (.bipush 65, 2) := bg00_10.1.2.2.1
theorem dX12_init_301 : decode cX12_init 301 = .ok (.newarray .int, 2) := bg00_10.1.2.2.2
theorem dX12_init_303 : decode cX12_init 303 = .ok (.putfield 118, 3) := bg00_10.2.1.1.1
theorem dX12_init_306 : decode cX12_init 306 = .ok (.aload_n 0, 1) := bg00_10.2.1.1.2
theorem dX12_init_307 : decode cX12_init 307 = .ok (.sipush 2304, 3) := bg00_10.2.1.2.1
theorem dX12_init_310 : decode cX12_init 310 = .ok (.newarray .int, 2) := bg00_10.2.1.2.2
theorem dX12_init_312 : decode cX12_init 312 = .ok (.putfield 121, 3) := bg00_10.2.2.1.1
theorem dX12_init_315 : decode cX12_init 315 = .ok (.aload_n 0, 1) := bg00_10.2.2.1.2
theorem dX12_init_316 : decode cX12_init 316 = .ok (.bipush 8, 2) := bg00_10.2.2.2.1
theorem dX12_init_318 : decode cX12_init 318 = .ok (.newarray .int, 2) := bg00_10.2.2.2.2
theorem bg00_11 : (((decode cX12_init 320 = .ok (.putfield 124, 3) ∧ decode cX12_init 323 = .ok (.aload_n 0, 1)) ∧ (decode cX12_init 324 = .ok (.bipush 8, 2) ∧ decode cX12_init 326 = .ok (.newarray .int, 2))) ∧ ((decode cX12_init 328 = .ok (.putfield 127, 3) ∧ decode cX12_init 331 = .ok (.aload_n 0, 1)) ∧ (decode cX12_init 332 = .ok (.bipush 8, 2) ∧ decode cX12_init 334 = .ok (.newarray .int, 2)))) ∧ (((decode cX12_init 336 = .ok (.putfield 130, 3) ∧ decode cX12_init 339 = .ok (.aload_n 0, 1)) ∧ (decode cX12_init 340 = .ok (.bipush 65, 2) ∧ decode cX12_init 342 = .ok (.newarray .int, 2))) ∧ ((decode cX12_init 344 = .ok (.putfield 133, 3) ∧ decode cX12_init 347 = .ok (.aload_n 0, 1)) ∧ (decode cX12_init 348 = .ok (.sipush 800, 3) ∧ decode cX12_init 351 = .ok (.newarray .int, 2)))) := by decide +kernel
theorem dX12_init_320 : decode cX12_init 320 = .ok (.putfield 124, 3) := bg00_11.1.1.1.1
theorem dX12_init_323 : decode cX12_init 323 = .ok (.aload_n 0, 1) := bg00_11.1.1.1.2
theorem dX12_init_324 : decode cX12_init 324 = .ok (.bipush 8, 2) := bg00_11.1.1.2.1
theorem dX12_init_326 : decode cX12_init 326 = .ok (.newarray .int, 2) := bg00_11.1.1.2.2
theorem dX12_init_328 : decode cX12_init 328 = .ok (.putfield 127, 3) := bg00_11.1.2.1.1
theorem dX12_init_331 : decode cX12_init 331 = .ok (.aload_n 0, 1) := bg00_11.1.2.1.2
theorem dX12_init_332 : decode cX12_init 332 = .ok (.bipush 8, 2) := bg00_11.1.2.2.1
theorem dX12_init_334 : decode cX12_init 334 = .ok (.newarray .int, 2) := bg00_11.1.2.2.2
theorem dX12_init_336 : decode cX12_init 336 = .ok (.putfield 130, 3) := bg00_11.2.1.1.1
theorem dX12_init_339 : decode cX12_init 339 = .ok (.aload_n 0, 1) := bg00_11.2.1.1.2
theorem dX12_init_340 : decode cX12_init 340 = .ok (.bipush 65, 2) := bg00_11.2.1.2.1
theorem dX12_init_342 : decode cX12_init 342 = .ok (.newarray .int, 2) := bg00_11.2.1.2.2
theorem dX12_init_344 : decode cX12_init 344 = .ok (.putfield 133, 3) := bg00_11.2.2.1.1
theorem dX12_init_347 : decode cX12_init 347 = .ok (.aload_n 0, 1) := bg00_11.2.2.1.2
theorem dX12_init_348 : decode cX12_init 348 = .ok (.sipush 800, 3) := bg00_11.2.2.2.1
theorem dX12_init_351 : decode cX12_init 351 = .ok (.newarray .int, 2) := bg00_11.2.2.2.2
theorem bg00_12 : (((decode cX12_init 353 = .ok (.putfield 136, 3) ∧ decode cX12_init 356 = .ok (.aload_n 0, 1)) ∧ (decode cX12_init 357 = .ok (.bipush 8, 2) ∧ decode cX12_init 359 = .ok (.newarray .int, 2))) ∧ ((decode cX12_init 361 = .ok (.putfield 139, 3) ∧ decode cX12_init 364 = .ok (.aload_n 0, 1)) ∧ (decode cX12_init 365 = .ok (.bipush 8, 2) ∧ decode cX12_init 367 = .ok (.newarray .int, 2)))) ∧ (((decode cX12_init 369 = .ok (.putfield 142, 3) ∧ decode cX12_init 372 = .ok (.aload_n 0, 1)) ∧ (decode cX12_init 373 = .ok (.bipush 65, 2) ∧ decode cX12_init 375 = .ok (.newarray .int, 2))) ∧ ((decode cX12_init 377 = .ok (.putfield 145, 3) ∧ decode cX12_init 380 = .ok (.aload_n 0, 1)) ∧ (decode cX12_init 381 = .ok (.sipush 2600, 3) ∧ decode cX12_init 384 = .ok (.newarray .int, 2)))) := by decide +kernel
theorem dX12_init_353 : decode cX12_init 353 = .ok (.putfield 136, 3) := bg00_12.1.1.1.1
theorem dX12_init_356 : decode cX12_init 356 = .ok (.aload_n 0, 1) := bg00_12.1.1.1.2
theorem dX12_init_357 : decode cX12_init 357 = .ok (.bipush 8, 2) := bg00_12.1.1.2.1
theorem dX12_init_359 : decode cX12_init 359 = .ok (.newarray .int, 2) := bg00_12.1.1.2.2
theorem dX12_init_361 : decode cX12_init 361 = .ok (.putfield 139, 3) := bg00_12.1.2.1.1
theorem dX12_init_364 : decode cX12_init 364 = .ok (.aload_n 0, 1) := bg00_12.1.2.1.2
theorem dX12_init_365 : decode cX12_init 365 = .ok (.bipush 8, 2) := bg00_12.1.2.2.1
theorem dX12_init_367 : decode cX12_init 367 = .ok (.newarray .int, 2) := bg00_12.1.2.2.2
theorem dX12_init_369 : decode cX12_init 369 = .ok (.putfield 142, 3) := bg00_12.2.1.1.1
theorem dX12_init_372 : decode cX12_init 372 = .ok (.aload_n 0, 1) := bg00_12.2.1.1.2
theorem dX12_init_373 : decode cX12_init 373 = .ok (.bipush 65, 2) := bg00_12.2.1.2.1
theorem dX12_init_375 : decode cX12_init 375 = .ok (.newarray .int, 2) := bg00_12.2.1.2.2
theorem dX12_init_377 : decode cX12_init 377 = .ok (.putfield 145, 3) := bg00_12.2.2.1.1
theorem dX12_init_380 : decode cX12_init 380 = .ok (.aload_n 0, 1) := bg00_12.2.2.1.2
theorem dX12_init_381 : decode cX12_init 381 = .ok (.sipush 2600, 3) := bg00_12.2.2.2.1
theorem dX12_init_384 : decode cX12_init 384 = .ok (.newarray .int, 2) := bg00_12.2.2.2.2
theorem bg00_13 : (((decode cX12_init 386 = .ok (.putfield 148, 3) ∧ decode cX12_init 389 = .ok (.aload_n 0, 1)) ∧ (decode cX12_init 390 = .ok (.bipush 8, 2) ∧ decode cX12_init 392 = .ok (.newarray .int, 2))) ∧ ((decode cX12_init 394 = .ok (.putfield 151, 3) ∧ decode cX12_init 397 = .ok (.aload_n 0, 1)) ∧ (decode cX12_init 398 = .ok (.bipush 8, 2) ∧ decode cX12_init 400 = .ok (.newarray .int, 2)))) ∧ (((decode cX12_init 402 = .ok (.putfield 154, 3) ∧ decode cX12_init 405 = .ok (.aload_n 0, 1)) ∧ (decode cX12_init 406 = .ok (.bipush 8, 2) ∧ decode cX12_init 408 = .ok (.newarray .int, 2))) ∧ ((decode cX12_init 410 = .ok (.putfield 157, 3) ∧ decode cX12_init 413 = .ok (.aload_n 0, 1)) ∧ (decode cX12_init 414 = .ok (.iconst 3, 1) ∧ decode cX12_init 415 = .ok (.newarray .int, 2)))) := by decide +kernel
theorem dX12_init_386 : decode cX12_init 386 = .ok (.putfield 148, 3) := bg00_13.1.1.1.1
theorem dX12_init_389 : decode cX12_init 389 = .ok (.aload_n 0, 1) := bg00_13.1.1.1.2
theorem dX12_init_390 : decode cX12_init 390 = .ok (.bipush 8, 2) := bg00_13.1.1.2.1
theorem dX12_init_392 : decode cX12_init 392 = .ok (.newarray .int, 2) := bg00_13.1.1.2.2
theorem dX12_init_394 : decode cX12_init 394 = .ok (.putfield 151, 3) := bg00_13.1.2.1.1
theorem dX12_init_397 : decode cX12_init 397 = .ok (.aload_n 0, 1) := bg00_13.1.2.1.2
theorem dX12_init_398 : decode cX12_init 398 = .ok (.bipush 8, 2) := bg00_13.1.2.2.1
theorem dX12_init_400 : decode cX12_init 400 = .ok (.newarray .int, 2) := bg00_13.1.2.2.2
theorem dX12_init_402 : decode cX12_init 402 = .ok (.putfield 154, 3) := bg00_13.2.1.1.1
theorem dX12_init_405 : decode cX12_init 405 = .ok (.aload_n 0, 1) := bg00_13.2.1.1.2
theorem dX12_init_406 : decode cX12_init 406 = .ok (.bipush 8, 2) := bg00_13.2.1.2.1
theorem dX12_init_408 : decode cX12_init 408 = .ok (.newarray .int, 2) := bg00_13.2.1.2.2
theorem dX12_init_410 : decode cX12_init 410 = .ok (.putfield 157, 3) := bg00_13.2.2.1.1
theorem dX12_init_413 : decode cX12_init 413 = .ok (.aload_n 0, 1) := bg00_13.2.2.1.2
theorem dX12_init_414 : decode cX12_init 414 = .ok (.iconst 3, 1) := bg00_13.2.2.2.1
theorem dX12_init_415 : decode cX12_init 415 = .ok (.newarray .int, 2) := bg00_13.2.2.2.2
theorem bg00_14 : (((decode cX12_init 417 = .ok (.putfield 160, 3) ∧ decode cX12_init 420 = .ok (.aload_n 0, 1)) ∧ (decode cX12_init 421 = .ok (.getfield 42, 3) ∧ decode cX12_init 424 = .ok (.iconst 3, 1))) ∧ ((decode cX12_init 425 = .ok (.bipush 30, 2) ∧ decode cX12_init 427 = .ok (.iastore, 1)) ∧ (decode cX12_init 428 = .ok (.iconst 0, 1) ∧ decode cX12_init 429 = .ok (.istore_n 1, 1)))) ∧ (((decode cX12_init 430 = .ok (.iload_n 1, 1) ∧ decode cX12_init 431 = .ok (.bipush 8, 2)) ∧ (decode cX12_init 433 = .ok (.if_icmp .ge 23, 3) ∧ decode cX12_init 436 = .ok (.aload_n 0, 1))) ∧ ((decode cX12_init 437 = .ok (.getfield 104, 3) ∧ decode cX12_init 440 = .ok (.iload_n 1, 1)) ∧ (decode cX12_init 441 = .ok (.iconst (-1), 1) ∧ decode cX12_init 442 = .ok (.iastore, 1)))) := by decide +kernel
theorem dX12_init_417 : decode cX12_init 417 = .ok (.putfield 160, 3) := bg00_14.1.1.1.1
theorem dX12_init_420 : decode cX12_init 420 = .ok (.aload_n 0, 1) := bg00_14.1.1.1.2
theorem dX12_init_421 : decode cX12_init 421 = .ok (.getfield 42, 3) := bg00_14.1.1.2.1
theorem dX12_init_424 : decode cX12_init 424 = .ok (.iconst 3, 1) := bg00_14.1.1.2.2
theorem dX12_init_425 : decode cX12_init 425 = .ok (.bipush 30, 2) := bg00_14.1.2.1.1
theorem dX12_init_427 : decode cX12_init 427 = .ok (.iastore, 1) := bg00_14.1.2.1.2
theorem dX12_init_428 : decode cX12_init 428 = .ok (.iconst 0, 1) := bg00_14.1.2.2.1
theorem dX12_init_429 : decode cX12_init 429 = .ok (.istore_n 1, 1) := bg00_14.1.2.2.2
theorem dX12_init_430 : decode cX12_init 430 = .ok (.iload_n 1, 1) := bg00_14.2.1.1.1
theorem dX12_init_431 : decode cX12_init 431 = .ok (.bipush 8, 2) := bg00_14.2.1.1.2
theorem dX12_init_433 : decode cX12_init 433 = .ok (.if_icmp .ge 23, 3) := bg00_14.2.1.2.1
theorem dX12_init_436 : decode cX12_init 436 = .ok (.aload_n 0, 1) := bg00_14.2.1.2.2
theorem dX12_init_437 : decode cX12_init 437 = .ok (.getfield 104, 3) := bg00_14.2.2.1.1
theorem dX12_init_440 : decode cX12_init 440 = .ok (.iload_n 1, 1) := bg00_14.2.2.1.2
theorem dX12_init_441 : decode cX12_init 441 = .ok (.iconst (-1), 1) := bg00_14.2.2.2.1
theorem dX12_init_442 : decode cX12_init 442 = .ok (.iastore, 1) := bg00_14.2.2.2.2
theorem bg00_15 : ((decode cX12_init 443 = .ok (.aload_n 0, 1) ∧ decode cX12_init 444 = .ok (.getfield 106, 3)) ∧ (decode cX12_init 447 = .ok (.iload_n 1, 1) ∧ decode cX12_init 448 = .ok (.iconst (-1), 1))) ∧ ((decode cX12_init 449 = .ok (.iastore, 1) ∧ decode cX12_init 450 = .ok (.iinc 1 1, 3)) ∧ (decode cX12_init 453 = .ok (.goto (-23), 3) ∧ decode cX12_init 456 = .ok (.return_, 1))) := by decide +kernel
theorem dX12_init_443 : decode cX12_init 443 = .ok (.aload_n 0, 1) := bg00_15.1.1.1
theorem dX12_init_444 : decode cX12_init 444 = .ok (.getfield 106, 3) := bg00_15.1.1.2
theorem dX12_init_447 : decode cX12_init 447 = .ok (.iload_n 1, 1) := bg00_15.1.2.1
theorem dX12_init_448 : decode cX12_init 448 = .ok (.iconst (-1), 1) := bg00_15.1.2.2
theorem dX12_init_449 : decode cX12_init 449 = .ok (.iastore, 1) := bg00_15.2.1.1
theorem dX12_init_450 : decode cX12_init 450 = .ok (.iinc 1 1, 3) := bg00_15.2.1.2
theorem dX12_init_453 : decode cX12_init 453 = .ok (.goto (-23), 3) := bg00_15.2.2.1
theorem dX12_init_456 : decode cX12_init 456 = .ok (.return_, 1) := bg00_15.2.2.2
theorem bg00_16 : ((decode cX12_fail 0 = .ok (.aload_n 0, 1) ∧ decode cX12_fail 1 = .ok (.iload_n 1, 1)) ∧ (decode cX12_fail 2 = .ok (.putfield 163, 3) ∧ decode cX12_fail 5 = .ok (.iconst 0, 1))) ∧ ((decode cX12_fail 6 = .ok (.ireturn, 1) ∧ decode cX12_failing 0 = .ok (.aload_n 0, 1)) ∧ (decode cX12_failing 1 = .ok (.iload_n 1, 1) ∧ decode cX12_failing 2 = .ok (.putfield 163, 3))) := by decide +kernel
theorem dX12_fail_0 : decode cX12_fail 0 = .ok (.aload_n 0, 1) := bg00_16.1.1.1
theorem dX12_fail_1 : decode cX12_fail 1 = .ok (.iload_n 1, 1) := bg00_16.1.1.2
theorem dX12_fail_2 : decode cX12_fail 2 = .ok (.putfield 163, 3) := bg00_16.1.2.1
theorem dX12_fail_5 : decode cX12_fail 5 = .ok (.iconst 0, 1) := bg00_16.1.2.2
theorem dX12_fail_6 : decode cX12_fail 6 = .ok (.ireturn, 1) := bg00_16.2.1.1
theorem dX12_failing_0 : decode cX12_failing 0 = .ok (.aload_n 0, 1) := bg00_16.2.1.2
theorem dX12_failing_1 : decode cX12_failing 1 = .ok (.iload_n 1, 1) := bg00_16.2.2.1
theorem dX12_failing_2 : decode cX12_failing 2 = .ok (.putfield 163, 3) := bg00_16.2.2.2
theorem bg00_17 : ((decode cX12_failing 5 = .ok (.iconst 0, 1) ∧ decode cX12_failing 6 = .ok (.ireturn, 1)) ∧ (decode cX12_isIn 0 = .ok (.lload_n 0, 1) ∧ decode cX12_isIn 1 = .ok (.lload_n 2, 1))) ∧ ((decode cX12_isIn 2 = .ok (.lcmp, 1) ∧ decode cX12_isIn 3 = .ok (.ifCond .lt 14, 3)) ∧ (decode cX12_isIn 6 = .ok (.lload_n 0, 1) ∧ decode cX12_isIn 7 = .ok (.lload 4, 2))) := by decide +kernel
theorem dX12_failing_5 : decode cX12_failing 5 = .ok (.iconst 0, 1) := bg00_17.1.1.1
theorem dX12_failing_6 : decode cX12_failing 6 = .ok (.ireturn, 1) := bg00_17.1.1.2
theorem dX12_isIn_0 : decode cX12_isIn 0 = .ok (.lload_n 0, 1) := bg00_17.1.2.1
theorem dX12_isIn_1 : decode cX12_isIn 1 = .ok (.lload_n 2, 1) := bg00_17.1.2.2
theorem dX12_isIn_2 : decode cX12_isIn 2 = .ok (.lcmp, 1) := bg00_17.2.1.1
theorem dX12_isIn_3 : decode cX12_isIn 3 = .ok (.ifCond .lt 14, 3) := bg00_17.2.1.2
theorem dX12_isIn_6 : decode cX12_isIn 6 = .ok (.lload_n 0, 1) := bg00_17.2.2.1
theorem dX12_isIn_7 : decode cX12_isIn 7 = .ok (.lload 4, 2) := bg00_17.2.2.2
theorem bg00_18 : ((decode cX12_isIn 9 = .ok (.lcmp, 1) ∧ decode cX12_isIn 10 = .ok (.ifCond .gt 7, 3)) ∧ (decode cX12_isIn 13 = .ok (.iconst 1, 1) ∧ decode cX12_isIn 14 = .ok (.goto 4, 3))) ∧ ((decode cX12_isIn 17 = .ok (.iconst 0, 1) ∧ decode cX12_isIn 18 = .ok (.ireturn, 1)) ∧ (decode cX12_isOf 0 = .ok (.iload_n 0, 1) ∧ decode cX12_isOf 1 = .ok (.iload_n 1, 1))) := by decide +kernel
theorem dX12_isIn_9 : decode cX12_isIn 9 = .ok (.lcmp, 1) := bg00_18.1.1.1
theorem dX12_isIn_10 : decode cX12_isIn 10 = .ok (.ifCond .gt 7, 3) := bg00_18.1.1.2
theorem dX12_isIn_13 : decode cX12_isIn 13 = .ok (.iconst 1, 1) := bg00_18.1.2.1
theorem dX12_isIn_14 : decode cX12_isIn 14 = .ok (.goto 4, 3) := bg00_18.1.2.2
theorem dX12_isIn_17 : decode cX12_isIn 17 = .ok (.iconst 0, 1) := bg00_18.2.1.1
theorem dX12_isIn_18 : decode cX12_isIn 18 = .ok (.ireturn, 1) := bg00_18.2.1.2
theorem dX12_isOf_0 : decode cX12_isOf 0 = .ok (.iload_n 0, 1) := bg00_18.2.2.1
theorem dX12_isOf_1 : decode cX12_isOf 1 = .ok (.iload_n 1, 1) := bg00_18.2.2.2
theorem bg00_19 : (((decode cX12_isOf 2 = .ok (.ishr, 1) ∧ decode cX12_isOf 3 = .ok (.iconst 1, 1)) ∧ (decode cX12_isOf 4 = .ok (.iand, 1))) ∧ (decode cX12_isOf 5 = .ok (.iconst 1, 1) ∧ decode cX12_isOf 6 = .ok (.if_icmp .ne 7, 3))) ∧ ((decode cX12_isOf 9 = .ok (.iconst 1, 1) ∧ decode cX12_isOf 10 = .ok (.goto 4, 3)) ∧ (decode cX12_isOf 13 = .ok (.iconst 0, 1) ∧ decode cX12_isOf 14 = .ok (.ireturn, 1))) := by decide +kernel
theorem dX12_isOf_2 : decode cX12_isOf 2 = .ok (.ishr, 1) := bg00_19.1.1.1.1
theorem dX12_isOf_3 : decode cX12_isOf 3 = .ok (.iconst 1, 1) := bg00_19.1.1.1.2
theorem dX12_isOf_4 : decode cX12_isOf 4 = .ok (.iand, 1) := bg00_19.1.1.2
theorem dX12_isOf_5 : decode cX12_isOf 5 = .ok (.iconst 1, 1) := bg00_19.1.2.1
theorem dX12_isOf_6 : decode cX12_isOf 6 = .ok (.if_icmp .ne 7, 3) := bg00_19.1.2.2
theorem dX12_isOf_9 : decode cX12_isOf 9 = .ok (.iconst 1, 1) := bg00_19.2.1.1
theorem dX12_isOf_10 : decode cX12_isOf 10 = .ok (.goto 4, 3) := bg00_19.2.1.2
theorem dX12_isOf_13 : decode cX12_isOf 13 = .ok (.iconst 0, 1) := bg00_19.2.2.1
theorem dX12_isOf_14 : decode cX12_isOf 14 = .ok (.ireturn, 1) := bg00_19.2.2.2
theorem bg00_20 : (((decode cX12_bitsOf 0 = .ok (.iconst 0, 1) ∧ decode cX12_bitsOf 1 = .ok (.istore_n 1, 1)) ∧ (decode cX12_bitsOf 2 = .ok (.iload_n 0, 1) ∧ decode cX12_bitsOf 3 = .ok (.istore_n 2, 1))) ∧ ((decode cX12_bitsOf 4 = .ok (.iload_n 2, 1) ∧ decode cX12_bitsOf 5 = .ok (.ifCond .eq 15, 3)) ∧ (decode cX12_bitsOf 8 = .ok (.iinc 1 1, 3) ∧ decode cX12_bitsOf 11 = .ok (.iload_n 2, 1)))) ∧ (((decode cX12_bitsOf 12 = .ok (.iload_n 2, 1) ∧ decode cX12_bitsOf 13 = .ok (.iconst 1, 1)) ∧ (decode cX12_bitsOf 14 = .ok (.isub, 1) ∧ decode cX12_bitsOf 15 = .ok (.iand, 1))) ∧ ((decode cX12_bitsOf 16 = .ok (.istore_n 2, 1) ∧ decode cX12_bitsOf 17 = .ok (.goto (-13), 3)) ∧ (decode cX12_bitsOf 20 = .ok (.iload_n 1, 1) ∧ decode cX12_bitsOf 21 = .ok (.ireturn, 1)))) := by decide +kernel
theorem dX12_bitsOf_0 : decode cX12_bitsOf 0 = .ok (.iconst 0, 1) := bg00_20.1.1.1.1
theorem dX12_bitsOf_1 : decode cX12_bitsOf 1 = .ok (.istore_n 1, 1) := bg00_20.1.1.1.2
theorem dX12_bitsOf_2 : decode cX12_bitsOf 2 = .ok (.iload_n 0, 1) := bg00_20.1.1.2.1
theorem dX12_bitsOf_3 : decode cX12_bitsOf 3 = .ok (.istore_n 2, 1) := bg00_20.1.1.2.2
theorem dX12_bitsOf_4 : decode cX12_bitsOf 4 = .ok (.iload_n 2, 1) := bg00_20.1.2.1.1
theorem dX12_bitsOf_5 : decode cX12_bitsOf 5 = .ok (.ifCond .eq 15, 3) := bg00_20.1.2.1.2
theorem dX12_bitsOf_8 : decode cX12_bitsOf 8 = .ok (.iinc 1 1, 3) := bg00_20.1.2.2.1
theorem dX12_bitsOf_11 : decode cX12_bitsOf 11 = .ok (.iload_n 2, 1) := bg00_20.1.2.2.2
theorem dX12_bitsOf_12 : decode cX12_bitsOf 12 = .ok (.iload_n 2, 1) := bg00_20.2.1.1.1
theorem dX12_bitsOf_13 : decode cX12_bitsOf 13 = .ok (.iconst 1, 1) := bg00_20.2.1.1.2
theorem dX12_bitsOf_14 : decode cX12_bitsOf 14 = .ok (.isub, 1) := bg00_20.2.1.2.1
theorem dX12_bitsOf_15 : decode cX12_bitsOf 15 = .ok (.iand, 1) := bg00_20.2.1.2.2
theorem dX12_bitsOf_16 : decode cX12_bitsOf 16 = .ok (.istore_n 2, 1) := bg00_20.2.2.1.1
theorem dX12_bitsOf_17 : decode cX12_bitsOf 17 = .ok (.goto (-13), 3) := bg00_20.2.2.1.2
theorem dX12_bitsOf_20 : decode cX12_bitsOf 20 = .ok (.iload_n 1, 1) := bg00_20.2.2.2.1
theorem dX12_bitsOf_21 : decode cX12_bitsOf 21 = .ok (.ireturn, 1) := bg00_20.2.2.2.2
theorem bg00_21 : (((decode cX12_isStone 0 = .ok (.iload_n 1, 1) ∧ decode cX12_isStone 1 = .ok (.i2l, 1)) ∧ (decode cX12_isStone 2 = .ok (.lconst 0, 1))) ∧ ((decode cX12_isStone 3 = .ok (.aload_n 0, 1) ∧ decode cX12_isStone 4 = .ok (.getfield 42, 3)) ∧ (decode cX12_isStone 7 = .ok (.iconst 0, 1)))) ∧ (((decode cX12_isStone 8 = .ok (.iaload, 1) ∧ decode cX12_isStone 9 = .ok (.iconst 1, 1)) ∧ (decode cX12_isStone 10 = .ok (.isub, 1))) ∧ ((decode cX12_isStone 11 = .ok (.i2l, 1) ∧ decode cX12_isStone 12 = .ok (.invokestatic 166, 3)) ∧ (decode cX12_isStone 15 = .ok (.ireturn, 1)))) := by decide +kernel
theorem dX12_isStone_0 : decode cX12_isStone 0 = .ok (.iload_n 1, 1) := bg00_21.1.1.1.1
theorem dX12_isStone_1 : decode cX12_isStone 1 = .ok (.i2l, 1) := bg00_21.1.1.1.2
theorem dX12_isStone_2 : decode cX12_isStone 2 = .ok (.lconst 0, 1) := bg00_21.1.1.2
theorem dX12_isStone_3 : decode cX12_isStone 3 = .ok (.aload_n 0, 1) := bg00_21.1.2.1.1
theorem dX12_isStone_4 : decode cX12_isStone 4 = .ok (.getfield 42, 3) := bg00_21.1.2.1.2
theorem dX12_isStone_7 : decode cX12_isStone 7 = .ok (.iconst 0, 1) := bg00_21.1.2.2
theorem dX12_isStone_8 : decode cX12_isStone 8 = .ok (.iaload, 1) := bg00_21.2.1.1.1
theorem dX12_isStone_9 : decode cX12_isStone 9 = .ok (.iconst 1, 1) := bg00_21.2.1.1.2
theorem dX12_isStone_10 : decode cX12_isStone 10 = .ok (.isub, 1) := bg00_21.2.1.2
theorem dX12_isStone_11 : decode cX12_isStone 11 = .ok (.i2l, 1) := bg00_21.2.2.1.1
theorem dX12_isStone_12 : decode cX12_isStone 12 = .ok (.invokestatic 166, 3) := bg00_21.2.2.1.2
theorem dX12_isStone_15 : decode cX12_isStone 15 = .ok (.ireturn, 1) := bg00_21.2.2.2
theorem bg00_22 : (((decode cX12_isPerson 0 = .ok (.iload_n 1, 1) ∧ decode cX12_isPerson 1 = .ok (.i2l, 1)) ∧ (decode cX12_isPerson 2 = .ok (.lconst 0, 1))) ∧ ((decode cX12_isPerson 3 = .ok (.aload_n 0, 1) ∧ decode cX12_isPerson 4 = .ok (.getfield 42, 3)) ∧ (decode cX12_isPerson 7 = .ok (.iconst 1, 1)))) ∧ (((decode cX12_isPerson 8 = .ok (.iaload, 1) ∧ decode cX12_isPerson 9 = .ok (.iconst 1, 1)) ∧ (decode cX12_isPerson 10 = .ok (.isub, 1))) ∧ ((decode cX12_isPerson 11 = .ok (.i2l, 1) ∧ decode cX12_isPerson 12 = .ok (.invokestatic 166, 3)) ∧ (decode cX12_isPerson 15 = .ok (.ireturn, 1)))) := by decide +kernel
theorem dX12_isPerson_0 : decode cX12_isPerson 0 = .ok (.iload_n 1, 1) := bg00_22.1.1.1.1
theorem dX12_isPerson_1 : decode cX12_isPerson 1 = .ok (.i2l, 1) := bg00_22.1.1.1.2
theorem dX12_isPerson_2 : decode cX12_isPerson 2 = .ok (.lconst 0, 1) := bg00_22.1.1.2
theorem dX12_isPerson_3 : decode cX12_isPerson 3 = .ok (.aload_n 0, 1) := bg00_22.1.2.1.1
theorem dX12_isPerson_4 : decode cX12_isPerson 4 = .ok (.getfield 42, 3) := bg00_22.1.2.1.2
theorem dX12_isPerson_7 : decode cX12_isPerson 7 = .ok (.iconst 1, 1) := bg00_22.1.2.2
theorem dX12_isPerson_8 : decode cX12_isPerson 8 = .ok (.iaload, 1) := bg00_22.2.1.1.1
theorem dX12_isPerson_9 : decode cX12_isPerson 9 = .ok (.iconst 1, 1) := bg00_22.2.1.1.2
theorem dX12_isPerson_10 : decode cX12_isPerson 10 = .ok (.isub, 1) := bg00_22.2.1.2
theorem dX12_isPerson_11 : decode cX12_isPerson 11 = .ok (.i2l, 1) := bg00_22.2.2.1.1
theorem dX12_isPerson_12 : decode cX12_isPerson 12 = .ok (.invokestatic 166, 3) := bg00_22.2.2.1.2
theorem dX12_isPerson_15 : decode cX12_isPerson 15 = .ok (.ireturn, 1) := bg00_22.2.2.2
theorem bg00_23 : (((decode cX12_feed 0 = .ok (.aload_n 0, 1) ∧ decode cX12_feed 1 = .ok (.iconst 0, 1)) ∧ (decode cX12_feed 2 = .ok (.putfield 163, 3) ∧ decode cX12_feed 5 = .ok (.aload_n 0, 1))) ∧ ((decode cX12_feed 6 = .ok (.getfield 170, 3) ∧ decode cX12_feed 9 = .ok (.bipush 20, 2)) ∧ (decode cX12_feed 11 = .ok (.iadd, 1) ∧ decode cX12_feed 12 = .ok (.sipush 700, 3)))) ∧ (((decode cX12_feed 15 = .ok (.if_icmp .le 5, 3) ∧ decode cX12_feed 18 = .ok (.iconst (-1), 1)) ∧ (decode cX12_feed 19 = .ok (.ireturn, 1) ∧ decode cX12_feed 20 = .ok (.iconst 0, 1))) ∧ ((decode cX12_feed 21 = .ok (.istore 6, 2) ∧ decode cX12_feed 23 = .ok (.iload 6, 2)) ∧ (decode cX12_feed 25 = .ok (.bipush 20, 2) ∧ decode cX12_feed 27 = .ok (.if_icmp .ge 93, 3)))) := by decide +kernel
theorem dX12_feed_0 : decode cX12_feed 0 = .ok (.aload_n 0, 1) := bg00_23.1.1.1.1
theorem dX12_feed_1 : decode cX12_feed 1 = .ok (.iconst 0, 1) := bg00_23.1.1.1.2
theorem dX12_feed_2 : decode cX12_feed 2 = .ok (.putfield 163, 3) := bg00_23.1.1.2.1
theorem dX12_feed_5 : decode cX12_feed 5 = .ok (.aload_n 0, 1) := bg00_23.1.1.2.2
theorem dX12_feed_6 : decode cX12_feed 6 = .ok (.getfield 170, 3) := bg00_23.1.2.1.1
theorem dX12_feed_9 : decode cX12_feed 9 = .ok (.bipush 20, 2) := bg00_23.1.2.1.2
theorem dX12_feed_11 : decode cX12_feed 11 = .ok (.iadd, 1) := bg00_23.1.2.2.1
theorem dX12_feed_12 : decode cX12_feed 12 = .ok (.sipush 700, 3) := bg00_23.1.2.2.2
theorem dX12_feed_15 : decode cX12_feed 15 = .ok (.if_icmp .le 5, 3) := bg00_23.2.1.1.1
theorem dX12_feed_18 : decode cX12_feed 18 = .ok (.iconst (-1), 1) := bg00_23.2.1.1.2
theorem dX12_feed_19 : decode cX12_feed 19 = .ok (.ireturn, 1) := bg00_23.2.1.2.1
theorem dX12_feed_20 : decode cX12_feed 20 = .ok (.iconst 0, 1) := bg00_23.2.1.2.2
theorem dX12_feed_21 : decode cX12_feed 21 = .ok (.istore 6, 2) := bg00_23.2.2.1.1
theorem dX12_feed_23 : decode cX12_feed 23 = .ok (.iload 6, 2) := bg00_23.2.2.1.2
theorem dX12_feed_25 : decode cX12_feed 25 = .ok (.bipush 20, 2) := bg00_23.2.2.2.1
theorem dX12_feed_27 : decode cX12_feed 27 = .ok (.if_icmp .ge 93, 3) := bg00_23.2.2.2.2
theorem bg00_24 : (((decode cX12_feed 30 = .ok (.iload 6, 2) ∧ decode cX12_feed 32 = .ok (.iconst 4, 1)) ∧ (decode cX12_feed 33 = .ok (.if_icmp .ge 7, 3) ∧ decode cX12_feed 36 = .ok (.iload_n 1, 1))) ∧ ((decode cX12_feed 37 = .ok (.goto 39, 3) ∧ decode cX12_feed 40 = .ok (.iload 6, 2)) ∧ (decode cX12_feed 42 = .ok (.bipush 8, 2) ∧ decode cX12_feed 44 = .ok (.if_icmp .ge 7, 3)))) ∧ (((decode cX12_feed 47 = .ok (.iload_n 2, 1) ∧ decode cX12_feed 48 = .ok (.goto 28, 3)) ∧ (decode cX12_feed 51 = .ok (.iload 6, 2) ∧ decode cX12_feed 53 = .ok (.bipush 12, 2))) ∧ ((decode cX12_feed 55 = .ok (.if_icmp .ge 7, 3) ∧ decode cX12_feed 58 = .ok (.iload_n 3, 1)) ∧ (decode cX12_feed 59 = .ok (.goto 17, 3) ∧ decode cX12_feed 62 = .ok (.iload 6, 2)))) := by decide +kernel
theorem dX12_feed_30 : decode cX12_feed 30 = .ok (.iload 6, 2) := bg00_24.1.1.1.1
theorem dX12_feed_32 : decode cX12_feed 32 = .ok (.iconst 4, 1) := bg00_24.1.1.1.2
theorem dX12_feed_33 : decode cX12_feed 33 = .ok (.if_icmp .ge 7, 3) := bg00_24.1.1.2.1
theorem dX12_feed_36 : decode cX12_feed 36 = .ok (.iload_n 1, 1) := bg00_24.1.1.2.2
theorem dX12_feed_37 : decode cX12_feed 37 = .ok (.goto 39, 3) := bg00_24.1.2.1.1
theorem dX12_feed_40 : decode cX12_feed 40 = .ok (.iload 6, 2) := bg00_24.1.2.1.2
theorem dX12_feed_42 : decode cX12_feed 42 = .ok (.bipush 8, 2) := bg00_24.1.2.2.1
theorem dX12_feed_44 : decode cX12_feed 44 = .ok (.if_icmp .ge 7, 3) := bg00_24.1.2.2.2
theorem dX12_feed_47 : decode cX12_feed 47 = .ok (.iload_n 2, 1) := bg00_24.2.1.1.1
theorem dX12_feed_48 : decode cX12_feed 48 = .ok (.goto 28, 3) := bg00_24.2.1.1.2
theorem dX12_feed_51 : decode cX12_feed 51 = .ok (.iload 6, 2) := bg00_24.2.1.2.1
theorem dX12_feed_53 : decode cX12_feed 53 = .ok (.bipush 12, 2) := bg00_24.2.1.2.2
theorem dX12_feed_55 : decode cX12_feed 55 = .ok (.if_icmp .ge 7, 3) := bg00_24.2.2.1.1
theorem dX12_feed_58 : decode cX12_feed 58 = .ok (.iload_n 3, 1) := bg00_24.2.2.1.2
theorem dX12_feed_59 : decode cX12_feed 59 = .ok (.goto 17, 3) := bg00_24.2.2.2.1
theorem dX12_feed_62 : decode cX12_feed 62 = .ok (.iload 6, 2) := bg00_24.2.2.2.2
theorem bg00_25 : (((decode cX12_feed 64 = .ok (.bipush 16, 2) ∧ decode cX12_feed 66 = .ok (.if_icmp .ge 8, 3)) ∧ (decode cX12_feed 69 = .ok (.iload 4, 2) ∧ decode cX12_feed 71 = .ok (.goto 5, 3))) ∧ ((decode cX12_feed 74 = .ok (.iload 5, 2) ∧ decode cX12_feed 76 = .ok (.istore 7, 2)) ∧ (decode cX12_feed 78 = .ok (.aload_n 0, 1) ∧ decode cX12_feed 79 = .ok (.getfield 81, 3)))) ∧ (((decode cX12_feed 82 = .ok (.aload_n 0, 1) ∧ decode cX12_feed 83 = .ok (.getfield 170, 3)) ∧ (decode cX12_feed 86 = .ok (.iload 7, 2) ∧ decode cX12_feed 88 = .ok (.bipush 24, 2))) ∧ ((decode cX12_feed 90 = .ok (.bipush 8, 2) ∧ decode cX12_feed 92 = .ok (.iload 6, 2)) ∧ (decode cX12_feed 94 = .ok (.iconst 4, 1) ∧ decode cX12_feed 95 = .ok (.irem, 1)))) := by decide +kernel
theorem dX12_feed_64 : decode cX12_feed 64 = .ok (.bipush 16, 2) := bg00_25.1.1.1.1
theorem dX12_feed_66 : decode cX12_feed 66 = .ok (.if_icmp .ge 8, 3) := bg00_25.1.1.1.2
theorem dX12_feed_69 : decode cX12_feed 69 = .ok (.iload 4, 2) := bg00_25.1.1.2.1
theorem dX12_feed_71 : decode cX12_feed 71 = .ok (.goto 5, 3) := bg00_25.1.1.2.2
theorem dX12_feed_74 : decode cX12_feed 74 = .ok (.iload 5, 2) := bg00_25.1.2.1.1
theorem dX12_feed_76 : decode cX12_feed 76 = .ok (.istore 7, 2) := bg00_25.1.2.1.2
theorem dX12_feed_78 : decode cX12_feed 78 = .ok (.aload_n 0, 1) := bg00_25.1.2.2.1
theorem dX12_feed_79 : decode cX12_feed 79 = .ok (.getfield 81, 3) := bg00_25.1.2.2.2
theorem dX12_feed_82 : decode cX12_feed 82 = .ok (.aload_n 0, 1) := bg00_25.2.1.1.1
theorem dX12_feed_83 : decode cX12_feed 83 = .ok (.getfield 170, 3) := bg00_25.2.1.1.2
theorem dX12_feed_86 : decode cX12_feed 86 = .ok (.iload 7, 2) := bg00_25.2.1.2.1
theorem dX12_feed_88 : decode cX12_feed 88 = .ok (.bipush 24, 2) := bg00_25.2.1.2.2
theorem dX12_feed_90 : decode cX12_feed 90 = .ok (.bipush 8, 2) := bg00_25.2.2.1.1
theorem dX12_feed_92 : decode cX12_feed 92 = .ok (.iload 6, 2) := bg00_25.2.2.1.2
theorem dX12_feed_94 : decode cX12_feed 94 = .ok (.iconst 4, 1) := bg00_25.2.2.2.1
theorem dX12_feed_95 : decode cX12_feed 95 = .ok (.irem, 1) := bg00_25.2.2.2.2
theorem bg00_26 : (((decode cX12_feed 96 = .ok (.imul, 1) ∧ decode cX12_feed 97 = .ok (.isub, 1)) ∧ (decode cX12_feed 98 = .ok (.ishr, 1) ∧ decode cX12_feed 99 = .ok (.sipush 255, 3))) ∧ ((decode cX12_feed 102 = .ok (.iand, 1) ∧ decode cX12_feed 103 = .ok (.iastore, 1)) ∧ (decode cX12_feed 104 = .ok (.aload_n 0, 1) ∧ decode cX12_feed 105 = .ok (.dup, 1)))) ∧ (((decode cX12_feed 106 = .ok (.getfield 170, 3) ∧ decode cX12_feed 109 = .ok (.iconst 1, 1)) ∧ (decode cX12_feed 110 = .ok (.iadd, 1) ∧ decode cX12_feed 111 = .ok (.putfield 170, 3))) ∧ ((decode cX12_feed 114 = .ok (.iinc 6 1, 3) ∧ decode cX12_feed 117 = .ok (.goto (-94), 3)) ∧ (decode cX12_feed 120 = .ok (.aload_n 0, 1) ∧ decode cX12_feed 121 = .ok (.getfield 170, 3)))) := by decide +kernel
theorem dX12_feed_96 : decode cX12_feed 96 = .ok (.imul, 1) := bg00_26.1.1.1.1
theorem dX12_feed_97 : decode cX12_feed 97 = .ok (.isub, 1) := bg00_26.1.1.1.2
theorem dX12_feed_98 : decode cX12_feed 98 = .ok (.ishr, 1) := bg00_26.1.1.2.1
theorem dX12_feed_99 : decode cX12_feed 99 = .ok (.sipush 255, 3) := bg00_26.1.1.2.2
theorem dX12_feed_102 : decode cX12_feed 102 = .ok (.iand, 1) := bg00_26.1.2.1.1
theorem dX12_feed_103 : decode cX12_feed 103 = .ok (.iastore, 1) := bg00_26.1.2.1.2
theorem dX12_feed_104 : decode cX12_feed 104 = .ok (.aload_n 0, 1) := bg00_26.1.2.2.1
theorem dX12_feed_105 : decode cX12_feed 105 = .ok (.dup, 1) := bg00_26.1.2.2.2
theorem dX12_feed_106 : decode cX12_feed 106 = .ok (.getfield 170, 3) := bg00_26.2.1.1.1
theorem dX12_feed_109 : decode cX12_feed 109 = .ok (.iconst 1, 1) := bg00_26.2.1.1.2
theorem dX12_feed_110 : decode cX12_feed 110 = .ok (.iadd, 1) := bg00_26.2.1.2.1
theorem dX12_feed_111 : decode cX12_feed 111 = .ok (.putfield 170, 3) := bg00_26.2.1.2.2
theorem dX12_feed_114 : decode cX12_feed 114 = .ok (.iinc 6 1, 3) := bg00_26.2.2.1.1
theorem dX12_feed_117 : decode cX12_feed 117 = .ok (.goto (-94), 3) := bg00_26.2.2.1.2
theorem dX12_feed_120 : decode cX12_feed 120 = .ok (.aload_n 0, 1) := bg00_26.2.2.2.1
theorem dX12_feed_121 : decode cX12_feed 121 = .ok (.getfield 170, 3) := bg00_26.2.2.2.2
theorem bg00_27 : ((decode cX12_feed 124 = .ok (.ireturn, 1) ∧ decode cX12_byteAt 0 = .ok (.iload_n 1, 1)) ∧ (decode cX12_byteAt 1 = .ok (.aload_n 0, 1) ∧ decode cX12_byteAt 2 = .ok (.getfield 173, 3))) ∧ ((decode cX12_byteAt 5 = .ok (.if_icmp .ge 12, 3) ∧ decode cX12_byteAt 8 = .ok (.aload_n 0, 1)) ∧ (decode cX12_byteAt 9 = .ok (.getfield 81, 3) ∧ decode cX12_byteAt 12 = .ok (.iload_n 1, 1))) := by decide +kernel
theorem dX12_feed_124 : decode cX12_feed 124 = .ok (.ireturn, 1) := bg00_27.1.1.1
theorem dX12_byteAt_0 : decode cX12_byteAt 0 = .ok (.iload_n 1, 1) := bg00_27.1.1.2
theorem dX12_byteAt_1 : decode cX12_byteAt 1 = .ok (.aload_n 0, 1) := bg00_27.1.2.1
theorem dX12_byteAt_2 : decode cX12_byteAt 2 = .ok (.getfield 173, 3) := bg00_27.1.2.2
theorem dX12_byteAt_5 : decode cX12_byteAt 5 = .ok (.if_icmp .ge 12, 3) := bg00_27.2.1.1
theorem dX12_byteAt_8 : decode cX12_byteAt 8 = .ok (.aload_n 0, 1) := bg00_27.2.1.2
theorem dX12_byteAt_9 : decode cX12_byteAt 9 = .ok (.getfield 81, 3) := bg00_27.2.2.1
theorem dX12_byteAt_12 : decode cX12_byteAt 12 = .ok (.iload_n 1, 1) := bg00_27.2.2.2
theorem bg00_28 : ((decode cX12_byteAt 13 = .ok (.iaload, 1) ∧ decode cX12_byteAt 14 = .ok (.goto 4, 3)) ∧ (decode cX12_byteAt 17 = .ok (.iconst (-1), 1) ∧ decode cX12_byteAt 18 = .ok (.ireturn, 1))) ∧ ((decode cX12_isLetter 0 = .ok (.iload_n 0, 1) ∧ decode cX12_isLetter 1 = .ok (.bipush 97, 2)) ∧ (decode cX12_isLetter 3 = .ok (.if_icmp .lt 13, 3) ∧ decode cX12_isLetter 6 = .ok (.iload_n 0, 1))) := by decide +kernel
theorem dX12_byteAt_13 : decode cX12_byteAt 13 = .ok (.iaload, 1) := bg00_28.1.1.1
theorem dX12_byteAt_14 : decode cX12_byteAt 14 = .ok (.goto 4, 3) := bg00_28.1.1.2
theorem dX12_byteAt_17 : decode cX12_byteAt 17 = .ok (.iconst (-1), 1) := bg00_28.1.2.1
theorem dX12_byteAt_18 : decode cX12_byteAt 18 = .ok (.ireturn, 1) := bg00_28.1.2.2
theorem dX12_isLetter_0 : decode cX12_isLetter 0 = .ok (.iload_n 0, 1) := bg00_28.2.1.1
theorem dX12_isLetter_1 : decode cX12_isLetter 1 = .ok (.bipush 97, 2) := bg00_28.2.1.2
theorem dX12_isLetter_3 : decode cX12_isLetter 3 = .ok (.if_icmp .lt 13, 3) := bg00_28.2.2.1
theorem dX12_isLetter_6 : decode cX12_isLetter 6 = .ok (.iload_n 0, 1) := bg00_28.2.2.2
theorem bg00_29 : ((decode cX12_isLetter 7 = .ok (.bipush 122, 2) ∧ decode cX12_isLetter 9 = .ok (.if_icmp .gt 7, 3)) ∧ (decode cX12_isLetter 12 = .ok (.iconst 1, 1) ∧ decode cX12_isLetter 13 = .ok (.goto 4, 3))) ∧ ((decode cX12_isLetter 16 = .ok (.iconst 0, 1) ∧ decode cX12_isLetter 17 = .ok (.ireturn, 1)) ∧ (decode cX12_isDigit 0 = .ok (.iload_n 0, 1) ∧ decode cX12_isDigit 1 = .ok (.bipush 48, 2))) := by decide +kernel
theorem dX12_isLetter_7 : decode cX12_isLetter 7 = .ok (.bipush 122, 2) := bg00_29.1.1.1
theorem dX12_isLetter_9 : decode cX12_isLetter 9 = .ok (.if_icmp .gt 7, 3) := bg00_29.1.1.2
theorem dX12_isLetter_12 : decode cX12_isLetter 12 = .ok (.iconst 1, 1) := bg00_29.1.2.1
theorem dX12_isLetter_13 : decode cX12_isLetter 13 = .ok (.goto 4, 3) := bg00_29.1.2.2
theorem dX12_isLetter_16 : decode cX12_isLetter 16 = .ok (.iconst 0, 1) := bg00_29.2.1.1
theorem dX12_isLetter_17 : decode cX12_isLetter 17 = .ok (.ireturn, 1) := bg00_29.2.1.2
theorem dX12_isDigit_0 : decode cX12_isDigit 0 = .ok (.iload_n 0, 1) := bg00_29.2.2.1
theorem dX12_isDigit_1 : decode cX12_isDigit 1 = .ok (.bipush 48, 2) := bg00_29.2.2.2
theorem bg00_30 : ((decode cX12_isDigit 3 = .ok (.if_icmp .lt 13, 3) ∧ decode cX12_isDigit 6 = .ok (.iload_n 0, 1)) ∧ (decode cX12_isDigit 7 = .ok (.bipush 57, 2) ∧ decode cX12_isDigit 9 = .ok (.if_icmp .gt 7, 3))) ∧ ((decode cX12_isDigit 12 = .ok (.iconst 1, 1) ∧ decode cX12_isDigit 13 = .ok (.goto 4, 3)) ∧ (decode cX12_isDigit 16 = .ok (.iconst 0, 1) ∧ decode cX12_isDigit 17 = .ok (.ireturn, 1))) := by decide +kernel
theorem dX12_isDigit_3 : decode cX12_isDigit 3 = .ok (.if_icmp .lt 13, 3) := bg00_30.1.1.1
theorem dX12_isDigit_6 : decode cX12_isDigit 6 = .ok (.iload_n 0, 1) := bg00_30.1.1.2
theorem dX12_isDigit_7 : decode cX12_isDigit 7 = .ok (.bipush 57, 2) := bg00_30.1.2.1
theorem dX12_isDigit_9 : decode cX12_isDigit 9 = .ok (.if_icmp .gt 7, 3) := bg00_30.1.2.2
theorem dX12_isDigit_12 : decode cX12_isDigit 12 = .ok (.iconst 1, 1) := bg00_30.2.1.1
theorem dX12_isDigit_13 : decode cX12_isDigit 13 = .ok (.goto 4, 3) := bg00_30.2.1.2
theorem dX12_isDigit_16 : decode cX12_isDigit 16 = .ok (.iconst 0, 1) := bg00_30.2.2.1
theorem dX12_isDigit_17 : decode cX12_isDigit 17 = .ok (.ireturn, 1) := bg00_30.2.2.2
theorem bg00_31 : (((decode cX12_isMark 0 = .ok (.iload_n 0, 1) ∧ decode cX12_isMark 1 = .ok (.bipush 59, 2)) ∧ (decode cX12_isMark 3 = .ok (.if_icmp .eq 51, 3) ∧ decode cX12_isMark 6 = .ok (.iload_n 0, 1))) ∧ ((decode cX12_isMark 7 = .ok (.bipush 40, 2) ∧ decode cX12_isMark 9 = .ok (.if_icmp .eq 45, 3)) ∧ (decode cX12_isMark 12 = .ok (.iload_n 0, 1) ∧ decode cX12_isMark 13 = .ok (.bipush 41, 2)))) ∧ (((decode cX12_isMark 15 = .ok (.if_icmp .eq 39, 3) ∧ decode cX12_isMark 18 = .ok (.iload_n 0, 1)) ∧ (decode cX12_isMark 19 = .ok (.bipush 43, 2) ∧ decode cX12_isMark 21 = .ok (.if_icmp .eq 33, 3))) ∧ ((decode cX12_isMark 24 = .ok (.iload_n 0, 1) ∧ decode cX12_isMark 25 = .ok (.bipush 45, 2)) ∧ (decode cX12_isMark 27 = .ok (.if_icmp .eq 27, 3) ∧ decode cX12_isMark 30 = .ok (.iload_n 0, 1)))) := by decide +kernel
theorem dX12_isMark_0 : decode cX12_isMark 0 = .ok (.iload_n 0, 1) := bg00_31.1.1.1.1
theorem dX12_isMark_1 : decode cX12_isMark 1 = .ok (.bipush 59, 2) := bg00_31.1.1.1.2
theorem dX12_isMark_3 : decode cX12_isMark 3 = .ok (.if_icmp .eq 51, 3) := bg00_31.1.1.2.1
theorem dX12_isMark_6 : decode cX12_isMark 6 = .ok (.iload_n 0, 1) := bg00_31.1.1.2.2
theorem dX12_isMark_7 : decode cX12_isMark 7 = .ok (.bipush 40, 2) := bg00_31.1.2.1.1
theorem dX12_isMark_9 : decode cX12_isMark 9 = .ok (.if_icmp .eq 45, 3) := bg00_31.1.2.1.2
theorem dX12_isMark_12 : decode cX12_isMark 12 = .ok (.iload_n 0, 1) := bg00_31.1.2.2.1
theorem dX12_isMark_13 : decode cX12_isMark 13 = .ok (.bipush 41, 2) := bg00_31.1.2.2.2
theorem dX12_isMark_15 : decode cX12_isMark 15 = .ok (.if_icmp .eq 39, 3) := bg00_31.2.1.1.1
theorem dX12_isMark_18 : decode cX12_isMark 18 = .ok (.iload_n 0, 1) := bg00_31.2.1.1.2
theorem dX12_isMark_19 : decode cX12_isMark 19 = .ok (.bipush 43, 2) := bg00_31.2.1.2.1
theorem dX12_isMark_21 : decode cX12_isMark 21 = .ok (.if_icmp .eq 33, 3) := bg00_31.2.1.2.2
theorem dX12_isMark_24 : decode cX12_isMark 24 = .ok (.iload_n 0, 1) := bg00_31.2.2.1.1
theorem dX12_isMark_25 : decode cX12_isMark 25 = .ok (.bipush 45, 2) := bg00_31.2.2.1.2
theorem dX12_isMark_27 : decode cX12_isMark 27 = .ok (.if_icmp .eq 27, 3) := bg00_31.2.2.2.1
theorem dX12_isMark_30 : decode cX12_isMark 30 = .ok (.iload_n 0, 1) := bg00_31.2.2.2.2
theorem bg00_32 : (((decode cX12_isMark 31 = .ok (.bipush 42, 2) ∧ decode cX12_isMark 33 = .ok (.if_icmp .eq 21, 3)) ∧ (decode cX12_isMark 36 = .ok (.iload_n 0, 1) ∧ decode cX12_isMark 37 = .ok (.bipush 47, 2))) ∧ ((decode cX12_isMark 39 = .ok (.if_icmp .eq 15, 3) ∧ decode cX12_isMark 42 = .ok (.iload_n 0, 1)) ∧ (decode cX12_isMark 43 = .ok (.bipush 60, 2) ∧ decode cX12_isMark 45 = .ok (.if_icmp .eq 9, 3)))) ∧ (((decode cX12_isMark 48 = .ok (.iload_n 0, 1) ∧ decode cX12_isMark 49 = .ok (.bipush 61, 2)) ∧ (decode cX12_isMark 51 = .ok (.if_icmp .ne 7, 3) ∧ decode cX12_isMark 54 = .ok (.iconst 1, 1))) ∧ ((decode cX12_isMark 55 = .ok (.goto 4, 3) ∧ decode cX12_isMark 58 = .ok (.iconst 0, 1)) ∧ (decode cX12_isMark 59 = .ok (.ireturn, 1)))) := by decide +kernel
theorem dX12_isMark_31 : decode cX12_isMark 31 = .ok (.bipush 42, 2) := bg00_32.1.1.1.1
theorem dX12_isMark_33 : decode cX12_isMark 33 = .ok (.if_icmp .eq 21, 3) := bg00_32.1.1.1.2
theorem dX12_isMark_36 : decode cX12_isMark 36 = .ok (.iload_n 0, 1) := bg00_32.1.1.2.1
theorem dX12_isMark_37 : decode cX12_isMark 37 = .ok (.bipush 47, 2) := bg00_32.1.1.2.2
theorem dX12_isMark_39 : decode cX12_isMark 39 = .ok (.if_icmp .eq 15, 3) := bg00_32.1.2.1.1
theorem dX12_isMark_42 : decode cX12_isMark 42 = .ok (.iload_n 0, 1) := bg00_32.1.2.1.2
theorem dX12_isMark_43 : decode cX12_isMark 43 = .ok (.bipush 60, 2) := bg00_32.1.2.2.1
theorem dX12_isMark_45 : decode cX12_isMark 45 = .ok (.if_icmp .eq 9, 3) := bg00_32.1.2.2.2
theorem dX12_isMark_48 : decode cX12_isMark 48 = .ok (.iload_n 0, 1) := bg00_32.2.1.1.1
theorem dX12_isMark_49 : decode cX12_isMark 49 = .ok (.bipush 61, 2) := bg00_32.2.1.1.2
theorem dX12_isMark_51 : decode cX12_isMark 51 = .ok (.if_icmp .ne 7, 3) := bg00_32.2.1.2.1
theorem dX12_isMark_54 : decode cX12_isMark 54 = .ok (.iconst 1, 1) := bg00_32.2.1.2.2
theorem dX12_isMark_55 : decode cX12_isMark 55 = .ok (.goto 4, 3) := bg00_32.2.2.1.1
theorem dX12_isMark_58 : decode cX12_isMark 58 = .ok (.iconst 0, 1) := bg00_32.2.2.1.2
theorem dX12_isMark_59 : decode cX12_isMark 59 = .ok (.ireturn, 1) := bg00_32.2.2.2
theorem bg00_33 : (((decode cX12_stepOn 0 = .ok (.aload_n 0, 1) ∧ decode cX12_stepOn 1 = .ok (.aload_n 0, 1)) ∧ (decode cX12_stepOn 2 = .ok (.getfield 176, 3) ∧ decode cX12_stepOn 5 = .ok (.invokevirtual 179, 3))) ∧ ((decode cX12_stepOn 8 = .ok (.bipush 32, 2) ∧ decode cX12_stepOn 10 = .ok (.if_icmp .eq 16, 3)) ∧ (decode cX12_stepOn 13 = .ok (.aload_n 0, 1) ∧ decode cX12_stepOn 14 = .ok (.aload_n 0, 1)))) ∧ (((decode cX12_stepOn 15 = .ok (.getfield 176, 3) ∧ decode cX12_stepOn 18 = .ok (.invokevirtual 179, 3)) ∧ (decode cX12_stepOn 21 = .ok (.bipush 10, 2) ∧ decode cX12_stepOn 23 = .ok (.if_icmp .ne 16, 3))) ∧ ((decode cX12_stepOn 26 = .ok (.aload_n 0, 1) ∧ decode cX12_stepOn 27 = .ok (.dup, 1)) ∧ (decode cX12_stepOn 28 = .ok (.getfield 176, 3) ∧ decode cX12_stepOn 31 = .ok (.iconst 1, 1)))) := by decide +kernel
theorem dX12_stepOn_0 : decode cX12_stepOn 0 = .ok (.aload_n 0, 1) := bg00_33.1.1.1.1
theorem dX12_stepOn_1 : decode cX12_stepOn 1 = .ok (.aload_n 0, 1) := bg00_33.1.1.1.2
theorem dX12_stepOn_2 : decode cX12_stepOn 2 = .ok (.getfield 176, 3) := bg00_33.1.1.2.1
theorem dX12_stepOn_5 : decode cX12_stepOn 5 = .ok (.invokevirtual 179, 3) := bg00_33.1.1.2.2
theorem dX12_stepOn_8 : decode cX12_stepOn 8 = .ok (.bipush 32, 2) := bg00_33.1.2.1.1
theorem dX12_stepOn_10 : decode cX12_stepOn 10 = .ok (.if_icmp .eq 16, 3) := bg00_33.1.2.1.2
theorem dX12_stepOn_13 : decode cX12_stepOn 13 = .ok (.aload_n 0, 1) := bg00_33.1.2.2.1
theorem dX12_stepOn_14 : decode cX12_stepOn 14 = .ok (.aload_n 0, 1) := bg00_33.1.2.2.2
theorem dX12_stepOn_15 : decode cX12_stepOn 15 = .ok (.getfield 176, 3) := bg00_33.2.1.1.1
theorem dX12_stepOn_18 : decode cX12_stepOn 18 = .ok (.invokevirtual 179, 3) := bg00_33.2.1.1.2
theorem dX12_stepOn_21 : decode cX12_stepOn 21 = .ok (.bipush 10, 2) := bg00_33.2.1.2.1
theorem dX12_stepOn_23 : decode cX12_stepOn 23 = .ok (.if_icmp .ne 16, 3) := bg00_33.2.1.2.2
theorem dX12_stepOn_26 : decode cX12_stepOn 26 = .ok (.aload_n 0, 1) := bg00_33.2.2.1.1
theorem dX12_stepOn_27 : decode cX12_stepOn 27 = .ok (.dup, 1) := bg00_33.2.2.1.2
theorem dX12_stepOn_28 : decode cX12_stepOn 28 = .ok (.getfield 176, 3) := bg00_33.2.2.2.1
theorem dX12_stepOn_31 : decode cX12_stepOn 31 = .ok (.iconst 1, 1) := bg00_33.2.2.2.2
theorem bg00_34 : (((decode cX12_stepOn 32 = .ok (.iadd, 1) ∧ decode cX12_stepOn 33 = .ok (.putfield 176, 3)) ∧ (decode cX12_stepOn 36 = .ok (.goto (-36), 3) ∧ decode cX12_stepOn 39 = .ok (.aload_n 0, 1))) ∧ ((decode cX12_stepOn 40 = .ok (.aload_n 0, 1) ∧ decode cX12_stepOn 41 = .ok (.getfield 176, 3)) ∧ (decode cX12_stepOn 44 = .ok (.putfield 183, 3) ∧ decode cX12_stepOn 47 = .ok (.aload_n 0, 1)))) ∧ (((decode cX12_stepOn 48 = .ok (.aload_n 0, 1) ∧ decode cX12_stepOn 49 = .ok (.getfield 176, 3)) ∧ (decode cX12_stepOn 52 = .ok (.invokevirtual 179, 3) ∧ decode cX12_stepOn 55 = .ok (.istore_n 1, 1))) ∧ ((decode cX12_stepOn 56 = .ok (.iload_n 1, 1) ∧ decode cX12_stepOn 57 = .ok (.iconst (-1), 1)) ∧ (decode cX12_stepOn 58 = .ok (.if_icmp .ne 11, 3) ∧ decode cX12_stepOn 61 = .ok (.aload_n 0, 1)))) := by decide +kernel
theorem dX12_stepOn_32 : decode cX12_stepOn 32 = .ok (.iadd, 1) := bg00_34.1.1.1.1
theorem dX12_stepOn_33 : decode cX12_stepOn 33 = .ok (.putfield 176, 3) := bg00_34.1.1.1.2
theorem dX12_stepOn_36 : decode cX12_stepOn 36 = .ok (.goto (-36), 3) := bg00_34.1.1.2.1
theorem dX12_stepOn_39 : decode cX12_stepOn 39 = .ok (.aload_n 0, 1) := bg00_34.1.1.2.2
theorem dX12_stepOn_40 : decode cX12_stepOn 40 = .ok (.aload_n 0, 1) := bg00_34.1.2.1.1
theorem dX12_stepOn_41 : decode cX12_stepOn 41 = .ok (.getfield 176, 3) := bg00_34.1.2.1.2
theorem dX12_stepOn_44 : decode cX12_stepOn 44 = .ok (.putfield 183, 3) := bg00_34.1.2.2.1
theorem dX12_stepOn_47 : decode cX12_stepOn 47 = .ok (.aload_n 0, 1) := bg00_34.1.2.2.2
theorem dX12_stepOn_48 : decode cX12_stepOn 48 = .ok (.aload_n 0, 1) := bg00_34.2.1.1.1
theorem dX12_stepOn_49 : decode cX12_stepOn 49 = .ok (.getfield 176, 3) := bg00_34.2.1.1.2
theorem dX12_stepOn_52 : decode cX12_stepOn 52 = .ok (.invokevirtual 179, 3) := bg00_34.2.1.2.1
theorem dX12_stepOn_55 : decode cX12_stepOn 55 = .ok (.istore_n 1, 1) := bg00_34.2.1.2.2
theorem dX12_stepOn_56 : decode cX12_stepOn 56 = .ok (.iload_n 1, 1) := bg00_34.2.2.1.1
theorem dX12_stepOn_57 : decode cX12_stepOn 57 = .ok (.iconst (-1), 1) := bg00_34.2.2.1.2
theorem dX12_stepOn_58 : decode cX12_stepOn 58 = .ok (.if_icmp .ne 11, 3) := bg00_34.2.2.2.1
theorem dX12_stepOn_61 : decode cX12_stepOn 61 = .ok (.aload_n 0, 1) := bg00_34.2.2.2.2
theorem bg00_35 : (((decode cX12_stepOn 62 = .ok (.iconst 0, 1) ∧ decode cX12_stepOn 63 = .ok (.putfield 186, 3)) ∧ (decode cX12_stepOn 66 = .ok (.goto 146, 3) ∧ decode cX12_stepOn 69 = .ok (.iload_n 1, 1))) ∧ ((decode cX12_stepOn 70 = .ok (.invokestatic 189, 3) ∧ decode cX12_stepOn 73 = .ok (.ifCond .eq 38, 3)) ∧ (decode cX12_stepOn 76 = .ok (.aload_n 0, 1) ∧ decode cX12_stepOn 77 = .ok (.aload_n 0, 1)))) ∧ (((decode cX12_stepOn 78 = .ok (.getfield 176, 3) ∧ decode cX12_stepOn 81 = .ok (.invokevirtual 179, 3)) ∧ (decode cX12_stepOn 84 = .ok (.invokestatic 189, 3) ∧ decode cX12_stepOn 87 = .ok (.ifCond .eq 16, 3))) ∧ ((decode cX12_stepOn 90 = .ok (.aload_n 0, 1) ∧ decode cX12_stepOn 91 = .ok (.dup, 1)) ∧ (decode cX12_stepOn 92 = .ok (.getfield 176, 3) ∧ decode cX12_stepOn 95 = .ok (.iconst 1, 1)))) := by decide +kernel
theorem dX12_stepOn_62 : decode cX12_stepOn 62 = .ok (.iconst 0, 1) := bg00_35.1.1.1.1
theorem dX12_stepOn_63 : decode cX12_stepOn 63 = .ok (.putfield 186, 3) := bg00_35.1.1.1.2
theorem dX12_stepOn_66 : decode cX12_stepOn 66 = .ok (.goto 146, 3) := bg00_35.1.1.2.1
theorem dX12_stepOn_69 : decode cX12_stepOn 69 = .ok (.iload_n 1, 1) := bg00_35.1.1.2.2
theorem dX12_stepOn_70 : decode cX12_stepOn 70 = .ok (.invokestatic 189, 3) := bg00_35.1.2.1.1
theorem dX12_stepOn_73 : decode cX12_stepOn 73 = .ok (.ifCond .eq 38, 3) := bg00_35.1.2.1.2
theorem dX12_stepOn_76 : decode cX12_stepOn 76 = .ok (.aload_n 0, 1) := bg00_35.1.2.2.1
theorem dX12_stepOn_77 : decode cX12_stepOn 77 = .ok (.aload_n 0, 1) := bg00_35.1.2.2.2
theorem dX12_stepOn_78 : decode cX12_stepOn 78 = .ok (.getfield 176, 3) := bg00_35.2.1.1.1
theorem dX12_stepOn_81 : decode cX12_stepOn 81 = .ok (.invokevirtual 179, 3) := bg00_35.2.1.1.2
theorem dX12_stepOn_84 : decode cX12_stepOn 84 = .ok (.invokestatic 189, 3) := bg00_35.2.1.2.1
theorem dX12_stepOn_87 : decode cX12_stepOn 87 = .ok (.ifCond .eq 16, 3) := bg00_35.2.1.2.2
theorem dX12_stepOn_90 : decode cX12_stepOn 90 = .ok (.aload_n 0, 1) := bg00_35.2.2.1.1
theorem dX12_stepOn_91 : decode cX12_stepOn 91 = .ok (.dup, 1) := bg00_35.2.2.1.2
theorem dX12_stepOn_92 : decode cX12_stepOn 92 = .ok (.getfield 176, 3) := bg00_35.2.2.2.1
theorem dX12_stepOn_95 : decode cX12_stepOn 95 = .ok (.iconst 1, 1) := bg00_35.2.2.2.2
theorem bg00_36 : (((decode cX12_stepOn 96 = .ok (.iadd, 1) ∧ decode cX12_stepOn 97 = .ok (.putfield 176, 3)) ∧ (decode cX12_stepOn 100 = .ok (.goto (-24), 3) ∧ decode cX12_stepOn 103 = .ok (.aload_n 0, 1))) ∧ ((decode cX12_stepOn 104 = .ok (.iconst 1, 1) ∧ decode cX12_stepOn 105 = .ok (.putfield 186, 3)) ∧ (decode cX12_stepOn 108 = .ok (.goto 104, 3) ∧ decode cX12_stepOn 111 = .ok (.iload_n 1, 1)))) ∧ (((decode cX12_stepOn 112 = .ok (.invokestatic 193, 3) ∧ decode cX12_stepOn 115 = .ok (.ifCond .eq 71, 3)) ∧ (decode cX12_stepOn 118 = .ok (.aload_n 0, 1) ∧ decode cX12_stepOn 119 = .ok (.iconst 0, 1))) ∧ ((decode cX12_stepOn 120 = .ok (.putfield 196, 3) ∧ decode cX12_stepOn 123 = .ok (.aload_n 0, 1)) ∧ (decode cX12_stepOn 124 = .ok (.aload_n 0, 1) ∧ decode cX12_stepOn 125 = .ok (.getfield 176, 3)))) := by decide +kernel
theorem dX12_stepOn_96 : decode cX12_stepOn 96 = .ok (.iadd, 1) := bg00_36.1.1.1.1
theorem dX12_stepOn_97 : decode cX12_stepOn 97 = .ok (.putfield 176, 3) := bg00_36.1.1.1.2
theorem dX12_stepOn_100 : decode cX12_stepOn 100 = .ok (.goto (-24), 3) := bg00_36.1.1.2.1
theorem dX12_stepOn_103 : decode cX12_stepOn 103 = .ok (.aload_n 0, 1) := bg00_36.1.1.2.2
theorem dX12_stepOn_104 : decode cX12_stepOn 104 = .ok (.iconst 1, 1) := bg00_36.1.2.1.1
theorem dX12_stepOn_105 : decode cX12_stepOn 105 = .ok (.putfield 186, 3) := bg00_36.1.2.1.2
theorem dX12_stepOn_108 : decode cX12_stepOn 108 = .ok (.goto 104, 3) := bg00_36.1.2.2.1
theorem dX12_stepOn_111 : decode cX12_stepOn 111 = .ok (.iload_n 1, 1) := bg00_36.1.2.2.2
theorem dX12_stepOn_112 : decode cX12_stepOn 112 = .ok (.invokestatic 193, 3) := bg00_36.2.1.1.1
theorem dX12_stepOn_115 : decode cX12_stepOn 115 = .ok (.ifCond .eq 71, 3) := bg00_36.2.1.1.2
theorem dX12_stepOn_118 : decode cX12_stepOn 118 = .ok (.aload_n 0, 1) := bg00_36.2.1.2.1
theorem dX12_stepOn_119 : decode cX12_stepOn 119 = .ok (.iconst 0, 1) := bg00_36.2.1.2.2
theorem dX12_stepOn_120 : decode cX12_stepOn 120 = .ok (.putfield 196, 3) := bg00_36.2.2.1.1
theorem dX12_stepOn_123 : decode cX12_stepOn 123 = .ok (.aload_n 0, 1) := bg00_36.2.2.1.2
theorem dX12_stepOn_124 : decode cX12_stepOn 124 = .ok (.aload_n 0, 1) := bg00_36.2.2.2.1
theorem dX12_stepOn_125 : decode cX12_stepOn 125 = .ok (.getfield 176, 3) := bg00_36.2.2.2.2
theorem bg00_37 : (((decode cX12_stepOn 128 = .ok (.invokevirtual 179, 3) ∧ decode cX12_stepOn 131 = .ok (.invokestatic 193, 3)) ∧ (decode cX12_stepOn 134 = .ok (.ifCond .eq 44, 3) ∧ decode cX12_stepOn 137 = .ok (.aload_n 0, 1))) ∧ ((decode cX12_stepOn 138 = .ok (.ldc 199, 2) ∧ decode cX12_stepOn 140 = .ok (.bipush 10, 2)) ∧ (decode cX12_stepOn 142 = .ok (.aload_n 0, 1) ∧ decode cX12_stepOn 143 = .ok (.getfield 196, 3)))) ∧ (((decode cX12_stepOn 146 = .ok (.imul, 1) ∧ decode cX12_stepOn 147 = .ok (.aload_n 0, 1)) ∧ (decode cX12_stepOn 148 = .ok (.aload_n 0, 1) ∧ decode cX12_stepOn 149 = .ok (.getfield 176, 3))) ∧ ((decode cX12_stepOn 152 = .ok (.invokevirtual 179, 3) ∧ decode cX12_stepOn 155 = .ok (.iadd, 1)) ∧ (decode cX12_stepOn 156 = .ok (.bipush 48, 2) ∧ decode cX12_stepOn 158 = .ok (.isub, 1)))) := by decide +kernel
theorem dX12_stepOn_128 : decode cX12_stepOn 128 = .ok (.invokevirtual 179, 3) := bg00_37.1.1.1.1
theorem dX12_stepOn_131 : decode cX12_stepOn 131 = .ok (.invokestatic 193, 3) := bg00_37.1.1.1.2
theorem dX12_stepOn_134 : decode cX12_stepOn 134 = .ok (.ifCond .eq 44, 3) := bg00_37.1.1.2.1
theorem dX12_stepOn_137 : decode cX12_stepOn 137 = .ok (.aload_n 0, 1) := bg00_37.1.1.2.2
theorem dX12_stepOn_138 : decode cX12_stepOn 138 = .ok (.ldc 199, 2) := bg00_37.1.2.1.1
theorem dX12_stepOn_140 : decode cX12_stepOn 140 = .ok (.bipush 10, 2) := bg00_37.1.2.1.2
theorem dX12_stepOn_142 : decode cX12_stepOn 142 = .ok (.aload_n 0, 1) := bg00_37.1.2.2.1
theorem dX12_stepOn_143 : decode cX12_stepOn 143 = .ok (.getfield 196, 3) := bg00_37.1.2.2.2
theorem dX12_stepOn_146 : decode cX12_stepOn 146 = .ok (.imul, 1) := bg00_37.2.1.1.1
theorem dX12_stepOn_147 : decode cX12_stepOn 147 = .ok (.aload_n 0, 1) := bg00_37.2.1.1.2
theorem dX12_stepOn_148 : decode cX12_stepOn 148 = .ok (.aload_n 0, 1) := bg00_37.2.1.2.1
theorem dX12_stepOn_149 : decode cX12_stepOn 149 = .ok (.getfield 176, 3) := bg00_37.2.1.2.2
theorem dX12_stepOn_152 : decode cX12_stepOn 152 = .ok (.invokevirtual 179, 3) := bg00_37.2.2.1.1
theorem dX12_stepOn_155 : decode cX12_stepOn 155 = .ok (.iadd, 1) := bg00_37.2.2.1.2
theorem dX12_stepOn_156 : decode cX12_stepOn 156 = .ok (.bipush 48, 2) := bg00_37.2.2.2.1
theorem dX12_stepOn_158 : decode cX12_stepOn 158 = .ok (.isub, 1) := bg00_37.2.2.2.2
theorem bg00_38 : (((decode cX12_stepOn 159 = .ok (.invokestatic 200, 3) ∧ decode cX12_stepOn 162 = .ok (.putfield 196, 3)) ∧ (decode cX12_stepOn 165 = .ok (.aload_n 0, 1) ∧ decode cX12_stepOn 166 = .ok (.dup, 1))) ∧ ((decode cX12_stepOn 167 = .ok (.getfield 176, 3) ∧ decode cX12_stepOn 170 = .ok (.iconst 1, 1)) ∧ (decode cX12_stepOn 171 = .ok (.iadd, 1) ∧ decode cX12_stepOn 172 = .ok (.putfield 176, 3)))) ∧ (((decode cX12_stepOn 175 = .ok (.goto (-52), 3) ∧ decode cX12_stepOn 178 = .ok (.aload_n 0, 1)) ∧ (decode cX12_stepOn 179 = .ok (.iconst 2, 1) ∧ decode cX12_stepOn 180 = .ok (.putfield 186, 3))) ∧ ((decode cX12_stepOn 183 = .ok (.goto 29, 3) ∧ decode cX12_stepOn 186 = .ok (.aload_n 0, 1)) ∧ (decode cX12_stepOn 187 = .ok (.dup, 1) ∧ decode cX12_stepOn 188 = .ok (.getfield 176, 3)))) := by decide +kernel
theorem dX12_stepOn_159 : decode cX12_stepOn 159 = .ok (.invokestatic 200, 3) := bg00_38.1.1.1.1
theorem dX12_stepOn_162 : decode cX12_stepOn 162 = .ok (.putfield 196, 3) := bg00_38.1.1.1.2
theorem dX12_stepOn_165 : decode cX12_stepOn 165 = .ok (.aload_n 0, 1) := bg00_38.1.1.2.1
theorem dX12_stepOn_166 : decode cX12_stepOn 166 = .ok (.dup, 1) := bg00_38.1.1.2.2
theorem dX12_stepOn_167 : decode cX12_stepOn 167 = .ok (.getfield 176, 3) := bg00_38.1.2.1.1
theorem dX12_stepOn_170 : decode cX12_stepOn 170 = .ok (.iconst 1, 1) := bg00_38.1.2.1.2
theorem dX12_stepOn_171 : decode cX12_stepOn 171 = .ok (.iadd, 1) := bg00_38.1.2.2.1
theorem dX12_stepOn_172 : decode cX12_stepOn 172 = .ok (.putfield 176, 3) := bg00_38.1.2.2.2
theorem dX12_stepOn_175 : decode cX12_stepOn 175 = .ok (.goto (-52), 3) := bg00_38.2.1.1.1
theorem dX12_stepOn_178 : decode cX12_stepOn 178 = .ok (.aload_n 0, 1) := bg00_38.2.1.1.2
theorem dX12_stepOn_179 : decode cX12_stepOn 179 = .ok (.iconst 2, 1) := bg00_38.2.1.2.1
theorem dX12_stepOn_180 : decode cX12_stepOn 180 = .ok (.putfield 186, 3) := bg00_38.2.1.2.2
theorem dX12_stepOn_183 : decode cX12_stepOn 183 = .ok (.goto 29, 3) := bg00_38.2.2.1.1
theorem dX12_stepOn_186 : decode cX12_stepOn 186 = .ok (.aload_n 0, 1) := bg00_38.2.2.1.2
theorem dX12_stepOn_187 : decode cX12_stepOn 187 = .ok (.dup, 1) := bg00_38.2.2.2.1
theorem dX12_stepOn_188 : decode cX12_stepOn 188 = .ok (.getfield 176, 3) := bg00_38.2.2.2.2
theorem bg00_39 : (((decode cX12_stepOn 191 = .ok (.iconst 1, 1) ∧ decode cX12_stepOn 192 = .ok (.iadd, 1)) ∧ (decode cX12_stepOn 193 = .ok (.putfield 176, 3) ∧ decode cX12_stepOn 196 = .ok (.aload_n 0, 1))) ∧ ((decode cX12_stepOn 197 = .ok (.iload_n 1, 1) ∧ decode cX12_stepOn 198 = .ok (.invokestatic 206, 3)) ∧ (decode cX12_stepOn 201 = .ok (.ifCond .eq 7, 3) ∧ decode cX12_stepOn 204 = .ok (.iconst 3, 1)))) ∧ (((decode cX12_stepOn 205 = .ok (.goto 4, 3) ∧ decode cX12_stepOn 208 = .ok (.iconst 4, 1)) ∧ (decode cX12_stepOn 209 = .ok (.putfield 186, 3) ∧ decode cX12_stepOn 212 = .ok (.aload_n 0, 1))) ∧ ((decode cX12_stepOn 213 = .ok (.aload_n 0, 1) ∧ decode cX12_stepOn 214 = .ok (.getfield 176, 3)) ∧ (decode cX12_stepOn 217 = .ok (.putfield 209, 3) ∧ decode cX12_stepOn 220 = .ok (.return_, 1)))) := by decide +kernel
theorem dX12_stepOn_191 : decode cX12_stepOn 191 = .ok (.iconst 1, 1) := bg00_39.1.1.1.1
theorem dX12_stepOn_192 : decode cX12_stepOn 192 = .ok (.iadd, 1) := bg00_39.1.1.1.2
theorem dX12_stepOn_193 : decode cX12_stepOn 193 = .ok (.putfield 176, 3) := bg00_39.1.1.2.1
theorem dX12_stepOn_196 : decode cX12_stepOn 196 = .ok (.aload_n 0, 1) := bg00_39.1.1.2.2
theorem dX12_stepOn_197 : decode cX12_stepOn 197 = .ok (.iload_n 1, 1) := bg00_39.1.2.1.1
theorem dX12_stepOn_198 : decode cX12_stepOn 198 = .ok (.invokestatic 206, 3) := bg00_39.1.2.1.2
theorem dX12_stepOn_201 : decode cX12_stepOn 201 = .ok (.ifCond .eq 7, 3) := bg00_39.1.2.2.1
theorem dX12_stepOn_204 : decode cX12_stepOn 204 = .ok (.iconst 3, 1) := bg00_39.1.2.2.2
theorem dX12_stepOn_205 : decode cX12_stepOn 205 = .ok (.goto 4, 3) := bg00_39.2.1.1.1
theorem dX12_stepOn_208 : decode cX12_stepOn 208 = .ok (.iconst 4, 1) := bg00_39.2.1.1.2
theorem dX12_stepOn_209 : decode cX12_stepOn 209 = .ok (.putfield 186, 3) := bg00_39.2.1.2.1
theorem dX12_stepOn_212 : decode cX12_stepOn 212 = .ok (.aload_n 0, 1) := bg00_39.2.1.2.2
theorem dX12_stepOn_213 : decode cX12_stepOn 213 = .ok (.aload_n 0, 1) := bg00_39.2.2.1.1
theorem dX12_stepOn_214 : decode cX12_stepOn 214 = .ok (.getfield 176, 3) := bg00_39.2.2.1.2
theorem dX12_stepOn_217 : decode cX12_stepOn 217 = .ok (.putfield 209, 3) := bg00_39.2.2.2.1
theorem dX12_stepOn_220 : decode cX12_stepOn 220 = .ok (.return_, 1) := bg00_39.2.2.2.2
theorem bg00_40 : (((decode cX12_wrong 0 = .ok (.aload_n 0, 1) ∧ decode cX12_wrong 1 = .ok (.getfield 212, 3)) ∧ (decode cX12_wrong 4 = .ok (.ifCond .eq 4, 3))) ∧ ((decode cX12_wrong 7 = .ok (.return_, 1) ∧ decode cX12_wrong 8 = .ok (.aload_n 0, 1)) ∧ (decode cX12_wrong 9 = .ok (.iload_n 1, 1)))) ∧ (((decode cX12_wrong 10 = .ok (.putfield 212, 3) ∧ decode cX12_wrong 13 = .ok (.aload_n 0, 1)) ∧ (decode cX12_wrong 14 = .ok (.aload_n 0, 1))) ∧ ((decode cX12_wrong 15 = .ok (.getfield 183, 3) ∧ decode cX12_wrong 18 = .ok (.putfield 215, 3)) ∧ (decode cX12_wrong 21 = .ok (.return_, 1)))) := by decide +kernel
theorem dX12_wrong_0 : decode cX12_wrong 0 = .ok (.aload_n 0, 1) := bg00_40.1.1.1.1
theorem dX12_wrong_1 : decode cX12_wrong 1 = .ok (.getfield 212, 3) := bg00_40.1.1.1.2
theorem dX12_wrong_4 : decode cX12_wrong 4 = .ok (.ifCond .eq 4, 3) := bg00_40.1.1.2
theorem dX12_wrong_7 : decode cX12_wrong 7 = .ok (.return_, 1) := bg00_40.1.2.1.1
theorem dX12_wrong_8 : decode cX12_wrong 8 = .ok (.aload_n 0, 1) := bg00_40.1.2.1.2
theorem dX12_wrong_9 : decode cX12_wrong 9 = .ok (.iload_n 1, 1) := bg00_40.1.2.2
theorem dX12_wrong_10 : decode cX12_wrong 10 = .ok (.putfield 212, 3) := bg00_40.2.1.1.1
theorem dX12_wrong_13 : decode cX12_wrong 13 = .ok (.aload_n 0, 1) := bg00_40.2.1.1.2
theorem dX12_wrong_14 : decode cX12_wrong 14 = .ok (.aload_n 0, 1) := bg00_40.2.1.2
theorem dX12_wrong_15 : decode cX12_wrong 15 = .ok (.getfield 183, 3) := bg00_40.2.2.1.1
theorem dX12_wrong_18 : decode cX12_wrong 18 = .ok (.putfield 215, 3) := bg00_40.2.2.1.2
theorem dX12_wrong_21 : decode cX12_wrong 21 = .ok (.return_, 1) := bg00_40.2.2.2
theorem bg00_41 : (((decode cX12_is 0 = .ok (.aload_n 0, 1) ∧ decode cX12_is 1 = .ok (.getfield 212, 3)) ∧ (decode cX12_is 4 = .ok (.ifCond .ne 31, 3) ∧ decode cX12_is 7 = .ok (.aload_n 0, 1))) ∧ ((decode cX12_is 8 = .ok (.getfield 186, 3) ∧ decode cX12_is 11 = .ok (.iconst 1, 1)) ∧ (decode cX12_is 12 = .ok (.if_icmp .ne 23, 3) ∧ decode cX12_is 15 = .ok (.aload_n 1, 1)))) ∧ (((decode cX12_is 16 = .ok (.invokevirtual 218, 3) ∧ decode cX12_is 19 = .ok (.aload_n 0, 1)) ∧ (decode cX12_is 20 = .ok (.getfield 209, 3) ∧ decode cX12_is 23 = .ok (.aload_n 0, 1))) ∧ ((decode cX12_is 24 = .ok (.getfield 183, 3) ∧ decode cX12_is 27 = .ok (.isub, 1)) ∧ (decode cX12_is 28 = .ok (.if_icmp .ne 7, 3) ∧ decode cX12_is 31 = .ok (.iconst 1, 1)))) := by decide +kernel
theorem dX12_is_0 : decode cX12_is 0 = .ok (.aload_n 0, 1) := bg00_41.1.1.1.1
theorem dX12_is_1 : decode cX12_is 1 = .ok (.getfield 212, 3) := bg00_41.1.1.1.2
theorem dX12_is_4 : decode cX12_is 4 = .ok (.ifCond .ne 31, 3) := bg00_41.1.1.2.1
theorem dX12_is_7 : decode cX12_is 7 = .ok (.aload_n 0, 1) := bg00_41.1.1.2.2
theorem dX12_is_8 : decode cX12_is 8 = .ok (.getfield 186, 3) := bg00_41.1.2.1.1
theorem dX12_is_11 : decode cX12_is 11 = .ok (.iconst 1, 1) := bg00_41.1.2.1.2
theorem dX12_is_12 : decode cX12_is 12 = .ok (.if_icmp .ne 23, 3) := bg00_41.1.2.2.1
theorem dX12_is_15 : decode cX12_is 15 = .ok (.aload_n 1, 1) := bg00_41.1.2.2.2
theorem dX12_is_16 : decode cX12_is 16 = .ok (.invokevirtual 218, 3) := bg00_41.2.1.1.1
theorem dX12_is_19 : decode cX12_is 19 = .ok (.aload_n 0, 1) := bg00_41.2.1.1.2
theorem dX12_is_20 : decode cX12_is 20 = .ok (.getfield 209, 3) := bg00_41.2.1.2.1
theorem dX12_is_23 : decode cX12_is 23 = .ok (.aload_n 0, 1) := bg00_41.2.1.2.2
theorem dX12_is_24 : decode cX12_is 24 = .ok (.getfield 183, 3) := bg00_41.2.2.1.1
theorem dX12_is_27 : decode cX12_is 27 = .ok (.isub, 1) := bg00_41.2.2.1.2
theorem dX12_is_28 : decode cX12_is 28 = .ok (.if_icmp .ne 7, 3) := bg00_41.2.2.2.1
theorem dX12_is_31 : decode cX12_is 31 = .ok (.iconst 1, 1) := bg00_41.2.2.2.2
theorem bg00_42 : (((decode cX12_is 32 = .ok (.goto 4, 3) ∧ decode cX12_is 35 = .ok (.iconst 0, 1)) ∧ (decode cX12_is 36 = .ok (.istore_n 2, 1) ∧ decode cX12_is 37 = .ok (.iconst 0, 1))) ∧ ((decode cX12_is 38 = .ok (.istore_n 3, 1) ∧ decode cX12_is 39 = .ok (.iload_n 2, 1)) ∧ (decode cX12_is 40 = .ok (.ifCond .eq 42, 3) ∧ decode cX12_is 43 = .ok (.iload_n 3, 1)))) ∧ (((decode cX12_is 44 = .ok (.aload_n 1, 1) ∧ decode cX12_is 45 = .ok (.invokevirtual 218, 3)) ∧ (decode cX12_is 48 = .ok (.if_icmp .ge 34, 3) ∧ decode cX12_is 51 = .ok (.aload_n 1, 1))) ∧ ((decode cX12_is 52 = .ok (.iload_n 3, 1) ∧ decode cX12_is 53 = .ok (.invokevirtual 222, 3)) ∧ (decode cX12_is 56 = .ok (.aload_n 0, 1) ∧ decode cX12_is 57 = .ok (.getfield 81, 3)))) := by decide +kernel
theorem dX12_is_32 : decode cX12_is 32 = .ok (.goto 4, 3) := bg00_42.1.1.1.1
theorem dX12_is_35 : decode cX12_is 35 = .ok (.iconst 0, 1) := bg00_42.1.1.1.2
theorem dX12_is_36 : decode cX12_is 36 = .ok (.istore_n 2, 1) := bg00_42.1.1.2.1
theorem dX12_is_37 : decode cX12_is 37 = .ok (.iconst 0, 1) := bg00_42.1.1.2.2
theorem dX12_is_38 : decode cX12_is 38 = .ok (.istore_n 3, 1) := bg00_42.1.2.1.1
theorem dX12_is_39 : decode cX12_is 39 = .ok (.iload_n 2, 1) := bg00_42.1.2.1.2
theorem dX12_is_40 : decode cX12_is 40 = .ok (.ifCond .eq 42, 3) := bg00_42.1.2.2.1
theorem dX12_is_43 : decode cX12_is 43 = .ok (.iload_n 3, 1) := bg00_42.1.2.2.2
theorem dX12_is_44 : decode cX12_is 44 = .ok (.aload_n 1, 1) := bg00_42.2.1.1.1
theorem dX12_is_45 : decode cX12_is 45 = .ok (.invokevirtual 218, 3) := bg00_42.2.1.1.2
theorem dX12_is_48 : decode cX12_is 48 = .ok (.if_icmp .ge 34, 3) := bg00_42.2.1.2.1
theorem dX12_is_51 : decode cX12_is 51 = .ok (.aload_n 1, 1) := bg00_42.2.1.2.2
theorem dX12_is_52 : decode cX12_is 52 = .ok (.iload_n 3, 1) := bg00_42.2.2.1.1
theorem dX12_is_53 : decode cX12_is 53 = .ok (.invokevirtual 222, 3) := bg00_42.2.2.1.2
theorem dX12_is_56 : decode cX12_is 56 = .ok (.aload_n 0, 1) := bg00_42.2.2.2.1
theorem dX12_is_57 : decode cX12_is 57 = .ok (.getfield 81, 3) := bg00_42.2.2.2.2
theorem bg00_43 : (((decode cX12_is 60 = .ok (.aload_n 0, 1) ∧ decode cX12_is 61 = .ok (.getfield 183, 3)) ∧ (decode cX12_is 64 = .ok (.iload_n 3, 1) ∧ decode cX12_is 65 = .ok (.iadd, 1))) ∧ ((decode cX12_is 66 = .ok (.iaload, 1) ∧ decode cX12_is 67 = .ok (.if_icmp .ne 7, 3)) ∧ (decode cX12_is 70 = .ok (.iconst 1, 1)))) ∧ (((decode cX12_is 71 = .ok (.goto 4, 3) ∧ decode cX12_is 74 = .ok (.iconst 0, 1)) ∧ (decode cX12_is 75 = .ok (.istore_n 2, 1) ∧ decode cX12_is 76 = .ok (.iinc 3 1, 3))) ∧ ((decode cX12_is 79 = .ok (.goto (-40), 3) ∧ decode cX12_is 82 = .ok (.iload_n 2, 1)) ∧ (decode cX12_is 83 = .ok (.ireturn, 1)))) := by decide +kernel
theorem dX12_is_60 : decode cX12_is 60 = .ok (.aload_n 0, 1) := bg00_43.1.1.1.1
theorem dX12_is_61 : decode cX12_is 61 = .ok (.getfield 183, 3) := bg00_43.1.1.1.2
theorem dX12_is_64 : decode cX12_is 64 = .ok (.iload_n 3, 1) := bg00_43.1.1.2.1
theorem dX12_is_65 : decode cX12_is 65 = .ok (.iadd, 1) := bg00_43.1.1.2.2
theorem dX12_is_66 : decode cX12_is 66 = .ok (.iaload, 1) := bg00_43.1.2.1.1
theorem dX12_is_67 : decode cX12_is 67 = .ok (.if_icmp .ne 7, 3) := bg00_43.1.2.1.2
theorem dX12_is_70 : decode cX12_is 70 = .ok (.iconst 1, 1) := bg00_43.1.2.2
theorem dX12_is_71 : decode cX12_is 71 = .ok (.goto 4, 3) := bg00_43.2.1.1.1
theorem dX12_is_74 : decode cX12_is 74 = .ok (.iconst 0, 1) := bg00_43.2.1.1.2
theorem dX12_is_75 : decode cX12_is 75 = .ok (.istore_n 2, 1) := bg00_43.2.1.2.1
theorem dX12_is_76 : decode cX12_is 76 = .ok (.iinc 3 1, 3) := bg00_43.2.1.2.2
theorem dX12_is_79 : decode cX12_is 79 = .ok (.goto (-40), 3) := bg00_43.2.2.1.1
theorem dX12_is_82 : decode cX12_is 82 = .ok (.iload_n 2, 1) := bg00_43.2.2.1.2
theorem dX12_is_83 : decode cX12_is 83 = .ok (.ireturn, 1) := bg00_43.2.2.2
theorem bg00_44 : (((decode cX12_which 0 = .ok (.iconst 0, 1) ∧ decode cX12_which 1 = .ok (.istore_n 2, 1)) ∧ (decode cX12_which 2 = .ok (.iload_n 2, 1) ∧ decode cX12_which 3 = .ok (.aload_n 1, 1))) ∧ ((decode cX12_which 4 = .ok (.arraylength, 1) ∧ decode cX12_which 5 = .ok (.if_icmp .ge 21, 3)) ∧ (decode cX12_which 8 = .ok (.aload_n 0, 1) ∧ decode cX12_which 9 = .ok (.aload_n 1, 1)))) ∧ (((decode cX12_which 10 = .ok (.iload_n 2, 1) ∧ decode cX12_which 11 = .ok (.aaload, 1)) ∧ (decode cX12_which 12 = .ok (.invokevirtual 226, 3) ∧ decode cX12_which 15 = .ok (.ifCond .eq 5, 3))) ∧ ((decode cX12_which 18 = .ok (.iload_n 2, 1) ∧ decode cX12_which 19 = .ok (.ireturn, 1)) ∧ (decode cX12_which 20 = .ok (.iinc 2 1, 3) ∧ decode cX12_which 23 = .ok (.goto (-21), 3)))) := by decide +kernel
theorem dX12_which_0 : decode cX12_which 0 = .ok (.iconst 0, 1) := bg00_44.1.1.1.1
theorem dX12_which_1 : decode cX12_which 1 = .ok (.istore_n 2, 1) := bg00_44.1.1.1.2
theorem dX12_which_2 : decode cX12_which 2 = .ok (.iload_n 2, 1) := bg00_44.1.1.2.1
theorem dX12_which_3 : decode cX12_which 3 = .ok (.aload_n 1, 1) := bg00_44.1.1.2.2
theorem dX12_which_4 : decode cX12_which 4 = .ok (.arraylength, 1) := bg00_44.1.2.1.1
theorem dX12_which_5 : decode cX12_which 5 = .ok (.if_icmp .ge 21, 3) := bg00_44.1.2.1.2
theorem dX12_which_8 : decode cX12_which 8 = .ok (.aload_n 0, 1) := bg00_44.1.2.2.1
theorem dX12_which_9 : decode cX12_which 9 = .ok (.aload_n 1, 1) := bg00_44.1.2.2.2
theorem dX12_which_10 : decode cX12_which 10 = .ok (.iload_n 2, 1) := bg00_44.2.1.1.1
theorem dX12_which_11 : decode cX12_which 11 = .ok (.aaload, 1) := bg00_44.2.1.1.2
theorem dX12_which_12 : decode cX12_which 12 = .ok (.invokevirtual 226, 3) := bg00_44.2.1.2.1
theorem dX12_which_15 : decode cX12_which 15 = .ok (.ifCond .eq 5, 3) := bg00_44.2.1.2.2
theorem dX12_which_18 : decode cX12_which 18 = .ok (.iload_n 2, 1) := bg00_44.2.2.1.1
theorem dX12_which_19 : decode cX12_which 19 = .ok (.ireturn, 1) := bg00_44.2.2.1.2
theorem dX12_which_20 : decode cX12_which 20 = .ok (.iinc 2 1, 3) := bg00_44.2.2.2.1
theorem dX12_which_23 : decode cX12_which 23 = .ok (.goto (-21), 3) := bg00_44.2.2.2.2
theorem bg00_45 : ((decode cX12_which 26 = .ok (.iconst (-1), 1) ∧ decode cX12_which 27 = .ok (.ireturn, 1)) ∧ (decode cX12_isMarked 0 = .ok (.aload_n 0, 1) ∧ decode cX12_isMarked 1 = .ok (.getfield 212, 3))) ∧ ((decode cX12_isMarked 4 = .ok (.ifCond .ne 28, 3) ∧ decode cX12_isMarked 7 = .ok (.aload_n 0, 1)) ∧ (decode cX12_isMarked 8 = .ok (.getfield 186, 3) ∧ decode cX12_isMarked 11 = .ok (.iconst 3, 1))) := by decide +kernel
theorem dX12_which_26 : decode cX12_which 26 = .ok (.iconst (-1), 1) := bg00_45.1.1.1
theorem dX12_which_27 : decode cX12_which 27 = .ok (.ireturn, 1) := bg00_45.1.1.2
theorem dX12_isMarked_0 : decode cX12_isMarked 0 = .ok (.aload_n 0, 1) := bg00_45.1.2.1
theorem dX12_isMarked_1 : decode cX12_isMarked 1 = .ok (.getfield 212, 3) := bg00_45.1.2.2
theorem dX12_isMarked_4 : decode cX12_isMarked 4 = .ok (.ifCond .ne 28, 3) := bg00_45.2.1.1
theorem dX12_isMarked_7 : decode cX12_isMarked 7 = .ok (.aload_n 0, 1) := bg00_45.2.1.2
theorem dX12_isMarked_8 : decode cX12_isMarked 8 = .ok (.getfield 186, 3) := bg00_45.2.2.1
theorem dX12_isMarked_11 : decode cX12_isMarked 11 = .ok (.iconst 3, 1) := bg00_45.2.2.2
theorem bg00_46 : (((decode cX12_isMarked 12 = .ok (.if_icmp .ne 20, 3) ∧ decode cX12_isMarked 15 = .ok (.aload_n 0, 1)) ∧ (decode cX12_isMarked 16 = .ok (.getfield 81, 3))) ∧ ((decode cX12_isMarked 19 = .ok (.aload_n 0, 1) ∧ decode cX12_isMarked 20 = .ok (.getfield 183, 3)) ∧ (decode cX12_isMarked 23 = .ok (.iaload, 1)))) ∧ (((decode cX12_isMarked 24 = .ok (.iload_n 1, 1) ∧ decode cX12_isMarked 25 = .ok (.if_icmp .ne 7, 3)) ∧ (decode cX12_isMarked 28 = .ok (.iconst 1, 1))) ∧ ((decode cX12_isMarked 29 = .ok (.goto 4, 3) ∧ decode cX12_isMarked 32 = .ok (.iconst 0, 1)) ∧ (decode cX12_isMarked 33 = .ok (.ireturn, 1)))) := by decide +kernel
theorem dX12_isMarked_12 : decode cX12_isMarked 12 = .ok (.if_icmp .ne 20, 3) := bg00_46.1.1.1.1
theorem dX12_isMarked_15 : decode cX12_isMarked 15 = .ok (.aload_n 0, 1) := bg00_46.1.1.1.2
theorem dX12_isMarked_16 : decode cX12_isMarked 16 = .ok (.getfield 81, 3) := bg00_46.1.1.2
theorem dX12_isMarked_19 : decode cX12_isMarked 19 = .ok (.aload_n 0, 1) := bg00_46.1.2.1.1
theorem dX12_isMarked_20 : decode cX12_isMarked 20 = .ok (.getfield 183, 3) := bg00_46.1.2.1.2
theorem dX12_isMarked_23 : decode cX12_isMarked 23 = .ok (.iaload, 1) := bg00_46.1.2.2
theorem dX12_isMarked_24 : decode cX12_isMarked 24 = .ok (.iload_n 1, 1) := bg00_46.2.1.1.1
theorem dX12_isMarked_25 : decode cX12_isMarked 25 = .ok (.if_icmp .ne 7, 3) := bg00_46.2.1.1.2
theorem dX12_isMarked_28 : decode cX12_isMarked 28 = .ok (.iconst 1, 1) := bg00_46.2.1.2
theorem dX12_isMarked_29 : decode cX12_isMarked 29 = .ok (.goto 4, 3) := bg00_46.2.2.1.1
theorem dX12_isMarked_32 : decode cX12_isMarked 32 = .ok (.iconst 0, 1) := bg00_46.2.2.1.2
theorem dX12_isMarked_33 : decode cX12_isMarked 33 = .ok (.ireturn, 1) := bg00_46.2.2.2
theorem bg00_47 : (((decode cX12_mark 0 = .ok (.aload_n 0, 1) ∧ decode cX12_mark 1 = .ok (.getfield 212, 3)) ∧ (decode cX12_mark 4 = .ok (.ifCond .ne 16, 3) ∧ decode cX12_mark 7 = .ok (.aload_n 0, 1))) ∧ ((decode cX12_mark 8 = .ok (.iload_n 1, 1) ∧ decode cX12_mark 9 = .ok (.invokevirtual 230, 3)) ∧ (decode cX12_mark 12 = .ok (.ifCond .ne 8, 3) ∧ decode cX12_mark 15 = .ok (.aload_n 0, 1)))) ∧ (((decode cX12_mark 16 = .ok (.iconst 1, 1) ∧ decode cX12_mark 17 = .ok (.invokevirtual 233, 3)) ∧ (decode cX12_mark 20 = .ok (.aload_n 0, 1) ∧ decode cX12_mark 21 = .ok (.getfield 212, 3))) ∧ ((decode cX12_mark 24 = .ok (.ifCond .ne 7, 3) ∧ decode cX12_mark 27 = .ok (.aload_n 0, 1)) ∧ (decode cX12_mark 28 = .ok (.invokevirtual 237, 3) ∧ decode cX12_mark 31 = .ok (.return_, 1)))) := by decide +kernel
theorem dX12_mark_0 : decode cX12_mark 0 = .ok (.aload_n 0, 1) := bg00_47.1.1.1.1
theorem dX12_mark_1 : decode cX12_mark 1 = .ok (.getfield 212, 3) := bg00_47.1.1.1.2
theorem dX12_mark_4 : decode cX12_mark 4 = .ok (.ifCond .ne 16, 3) := bg00_47.1.1.2.1
theorem dX12_mark_7 : decode cX12_mark 7 = .ok (.aload_n 0, 1) := bg00_47.1.1.2.2
theorem dX12_mark_8 : decode cX12_mark 8 = .ok (.iload_n 1, 1) := bg00_47.1.2.1.1
theorem dX12_mark_9 : decode cX12_mark 9 = .ok (.invokevirtual 230, 3) := bg00_47.1.2.1.2
theorem dX12_mark_12 : decode cX12_mark 12 = .ok (.ifCond .ne 8, 3) := bg00_47.1.2.2.1
theorem dX12_mark_15 : decode cX12_mark 15 = .ok (.aload_n 0, 1) := bg00_47.1.2.2.2
theorem dX12_mark_16 : decode cX12_mark 16 = .ok (.iconst 1, 1) := bg00_47.2.1.1.1
theorem dX12_mark_17 : decode cX12_mark 17 = .ok (.invokevirtual 233, 3) := bg00_47.2.1.1.2
theorem dX12_mark_20 : decode cX12_mark 20 = .ok (.aload_n 0, 1) := bg00_47.2.1.2.1
theorem dX12_mark_21 : decode cX12_mark 21 = .ok (.getfield 212, 3) := bg00_47.2.1.2.2
theorem dX12_mark_24 : decode cX12_mark 24 = .ok (.ifCond .ne 7, 3) := bg00_47.2.2.1.1
theorem dX12_mark_27 : decode cX12_mark 27 = .ok (.aload_n 0, 1) := bg00_47.2.2.1.2
theorem dX12_mark_28 : decode cX12_mark 28 = .ok (.invokevirtual 237, 3) := bg00_47.2.2.2.1
theorem dX12_mark_31 : decode cX12_mark 31 = .ok (.return_, 1) := bg00_47.2.2.2.2
theorem bg00_48 : (((decode cX12_numberNow 0 = .ok (.aload_n 0, 1) ∧ decode cX12_numberNow 1 = .ok (.getfield 212, 3)) ∧ (decode cX12_numberNow 4 = .ok (.ifCond .eq 5, 3) ∧ decode cX12_numberNow 7 = .ok (.iconst 0, 1))) ∧ ((decode cX12_numberNow 8 = .ok (.ireturn, 1) ∧ decode cX12_numberNow 9 = .ok (.aload_n 0, 1)) ∧ (decode cX12_numberNow 10 = .ok (.getfield 186, 3) ∧ decode cX12_numberNow 13 = .ok (.iconst 2, 1)))) ∧ (((decode cX12_numberNow 14 = .ok (.if_icmp .eq 11, 3) ∧ decode cX12_numberNow 17 = .ok (.aload_n 0, 1)) ∧ (decode cX12_numberNow 18 = .ok (.iconst 1, 1) ∧ decode cX12_numberNow 19 = .ok (.invokevirtual 233, 3))) ∧ ((decode cX12_numberNow 22 = .ok (.goto 37, 3) ∧ decode cX12_numberNow 25 = .ok (.aload_n 0, 1)) ∧ (decode cX12_numberNow 26 = .ok (.getfield 209, 3) ∧ decode cX12_numberNow 29 = .ok (.aload_n 0, 1)))) := by decide +kernel
theorem dX12_numberNow_0 : decode cX12_numberNow 0 = .ok (.aload_n 0, 1) := bg00_48.1.1.1.1
theorem dX12_numberNow_1 : decode cX12_numberNow 1 = .ok (.getfield 212, 3) := bg00_48.1.1.1.2
theorem dX12_numberNow_4 : decode cX12_numberNow 4 = .ok (.ifCond .eq 5, 3) := bg00_48.1.1.2.1
theorem dX12_numberNow_7 : decode cX12_numberNow 7 = .ok (.iconst 0, 1) := bg00_48.1.1.2.2
theorem dX12_numberNow_8 : decode cX12_numberNow 8 = .ok (.ireturn, 1) := bg00_48.1.2.1.1
theorem dX12_numberNow_9 : decode cX12_numberNow 9 = .ok (.aload_n 0, 1) := bg00_48.1.2.1.2
theorem dX12_numberNow_10 : decode cX12_numberNow 10 = .ok (.getfield 186, 3) := bg00_48.1.2.2.1
theorem dX12_numberNow_13 : decode cX12_numberNow 13 = .ok (.iconst 2, 1) := bg00_48.1.2.2.2
theorem dX12_numberNow_14 : decode cX12_numberNow 14 = .ok (.if_icmp .eq 11, 3) := bg00_48.2.1.1.1
theorem dX12_numberNow_17 : decode cX12_numberNow 17 = .ok (.aload_n 0, 1) := bg00_48.2.1.1.2
theorem dX12_numberNow_18 : decode cX12_numberNow 18 = .ok (.iconst 1, 1) := bg00_48.2.1.2.1
theorem dX12_numberNow_19 : decode cX12_numberNow 19 = .ok (.invokevirtual 233, 3) := bg00_48.2.1.2.2
theorem dX12_numberNow_22 : decode cX12_numberNow 22 = .ok (.goto 37, 3) := bg00_48.2.2.1.1
theorem dX12_numberNow_25 : decode cX12_numberNow 25 = .ok (.aload_n 0, 1) := bg00_48.2.2.1.2
theorem dX12_numberNow_26 : decode cX12_numberNow 26 = .ok (.getfield 209, 3) := bg00_48.2.2.2.1
theorem dX12_numberNow_29 : decode cX12_numberNow 29 = .ok (.aload_n 0, 1) := bg00_48.2.2.2.2
theorem bg00_49 : (((decode cX12_numberNow 30 = .ok (.getfield 183, 3) ∧ decode cX12_numberNow 33 = .ok (.isub, 1)) ∧ (decode cX12_numberNow 34 = .ok (.iconst 4, 1) ∧ decode cX12_numberNow 35 = .ok (.if_icmp .gt 19, 3))) ∧ ((decode cX12_numberNow 38 = .ok (.aload_n 0, 1) ∧ decode cX12_numberNow 39 = .ok (.getfield 196, 3)) ∧ (decode cX12_numberNow 42 = .ok (.iload_n 1, 1) ∧ decode cX12_numberNow 43 = .ok (.if_icmp .lt 11, 3)))) ∧ (((decode cX12_numberNow 46 = .ok (.aload_n 0, 1) ∧ decode cX12_numberNow 47 = .ok (.getfield 196, 3)) ∧ (decode cX12_numberNow 50 = .ok (.iload_n 2, 1) ∧ decode cX12_numberNow 51 = .ok (.if_icmp .le 8, 3))) ∧ ((decode cX12_numberNow 54 = .ok (.aload_n 0, 1) ∧ decode cX12_numberNow 55 = .ok (.iconst 2, 1)) ∧ (decode cX12_numberNow 56 = .ok (.invokevirtual 233, 3) ∧ decode cX12_numberNow 59 = .ok (.aload_n 0, 1)))) := by decide +kernel
theorem dX12_numberNow_30 : decode cX12_numberNow 30 = .ok (.getfield 183, 3) := bg00_49.1.1.1.1
theorem dX12_numberNow_33 : decode cX12_numberNow 33 = .ok (.isub, 1) := bg00_49.1.1.1.2
theorem dX12_numberNow_34 : decode cX12_numberNow 34 = .ok (.iconst 4, 1) := bg00_49.1.1.2.1
theorem dX12_numberNow_35 : decode cX12_numberNow 35 = .ok (.if_icmp .gt 19, 3) := bg00_49.1.1.2.2
theorem dX12_numberNow_38 : decode cX12_numberNow 38 = .ok (.aload_n 0, 1) := bg00_49.1.2.1.1
theorem dX12_numberNow_39 : decode cX12_numberNow 39 = .ok (.getfield 196, 3) := bg00_49.1.2.1.2
theorem dX12_numberNow_42 : decode cX12_numberNow 42 = .ok (.iload_n 1, 1) := bg00_49.1.2.2.1
theorem dX12_numberNow_43 : decode cX12_numberNow 43 = .ok (.if_icmp .lt 11, 3) := bg00_49.1.2.2.2
theorem dX12_numberNow_46 : decode cX12_numberNow 46 = .ok (.aload_n 0, 1) := bg00_49.2.1.1.1
theorem dX12_numberNow_47 : decode cX12_numberNow 47 = .ok (.getfield 196, 3) := bg00_49.2.1.1.2
theorem dX12_numberNow_50 : decode cX12_numberNow 50 = .ok (.iload_n 2, 1) := bg00_49.2.1.2.1
theorem dX12_numberNow_51 : decode cX12_numberNow 51 = .ok (.if_icmp .le 8, 3) := bg00_49.2.1.2.2
theorem dX12_numberNow_54 : decode cX12_numberNow 54 = .ok (.aload_n 0, 1) := bg00_49.2.2.1.1
theorem dX12_numberNow_55 : decode cX12_numberNow 55 = .ok (.iconst 2, 1) := bg00_49.2.2.1.2
theorem dX12_numberNow_56 : decode cX12_numberNow 56 = .ok (.invokevirtual 233, 3) := bg00_49.2.2.2.1
theorem dX12_numberNow_59 : decode cX12_numberNow 59 = .ok (.aload_n 0, 1) := bg00_49.2.2.2.2
theorem bg00_50 : ((decode cX12_numberNow 60 = .ok (.getfield 212, 3) ∧ decode cX12_numberNow 63 = .ok (.ifCond .ne 10, 3)) ∧ (decode cX12_numberNow 66 = .ok (.aload_n 0, 1) ∧ decode cX12_numberNow 67 = .ok (.getfield 196, 3))) ∧ ((decode cX12_numberNow 70 = .ok (.goto 4, 3) ∧ decode cX12_numberNow 73 = .ok (.iconst 0, 1)) ∧ (decode cX12_numberNow 74 = .ok (.ireturn, 1) ∧ decode cX12_readNumber 0 = .ok (.aload_n 0, 1))) := by decide +kernel
theorem dX12_numberNow_60 : decode cX12_numberNow 60 = .ok (.getfield 212, 3) := bg00_50.1.1.1
theorem dX12_numberNow_63 : decode cX12_numberNow 63 = .ok (.ifCond .ne 10, 3) := bg00_50.1.1.2
theorem dX12_numberNow_66 : decode cX12_numberNow 66 = .ok (.aload_n 0, 1) := bg00_50.1.2.1
theorem dX12_numberNow_67 : decode cX12_numberNow 67 = .ok (.getfield 196, 3) := bg00_50.1.2.2
theorem dX12_numberNow_70 : decode cX12_numberNow 70 = .ok (.goto 4, 3) := bg00_50.2.1.1
theorem dX12_numberNow_73 : decode cX12_numberNow 73 = .ok (.iconst 0, 1) := bg00_50.2.1.2
theorem dX12_numberNow_74 : decode cX12_numberNow 74 = .ok (.ireturn, 1) := bg00_50.2.2.1
theorem dX12_readNumber_0 : decode cX12_readNumber 0 = .ok (.aload_n 0, 1) := bg00_50.2.2.2
theorem bg00_51 : (((decode cX12_readNumber 1 = .ok (.iload_n 1, 1) ∧ decode cX12_readNumber 2 = .ok (.iload_n 2, 1)) ∧ (decode cX12_readNumber 3 = .ok (.invokevirtual 240, 3))) ∧ ((decode cX12_readNumber 6 = .ok (.istore_n 3, 1) ∧ decode cX12_readNumber 7 = .ok (.aload_n 0, 1)) ∧ (decode cX12_readNumber 8 = .ok (.getfield 212, 3)))) ∧ (((decode cX12_readNumber 11 = .ok (.ifCond .ne 7, 3) ∧ decode cX12_readNumber 14 = .ok (.aload_n 0, 1)) ∧ (decode cX12_readNumber 15 = .ok (.invokevirtual 237, 3))) ∧ (decode cX12_readNumber 18 = .ok (.iload_n 3, 1) ∧ decode cX12_readNumber 19 = .ok (.ireturn, 1))) := by decide +kernel
theorem dX12_readNumber_1 : decode cX12_readNumber 1 = .ok (.iload_n 1, 1) := bg00_51.1.1.1.1
theorem dX12_readNumber_2 : decode cX12_readNumber 2 = .ok (.iload_n 2, 1) := bg00_51.1.1.1.2
theorem dX12_readNumber_3 : decode cX12_readNumber 3 = .ok (.invokevirtual 240, 3) := bg00_51.1.1.2
theorem dX12_readNumber_6 : decode cX12_readNumber 6 = .ok (.istore_n 3, 1) := bg00_51.1.2.1.1
theorem dX12_readNumber_7 : decode cX12_readNumber 7 = .ok (.aload_n 0, 1) := bg00_51.1.2.1.2
theorem dX12_readNumber_8 : decode cX12_readNumber 8 = .ok (.getfield 212, 3) := bg00_51.1.2.2
theorem dX12_readNumber_11 : decode cX12_readNumber 11 = .ok (.ifCond .ne 7, 3) := bg00_51.2.1.1.1
theorem dX12_readNumber_14 : decode cX12_readNumber 14 = .ok (.aload_n 0, 1) := bg00_51.2.1.1.2
theorem dX12_readNumber_15 : decode cX12_readNumber 15 = .ok (.invokevirtual 237, 3) := bg00_51.2.1.2
theorem dX12_readNumber_18 : decode cX12_readNumber 18 = .ok (.iload_n 3, 1) := bg00_51.2.2.1
theorem dX12_readNumber_19 : decode cX12_readNumber 19 = .ok (.ireturn, 1) := bg00_51.2.2.2
theorem bg00_52 : (((decode cX12_lay 0 = .ok (.aload_n 0, 1) ∧ decode cX12_lay 1 = .ok (.getfield 212, 3)) ∧ (decode cX12_lay 4 = .ok (.ifCond .eq 4, 3) ∧ decode cX12_lay 7 = .ok (.return_, 1))) ∧ ((decode cX12_lay 8 = .ok (.bipush 6, 2) ∧ decode cX12_lay 10 = .ok (.aload_n 0, 1)) ∧ (decode cX12_lay 11 = .ok (.getfield 243, 3) ∧ decode cX12_lay 14 = .ok (.ifCond .eq 7, 3)))) ∧ (((decode cX12_lay 17 = .ok (.iconst 5, 1) ∧ decode cX12_lay 18 = .ok (.goto 4, 3)) ∧ (decode cX12_lay 21 = .ok (.iconst 4, 1) ∧ decode cX12_lay 22 = .ok (.iadd, 1))) ∧ ((decode cX12_lay 23 = .ok (.istore_n 2, 1) ∧ decode cX12_lay 24 = .ok (.aload_n 0, 1)) ∧ (decode cX12_lay 25 = .ok (.getfield 243, 3) ∧ decode cX12_lay 28 = .ok (.ifCond .eq 10, 3)))) := by decide +kernel
theorem dX12_lay_0 : decode cX12_lay 0 = .ok (.aload_n 0, 1) := bg00_52.1.1.1.1
theorem dX12_lay_1 : decode cX12_lay 1 = .ok (.getfield 212, 3) := bg00_52.1.1.1.2
theorem dX12_lay_4 : decode cX12_lay 4 = .ok (.ifCond .eq 4, 3) := bg00_52.1.1.2.1
theorem dX12_lay_7 : decode cX12_lay 7 = .ok (.return_, 1) := bg00_52.1.1.2.2
theorem dX12_lay_8 : decode cX12_lay 8 = .ok (.bipush 6, 2) := bg00_52.1.2.1.1
theorem dX12_lay_10 : decode cX12_lay 10 = .ok (.aload_n 0, 1) := bg00_52.1.2.1.2
theorem dX12_lay_11 : decode cX12_lay 11 = .ok (.getfield 243, 3) := bg00_52.1.2.2.1
theorem dX12_lay_14 : decode cX12_lay 14 = .ok (.ifCond .eq 7, 3) := bg00_52.1.2.2.2
theorem dX12_lay_17 : decode cX12_lay 17 = .ok (.iconst 5, 1) := bg00_52.2.1.1.1
theorem dX12_lay_18 : decode cX12_lay 18 = .ok (.goto 4, 3) := bg00_52.2.1.1.2
theorem dX12_lay_21 : decode cX12_lay 21 = .ok (.iconst 4, 1) := bg00_52.2.1.2.1
theorem dX12_lay_22 : decode cX12_lay 22 = .ok (.iadd, 1) := bg00_52.2.1.2.2
theorem dX12_lay_23 : decode cX12_lay 23 = .ok (.istore_n 2, 1) := bg00_52.2.2.1.1
theorem dX12_lay_24 : decode cX12_lay 24 = .ok (.aload_n 0, 1) := bg00_52.2.2.1.2
theorem dX12_lay_25 : decode cX12_lay 25 = .ok (.getfield 243, 3) := bg00_52.2.2.2.1
theorem dX12_lay_28 : decode cX12_lay 28 = .ok (.ifCond .eq 10, 3) := bg00_52.2.2.2.2
theorem bg00_53 : (((decode cX12_lay 31 = .ok (.aload_n 0, 1) ∧ decode cX12_lay 32 = .ok (.getfield 75, 3)) ∧ (decode cX12_lay 35 = .ok (.goto 7, 3) ∧ decode cX12_lay 38 = .ok (.aload_n 0, 1))) ∧ ((decode cX12_lay 39 = .ok (.getfield 72, 3) ∧ decode cX12_lay 42 = .ok (.astore_n 3, 1)) ∧ (decode cX12_lay 43 = .ok (.aload_n 3, 1) ∧ decode cX12_lay 44 = .ok (.sipush 700, 3)))) ∧ (((decode cX12_lay 47 = .ok (.aload_n 0, 1) ∧ decode cX12_lay 48 = .ok (.getfield 42, 3)) ∧ (decode cX12_lay 51 = .ok (.iload_n 2, 1) ∧ decode cX12_lay 52 = .ok (.iaload, 1))) ∧ ((decode cX12_lay 53 = .ok (.iadd, 1) ∧ decode cX12_lay 54 = .ok (.iload_n 1, 1)) ∧ (decode cX12_lay 55 = .ok (.iastore, 1) ∧ decode cX12_lay 56 = .ok (.aload_n 0, 1)))) := by decide +kernel
theorem dX12_lay_31 : decode cX12_lay 31 = .ok (.aload_n 0, 1) := bg00_53.1.1.1.1
theorem dX12_lay_32 : decode cX12_lay 32 = .ok (.getfield 75, 3) := bg00_53.1.1.1.2
theorem dX12_lay_35 : decode cX12_lay 35 = .ok (.goto 7, 3) := bg00_53.1.1.2.1
theorem dX12_lay_38 : decode cX12_lay 38 = .ok (.aload_n 0, 1) := bg00_53.1.1.2.2
theorem dX12_lay_39 : decode cX12_lay 39 = .ok (.getfield 72, 3) := bg00_53.1.2.1.1
theorem dX12_lay_42 : decode cX12_lay 42 = .ok (.astore_n 3, 1) := bg00_53.1.2.1.2
theorem dX12_lay_43 : decode cX12_lay 43 = .ok (.aload_n 3, 1) := bg00_53.1.2.2.1
theorem dX12_lay_44 : decode cX12_lay 44 = .ok (.sipush 700, 3) := bg00_53.1.2.2.2
theorem dX12_lay_47 : decode cX12_lay 47 = .ok (.aload_n 0, 1) := bg00_53.2.1.1.1
theorem dX12_lay_48 : decode cX12_lay 48 = .ok (.getfield 42, 3) := bg00_53.2.1.1.2
theorem dX12_lay_51 : decode cX12_lay 51 = .ok (.iload_n 2, 1) := bg00_53.2.1.2.1
theorem dX12_lay_52 : decode cX12_lay 52 = .ok (.iaload, 1) := bg00_53.2.1.2.2
theorem dX12_lay_53 : decode cX12_lay 53 = .ok (.iadd, 1) := bg00_53.2.2.1.1
theorem dX12_lay_54 : decode cX12_lay 54 = .ok (.iload_n 1, 1) := bg00_53.2.2.1.2
theorem dX12_lay_55 : decode cX12_lay 55 = .ok (.iastore, 1) := bg00_53.2.2.2.1
theorem dX12_lay_56 : decode cX12_lay 56 = .ok (.aload_n 0, 1) := bg00_53.2.2.2.2
theorem bg00_54 : ((decode cX12_lay 57 = .ok (.getfield 42, 3) ∧ decode cX12_lay 60 = .ok (.iload_n 2, 1)) ∧ (decode cX12_lay 61 = .ok (.dup2, 1) ∧ decode cX12_lay 62 = .ok (.iaload, 1))) ∧ ((decode cX12_lay 63 = .ok (.iconst 1, 1) ∧ decode cX12_lay 64 = .ok (.iadd, 1)) ∧ (decode cX12_lay 65 = .ok (.iastore, 1) ∧ decode cX12_lay 66 = .ok (.return_, 1))) := by decide +kernel
theorem dX12_lay_57 : decode cX12_lay 57 = .ok (.getfield 42, 3) := bg00_54.1.1.1
theorem dX12_lay_60 : decode cX12_lay 60 = .ok (.iload_n 2, 1) := bg00_54.1.1.2
theorem dX12_lay_61 : decode cX12_lay 61 = .ok (.dup2, 1) := bg00_54.1.2.1
theorem dX12_lay_62 : decode cX12_lay 62 = .ok (.iaload, 1) := bg00_54.1.2.2
theorem dX12_lay_63 : decode cX12_lay 63 = .ok (.iconst 1, 1) := bg00_54.2.1.1
theorem dX12_lay_64 : decode cX12_lay 64 = .ok (.iadd, 1) := bg00_54.2.1.2
theorem dX12_lay_65 : decode cX12_lay 65 = .ok (.iastore, 1) := bg00_54.2.2.1
theorem dX12_lay_66 : decode cX12_lay 66 = .ok (.return_, 1) := bg00_54.2.2.2
theorem bg00_55 : (((decode cX12_readPart 0 = .ok (.aload_n 0, 1) ∧ decode cX12_readPart 1 = .ok (.getfield 212, 3)) ∧ (decode cX12_readPart 4 = .ok (.ifCond .eq 4, 3) ∧ decode cX12_readPart 7 = .ok (.return_, 1))) ∧ ((decode cX12_readPart 8 = .ok (.aload_n 0, 1) ∧ decode cX12_readPart 9 = .ok (.getfield 186, 3)) ∧ (decode cX12_readPart 12 = .ok (.iconst 2, 1) ∧ decode cX12_readPart 13 = .ok (.if_icmp .ne 16, 3)))) ∧ (((decode cX12_readPart 16 = .ok (.aload_n 0, 1) ∧ decode cX12_readPart 17 = .ok (.aload_n 0, 1)) ∧ (decode cX12_readPart 18 = .ok (.iconst 0, 1) ∧ decode cX12_readPart 19 = .ok (.sipush 9999, 3))) ∧ ((decode cX12_readPart 22 = .ok (.invokevirtual 247, 3) ∧ decode cX12_readPart 25 = .ok (.invokevirtual 250, 3)) ∧ (decode cX12_readPart 28 = .ok (.return_, 1) ∧ decode cX12_readPart 29 = .ok (.aload_n 0, 1)))) := by decide +kernel
theorem dX12_readPart_0 : decode cX12_readPart 0 = .ok (.aload_n 0, 1) := bg00_55.1.1.1.1
theorem dX12_readPart_1 : decode cX12_readPart 1 = .ok (.getfield 212, 3) := bg00_55.1.1.1.2
theorem dX12_readPart_4 : decode cX12_readPart 4 = .ok (.ifCond .eq 4, 3) := bg00_55.1.1.2.1
theorem dX12_readPart_7 : decode cX12_readPart 7 = .ok (.return_, 1) := bg00_55.1.1.2.2
theorem dX12_readPart_8 : decode cX12_readPart 8 = .ok (.aload_n 0, 1) := bg00_55.1.2.1.1
theorem dX12_readPart_9 : decode cX12_readPart 9 = .ok (.getfield 186, 3) := bg00_55.1.2.1.2
theorem dX12_readPart_12 : decode cX12_readPart 12 = .ok (.iconst 2, 1) := bg00_55.1.2.2.1
theorem dX12_readPart_13 : decode cX12_readPart 13 = .ok (.if_icmp .ne 16, 3) := bg00_55.1.2.2.2
theorem dX12_readPart_16 : decode cX12_readPart 16 = .ok (.aload_n 0, 1) := bg00_55.2.1.1.1
theorem dX12_readPart_17 : decode cX12_readPart 17 = .ok (.aload_n 0, 1) := bg00_55.2.1.1.2
theorem dX12_readPart_18 : decode cX12_readPart 18 = .ok (.iconst 0, 1) := bg00_55.2.1.2.1
theorem dX12_readPart_19 : decode cX12_readPart 19 = .ok (.sipush 9999, 3) := bg00_55.2.1.2.2
theorem dX12_readPart_22 : decode cX12_readPart 22 = .ok (.invokevirtual 247, 3) := bg00_55.2.2.1.1
theorem dX12_readPart_25 : decode cX12_readPart 25 = .ok (.invokevirtual 250, 3) := bg00_55.2.2.1.2
theorem dX12_readPart_28 : decode cX12_readPart 28 = .ok (.return_, 1) := bg00_55.2.2.2.1
theorem dX12_readPart_29 : decode cX12_readPart 29 = .ok (.aload_n 0, 1) := bg00_55.2.2.2.2
theorem bg00_56 : (((decode cX12_readPart 30 = .ok (.getfield 186, 3) ∧ decode cX12_readPart 33 = .ok (.iconst 1, 1)) ∧ (decode cX12_readPart 34 = .ok (.if_icmp .ne 41, 3) ∧ decode cX12_readPart 37 = .ok (.aload_n 0, 1))) ∧ ((decode cX12_readPart 38 = .ok (.aload_n 0, 1) ∧ decode cX12_readPart 39 = .ok (.getfield 39, 3)) ∧ (decode cX12_readPart 42 = .ok (.invokevirtual 253, 3) ∧ decode cX12_readPart 45 = .ok (.istore_n 2, 1)))) ∧ (((decode cX12_readPart 46 = .ok (.iload_n 2, 1) ∧ decode cX12_readPart 47 = .ok (.iconst (-1), 1)) ∧ (decode cX12_readPart 48 = .ok (.if_icmp .ne 8, 3) ∧ decode cX12_readPart 51 = .ok (.aload_n 0, 1))) ∧ ((decode cX12_readPart 52 = .ok (.iconst 3, 1) ∧ decode cX12_readPart 53 = .ok (.invokevirtual 233, 3)) ∧ (decode cX12_readPart 56 = .ok (.aload_n 0, 1) ∧ decode cX12_readPart 57 = .ok (.iconst (-1), 1)))) := by decide +kernel
theorem dX12_readPart_30 : decode cX12_readPart 30 = .ok (.getfield 186, 3) := bg00_56.1.1.1.1
theorem dX12_readPart_33 : decode cX12_readPart 33 = .ok (.iconst 1, 1) := bg00_56.1.1.1.2
theorem dX12_readPart_34 : decode cX12_readPart 34 = .ok (.if_icmp .ne 41, 3) := bg00_56.1.1.2.1
theorem dX12_readPart_37 : decode cX12_readPart 37 = .ok (.aload_n 0, 1) := bg00_56.1.1.2.2
theorem dX12_readPart_38 : decode cX12_readPart 38 = .ok (.aload_n 0, 1) := bg00_56.1.2.1.1
theorem dX12_readPart_39 : decode cX12_readPart 39 = .ok (.getfield 39, 3) := bg00_56.1.2.1.2
theorem dX12_readPart_42 : decode cX12_readPart 42 = .ok (.invokevirtual 253, 3) := bg00_56.1.2.2.1
theorem dX12_readPart_45 : decode cX12_readPart 45 = .ok (.istore_n 2, 1) := bg00_56.1.2.2.2
theorem dX12_readPart_46 : decode cX12_readPart 46 = .ok (.iload_n 2, 1) := bg00_56.2.1.1.1
theorem dX12_readPart_47 : decode cX12_readPart 47 = .ok (.iconst (-1), 1) := bg00_56.2.1.1.2
theorem dX12_readPart_48 : decode cX12_readPart 48 = .ok (.if_icmp .ne 8, 3) := bg00_56.2.1.2.1
theorem dX12_readPart_51 : decode cX12_readPart 51 = .ok (.aload_n 0, 1) := bg00_56.2.1.2.2
theorem dX12_readPart_52 : decode cX12_readPart 52 = .ok (.iconst 3, 1) := bg00_56.2.2.1.1
theorem dX12_readPart_53 : decode cX12_readPart 53 = .ok (.invokevirtual 233, 3) := bg00_56.2.2.1.2
theorem dX12_readPart_56 : decode cX12_readPart 56 = .ok (.aload_n 0, 1) := bg00_56.2.2.2.1
theorem dX12_readPart_57 : decode cX12_readPart 57 = .ok (.iconst (-1), 1) := bg00_56.2.2.2.2
theorem bg00_57 : (((decode cX12_readPart 58 = .ok (.iload_n 2, 1) ∧ decode cX12_readPart 59 = .ok (.isub, 1)) ∧ (decode cX12_readPart 60 = .ok (.invokevirtual 250, 3) ∧ decode cX12_readPart 63 = .ok (.aload_n 0, 1))) ∧ ((decode cX12_readPart 64 = .ok (.getfield 212, 3) ∧ decode cX12_readPart 67 = .ok (.ifCond .ne 7, 3)) ∧ (decode cX12_readPart 70 = .ok (.aload_n 0, 1) ∧ decode cX12_readPart 71 = .ok (.invokevirtual 237, 3)))) ∧ (((decode cX12_readPart 74 = .ok (.return_, 1) ∧ decode cX12_readPart 75 = .ok (.aload_n 0, 1)) ∧ (decode cX12_readPart 76 = .ok (.bipush 40, 2) ∧ decode cX12_readPart 78 = .ok (.invokevirtual 257, 3))) ∧ ((decode cX12_readPart 81 = .ok (.aload_n 0, 1) ∧ decode cX12_readPart 82 = .ok (.iload_n 1, 1)) ∧ (decode cX12_readPart 83 = .ok (.iconst 1, 1) ∧ decode cX12_readPart 84 = .ok (.iadd, 1)))) := by decide +kernel
theorem dX12_readPart_58 : decode cX12_readPart 58 = .ok (.iload_n 2, 1) := bg00_57.1.1.1.1
theorem dX12_readPart_59 : decode cX12_readPart 59 = .ok (.isub, 1) := bg00_57.1.1.1.2
theorem dX12_readPart_60 : decode cX12_readPart 60 = .ok (.invokevirtual 250, 3) := bg00_57.1.1.2.1
theorem dX12_readPart_63 : decode cX12_readPart 63 = .ok (.aload_n 0, 1) := bg00_57.1.1.2.2
theorem dX12_readPart_64 : decode cX12_readPart 64 = .ok (.getfield 212, 3) := bg00_57.1.2.1.1
theorem dX12_readPart_67 : decode cX12_readPart 67 = .ok (.ifCond .ne 7, 3) := bg00_57.1.2.1.2
theorem dX12_readPart_70 : decode cX12_readPart 70 = .ok (.aload_n 0, 1) := bg00_57.1.2.2.1
theorem dX12_readPart_71 : decode cX12_readPart 71 = .ok (.invokevirtual 237, 3) := bg00_57.1.2.2.2
theorem dX12_readPart_74 : decode cX12_readPart 74 = .ok (.return_, 1) := bg00_57.2.1.1.1
theorem dX12_readPart_75 : decode cX12_readPart 75 = .ok (.aload_n 0, 1) := bg00_57.2.1.1.2
theorem dX12_readPart_76 : decode cX12_readPart 76 = .ok (.bipush 40, 2) := bg00_57.2.1.2.1
theorem dX12_readPart_78 : decode cX12_readPart 78 = .ok (.invokevirtual 257, 3) := bg00_57.2.1.2.2
theorem dX12_readPart_81 : decode cX12_readPart 81 = .ok (.aload_n 0, 1) := bg00_57.2.2.1.1
theorem dX12_readPart_82 : decode cX12_readPart 82 = .ok (.iload_n 1, 1) := bg00_57.2.2.1.2
theorem dX12_readPart_83 : decode cX12_readPart 83 = .ok (.iconst 1, 1) := bg00_57.2.2.2.1
theorem dX12_readPart_84 : decode cX12_readPart 84 = .ok (.iadd, 1) := bg00_57.2.2.2.2
theorem bg00_58 : ((decode cX12_readPart 85 = .ok (.invokevirtual 260, 3) ∧ decode cX12_readPart 88 = .ok (.aload_n 0, 1)) ∧ (decode cX12_readPart 89 = .ok (.bipush 41, 2) ∧ decode cX12_readPart 91 = .ok (.invokevirtual 257, 3))) ∧ ((decode cX12_readPart 94 = .ok (.return_, 1) ∧ decode cX12_readProduct 0 = .ok (.aload_n 0, 1)) ∧ (decode cX12_readProduct 1 = .ok (.iload_n 1, 1) ∧ decode cX12_readProduct 2 = .ok (.invokevirtual 263, 3))) := by decide +kernel
theorem dX12_readPart_85 : decode cX12_readPart 85 = .ok (.invokevirtual 260, 3) := bg00_58.1.1.1
theorem dX12_readPart_88 : decode cX12_readPart 88 = .ok (.aload_n 0, 1) := bg00_58.1.1.2
theorem dX12_readPart_89 : decode cX12_readPart 89 = .ok (.bipush 41, 2) := bg00_58.1.2.1
theorem dX12_readPart_91 : decode cX12_readPart 91 = .ok (.invokevirtual 257, 3) := bg00_58.1.2.2
theorem dX12_readPart_94 : decode cX12_readPart 94 = .ok (.return_, 1) := bg00_58.2.1.1
theorem dX12_readProduct_0 : decode cX12_readProduct 0 = .ok (.aload_n 0, 1) := bg00_58.2.1.2
theorem dX12_readProduct_1 : decode cX12_readProduct 1 = .ok (.iload_n 1, 1) := bg00_58.2.2.1
theorem dX12_readProduct_2 : decode cX12_readProduct 2 = .ok (.invokevirtual 263, 3) := bg00_58.2.2.2
theorem bg00_59 : (((decode cX12_readProduct 5 = .ok (.aload_n 0, 1) ∧ decode cX12_readProduct 6 = .ok (.bipush 42, 2)) ∧ (decode cX12_readProduct 8 = .ok (.invokevirtual 230, 3) ∧ decode cX12_readProduct 11 = .ok (.ifCond .ne 12, 3))) ∧ ((decode cX12_readProduct 14 = .ok (.aload_n 0, 1) ∧ decode cX12_readProduct 15 = .ok (.bipush 47, 2)) ∧ (decode cX12_readProduct 17 = .ok (.invokevirtual 230, 3) ∧ decode cX12_readProduct 20 = .ok (.ifCond .eq 37, 3)))) ∧ (((decode cX12_readProduct 23 = .ok (.aload_n 0, 1) ∧ decode cX12_readProduct 24 = .ok (.bipush 42, 2)) ∧ (decode cX12_readProduct 26 = .ok (.invokevirtual 230, 3) ∧ decode cX12_readProduct 29 = .ok (.ifCond .eq 8, 3))) ∧ ((decode cX12_readProduct 32 = .ok (.bipush (-22), 2) ∧ decode cX12_readProduct 34 = .ok (.goto 5, 3)) ∧ (decode cX12_readProduct 37 = .ok (.bipush (-23), 2) ∧ decode cX12_readProduct 39 = .ok (.istore_n 2, 1)))) := by decide +kernel
theorem dX12_readProduct_5 : decode cX12_readProduct 5 = .ok (.aload_n 0, 1) := bg00_59.1.1.1.1
theorem dX12_readProduct_6 : decode cX12_readProduct 6 = .ok (.bipush 42, 2) := bg00_59.1.1.1.2
theorem dX12_readProduct_8 : decode cX12_readProduct 8 = .ok (.invokevirtual 230, 3) := bg00_59.1.1.2.1
theorem dX12_readProduct_11 : decode cX12_readProduct 11 = .ok (.ifCond .ne 12, 3) := bg00_59.1.1.2.2
theorem dX12_readProduct_14 : decode cX12_readProduct 14 = .ok (.aload_n 0, 1) := bg00_59.1.2.1.1
theorem dX12_readProduct_15 : decode cX12_readProduct 15 = .ok (.bipush 47, 2) := bg00_59.1.2.1.2
theorem dX12_readProduct_17 : decode cX12_readProduct 17 = .ok (.invokevirtual 230, 3) := bg00_59.1.2.2.1
theorem dX12_readProduct_20 : decode cX12_readProduct 20 = .ok (.ifCond .eq 37, 3) := bg00_59.1.2.2.2
theorem dX12_readProduct_23 : decode cX12_readProduct 23 = .ok (.aload_n 0, 1) := bg00_59.2.1.1.1
theorem dX12_readProduct_24 : decode cX12_readProduct 24 = .ok (.bipush 42, 2) := bg00_59.2.1.1.2
theorem dX12_readProduct_26 : decode cX12_readProduct 26 = .ok (.invokevirtual 230, 3) := bg00_59.2.1.2.1
theorem dX12_readProduct_29 : decode cX12_readProduct 29 = .ok (.ifCond .eq 8, 3) := bg00_59.2.1.2.2
theorem dX12_readProduct_32 : decode cX12_readProduct 32 = .ok (.bipush (-22), 2) := bg00_59.2.2.1.1
theorem dX12_readProduct_34 : decode cX12_readProduct 34 = .ok (.goto 5, 3) := bg00_59.2.2.1.2
theorem dX12_readProduct_37 : decode cX12_readProduct 37 = .ok (.bipush (-23), 2) := bg00_59.2.2.2.1
theorem dX12_readProduct_39 : decode cX12_readProduct 39 = .ok (.istore_n 2, 1) := bg00_59.2.2.2.2
theorem bg00_60 : (((decode cX12_readProduct 40 = .ok (.aload_n 0, 1) ∧ decode cX12_readProduct 41 = .ok (.invokevirtual 237, 3)) ∧ (decode cX12_readProduct 44 = .ok (.aload_n 0, 1))) ∧ (decode cX12_readProduct 45 = .ok (.iload_n 1, 1) ∧ decode cX12_readProduct 46 = .ok (.invokevirtual 263, 3))) ∧ (((decode cX12_readProduct 49 = .ok (.aload_n 0, 1) ∧ decode cX12_readProduct 50 = .ok (.iload_n 2, 1)) ∧ (decode cX12_readProduct 51 = .ok (.invokevirtual 250, 3))) ∧ (decode cX12_readProduct 54 = .ok (.goto (-49), 3) ∧ decode cX12_readProduct 57 = .ok (.return_, 1))) := by decide +kernel
theorem dX12_readProduct_40 : decode cX12_readProduct 40 = .ok (.aload_n 0, 1) := bg00_60.1.1.1.1
theorem dX12_readProduct_41 : decode cX12_readProduct 41 = .ok (.invokevirtual 237, 3) := bg00_60.1.1.1.2
theorem dX12_readProduct_44 : decode cX12_readProduct 44 = .ok (.aload_n 0, 1) := bg00_60.1.1.2
theorem dX12_readProduct_45 : decode cX12_readProduct 45 = .ok (.iload_n 1, 1) := bg00_60.1.2.1
theorem dX12_readProduct_46 : decode cX12_readProduct 46 = .ok (.invokevirtual 263, 3) := bg00_60.1.2.2
theorem dX12_readProduct_49 : decode cX12_readProduct 49 = .ok (.aload_n 0, 1) := bg00_60.2.1.1.1
theorem dX12_readProduct_50 : decode cX12_readProduct 50 = .ok (.iload_n 2, 1) := bg00_60.2.1.1.2
theorem dX12_readProduct_51 : decode cX12_readProduct 51 = .ok (.invokevirtual 250, 3) := bg00_60.2.1.2
theorem dX12_readProduct_54 : decode cX12_readProduct 54 = .ok (.goto (-49), 3) := bg00_60.2.2.1
theorem dX12_readProduct_57 : decode cX12_readProduct 57 = .ok (.return_, 1) := bg00_60.2.2.2
theorem bg00_61 : (((decode cX12_readSum 0 = .ok (.aload_n 0, 1) ∧ decode cX12_readSum 1 = .ok (.iload_n 1, 1)) ∧ (decode cX12_readSum 2 = .ok (.invokevirtual 266, 3) ∧ decode cX12_readSum 5 = .ok (.aload_n 0, 1))) ∧ ((decode cX12_readSum 6 = .ok (.bipush 43, 2) ∧ decode cX12_readSum 8 = .ok (.invokevirtual 230, 3)) ∧ (decode cX12_readSum 11 = .ok (.ifCond .ne 12, 3) ∧ decode cX12_readSum 14 = .ok (.aload_n 0, 1)))) ∧ (((decode cX12_readSum 15 = .ok (.bipush 45, 2) ∧ decode cX12_readSum 17 = .ok (.invokevirtual 230, 3)) ∧ (decode cX12_readSum 20 = .ok (.ifCond .eq 37, 3) ∧ decode cX12_readSum 23 = .ok (.aload_n 0, 1))) ∧ ((decode cX12_readSum 24 = .ok (.bipush 43, 2) ∧ decode cX12_readSum 26 = .ok (.invokevirtual 230, 3)) ∧ (decode cX12_readSum 29 = .ok (.ifCond .eq 8, 3) ∧ decode cX12_readSum 32 = .ok (.bipush (-20), 2)))) := by decide +kernel
theorem dX12_readSum_0 : decode cX12_readSum 0 = .ok (.aload_n 0, 1) := bg00_61.1.1.1.1
theorem dX12_readSum_1 : decode cX12_readSum 1 = .ok (.iload_n 1, 1) := bg00_61.1.1.1.2
theorem dX12_readSum_2 : decode cX12_readSum 2 = .ok (.invokevirtual 266, 3) := bg00_61.1.1.2.1
theorem dX12_readSum_5 : decode cX12_readSum 5 = .ok (.aload_n 0, 1) := bg00_61.1.1.2.2
theorem dX12_readSum_6 : decode cX12_readSum 6 = .ok (.bipush 43, 2) := bg00_61.1.2.1.1
theorem dX12_readSum_8 : decode cX12_readSum 8 = .ok (.invokevirtual 230, 3) := bg00_61.1.2.1.2
theorem dX12_readSum_11 : decode cX12_readSum 11 = .ok (.ifCond .ne 12, 3) := bg00_61.1.2.2.1
theorem dX12_readSum_14 : decode cX12_readSum 14 = .ok (.aload_n 0, 1) := bg00_61.1.2.2.2
theorem dX12_readSum_15 : decode cX12_readSum 15 = .ok (.bipush 45, 2) := bg00_61.2.1.1.1
theorem dX12_readSum_17 : decode cX12_readSum 17 = .ok (.invokevirtual 230, 3) := bg00_61.2.1.1.2
theorem dX12_readSum_20 : decode cX12_readSum 20 = .ok (.ifCond .eq 37, 3) := bg00_61.2.1.2.1
theorem dX12_readSum_23 : decode cX12_readSum 23 = .ok (.aload_n 0, 1) := bg00_61.2.1.2.2
theorem dX12_readSum_24 : decode cX12_readSum 24 = .ok (.bipush 43, 2) := bg00_61.2.2.1.1
theorem dX12_readSum_26 : decode cX12_readSum 26 = .ok (.invokevirtual 230, 3) := bg00_61.2.2.1.2
theorem dX12_readSum_29 : decode cX12_readSum 29 = .ok (.ifCond .eq 8, 3) := bg00_61.2.2.2.1
theorem dX12_readSum_32 : decode cX12_readSum 32 = .ok (.bipush (-20), 2) := bg00_61.2.2.2.2
theorem bg00_62 : (((decode cX12_readSum 34 = .ok (.goto 5, 3) ∧ decode cX12_readSum 37 = .ok (.bipush (-21), 2)) ∧ (decode cX12_readSum 39 = .ok (.istore_n 2, 1) ∧ decode cX12_readSum 40 = .ok (.aload_n 0, 1))) ∧ ((decode cX12_readSum 41 = .ok (.invokevirtual 237, 3) ∧ decode cX12_readSum 44 = .ok (.aload_n 0, 1)) ∧ (decode cX12_readSum 45 = .ok (.iload_n 1, 1)))) ∧ (((decode cX12_readSum 46 = .ok (.invokevirtual 266, 3) ∧ decode cX12_readSum 49 = .ok (.aload_n 0, 1)) ∧ (decode cX12_readSum 50 = .ok (.iload_n 2, 1))) ∧ ((decode cX12_readSum 51 = .ok (.invokevirtual 250, 3) ∧ decode cX12_readSum 54 = .ok (.goto (-49), 3)) ∧ (decode cX12_readSum 57 = .ok (.return_, 1)))) := by decide +kernel
theorem dX12_readSum_34 : decode cX12_readSum 34 = .ok (.goto 5, 3) := bg00_62.1.1.1.1
theorem dX12_readSum_37 : decode cX12_readSum 37 = .ok (.bipush (-21), 2) := bg00_62.1.1.1.2
theorem dX12_readSum_39 : decode cX12_readSum 39 = .ok (.istore_n 2, 1) := bg00_62.1.1.2.1
theorem dX12_readSum_40 : decode cX12_readSum 40 = .ok (.aload_n 0, 1) := bg00_62.1.1.2.2
theorem dX12_readSum_41 : decode cX12_readSum 41 = .ok (.invokevirtual 237, 3) := bg00_62.1.2.1.1
theorem dX12_readSum_44 : decode cX12_readSum 44 = .ok (.aload_n 0, 1) := bg00_62.1.2.1.2
theorem dX12_readSum_45 : decode cX12_readSum 45 = .ok (.iload_n 1, 1) := bg00_62.1.2.2
theorem dX12_readSum_46 : decode cX12_readSum 46 = .ok (.invokevirtual 266, 3) := bg00_62.2.1.1.1
theorem dX12_readSum_49 : decode cX12_readSum 49 = .ok (.aload_n 0, 1) := bg00_62.2.1.1.2
theorem dX12_readSum_50 : decode cX12_readSum 50 = .ok (.iload_n 2, 1) := bg00_62.2.1.2
theorem dX12_readSum_51 : decode cX12_readSum 51 = .ok (.invokevirtual 250, 3) := bg00_62.2.2.1.1
theorem dX12_readSum_54 : decode cX12_readSum 54 = .ok (.goto (-49), 3) := bg00_62.2.2.1.2
theorem dX12_readSum_57 : decode cX12_readSum 57 = .ok (.return_, 1) := bg00_62.2.2.2
theorem bg00_63 : (((decode cX12_readNot 0 = .ok (.iconst 0, 1) ∧ decode cX12_readNot 1 = .ok (.istore_n 2, 1)) ∧ (decode cX12_readNot 2 = .ok (.aload_n 0, 1) ∧ decode cX12_readNot 3 = .ok (.ldc_w 269, 3))) ∧ ((decode cX12_readNot 6 = .ok (.invokevirtual 226, 3) ∧ decode cX12_readNot 9 = .ok (.ifCond .eq 31, 3)) ∧ (decode cX12_readNot 12 = .ok (.iload_n 2, 1) ∧ decode cX12_readNot 13 = .ok (.bipush 6, 2)))) ∧ (((decode cX12_readNot 15 = .ok (.if_icmp .ne 8, 3) ∧ decode cX12_readNot 18 = .ok (.aload_n 0, 1)) ∧ (decode cX12_readNot 19 = .ok (.iconst 2, 1) ∧ decode cX12_readNot 20 = .ok (.invokevirtual 233, 3))) ∧ ((decode cX12_readNot 23 = .ok (.iinc 2 1, 3) ∧ decode cX12_readNot 26 = .ok (.aload_n 0, 1)) ∧ (decode cX12_readNot 27 = .ok (.getfield 212, 3) ∧ decode cX12_readNot 30 = .ok (.ifCond .ne (-28), 3)))) := by decide +kernel
theorem dX12_readNot_0 : decode cX12_readNot 0 = .ok (.iconst 0, 1) := bg00_63.1.1.1.1
theorem dX12_readNot_1 : decode cX12_readNot 1 = .ok (.istore_n 2, 1) := bg00_63.1.1.1.2
theorem dX12_readNot_2 : decode cX12_readNot 2 = .ok (.aload_n 0, 1) := bg00_63.1.1.2.1
theorem dX12_readNot_3 : decode cX12_readNot 3 = .ok (.ldc_w 269, 3) := bg00_63.1.1.2.2
theorem dX12_readNot_6 : decode cX12_readNot 6 = .ok (.invokevirtual 226, 3) := bg00_63.1.2.1.1
theorem dX12_readNot_9 : decode cX12_readNot 9 = .ok (.ifCond .eq 31, 3) := bg00_63.1.2.1.2
theorem dX12_readNot_12 : decode cX12_readNot 12 = .ok (.iload_n 2, 1) := bg00_63.1.2.2.1
theorem dX12_readNot_13 : decode cX12_readNot 13 = .ok (.bipush 6, 2) := bg00_63.1.2.2.2
theorem dX12_readNot_15 : decode cX12_readNot 15 = .ok (.if_icmp .ne 8, 3) := bg00_63.2.1.1.1
theorem dX12_readNot_18 : decode cX12_readNot 18 = .ok (.aload_n 0, 1) := bg00_63.2.1.1.2
theorem dX12_readNot_19 : decode cX12_readNot 19 = .ok (.iconst 2, 1) := bg00_63.2.1.2.1
theorem dX12_readNot_20 : decode cX12_readNot 20 = .ok (.invokevirtual 233, 3) := bg00_63.2.1.2.2
theorem dX12_readNot_23 : decode cX12_readNot 23 = .ok (.iinc 2 1, 3) := bg00_63.2.2.1.1
theorem dX12_readNot_26 : decode cX12_readNot 26 = .ok (.aload_n 0, 1) := bg00_63.2.2.1.2
theorem dX12_readNot_27 : decode cX12_readNot 27 = .ok (.getfield 212, 3) := bg00_63.2.2.2.1
theorem dX12_readNot_30 : decode cX12_readNot 30 = .ok (.ifCond .ne (-28), 3) := bg00_63.2.2.2.2
theorem bg00_64 : (((decode cX12_readNot 33 = .ok (.aload_n 0, 1) ∧ decode cX12_readNot 34 = .ok (.invokevirtual 237, 3)) ∧ (decode cX12_readNot 37 = .ok (.goto (-35), 3) ∧ decode cX12_readNot 40 = .ok (.aload_n 0, 1))) ∧ ((decode cX12_readNot 41 = .ok (.iload_n 1, 1) ∧ decode cX12_readNot 42 = .ok (.invokevirtual 271, 3)) ∧ (decode cX12_readNot 45 = .ok (.aload_n 0, 1) ∧ decode cX12_readNot 46 = .ok (.bipush 60, 2)))) ∧ (((decode cX12_readNot 48 = .ok (.invokevirtual 230, 3) ∧ decode cX12_readNot 51 = .ok (.ifCond .ne 12, 3)) ∧ (decode cX12_readNot 54 = .ok (.aload_n 0, 1) ∧ decode cX12_readNot 55 = .ok (.bipush 61, 2))) ∧ ((decode cX12_readNot 57 = .ok (.invokevirtual 230, 3) ∧ decode cX12_readNot 60 = .ok (.ifCond .eq 34, 3)) ∧ (decode cX12_readNot 63 = .ok (.aload_n 0, 1) ∧ decode cX12_readNot 64 = .ok (.bipush 60, 2)))) := by decide +kernel
theorem dX12_readNot_33 : decode cX12_readNot 33 = .ok (.aload_n 0, 1) := bg00_64.1.1.1.1
theorem dX12_readNot_34 : decode cX12_readNot 34 = .ok (.invokevirtual 237, 3) := bg00_64.1.1.1.2
theorem dX12_readNot_37 : decode cX12_readNot 37 = .ok (.goto (-35), 3) := bg00_64.1.1.2.1
theorem dX12_readNot_40 : decode cX12_readNot 40 = .ok (.aload_n 0, 1) := bg00_64.1.1.2.2
theorem dX12_readNot_41 : decode cX12_readNot 41 = .ok (.iload_n 1, 1) := bg00_64.1.2.1.1
theorem dX12_readNot_42 : decode cX12_readNot 42 = .ok (.invokevirtual 271, 3) := bg00_64.1.2.1.2
theorem dX12_readNot_45 : decode cX12_readNot 45 = .ok (.aload_n 0, 1) := bg00_64.1.2.2.1
theorem dX12_readNot_46 : decode cX12_readNot 46 = .ok (.bipush 60, 2) := bg00_64.1.2.2.2
theorem dX12_readNot_48 : decode cX12_readNot 48 = .ok (.invokevirtual 230, 3) := bg00_64.2.1.1.1
theorem dX12_readNot_51 : decode cX12_readNot 51 = .ok (.ifCond .ne 12, 3) := bg00_64.2.1.1.2
theorem dX12_readNot_54 : decode cX12_readNot 54 = .ok (.aload_n 0, 1) := bg00_64.2.1.2.1
theorem dX12_readNot_55 : decode cX12_readNot 55 = .ok (.bipush 61, 2) := bg00_64.2.1.2.2
theorem dX12_readNot_57 : decode cX12_readNot 57 = .ok (.invokevirtual 230, 3) := bg00_64.2.2.1.1
theorem dX12_readNot_60 : decode cX12_readNot 60 = .ok (.ifCond .eq 34, 3) := bg00_64.2.2.1.2
theorem dX12_readNot_63 : decode cX12_readNot 63 = .ok (.aload_n 0, 1) := bg00_64.2.2.2.1
theorem dX12_readNot_64 : decode cX12_readNot 64 = .ok (.bipush 60, 2) := bg00_64.2.2.2.2
theorem bg00_65 : (((decode cX12_readNot 66 = .ok (.invokevirtual 230, 3) ∧ decode cX12_readNot 69 = .ok (.ifCond .eq 8, 3)) ∧ (decode cX12_readNot 72 = .ok (.bipush (-24), 2) ∧ decode cX12_readNot 74 = .ok (.goto 5, 3))) ∧ ((decode cX12_readNot 77 = .ok (.bipush (-25), 2) ∧ decode cX12_readNot 79 = .ok (.istore_n 3, 1)) ∧ (decode cX12_readNot 80 = .ok (.aload_n 0, 1) ∧ decode cX12_readNot 81 = .ok (.invokevirtual 237, 3)))) ∧ (((decode cX12_readNot 84 = .ok (.aload_n 0, 1) ∧ decode cX12_readNot 85 = .ok (.iload_n 1, 1)) ∧ (decode cX12_readNot 86 = .ok (.invokevirtual 271, 3) ∧ decode cX12_readNot 89 = .ok (.aload_n 0, 1))) ∧ ((decode cX12_readNot 90 = .ok (.iload_n 3, 1) ∧ decode cX12_readNot 91 = .ok (.invokevirtual 250, 3)) ∧ (decode cX12_readNot 94 = .ok (.iconst 0, 1) ∧ decode cX12_readNot 95 = .ok (.istore_n 3, 1)))) := by decide +kernel
theorem dX12_readNot_66 : decode cX12_readNot 66 = .ok (.invokevirtual 230, 3) := bg00_65.1.1.1.1
theorem dX12_readNot_69 : decode cX12_readNot 69 = .ok (.ifCond .eq 8, 3) := bg00_65.1.1.1.2
theorem dX12_readNot_72 : decode cX12_readNot 72 = .ok (.bipush (-24), 2) := bg00_65.1.1.2.1
theorem dX12_readNot_74 : decode cX12_readNot 74 = .ok (.goto 5, 3) := bg00_65.1.1.2.2
theorem dX12_readNot_77 : decode cX12_readNot 77 = .ok (.bipush (-25), 2) := bg00_65.1.2.1.1
theorem dX12_readNot_79 : decode cX12_readNot 79 = .ok (.istore_n 3, 1) := bg00_65.1.2.1.2
theorem dX12_readNot_80 : decode cX12_readNot 80 = .ok (.aload_n 0, 1) := bg00_65.1.2.2.1
theorem dX12_readNot_81 : decode cX12_readNot 81 = .ok (.invokevirtual 237, 3) := bg00_65.1.2.2.2
theorem dX12_readNot_84 : decode cX12_readNot 84 = .ok (.aload_n 0, 1) := bg00_65.2.1.1.1
theorem dX12_readNot_85 : decode cX12_readNot 85 = .ok (.iload_n 1, 1) := bg00_65.2.1.1.2
theorem dX12_readNot_86 : decode cX12_readNot 86 = .ok (.invokevirtual 271, 3) := bg00_65.2.1.2.1
theorem dX12_readNot_89 : decode cX12_readNot 89 = .ok (.aload_n 0, 1) := bg00_65.2.1.2.2
theorem dX12_readNot_90 : decode cX12_readNot 90 = .ok (.iload_n 3, 1) := bg00_65.2.2.1.1
theorem dX12_readNot_91 : decode cX12_readNot 91 = .ok (.invokevirtual 250, 3) := bg00_65.2.2.1.2
theorem dX12_readNot_94 : decode cX12_readNot 94 = .ok (.iconst 0, 1) := bg00_65.2.2.2.1
theorem dX12_readNot_95 : decode cX12_readNot 95 = .ok (.istore_n 3, 1) := bg00_65.2.2.2.2
theorem bg00_66 : (((decode cX12_readNot 96 = .ok (.iload_n 3, 1) ∧ decode cX12_readNot 97 = .ok (.iload_n 2, 1)) ∧ (decode cX12_readNot 98 = .ok (.if_icmp .ge 15, 3))) ∧ (decode cX12_readNot 101 = .ok (.aload_n 0, 1) ∧ decode cX12_readNot 102 = .ok (.bipush (-28), 2))) ∧ ((decode cX12_readNot 104 = .ok (.invokevirtual 250, 3) ∧ decode cX12_readNot 107 = .ok (.iinc 3 1, 3)) ∧ (decode cX12_readNot 110 = .ok (.goto (-14), 3) ∧ decode cX12_readNot 113 = .ok (.return_, 1))) := by decide +kernel
theorem dX12_readNot_96 : decode cX12_readNot 96 = .ok (.iload_n 3, 1) := bg00_66.1.1.1.1
theorem dX12_readNot_97 : decode cX12_readNot 97 = .ok (.iload_n 2, 1) := bg00_66.1.1.1.2
theorem dX12_readNot_98 : decode cX12_readNot 98 = .ok (.if_icmp .ge 15, 3) := bg00_66.1.1.2
theorem dX12_readNot_101 : decode cX12_readNot 101 = .ok (.aload_n 0, 1) := bg00_66.1.2.1
theorem dX12_readNot_102 : decode cX12_readNot 102 = .ok (.bipush (-28), 2) := bg00_66.1.2.2
theorem dX12_readNot_104 : decode cX12_readNot 104 = .ok (.invokevirtual 250, 3) := bg00_66.2.1.1
theorem dX12_readNot_107 : decode cX12_readNot 107 = .ok (.iinc 3 1, 3) := bg00_66.2.1.2
theorem dX12_readNot_110 : decode cX12_readNot 110 = .ok (.goto (-14), 3) := bg00_66.2.2.1
theorem dX12_readNot_113 : decode cX12_readNot 113 = .ok (.return_, 1) := bg00_66.2.2.2
theorem bg00_67 : (((decode cX12_readAnd 0 = .ok (.aload_n 0, 1) ∧ decode cX12_readAnd 1 = .ok (.iload_n 1, 1)) ∧ (decode cX12_readAnd 2 = .ok (.invokevirtual 274, 3) ∧ decode cX12_readAnd 5 = .ok (.aload_n 0, 1))) ∧ ((decode cX12_readAnd 6 = .ok (.ldc_w 277, 3) ∧ decode cX12_readAnd 9 = .ok (.invokevirtual 226, 3)) ∧ (decode cX12_readAnd 12 = .ok (.ifCond .eq 21, 3) ∧ decode cX12_readAnd 15 = .ok (.aload_n 0, 1)))) ∧ (((decode cX12_readAnd 16 = .ok (.invokevirtual 237, 3) ∧ decode cX12_readAnd 19 = .ok (.aload_n 0, 1)) ∧ (decode cX12_readAnd 20 = .ok (.iload_n 1, 1) ∧ decode cX12_readAnd 21 = .ok (.invokevirtual 274, 3))) ∧ ((decode cX12_readAnd 24 = .ok (.aload_n 0, 1) ∧ decode cX12_readAnd 25 = .ok (.bipush (-26), 2)) ∧ (decode cX12_readAnd 27 = .ok (.invokevirtual 250, 3) ∧ decode cX12_readAnd 30 = .ok (.goto (-25), 3)))) := by decide +kernel
theorem dX12_readAnd_0 : decode cX12_readAnd 0 = .ok (.aload_n 0, 1) := bg00_67.1.1.1.1
theorem dX12_readAnd_1 : decode cX12_readAnd 1 = .ok (.iload_n 1, 1) := bg00_67.1.1.1.2
theorem dX12_readAnd_2 : decode cX12_readAnd 2 = .ok (.invokevirtual 274, 3) := bg00_67.1.1.2.1
theorem dX12_readAnd_5 : decode cX12_readAnd 5 = .ok (.aload_n 0, 1) := bg00_67.1.1.2.2
theorem dX12_readAnd_6 : decode cX12_readAnd 6 = .ok (.ldc_w 277, 3) := bg00_67.1.2.1.1
theorem dX12_readAnd_9 : decode cX12_readAnd 9 = .ok (.invokevirtual 226, 3) := bg00_67.1.2.1.2
theorem dX12_readAnd_12 : decode cX12_readAnd 12 = .ok (.ifCond .eq 21, 3) := bg00_67.1.2.2.1
theorem dX12_readAnd_15 : decode cX12_readAnd 15 = .ok (.aload_n 0, 1) := bg00_67.1.2.2.2
theorem dX12_readAnd_16 : decode cX12_readAnd 16 = .ok (.invokevirtual 237, 3) := bg00_67.2.1.1.1
theorem dX12_readAnd_19 : decode cX12_readAnd 19 = .ok (.aload_n 0, 1) := bg00_67.2.1.1.2
theorem dX12_readAnd_20 : decode cX12_readAnd 20 = .ok (.iload_n 1, 1) := bg00_67.2.1.2.1
theorem dX12_readAnd_21 : decode cX12_readAnd 21 = .ok (.invokevirtual 274, 3) := bg00_67.2.1.2.2
theorem dX12_readAnd_24 : decode cX12_readAnd 24 = .ok (.aload_n 0, 1) := bg00_67.2.2.1.1
theorem dX12_readAnd_25 : decode cX12_readAnd 25 = .ok (.bipush (-26), 2) := bg00_67.2.2.1.2
theorem dX12_readAnd_27 : decode cX12_readAnd 27 = .ok (.invokevirtual 250, 3) := bg00_67.2.2.2.1
theorem dX12_readAnd_30 : decode cX12_readAnd 30 = .ok (.goto (-25), 3) := bg00_67.2.2.2.2
theorem bg00_68 : ((decode cX12_readAnd 33 = .ok (.return_, 1) ∧ decode cX12_readExpression 0 = .ok (.aload_n 0, 1)) ∧ (decode cX12_readExpression 1 = .ok (.getfield 212, 3) ∧ decode cX12_readExpression 4 = .ok (.ifCond .eq 4, 3))) ∧ ((decode cX12_readExpression 7 = .ok (.return_, 1) ∧ decode cX12_readExpression 8 = .ok (.aload_n 0, 1)) ∧ (decode cX12_readExpression 9 = .ok (.getfield 186, 3) ∧ decode cX12_readExpression 12 = .ok (.iconst 2, 1))) := by decide +kernel
theorem dX12_readAnd_33 : decode cX12_readAnd 33 = .ok (.return_, 1) := bg00_68.1.1.1
theorem dX12_readExpression_0 : decode cX12_readExpression 0 = .ok (.aload_n 0, 1) := bg00_68.1.1.2
theorem dX12_readExpression_1 : decode cX12_readExpression 1 = .ok (.getfield 212, 3) := bg00_68.1.2.1
theorem dX12_readExpression_4 : decode cX12_readExpression 4 = .ok (.ifCond .eq 4, 3) := bg00_68.1.2.2
theorem dX12_readExpression_7 : decode cX12_readExpression 7 = .ok (.return_, 1) := bg00_68.2.1.1
theorem dX12_readExpression_8 : decode cX12_readExpression 8 = .ok (.aload_n 0, 1) := bg00_68.2.1.2
theorem dX12_readExpression_9 : decode cX12_readExpression 9 = .ok (.getfield 186, 3) := bg00_68.2.2.1
theorem dX12_readExpression_12 : decode cX12_readExpression 12 = .ok (.iconst 2, 1) := bg00_68.2.2.2
theorem bg00_69 : (((decode cX12_readExpression 13 = .ok (.if_icmp .eq 20, 3) ∧ decode cX12_readExpression 16 = .ok (.aload_n 0, 1)) ∧ (decode cX12_readExpression 17 = .ok (.getfield 186, 3) ∧ decode cX12_readExpression 20 = .ok (.iconst 1, 1))) ∧ ((decode cX12_readExpression 21 = .ok (.if_icmp .eq 12, 3) ∧ decode cX12_readExpression 24 = .ok (.aload_n 0, 1)) ∧ (decode cX12_readExpression 25 = .ok (.bipush 40, 2) ∧ decode cX12_readExpression 27 = .ok (.invokevirtual 230, 3)))) ∧ (((decode cX12_readExpression 30 = .ok (.ifCond .eq 7, 3) ∧ decode cX12_readExpression 33 = .ok (.iconst 1, 1)) ∧ (decode cX12_readExpression 34 = .ok (.goto 4, 3) ∧ decode cX12_readExpression 37 = .ok (.iconst 0, 1))) ∧ ((decode cX12_readExpression 38 = .ok (.istore_n 2, 1) ∧ decode cX12_readExpression 39 = .ok (.iload_n 2, 1)) ∧ (decode cX12_readExpression 40 = .ok (.ifCond .ne 11, 3) ∧ decode cX12_readExpression 43 = .ok (.aload_n 0, 1)))) := by decide +kernel
theorem dX12_readExpression_13 : decode cX12_readExpression 13 = .ok (.if_icmp .eq 20, 3) := bg00_69.1.1.1.1
theorem dX12_readExpression_16 : decode cX12_readExpression 16 = .ok (.aload_n 0, 1) := bg00_69.1.1.1.2
theorem dX12_readExpression_17 : decode cX12_readExpression 17 = .ok (.getfield 186, 3) := bg00_69.1.1.2.1
theorem dX12_readExpression_20 : decode cX12_readExpression 20 = .ok (.iconst 1, 1) := bg00_69.1.1.2.2
theorem dX12_readExpression_21 : decode cX12_readExpression 21 = .ok (.if_icmp .eq 12, 3) := bg00_69.1.2.1.1
theorem dX12_readExpression_24 : decode cX12_readExpression 24 = .ok (.aload_n 0, 1) := bg00_69.1.2.1.2
theorem dX12_readExpression_25 : decode cX12_readExpression 25 = .ok (.bipush 40, 2) := bg00_69.1.2.2.1
theorem dX12_readExpression_27 : decode cX12_readExpression 27 = .ok (.invokevirtual 230, 3) := bg00_69.1.2.2.2
theorem dX12_readExpression_30 : decode cX12_readExpression 30 = .ok (.ifCond .eq 7, 3) := bg00_69.2.1.1.1
theorem dX12_readExpression_33 : decode cX12_readExpression 33 = .ok (.iconst 1, 1) := bg00_69.2.1.1.2
theorem dX12_readExpression_34 : decode cX12_readExpression 34 = .ok (.goto 4, 3) := bg00_69.2.1.2.1
theorem dX12_readExpression_37 : decode cX12_readExpression 37 = .ok (.iconst 0, 1) := bg00_69.2.1.2.2
theorem dX12_readExpression_38 : decode cX12_readExpression 38 = .ok (.istore_n 2, 1) := bg00_69.2.2.1.1
theorem dX12_readExpression_39 : decode cX12_readExpression 39 = .ok (.iload_n 2, 1) := bg00_69.2.2.1.2
theorem dX12_readExpression_40 : decode cX12_readExpression 40 = .ok (.ifCond .ne 11, 3) := bg00_69.2.2.2.1
theorem dX12_readExpression_43 : decode cX12_readExpression 43 = .ok (.aload_n 0, 1) := bg00_69.2.2.2.2
theorem bg00_70 : (((decode cX12_readExpression 44 = .ok (.iconst 1, 1) ∧ decode cX12_readExpression 45 = .ok (.invokevirtual 233, 3)) ∧ (decode cX12_readExpression 48 = .ok (.goto 14, 3) ∧ decode cX12_readExpression 51 = .ok (.iload_n 1, 1))) ∧ ((decode cX12_readExpression 52 = .ok (.bipush 6, 2) ∧ decode cX12_readExpression 54 = .ok (.if_icmp .ne 8, 3)) ∧ (decode cX12_readExpression 57 = .ok (.aload_n 0, 1) ∧ decode cX12_readExpression 58 = .ok (.iconst 2, 1)))) ∧ (((decode cX12_readExpression 59 = .ok (.invokevirtual 233, 3) ∧ decode cX12_readExpression 62 = .ok (.aload_n 0, 1)) ∧ (decode cX12_readExpression 63 = .ok (.iload_n 1, 1) ∧ decode cX12_readExpression 64 = .ok (.invokevirtual 279, 3))) ∧ ((decode cX12_readExpression 67 = .ok (.aload_n 0, 1) ∧ decode cX12_readExpression 68 = .ok (.ldc_w 282, 3)) ∧ (decode cX12_readExpression 71 = .ok (.invokevirtual 226, 3) ∧ decode cX12_readExpression 74 = .ok (.ifCond .eq 21, 3)))) := by decide +kernel
theorem dX12_readExpression_44 : decode cX12_readExpression 44 = .ok (.iconst 1, 1) := bg00_70.1.1.1.1
theorem dX12_readExpression_45 : decode cX12_readExpression 45 = .ok (.invokevirtual 233, 3) := bg00_70.1.1.1.2
theorem dX12_readExpression_48 : decode cX12_readExpression 48 = .ok (.goto 14, 3) := bg00_70.1.1.2.1
theorem dX12_readExpression_51 : decode cX12_readExpression 51 = .ok (.iload_n 1, 1) := bg00_70.1.1.2.2
theorem dX12_readExpression_52 : decode cX12_readExpression 52 = .ok (.bipush 6, 2) := bg00_70.1.2.1.1
theorem dX12_readExpression_54 : decode cX12_readExpression 54 = .ok (.if_icmp .ne 8, 3) := bg00_70.1.2.1.2
theorem dX12_readExpression_57 : decode cX12_readExpression 57 = .ok (.aload_n 0, 1) := bg00_70.1.2.2.1
theorem dX12_readExpression_58 : decode cX12_readExpression 58 = .ok (.iconst 2, 1) := bg00_70.1.2.2.2
theorem dX12_readExpression_59 : decode cX12_readExpression 59 = .ok (.invokevirtual 233, 3) := bg00_70.2.1.1.1
theorem dX12_readExpression_62 : decode cX12_readExpression 62 = .ok (.aload_n 0, 1) := bg00_70.2.1.1.2
theorem dX12_readExpression_63 : decode cX12_readExpression 63 = .ok (.iload_n 1, 1) := bg00_70.2.1.2.1
theorem dX12_readExpression_64 : decode cX12_readExpression 64 = .ok (.invokevirtual 279, 3) := bg00_70.2.1.2.2
theorem dX12_readExpression_67 : decode cX12_readExpression 67 = .ok (.aload_n 0, 1) := bg00_70.2.2.1.1
theorem dX12_readExpression_68 : decode cX12_readExpression 68 = .ok (.ldc_w 282, 3) := bg00_70.2.2.1.2
theorem dX12_readExpression_71 : decode cX12_readExpression 71 = .ok (.invokevirtual 226, 3) := bg00_70.2.2.2.1
theorem dX12_readExpression_74 : decode cX12_readExpression 74 = .ok (.ifCond .eq 21, 3) := bg00_70.2.2.2.2
theorem bg00_71 : (((decode cX12_readExpression 77 = .ok (.aload_n 0, 1) ∧ decode cX12_readExpression 78 = .ok (.invokevirtual 237, 3)) ∧ (decode cX12_readExpression 81 = .ok (.aload_n 0, 1))) ∧ (decode cX12_readExpression 82 = .ok (.iload_n 1, 1) ∧ decode cX12_readExpression 83 = .ok (.invokevirtual 279, 3))) ∧ (((decode cX12_readExpression 86 = .ok (.aload_n 0, 1) ∧ decode cX12_readExpression 87 = .ok (.bipush (-27), 2)) ∧ (decode cX12_readExpression 89 = .ok (.invokevirtual 250, 3))) ∧ (decode cX12_readExpression 92 = .ok (.goto (-25), 3) ∧ decode cX12_readExpression 95 = .ok (.return_, 1))) := by decide +kernel
theorem dX12_readExpression_77 : decode cX12_readExpression 77 = .ok (.aload_n 0, 1) := bg00_71.1.1.1.1
theorem dX12_readExpression_78 : decode cX12_readExpression 78 = .ok (.invokevirtual 237, 3) := bg00_71.1.1.1.2
theorem dX12_readExpression_81 : decode cX12_readExpression 81 = .ok (.aload_n 0, 1) := bg00_71.1.1.2
theorem dX12_readExpression_82 : decode cX12_readExpression 82 = .ok (.iload_n 1, 1) := bg00_71.1.2.1
theorem dX12_readExpression_83 : decode cX12_readExpression 83 = .ok (.invokevirtual 279, 3) := bg00_71.1.2.2
theorem dX12_readExpression_86 : decode cX12_readExpression 86 = .ok (.aload_n 0, 1) := bg00_71.2.1.1.1
theorem dX12_readExpression_87 : decode cX12_readExpression 87 = .ok (.bipush (-27), 2) := bg00_71.2.1.1.2
theorem dX12_readExpression_89 : decode cX12_readExpression 89 = .ok (.invokevirtual 250, 3) := bg00_71.2.1.2
theorem dX12_readExpression_92 : decode cX12_readExpression 92 = .ok (.goto (-25), 3) := bg00_71.2.2.1
theorem dX12_readExpression_95 : decode cX12_readExpression 95 = .ok (.return_, 1) := bg00_71.2.2.2
theorem bg00_72 : (((decode cX12_another 0 = .ok (.aload_n 0, 1) ∧ decode cX12_another 1 = .ok (.getfield 42, 3)) ∧ (decode cX12_another 4 = .ok (.bipush 6, 2) ∧ decode cX12_another 6 = .ok (.iload_n 1, 1))) ∧ ((decode cX12_another 7 = .ok (.iadd, 1) ∧ decode cX12_another 8 = .ok (.iaload, 1)) ∧ (decode cX12_another 9 = .ok (.iload_n 2, 1) ∧ decode cX12_another 10 = .ok (.if_icmp .ne 8, 3)))) ∧ (((decode cX12_another 13 = .ok (.aload_n 0, 1) ∧ decode cX12_another 14 = .ok (.iconst 2, 1)) ∧ (decode cX12_another 15 = .ok (.invokevirtual 233, 3) ∧ decode cX12_another 18 = .ok (.aload_n 0, 1))) ∧ ((decode cX12_another 19 = .ok (.getfield 212, 3) ∧ decode cX12_another 22 = .ok (.ifCond .eq 5, 3)) ∧ (decode cX12_another 25 = .ok (.iconst 0, 1) ∧ decode cX12_another 26 = .ok (.ireturn, 1)))) := by decide +kernel
theorem dX12_another_0 : decode cX12_another 0 = .ok (.aload_n 0, 1) := bg00_72.1.1.1.1
theorem dX12_another_1 : decode cX12_another 1 = .ok (.getfield 42, 3) := bg00_72.1.1.1.2
theorem dX12_another_4 : decode cX12_another 4 = .ok (.bipush 6, 2) := bg00_72.1.1.2.1
theorem dX12_another_6 : decode cX12_another 6 = .ok (.iload_n 1, 1) := bg00_72.1.1.2.2
theorem dX12_another_7 : decode cX12_another 7 = .ok (.iadd, 1) := bg00_72.1.2.1.1
theorem dX12_another_8 : decode cX12_another 8 = .ok (.iaload, 1) := bg00_72.1.2.1.2
theorem dX12_another_9 : decode cX12_another 9 = .ok (.iload_n 2, 1) := bg00_72.1.2.2.1
theorem dX12_another_10 : decode cX12_another 10 = .ok (.if_icmp .ne 8, 3) := bg00_72.1.2.2.2
theorem dX12_another_13 : decode cX12_another 13 = .ok (.aload_n 0, 1) := bg00_72.2.1.1.1
theorem dX12_another_14 : decode cX12_another 14 = .ok (.iconst 2, 1) := bg00_72.2.1.1.2
theorem dX12_another_15 : decode cX12_another 15 = .ok (.invokevirtual 233, 3) := bg00_72.2.1.2.1
theorem dX12_another_18 : decode cX12_another 18 = .ok (.aload_n 0, 1) := bg00_72.2.1.2.2
theorem dX12_another_19 : decode cX12_another 19 = .ok (.getfield 212, 3) := bg00_72.2.2.1.1
theorem dX12_another_22 : decode cX12_another 22 = .ok (.ifCond .eq 5, 3) := bg00_72.2.2.1.2
theorem dX12_another_25 : decode cX12_another 25 = .ok (.iconst 0, 1) := bg00_72.2.2.2.1
theorem dX12_another_26 : decode cX12_another 26 = .ok (.ireturn, 1) := bg00_72.2.2.2.2
theorem bg00_73 : ((decode cX12_another 27 = .ok (.aload_n 0, 1) ∧ decode cX12_another 28 = .ok (.invokevirtual 237, 3)) ∧ (decode cX12_another 31 = .ok (.iconst 1, 1) ∧ decode cX12_another 32 = .ok (.ireturn, 1))) ∧ ((decode cX12_sayStone 0 = .ok (.aload_n 0, 1) ∧ decode cX12_sayStone 1 = .ok (.iconst 0, 1)) ∧ (decode cX12_sayStone 2 = .ok (.bipush 8, 2) ∧ decode cX12_sayStone 4 = .ok (.invokevirtual 284, 3))) := by decide +kernel
theorem dX12_another_27 : decode cX12_another 27 = .ok (.aload_n 0, 1) := bg00_73.1.1.1
theorem dX12_another_28 : decode cX12_another 28 = .ok (.invokevirtual 237, 3) := bg00_73.1.1.2
theorem dX12_another_31 : decode cX12_another 31 = .ok (.iconst 1, 1) := bg00_73.1.2.1
theorem dX12_another_32 : decode cX12_another 32 = .ok (.ireturn, 1) := bg00_73.1.2.2
theorem dX12_sayStone_0 : decode cX12_sayStone 0 = .ok (.aload_n 0, 1) := bg00_73.2.1.1
theorem dX12_sayStone_1 : decode cX12_sayStone 1 = .ok (.iconst 0, 1) := bg00_73.2.1.2
theorem dX12_sayStone_2 : decode cX12_sayStone 2 = .ok (.bipush 8, 2) := bg00_73.2.2.1
theorem dX12_sayStone_4 : decode cX12_sayStone 4 = .ok (.invokevirtual 284, 3) := bg00_73.2.2.2
theorem bg00_74 : (((decode cX12_sayStone 7 = .ok (.ifCond .ne 4, 3) ∧ decode cX12_sayStone 10 = .ok (.return_, 1)) ∧ (decode cX12_sayStone 11 = .ok (.bipush 8, 2) ∧ decode cX12_sayStone 13 = .ok (.aload_n 0, 1))) ∧ ((decode cX12_sayStone 14 = .ok (.getfield 42, 3) ∧ decode cX12_sayStone 17 = .ok (.bipush 6, 2)) ∧ (decode cX12_sayStone 19 = .ok (.iaload, 1) ∧ decode cX12_sayStone 20 = .ok (.iadd, 1)))) ∧ (((decode cX12_sayStone 21 = .ok (.istore_n 1, 1) ∧ decode cX12_sayStone 22 = .ok (.aload_n 0, 1)) ∧ (decode cX12_sayStone 23 = .ok (.getfield 46, 3) ∧ decode cX12_sayStone 26 = .ok (.iload_n 1, 1))) ∧ ((decode cX12_sayStone 27 = .ok (.aload_n 0, 1) ∧ decode cX12_sayStone 28 = .ok (.iconst 0, 1)) ∧ (decode cX12_sayStone 29 = .ok (.bipush 9, 2) ∧ decode cX12_sayStone 31 = .ok (.invokevirtual 247, 3)))) := by decide +kernel
theorem dX12_sayStone_7 : decode cX12_sayStone 7 = .ok (.ifCond .ne 4, 3) := bg00_74.1.1.1.1
theorem dX12_sayStone_10 : decode cX12_sayStone 10 = .ok (.return_, 1) := bg00_74.1.1.1.2
theorem dX12_sayStone_11 : decode cX12_sayStone 11 = .ok (.bipush 8, 2) := bg00_74.1.1.2.1
theorem dX12_sayStone_13 : decode cX12_sayStone 13 = .ok (.aload_n 0, 1) := bg00_74.1.1.2.2
theorem dX12_sayStone_14 : decode cX12_sayStone 14 = .ok (.getfield 42, 3) := bg00_74.1.2.1.1
theorem dX12_sayStone_17 : decode cX12_sayStone 17 = .ok (.bipush 6, 2) := bg00_74.1.2.1.2
theorem dX12_sayStone_19 : decode cX12_sayStone 19 = .ok (.iaload, 1) := bg00_74.1.2.2.1
theorem dX12_sayStone_20 : decode cX12_sayStone 20 = .ok (.iadd, 1) := bg00_74.1.2.2.2
theorem dX12_sayStone_21 : decode cX12_sayStone 21 = .ok (.istore_n 1, 1) := bg00_74.2.1.1.1
theorem dX12_sayStone_22 : decode cX12_sayStone 22 = .ok (.aload_n 0, 1) := bg00_74.2.1.1.2
theorem dX12_sayStone_23 : decode cX12_sayStone 23 = .ok (.getfield 46, 3) := bg00_74.2.1.2.1
theorem dX12_sayStone_26 : decode cX12_sayStone 26 = .ok (.iload_n 1, 1) := bg00_74.2.1.2.2
theorem dX12_sayStone_27 : decode cX12_sayStone 27 = .ok (.aload_n 0, 1) := bg00_74.2.2.1.1
theorem dX12_sayStone_28 : decode cX12_sayStone 28 = .ok (.iconst 0, 1) := bg00_74.2.2.1.2
theorem dX12_sayStone_29 : decode cX12_sayStone 29 = .ok (.bipush 9, 2) := bg00_74.2.2.2.1
theorem dX12_sayStone_31 : decode cX12_sayStone 31 = .ok (.invokevirtual 247, 3) := bg00_74.2.2.2.2
theorem bg00_75 : (((decode cX12_sayStone 34 = .ok (.iastore, 1) ∧ decode cX12_sayStone 35 = .ok (.aload_n 0, 1)) ∧ (decode cX12_sayStone 36 = .ok (.getfield 49, 3) ∧ decode cX12_sayStone 39 = .ok (.iload_n 1, 1))) ∧ ((decode cX12_sayStone 40 = .ok (.aload_n 0, 1) ∧ decode cX12_sayStone 41 = .ok (.iconst 0, 1)) ∧ (decode cX12_sayStone 42 = .ok (.bipush 9, 2) ∧ decode cX12_sayStone 44 = .ok (.invokevirtual 247, 3)))) ∧ (((decode cX12_sayStone 47 = .ok (.iastore, 1) ∧ decode cX12_sayStone 48 = .ok (.aload_n 0, 1)) ∧ (decode cX12_sayStone 49 = .ok (.getfield 52, 3) ∧ decode cX12_sayStone 52 = .ok (.iload_n 1, 1))) ∧ ((decode cX12_sayStone 53 = .ok (.aload_n 0, 1) ∧ decode cX12_sayStone 54 = .ok (.iconst 0, 1)) ∧ (decode cX12_sayStone 55 = .ok (.bipush 99, 2) ∧ decode cX12_sayStone 57 = .ok (.invokevirtual 247, 3)))) := by decide +kernel
theorem dX12_sayStone_34 : decode cX12_sayStone 34 = .ok (.iastore, 1) := bg00_75.1.1.1.1
theorem dX12_sayStone_35 : decode cX12_sayStone 35 = .ok (.aload_n 0, 1) := bg00_75.1.1.1.2
theorem dX12_sayStone_36 : decode cX12_sayStone 36 = .ok (.getfield 49, 3) := bg00_75.1.1.2.1
theorem dX12_sayStone_39 : decode cX12_sayStone 39 = .ok (.iload_n 1, 1) := bg00_75.1.1.2.2
theorem dX12_sayStone_40 : decode cX12_sayStone 40 = .ok (.aload_n 0, 1) := bg00_75.1.2.1.1
theorem dX12_sayStone_41 : decode cX12_sayStone 41 = .ok (.iconst 0, 1) := bg00_75.1.2.1.2
theorem dX12_sayStone_42 : decode cX12_sayStone 42 = .ok (.bipush 9, 2) := bg00_75.1.2.2.1
theorem dX12_sayStone_44 : decode cX12_sayStone 44 = .ok (.invokevirtual 247, 3) := bg00_75.1.2.2.2
theorem dX12_sayStone_47 : decode cX12_sayStone 47 = .ok (.iastore, 1) := bg00_75.2.1.1.1
theorem dX12_sayStone_48 : decode cX12_sayStone 48 = .ok (.aload_n 0, 1) := bg00_75.2.1.1.2
theorem dX12_sayStone_49 : decode cX12_sayStone 49 = .ok (.getfield 52, 3) := bg00_75.2.1.2.1
theorem dX12_sayStone_52 : decode cX12_sayStone 52 = .ok (.iload_n 1, 1) := bg00_75.2.1.2.2
theorem dX12_sayStone_53 : decode cX12_sayStone 53 = .ok (.aload_n 0, 1) := bg00_75.2.2.1.1
theorem dX12_sayStone_54 : decode cX12_sayStone 54 = .ok (.iconst 0, 1) := bg00_75.2.2.1.2
theorem dX12_sayStone_55 : decode cX12_sayStone 55 = .ok (.bipush 99, 2) := bg00_75.2.2.2.1
theorem dX12_sayStone_57 : decode cX12_sayStone 57 = .ok (.invokevirtual 247, 3) := bg00_75.2.2.2.2
theorem bg00_76 : (((decode cX12_sayStone 60 = .ok (.iastore, 1) ∧ decode cX12_sayStone 61 = .ok (.aload_n 0, 1)) ∧ (decode cX12_sayStone 62 = .ok (.getfield 42, 3))) ∧ (decode cX12_sayStone 65 = .ok (.bipush 6, 2) ∧ decode cX12_sayStone 67 = .ok (.dup2, 1))) ∧ (((decode cX12_sayStone 68 = .ok (.iaload, 1) ∧ decode cX12_sayStone 69 = .ok (.iconst 1, 1)) ∧ (decode cX12_sayStone 70 = .ok (.iadd, 1))) ∧ (decode cX12_sayStone 71 = .ok (.iastore, 1) ∧ decode cX12_sayStone 72 = .ok (.return_, 1))) := by decide +kernel
theorem dX12_sayStone_60 : decode cX12_sayStone 60 = .ok (.iastore, 1) := bg00_76.1.1.1.1
theorem dX12_sayStone_61 : decode cX12_sayStone 61 = .ok (.aload_n 0, 1) := bg00_76.1.1.1.2
theorem dX12_sayStone_62 : decode cX12_sayStone 62 = .ok (.getfield 42, 3) := bg00_76.1.1.2
theorem dX12_sayStone_65 : decode cX12_sayStone 65 = .ok (.bipush 6, 2) := bg00_76.1.2.1
theorem dX12_sayStone_67 : decode cX12_sayStone 67 = .ok (.dup2, 1) := bg00_76.1.2.2
theorem dX12_sayStone_68 : decode cX12_sayStone 68 = .ok (.iaload, 1) := bg00_76.2.1.1.1
theorem dX12_sayStone_69 : decode cX12_sayStone 69 = .ok (.iconst 1, 1) := bg00_76.2.1.1.2
theorem dX12_sayStone_70 : decode cX12_sayStone 70 = .ok (.iadd, 1) := bg00_76.2.1.2
theorem dX12_sayStone_71 : decode cX12_sayStone 71 = .ok (.iastore, 1) := bg00_76.2.2.1
theorem dX12_sayStone_72 : decode cX12_sayStone 72 = .ok (.return_, 1) := bg00_76.2.2.2
theorem bg00_77 : (((decode cX12_sayPerson 0 = .ok (.aload_n 0, 1) ∧ decode cX12_sayPerson 1 = .ok (.iconst 1, 1)) ∧ (decode cX12_sayPerson 2 = .ok (.bipush 8, 2) ∧ decode cX12_sayPerson 4 = .ok (.invokevirtual 284, 3))) ∧ ((decode cX12_sayPerson 7 = .ok (.ifCond .ne 4, 3) ∧ decode cX12_sayPerson 10 = .ok (.return_, 1)) ∧ (decode cX12_sayPerson 11 = .ok (.bipush 8, 2) ∧ decode cX12_sayPerson 13 = .ok (.aload_n 0, 1)))) ∧ (((decode cX12_sayPerson 14 = .ok (.getfield 42, 3) ∧ decode cX12_sayPerson 17 = .ok (.bipush 7, 2)) ∧ (decode cX12_sayPerson 19 = .ok (.iaload, 1) ∧ decode cX12_sayPerson 20 = .ok (.iadd, 1))) ∧ ((decode cX12_sayPerson 21 = .ok (.istore_n 2, 1) ∧ decode cX12_sayPerson 22 = .ok (.aload_n 0, 1)) ∧ (decode cX12_sayPerson 23 = .ok (.getfield 55, 3) ∧ decode cX12_sayPerson 26 = .ok (.iload_n 2, 1)))) := by decide +kernel
theorem dX12_sayPerson_0 : decode cX12_sayPerson 0 = .ok (.aload_n 0, 1) := bg00_77.1.1.1.1
theorem dX12_sayPerson_1 : decode cX12_sayPerson 1 = .ok (.iconst 1, 1) := bg00_77.1.1.1.2
theorem dX12_sayPerson_2 : decode cX12_sayPerson 2 = .ok (.bipush 8, 2) := bg00_77.1.1.2.1
theorem dX12_sayPerson_4 : decode cX12_sayPerson 4 = .ok (.invokevirtual 284, 3) := bg00_77.1.1.2.2
theorem dX12_sayPerson_7 : decode cX12_sayPerson 7 = .ok (.ifCond .ne 4, 3) := bg00_77.1.2.1.1
theorem dX12_sayPerson_10 : decode cX12_sayPerson 10 = .ok (.return_, 1) := bg00_77.1.2.1.2
theorem dX12_sayPerson_11 : decode cX12_sayPerson 11 = .ok (.bipush 8, 2) := bg00_77.1.2.2.1
theorem dX12_sayPerson_13 : decode cX12_sayPerson 13 = .ok (.aload_n 0, 1) := bg00_77.1.2.2.2
theorem dX12_sayPerson_14 : decode cX12_sayPerson 14 = .ok (.getfield 42, 3) := bg00_77.2.1.1.1
theorem dX12_sayPerson_17 : decode cX12_sayPerson 17 = .ok (.bipush 7, 2) := bg00_77.2.1.1.2
theorem dX12_sayPerson_19 : decode cX12_sayPerson 19 = .ok (.iaload, 1) := bg00_77.2.1.2.1
theorem dX12_sayPerson_20 : decode cX12_sayPerson 20 = .ok (.iadd, 1) := bg00_77.2.1.2.2
theorem dX12_sayPerson_21 : decode cX12_sayPerson 21 = .ok (.istore_n 2, 1) := bg00_77.2.2.1.1
theorem dX12_sayPerson_22 : decode cX12_sayPerson 22 = .ok (.aload_n 0, 1) := bg00_77.2.2.1.2
theorem dX12_sayPerson_23 : decode cX12_sayPerson 23 = .ok (.getfield 55, 3) := bg00_77.2.2.2.1
theorem dX12_sayPerson_26 : decode cX12_sayPerson 26 = .ok (.iload_n 2, 1) := bg00_77.2.2.2.2
theorem bg00_78 : (((decode cX12_sayPerson 27 = .ok (.iload_n 1, 1) ∧ decode cX12_sayPerson 28 = .ok (.iastore, 1)) ∧ (decode cX12_sayPerson 29 = .ok (.aload_n 0, 1) ∧ decode cX12_sayPerson 30 = .ok (.getfield 57, 3))) ∧ ((decode cX12_sayPerson 33 = .ok (.iload_n 2, 1) ∧ decode cX12_sayPerson 34 = .ok (.aload_n 0, 1)) ∧ (decode cX12_sayPerson 35 = .ok (.iconst 0, 1) ∧ decode cX12_sayPerson 36 = .ok (.bipush 9, 2)))) ∧ (((decode cX12_sayPerson 38 = .ok (.invokevirtual 247, 3) ∧ decode cX12_sayPerson 41 = .ok (.iastore, 1)) ∧ (decode cX12_sayPerson 42 = .ok (.aload_n 0, 1) ∧ decode cX12_sayPerson 43 = .ok (.getfield 60, 3))) ∧ ((decode cX12_sayPerson 46 = .ok (.iload_n 2, 1) ∧ decode cX12_sayPerson 47 = .ok (.aload_n 0, 1)) ∧ (decode cX12_sayPerson 48 = .ok (.iconst 0, 1) ∧ decode cX12_sayPerson 49 = .ok (.bipush 9, 2)))) := by decide +kernel
theorem dX12_sayPerson_27 : decode cX12_sayPerson 27 = .ok (.iload_n 1, 1) := bg00_78.1.1.1.1
theorem dX12_sayPerson_28 : decode cX12_sayPerson 28 = .ok (.iastore, 1) := bg00_78.1.1.1.2
theorem dX12_sayPerson_29 : decode cX12_sayPerson 29 = .ok (.aload_n 0, 1) := bg00_78.1.1.2.1
theorem dX12_sayPerson_30 : decode cX12_sayPerson 30 = .ok (.getfield 57, 3) := bg00_78.1.1.2.2
theorem dX12_sayPerson_33 : decode cX12_sayPerson 33 = .ok (.iload_n 2, 1) := bg00_78.1.2.1.1
theorem dX12_sayPerson_34 : decode cX12_sayPerson 34 = .ok (.aload_n 0, 1) := bg00_78.1.2.1.2
theorem dX12_sayPerson_35 : decode cX12_sayPerson 35 = .ok (.iconst 0, 1) := bg00_78.1.2.2.1
theorem dX12_sayPerson_36 : decode cX12_sayPerson 36 = .ok (.bipush 9, 2) := bg00_78.1.2.2.2
theorem dX12_sayPerson_38 : decode cX12_sayPerson 38 = .ok (.invokevirtual 247, 3) := bg00_78.2.1.1.1
theorem dX12_sayPerson_41 : decode cX12_sayPerson 41 = .ok (.iastore, 1) := bg00_78.2.1.1.2
theorem dX12_sayPerson_42 : decode cX12_sayPerson 42 = .ok (.aload_n 0, 1) := bg00_78.2.1.2.1
theorem dX12_sayPerson_43 : decode cX12_sayPerson 43 = .ok (.getfield 60, 3) := bg00_78.2.1.2.2
theorem dX12_sayPerson_46 : decode cX12_sayPerson 46 = .ok (.iload_n 2, 1) := bg00_78.2.2.1.1
theorem dX12_sayPerson_47 : decode cX12_sayPerson 47 = .ok (.aload_n 0, 1) := bg00_78.2.2.1.2
theorem dX12_sayPerson_48 : decode cX12_sayPerson 48 = .ok (.iconst 0, 1) := bg00_78.2.2.2.1
theorem dX12_sayPerson_49 : decode cX12_sayPerson 49 = .ok (.bipush 9, 2) := bg00_78.2.2.2.2
theorem bg00_79 : (((decode cX12_sayPerson 51 = .ok (.invokevirtual 247, 3) ∧ decode cX12_sayPerson 54 = .ok (.iastore, 1)) ∧ (decode cX12_sayPerson 55 = .ok (.aload_n 0, 1) ∧ decode cX12_sayPerson 56 = .ok (.getfield 63, 3))) ∧ ((decode cX12_sayPerson 59 = .ok (.iload_n 2, 1) ∧ decode cX12_sayPerson 60 = .ok (.aload_n 0, 1)) ∧ (decode cX12_sayPerson 61 = .ok (.iconst 0, 1) ∧ decode cX12_sayPerson 62 = .ok (.bipush 99, 2)))) ∧ (((decode cX12_sayPerson 64 = .ok (.invokevirtual 247, 3) ∧ decode cX12_sayPerson 67 = .ok (.iastore, 1)) ∧ (decode cX12_sayPerson 68 = .ok (.aload_n 0, 1) ∧ decode cX12_sayPerson 69 = .ok (.getfield 66, 3))) ∧ ((decode cX12_sayPerson 72 = .ok (.iload_n 2, 1) ∧ decode cX12_sayPerson 73 = .ok (.iconst (-1), 1)) ∧ (decode cX12_sayPerson 74 = .ok (.iastore, 1) ∧ decode cX12_sayPerson 75 = .ok (.aload_n 0, 1)))) := by decide +kernel
theorem dX12_sayPerson_51 : decode cX12_sayPerson 51 = .ok (.invokevirtual 247, 3) := bg00_79.1.1.1.1
theorem dX12_sayPerson_54 : decode cX12_sayPerson 54 = .ok (.iastore, 1) := bg00_79.1.1.1.2
theorem dX12_sayPerson_55 : decode cX12_sayPerson 55 = .ok (.aload_n 0, 1) := bg00_79.1.1.2.1
theorem dX12_sayPerson_56 : decode cX12_sayPerson 56 = .ok (.getfield 63, 3) := bg00_79.1.1.2.2
theorem dX12_sayPerson_59 : decode cX12_sayPerson 59 = .ok (.iload_n 2, 1) := bg00_79.1.2.1.1
theorem dX12_sayPerson_60 : decode cX12_sayPerson 60 = .ok (.aload_n 0, 1) := bg00_79.1.2.1.2
theorem dX12_sayPerson_61 : decode cX12_sayPerson 61 = .ok (.iconst 0, 1) := bg00_79.1.2.2.1
theorem dX12_sayPerson_62 : decode cX12_sayPerson 62 = .ok (.bipush 99, 2) := bg00_79.1.2.2.2
theorem dX12_sayPerson_64 : decode cX12_sayPerson 64 = .ok (.invokevirtual 247, 3) := bg00_79.2.1.1.1
theorem dX12_sayPerson_67 : decode cX12_sayPerson 67 = .ok (.iastore, 1) := bg00_79.2.1.1.2
theorem dX12_sayPerson_68 : decode cX12_sayPerson 68 = .ok (.aload_n 0, 1) := bg00_79.2.1.2.1
theorem dX12_sayPerson_69 : decode cX12_sayPerson 69 = .ok (.getfield 66, 3) := bg00_79.2.1.2.2
theorem dX12_sayPerson_72 : decode cX12_sayPerson 72 = .ok (.iload_n 2, 1) := bg00_79.2.2.1.1
theorem dX12_sayPerson_73 : decode cX12_sayPerson 73 = .ok (.iconst (-1), 1) := bg00_79.2.2.1.2
theorem dX12_sayPerson_74 : decode cX12_sayPerson 74 = .ok (.iastore, 1) := bg00_79.2.2.2.1
theorem dX12_sayPerson_75 : decode cX12_sayPerson 75 = .ok (.aload_n 0, 1) := bg00_79.2.2.2.2
theorem bg00_80 : (((decode cX12_sayPerson 76 = .ok (.ldc_w 288, 3) ∧ decode cX12_sayPerson 79 = .ok (.invokevirtual 226, 3)) ∧ (decode cX12_sayPerson 82 = .ok (.ifCond .eq 57, 3) ∧ decode cX12_sayPerson 85 = .ok (.aload_n 0, 1))) ∧ ((decode cX12_sayPerson 86 = .ok (.invokevirtual 237, 3) ∧ decode cX12_sayPerson 89 = .ok (.aload_n 0, 1)) ∧ (decode cX12_sayPerson 90 = .ok (.iconst 0, 1) ∧ decode cX12_sayPerson 91 = .ok (.sipush 9999, 3)))) ∧ (((decode cX12_sayPerson 94 = .ok (.invokevirtual 240, 3) ∧ decode cX12_sayPerson 97 = .ok (.istore_n 3, 1)) ∧ (decode cX12_sayPerson 98 = .ok (.aload_n 0, 1) ∧ decode cX12_sayPerson 99 = .ok (.getfield 212, 3))) ∧ ((decode cX12_sayPerson 102 = .ok (.ifCond .ne 19, 3) ∧ decode cX12_sayPerson 105 = .ok (.iload_n 3, 1)) ∧ (decode cX12_sayPerson 106 = .ok (.aload_n 0, 1) ∧ decode cX12_sayPerson 107 = .ok (.getfield 42, 3)))) := by decide +kernel
theorem dX12_sayPerson_76 : decode cX12_sayPerson 76 = .ok (.ldc_w 288, 3) := bg00_80.1.1.1.1
theorem dX12_sayPerson_79 : decode cX12_sayPerson 79 = .ok (.invokevirtual 226, 3) := bg00_80.1.1.1.2
theorem dX12_sayPerson_82 : decode cX12_sayPerson 82 = .ok (.ifCond .eq 57, 3) := bg00_80.1.1.2.1
theorem dX12_sayPerson_85 : decode cX12_sayPerson 85 = .ok (.aload_n 0, 1) := bg00_80.1.1.2.2
theorem dX12_sayPerson_86 : decode cX12_sayPerson 86 = .ok (.invokevirtual 237, 3) := bg00_80.1.2.1.1
theorem dX12_sayPerson_89 : decode cX12_sayPerson 89 = .ok (.aload_n 0, 1) := bg00_80.1.2.1.2
theorem dX12_sayPerson_90 : decode cX12_sayPerson 90 = .ok (.iconst 0, 1) := bg00_80.1.2.2.1
theorem dX12_sayPerson_91 : decode cX12_sayPerson 91 = .ok (.sipush 9999, 3) := bg00_80.1.2.2.2
theorem dX12_sayPerson_94 : decode cX12_sayPerson 94 = .ok (.invokevirtual 240, 3) := bg00_80.2.1.1.1
theorem dX12_sayPerson_97 : decode cX12_sayPerson 97 = .ok (.istore_n 3, 1) := bg00_80.2.1.1.2
theorem dX12_sayPerson_98 : decode cX12_sayPerson 98 = .ok (.aload_n 0, 1) := bg00_80.2.1.2.1
theorem dX12_sayPerson_99 : decode cX12_sayPerson 99 = .ok (.getfield 212, 3) := bg00_80.2.1.2.2
theorem dX12_sayPerson_102 : decode cX12_sayPerson 102 = .ok (.ifCond .ne 19, 3) := bg00_80.2.2.1.1
theorem dX12_sayPerson_105 : decode cX12_sayPerson 105 = .ok (.iload_n 3, 1) := bg00_80.2.2.1.2
theorem dX12_sayPerson_106 : decode cX12_sayPerson 106 = .ok (.aload_n 0, 1) := bg00_80.2.2.2.1
theorem dX12_sayPerson_107 : decode cX12_sayPerson 107 = .ok (.getfield 42, 3) := bg00_80.2.2.2.2
theorem bg00_81 : (((decode cX12_sayPerson 110 = .ok (.bipush 6, 2) ∧ decode cX12_sayPerson 112 = .ok (.iaload, 1)) ∧ (decode cX12_sayPerson 113 = .ok (.if_icmp .lt 8, 3) ∧ decode cX12_sayPerson 116 = .ok (.aload_n 0, 1))) ∧ ((decode cX12_sayPerson 117 = .ok (.iconst 3, 1) ∧ decode cX12_sayPerson 118 = .ok (.invokevirtual 233, 3)) ∧ (decode cX12_sayPerson 121 = .ok (.aload_n 0, 1) ∧ decode cX12_sayPerson 122 = .ok (.getfield 212, 3)))) ∧ (((decode cX12_sayPerson 125 = .ok (.ifCond .ne 7, 3) ∧ decode cX12_sayPerson 128 = .ok (.aload_n 0, 1)) ∧ (decode cX12_sayPerson 129 = .ok (.invokevirtual 237, 3) ∧ decode cX12_sayPerson 132 = .ok (.aload_n 0, 1))) ∧ ((decode cX12_sayPerson 133 = .ok (.getfield 66, 3) ∧ decode cX12_sayPerson 136 = .ok (.iload_n 2, 1)) ∧ (decode cX12_sayPerson 137 = .ok (.iload_n 3, 1) ∧ decode cX12_sayPerson 138 = .ok (.iastore, 1)))) := by decide +kernel
theorem dX12_sayPerson_110 : decode cX12_sayPerson 110 = .ok (.bipush 6, 2) := bg00_81.1.1.1.1
theorem dX12_sayPerson_112 : decode cX12_sayPerson 112 = .ok (.iaload, 1) := bg00_81.1.1.1.2
theorem dX12_sayPerson_113 : decode cX12_sayPerson 113 = .ok (.if_icmp .lt 8, 3) := bg00_81.1.1.2.1
theorem dX12_sayPerson_116 : decode cX12_sayPerson 116 = .ok (.aload_n 0, 1) := bg00_81.1.1.2.2
theorem dX12_sayPerson_117 : decode cX12_sayPerson 117 = .ok (.iconst 3, 1) := bg00_81.1.2.1.1
theorem dX12_sayPerson_118 : decode cX12_sayPerson 118 = .ok (.invokevirtual 233, 3) := bg00_81.1.2.1.2
theorem dX12_sayPerson_121 : decode cX12_sayPerson 121 = .ok (.aload_n 0, 1) := bg00_81.1.2.2.1
theorem dX12_sayPerson_122 : decode cX12_sayPerson 122 = .ok (.getfield 212, 3) := bg00_81.1.2.2.2
theorem dX12_sayPerson_125 : decode cX12_sayPerson 125 = .ok (.ifCond .ne 7, 3) := bg00_81.2.1.1.1
theorem dX12_sayPerson_128 : decode cX12_sayPerson 128 = .ok (.aload_n 0, 1) := bg00_81.2.1.1.2
theorem dX12_sayPerson_129 : decode cX12_sayPerson 129 = .ok (.invokevirtual 237, 3) := bg00_81.2.1.2.1
theorem dX12_sayPerson_132 : decode cX12_sayPerson 132 = .ok (.aload_n 0, 1) := bg00_81.2.1.2.2
theorem dX12_sayPerson_133 : decode cX12_sayPerson 133 = .ok (.getfield 66, 3) := bg00_81.2.2.1.1
theorem dX12_sayPerson_136 : decode cX12_sayPerson 136 = .ok (.iload_n 2, 1) := bg00_81.2.2.1.2
theorem dX12_sayPerson_137 : decode cX12_sayPerson 137 = .ok (.iload_n 3, 1) := bg00_81.2.2.2.1
theorem dX12_sayPerson_138 : decode cX12_sayPerson 138 = .ok (.iastore, 1) := bg00_81.2.2.2.2
theorem bg00_82 : (((decode cX12_sayPerson 139 = .ok (.aload_n 0, 1) ∧ decode cX12_sayPerson 140 = .ok (.getfield 42, 3)) ∧ (decode cX12_sayPerson 143 = .ok (.bipush 7, 2))) ∧ (decode cX12_sayPerson 145 = .ok (.dup2, 1) ∧ decode cX12_sayPerson 146 = .ok (.iaload, 1))) ∧ ((decode cX12_sayPerson 147 = .ok (.iconst 1, 1) ∧ decode cX12_sayPerson 148 = .ok (.iadd, 1)) ∧ (decode cX12_sayPerson 149 = .ok (.iastore, 1) ∧ decode cX12_sayPerson 150 = .ok (.return_, 1))) := by decide +kernel
theorem dX12_sayPerson_139 : decode cX12_sayPerson 139 = .ok (.aload_n 0, 1) := bg00_82.1.1.1.1
theorem dX12_sayPerson_140 : decode cX12_sayPerson 140 = .ok (.getfield 42, 3) := bg00_82.1.1.1.2
theorem dX12_sayPerson_143 : decode cX12_sayPerson 143 = .ok (.bipush 7, 2) := bg00_82.1.1.2
theorem dX12_sayPerson_145 : decode cX12_sayPerson 145 = .ok (.dup2, 1) := bg00_82.1.2.1
theorem dX12_sayPerson_146 : decode cX12_sayPerson 146 = .ok (.iaload, 1) := bg00_82.1.2.2
theorem dX12_sayPerson_147 : decode cX12_sayPerson 147 = .ok (.iconst 1, 1) := bg00_82.2.1.1
theorem dX12_sayPerson_148 : decode cX12_sayPerson 148 = .ok (.iadd, 1) := bg00_82.2.1.2
theorem dX12_sayPerson_149 : decode cX12_sayPerson 149 = .ok (.iastore, 1) := bg00_82.2.2.1
theorem dX12_sayPerson_150 : decode cX12_sayPerson 150 = .ok (.return_, 1) := bg00_82.2.2.2
theorem bg00_83 : (((decode cX12_sayRain 0 = .ok (.aload_n 0, 1) ∧ decode cX12_sayRain 1 = .ok (.getfield 186, 3)) ∧ (decode cX12_sayRain 4 = .ok (.iconst 2, 1) ∧ decode cX12_sayRain 5 = .ok (.if_icmp .eq 8, 3))) ∧ ((decode cX12_sayRain 8 = .ok (.aload_n 0, 1) ∧ decode cX12_sayRain 9 = .ok (.iconst 1, 1)) ∧ (decode cX12_sayRain 10 = .ok (.invokevirtual 233, 3) ∧ decode cX12_sayRain 13 = .ok (.aload_n 0, 1)))) ∧ (((decode cX12_sayRain 14 = .ok (.getfield 212, 3) ∧ decode cX12_sayRain 17 = .ok (.ifCond .ne 84, 3)) ∧ (decode cX12_sayRain 20 = .ok (.aload_n 0, 1) ∧ decode cX12_sayRain 21 = .ok (.getfield 186, 3))) ∧ ((decode cX12_sayRain 24 = .ok (.iconst 2, 1) ∧ decode cX12_sayRain 25 = .ok (.if_icmp .ne 76, 3)) ∧ (decode cX12_sayRain 28 = .ok (.aload_n 0, 1) ∧ decode cX12_sayRain 29 = .ok (.getfield 42, 3)))) := by decide +kernel
theorem dX12_sayRain_0 : decode cX12_sayRain 0 = .ok (.aload_n 0, 1) := bg00_83.1.1.1.1
theorem dX12_sayRain_1 : decode cX12_sayRain 1 = .ok (.getfield 186, 3) := bg00_83.1.1.1.2
theorem dX12_sayRain_4 : decode cX12_sayRain 4 = .ok (.iconst 2, 1) := bg00_83.1.1.2.1
theorem dX12_sayRain_5 : decode cX12_sayRain 5 = .ok (.if_icmp .eq 8, 3) := bg00_83.1.1.2.2
theorem dX12_sayRain_8 : decode cX12_sayRain 8 = .ok (.aload_n 0, 1) := bg00_83.1.2.1.1
theorem dX12_sayRain_9 : decode cX12_sayRain 9 = .ok (.iconst 1, 1) := bg00_83.1.2.1.2
theorem dX12_sayRain_10 : decode cX12_sayRain 10 = .ok (.invokevirtual 233, 3) := bg00_83.1.2.2.1
theorem dX12_sayRain_13 : decode cX12_sayRain 13 = .ok (.aload_n 0, 1) := bg00_83.1.2.2.2
theorem dX12_sayRain_14 : decode cX12_sayRain 14 = .ok (.getfield 212, 3) := bg00_83.2.1.1.1
theorem dX12_sayRain_17 : decode cX12_sayRain 17 = .ok (.ifCond .ne 84, 3) := bg00_83.2.1.1.2
theorem dX12_sayRain_20 : decode cX12_sayRain 20 = .ok (.aload_n 0, 1) := bg00_83.2.1.2.1
theorem dX12_sayRain_21 : decode cX12_sayRain 21 = .ok (.getfield 186, 3) := bg00_83.2.1.2.2
theorem dX12_sayRain_24 : decode cX12_sayRain 24 = .ok (.iconst 2, 1) := bg00_83.2.2.1.1
theorem dX12_sayRain_25 : decode cX12_sayRain 25 = .ok (.if_icmp .ne 76, 3) := bg00_83.2.2.1.2
theorem dX12_sayRain_28 : decode cX12_sayRain 28 = .ok (.aload_n 0, 1) := bg00_83.2.2.2.1
theorem dX12_sayRain_29 : decode cX12_sayRain 29 = .ok (.getfield 42, 3) := bg00_83.2.2.2.2
theorem bg00_84 : (((decode cX12_sayRain 32 = .ok (.bipush 8, 2) ∧ decode cX12_sayRain 34 = .ok (.iaload, 1)) ∧ (decode cX12_sayRain 35 = .ok (.bipush 8, 2) ∧ decode cX12_sayRain 37 = .ok (.if_icmp .ne 8, 3))) ∧ ((decode cX12_sayRain 40 = .ok (.aload_n 0, 1) ∧ decode cX12_sayRain 41 = .ok (.iconst 2, 1)) ∧ (decode cX12_sayRain 42 = .ok (.invokevirtual 233, 3) ∧ decode cX12_sayRain 45 = .ok (.aload_n 0, 1)))) ∧ (((decode cX12_sayRain 46 = .ok (.iconst 0, 1) ∧ decode cX12_sayRain 47 = .ok (.bipush 9, 2)) ∧ (decode cX12_sayRain 49 = .ok (.invokevirtual 247, 3) ∧ decode cX12_sayRain 52 = .ok (.istore_n 1, 1))) ∧ ((decode cX12_sayRain 53 = .ok (.aload_n 0, 1) ∧ decode cX12_sayRain 54 = .ok (.getfield 212, 3)) ∧ (decode cX12_sayRain 57 = .ok (.ifCond .ne 19, 3) ∧ decode cX12_sayRain 60 = .ok (.aload_n 0, 1)))) := by decide +kernel
theorem dX12_sayRain_32 : decode cX12_sayRain 32 = .ok (.bipush 8, 2) := bg00_84.1.1.1.1
theorem dX12_sayRain_34 : decode cX12_sayRain 34 = .ok (.iaload, 1) := bg00_84.1.1.1.2
theorem dX12_sayRain_35 : decode cX12_sayRain 35 = .ok (.bipush 8, 2) := bg00_84.1.1.2.1
theorem dX12_sayRain_37 : decode cX12_sayRain 37 = .ok (.if_icmp .ne 8, 3) := bg00_84.1.1.2.2
theorem dX12_sayRain_40 : decode cX12_sayRain 40 = .ok (.aload_n 0, 1) := bg00_84.1.2.1.1
theorem dX12_sayRain_41 : decode cX12_sayRain 41 = .ok (.iconst 2, 1) := bg00_84.1.2.1.2
theorem dX12_sayRain_42 : decode cX12_sayRain 42 = .ok (.invokevirtual 233, 3) := bg00_84.1.2.2.1
theorem dX12_sayRain_45 : decode cX12_sayRain 45 = .ok (.aload_n 0, 1) := bg00_84.1.2.2.2
theorem dX12_sayRain_46 : decode cX12_sayRain 46 = .ok (.iconst 0, 1) := bg00_84.2.1.1.1
theorem dX12_sayRain_47 : decode cX12_sayRain 47 = .ok (.bipush 9, 2) := bg00_84.2.1.1.2
theorem dX12_sayRain_49 : decode cX12_sayRain 49 = .ok (.invokevirtual 247, 3) := bg00_84.2.1.2.1
theorem dX12_sayRain_52 : decode cX12_sayRain 52 = .ok (.istore_n 1, 1) := bg00_84.2.1.2.2
theorem dX12_sayRain_53 : decode cX12_sayRain 53 = .ok (.aload_n 0, 1) := bg00_84.2.2.1.1
theorem dX12_sayRain_54 : decode cX12_sayRain 54 = .ok (.getfield 212, 3) := bg00_84.2.2.1.2
theorem dX12_sayRain_57 : decode cX12_sayRain 57 = .ok (.ifCond .ne 19, 3) := bg00_84.2.2.2.1
theorem dX12_sayRain_60 : decode cX12_sayRain 60 = .ok (.aload_n 0, 1) := bg00_84.2.2.2.2
theorem bg00_85 : (((decode cX12_sayRain 61 = .ok (.getfield 69, 3) ∧ decode cX12_sayRain 64 = .ok (.bipush 8, 2)) ∧ (decode cX12_sayRain 66 = .ok (.aload_n 0, 1) ∧ decode cX12_sayRain 67 = .ok (.getfield 42, 3))) ∧ ((decode cX12_sayRain 70 = .ok (.bipush 8, 2) ∧ decode cX12_sayRain 72 = .ok (.iaload, 1)) ∧ (decode cX12_sayRain 73 = .ok (.iadd, 1) ∧ decode cX12_sayRain 74 = .ok (.iload_n 1, 1)))) ∧ (((decode cX12_sayRain 75 = .ok (.iastore, 1) ∧ decode cX12_sayRain 76 = .ok (.aload_n 0, 1)) ∧ (decode cX12_sayRain 77 = .ok (.getfield 42, 3) ∧ decode cX12_sayRain 80 = .ok (.bipush 8, 2))) ∧ ((decode cX12_sayRain 82 = .ok (.dup2, 1) ∧ decode cX12_sayRain 83 = .ok (.iaload, 1)) ∧ (decode cX12_sayRain 84 = .ok (.aload_n 0, 1) ∧ decode cX12_sayRain 85 = .ok (.getfield 212, 3)))) := by decide +kernel
theorem dX12_sayRain_61 : decode cX12_sayRain 61 = .ok (.getfield 69, 3) := bg00_85.1.1.1.1
theorem dX12_sayRain_64 : decode cX12_sayRain 64 = .ok (.bipush 8, 2) := bg00_85.1.1.1.2
theorem dX12_sayRain_66 : decode cX12_sayRain 66 = .ok (.aload_n 0, 1) := bg00_85.1.1.2.1
theorem dX12_sayRain_67 : decode cX12_sayRain 67 = .ok (.getfield 42, 3) := bg00_85.1.1.2.2
theorem dX12_sayRain_70 : decode cX12_sayRain 70 = .ok (.bipush 8, 2) := bg00_85.1.2.1.1
theorem dX12_sayRain_72 : decode cX12_sayRain 72 = .ok (.iaload, 1) := bg00_85.1.2.1.2
theorem dX12_sayRain_73 : decode cX12_sayRain 73 = .ok (.iadd, 1) := bg00_85.1.2.2.1
theorem dX12_sayRain_74 : decode cX12_sayRain 74 = .ok (.iload_n 1, 1) := bg00_85.1.2.2.2
theorem dX12_sayRain_75 : decode cX12_sayRain 75 = .ok (.iastore, 1) := bg00_85.2.1.1.1
theorem dX12_sayRain_76 : decode cX12_sayRain 76 = .ok (.aload_n 0, 1) := bg00_85.2.1.1.2
theorem dX12_sayRain_77 : decode cX12_sayRain 77 = .ok (.getfield 42, 3) := bg00_85.2.1.2.1
theorem dX12_sayRain_80 : decode cX12_sayRain 80 = .ok (.bipush 8, 2) := bg00_85.2.1.2.2
theorem dX12_sayRain_82 : decode cX12_sayRain 82 = .ok (.dup2, 1) := bg00_85.2.2.1.1
theorem dX12_sayRain_83 : decode cX12_sayRain 83 = .ok (.iaload, 1) := bg00_85.2.2.1.2
theorem dX12_sayRain_84 : decode cX12_sayRain 84 = .ok (.aload_n 0, 1) := bg00_85.2.2.2.1
theorem dX12_sayRain_85 : decode cX12_sayRain 85 = .ok (.getfield 212, 3) := bg00_85.2.2.2.2
theorem bg00_86 : ((decode cX12_sayRain 88 = .ok (.ifCond .ne 7, 3) ∧ decode cX12_sayRain 91 = .ok (.iconst 1, 1)) ∧ (decode cX12_sayRain 92 = .ok (.goto 4, 3) ∧ decode cX12_sayRain 95 = .ok (.iconst 0, 1))) ∧ ((decode cX12_sayRain 96 = .ok (.iadd, 1) ∧ decode cX12_sayRain 97 = .ok (.iastore, 1)) ∧ (decode cX12_sayRain 98 = .ok (.goto (-85), 3) ∧ decode cX12_sayRain 101 = .ok (.return_, 1))) := by decide +kernel
theorem dX12_sayRain_88 : decode cX12_sayRain 88 = .ok (.ifCond .ne 7, 3) := bg00_86.1.1.1
theorem dX12_sayRain_91 : decode cX12_sayRain 91 = .ok (.iconst 1, 1) := bg00_86.1.1.2
theorem dX12_sayRain_92 : decode cX12_sayRain 92 = .ok (.goto 4, 3) := bg00_86.1.2.1
theorem dX12_sayRain_95 : decode cX12_sayRain 95 = .ok (.iconst 0, 1) := bg00_86.1.2.2
theorem dX12_sayRain_96 : decode cX12_sayRain 96 = .ok (.iadd, 1) := bg00_86.2.1.1
theorem dX12_sayRain_97 : decode cX12_sayRain 97 = .ok (.iastore, 1) := bg00_86.2.1.2
theorem dX12_sayRain_98 : decode cX12_sayRain 98 = .ok (.goto (-85), 3) := bg00_86.2.2.1
theorem dX12_sayRain_101 : decode cX12_sayRain 101 = .ok (.return_, 1) := bg00_86.2.2.2
theorem bg00_87 : (((decode cX12_sayOnce 0 = .ok (.aload_n 0, 1) ∧ decode cX12_sayOnce 1 = .ok (.invokevirtual 237, 3)) ∧ (decode cX12_sayOnce 4 = .ok (.iload_n 1, 1) ∧ decode cX12_sayOnce 5 = .ok (.iconst 1, 1))) ∧ ((decode cX12_sayOnce 6 = .ok (.if_icmp .ne 7, 3) ∧ decode cX12_sayOnce 9 = .ok (.aload_n 0, 1)) ∧ (decode cX12_sayOnce 10 = .ok (.invokevirtual 290, 3) ∧ decode cX12_sayOnce 13 = .ok (.iload_n 1, 1)))) ∧ (((decode cX12_sayOnce 14 = .ok (.iconst 2, 1) ∧ decode cX12_sayOnce 15 = .ok (.if_icmp .ne 17, 3)) ∧ (decode cX12_sayOnce 18 = .ok (.aload_n 0, 1) ∧ decode cX12_sayOnce 19 = .ok (.getfield 42, 3))) ∧ ((decode cX12_sayOnce 22 = .ok (.bipush 9, 2) ∧ decode cX12_sayOnce 24 = .ok (.aload_n 0, 1)) ∧ (decode cX12_sayOnce 25 = .ok (.iconst 0, 1) ∧ decode cX12_sayOnce 26 = .ok (.bipush 99, 2)))) := by decide +kernel
theorem dX12_sayOnce_0 : decode cX12_sayOnce 0 = .ok (.aload_n 0, 1) := bg00_87.1.1.1.1
theorem dX12_sayOnce_1 : decode cX12_sayOnce 1 = .ok (.invokevirtual 237, 3) := bg00_87.1.1.1.2
theorem dX12_sayOnce_4 : decode cX12_sayOnce 4 = .ok (.iload_n 1, 1) := bg00_87.1.1.2.1
theorem dX12_sayOnce_5 : decode cX12_sayOnce 5 = .ok (.iconst 1, 1) := bg00_87.1.1.2.2
theorem dX12_sayOnce_6 : decode cX12_sayOnce 6 = .ok (.if_icmp .ne 7, 3) := bg00_87.1.2.1.1
theorem dX12_sayOnce_9 : decode cX12_sayOnce 9 = .ok (.aload_n 0, 1) := bg00_87.1.2.1.2
theorem dX12_sayOnce_10 : decode cX12_sayOnce 10 = .ok (.invokevirtual 290, 3) := bg00_87.1.2.2.1
theorem dX12_sayOnce_13 : decode cX12_sayOnce 13 = .ok (.iload_n 1, 1) := bg00_87.1.2.2.2
theorem dX12_sayOnce_14 : decode cX12_sayOnce 14 = .ok (.iconst 2, 1) := bg00_87.2.1.1.1
theorem dX12_sayOnce_15 : decode cX12_sayOnce 15 = .ok (.if_icmp .ne 17, 3) := bg00_87.2.1.1.2
theorem dX12_sayOnce_18 : decode cX12_sayOnce 18 = .ok (.aload_n 0, 1) := bg00_87.2.1.2.1
theorem dX12_sayOnce_19 : decode cX12_sayOnce 19 = .ok (.getfield 42, 3) := bg00_87.2.1.2.2
theorem dX12_sayOnce_22 : decode cX12_sayOnce 22 = .ok (.bipush 9, 2) := bg00_87.2.2.1.1
theorem dX12_sayOnce_24 : decode cX12_sayOnce 24 = .ok (.aload_n 0, 1) := bg00_87.2.2.1.2
theorem dX12_sayOnce_25 : decode cX12_sayOnce 25 = .ok (.iconst 0, 1) := bg00_87.2.2.2.1
theorem dX12_sayOnce_26 : decode cX12_sayOnce 26 = .ok (.bipush 99, 2) := bg00_87.2.2.2.2
theorem bg00_88 : (((decode cX12_sayOnce 28 = .ok (.invokevirtual 247, 3) ∧ decode cX12_sayOnce 31 = .ok (.iastore, 1)) ∧ (decode cX12_sayOnce 32 = .ok (.iload_n 1, 1) ∧ decode cX12_sayOnce 33 = .ok (.iconst 4, 1))) ∧ ((decode cX12_sayOnce 34 = .ok (.if_icmp .ge 4, 3) ∧ decode cX12_sayOnce 37 = .ok (.return_, 1)) ∧ (decode cX12_sayOnce 38 = .ok (.aload_n 0, 1) ∧ decode cX12_sayOnce 39 = .ok (.iload_n 1, 1)))) ∧ (((decode cX12_sayOnce 40 = .ok (.bipush 8, 2) ∧ decode cX12_sayOnce 42 = .ok (.if_icmp .ne 7, 3)) ∧ (decode cX12_sayOnce 45 = .ok (.iconst 1, 1) ∧ decode cX12_sayOnce 46 = .ok (.goto 4, 3))) ∧ ((decode cX12_sayOnce 49 = .ok (.iconst 0, 1) ∧ decode cX12_sayOnce 50 = .ok (.putfield 243, 3)) ∧ (decode cX12_sayOnce 53 = .ok (.aload_n 0, 1) ∧ decode cX12_sayOnce 54 = .ok (.aload_n 0, 1)))) := by decide +kernel
theorem dX12_sayOnce_28 : decode cX12_sayOnce 28 = .ok (.invokevirtual 247, 3) := bg00_88.1.1.1.1
theorem dX12_sayOnce_31 : decode cX12_sayOnce 31 = .ok (.iastore, 1) := bg00_88.1.1.1.2
theorem dX12_sayOnce_32 : decode cX12_sayOnce 32 = .ok (.iload_n 1, 1) := bg00_88.1.1.2.1
theorem dX12_sayOnce_33 : decode cX12_sayOnce 33 = .ok (.iconst 4, 1) := bg00_88.1.1.2.2
theorem dX12_sayOnce_34 : decode cX12_sayOnce 34 = .ok (.if_icmp .ge 4, 3) := bg00_88.1.2.1.1
theorem dX12_sayOnce_37 : decode cX12_sayOnce 37 = .ok (.return_, 1) := bg00_88.1.2.1.2
theorem dX12_sayOnce_38 : decode cX12_sayOnce 38 = .ok (.aload_n 0, 1) := bg00_88.1.2.2.1
theorem dX12_sayOnce_39 : decode cX12_sayOnce 39 = .ok (.iload_n 1, 1) := bg00_88.1.2.2.2
theorem dX12_sayOnce_40 : decode cX12_sayOnce 40 = .ok (.bipush 8, 2) := bg00_88.2.1.1.1
theorem dX12_sayOnce_42 : decode cX12_sayOnce 42 = .ok (.if_icmp .ne 7, 3) := bg00_88.2.1.1.2
theorem dX12_sayOnce_45 : decode cX12_sayOnce 45 = .ok (.iconst 1, 1) := bg00_88.2.1.2.1
theorem dX12_sayOnce_46 : decode cX12_sayOnce 46 = .ok (.goto 4, 3) := bg00_88.2.1.2.2
theorem dX12_sayOnce_49 : decode cX12_sayOnce 49 = .ok (.iconst 0, 1) := bg00_88.2.2.1.1
theorem dX12_sayOnce_50 : decode cX12_sayOnce 50 = .ok (.putfield 243, 3) := bg00_88.2.2.1.2
theorem dX12_sayOnce_53 : decode cX12_sayOnce 53 = .ok (.aload_n 0, 1) := bg00_88.2.2.2.1
theorem dX12_sayOnce_54 : decode cX12_sayOnce 54 = .ok (.aload_n 0, 1) := bg00_88.2.2.2.2
theorem bg00_89 : (((decode cX12_sayOnce 55 = .ok (.getfield 243, 3) ∧ decode cX12_sayOnce 58 = .ok (.ifCond .eq 10, 3)) ∧ (decode cX12_sayOnce 61 = .ok (.aload_n 0, 1))) ∧ ((decode cX12_sayOnce 62 = .ok (.getfield 36, 3) ∧ decode cX12_sayOnce 65 = .ok (.goto 7, 3)) ∧ (decode cX12_sayOnce 68 = .ok (.aload_n 0, 1)))) ∧ (((decode cX12_sayOnce 69 = .ok (.getfield 27, 3) ∧ decode cX12_sayOnce 72 = .ok (.putfield 39, 3)) ∧ (decode cX12_sayOnce 75 = .ok (.aload_n 0, 1))) ∧ ((decode cX12_sayOnce 76 = .ok (.iconst 0, 1) ∧ decode cX12_sayOnce 77 = .ok (.invokevirtual 260, 3)) ∧ (decode cX12_sayOnce 80 = .ok (.return_, 1)))) := by decide +kernel
theorem dX12_sayOnce_55 : decode cX12_sayOnce 55 = .ok (.getfield 243, 3) := bg00_89.1.1.1.1
theorem dX12_sayOnce_58 : decode cX12_sayOnce 58 = .ok (.ifCond .eq 10, 3) := bg00_89.1.1.1.2
theorem dX12_sayOnce_61 : decode cX12_sayOnce 61 = .ok (.aload_n 0, 1) := bg00_89.1.1.2
theorem dX12_sayOnce_62 : decode cX12_sayOnce 62 = .ok (.getfield 36, 3) := bg00_89.1.2.1.1
theorem dX12_sayOnce_65 : decode cX12_sayOnce 65 = .ok (.goto 7, 3) := bg00_89.1.2.1.2
theorem dX12_sayOnce_68 : decode cX12_sayOnce 68 = .ok (.aload_n 0, 1) := bg00_89.1.2.2
theorem dX12_sayOnce_69 : decode cX12_sayOnce 69 = .ok (.getfield 27, 3) := bg00_89.2.1.1.1
theorem dX12_sayOnce_72 : decode cX12_sayOnce 72 = .ok (.putfield 39, 3) := bg00_89.2.1.1.2
theorem dX12_sayOnce_75 : decode cX12_sayOnce 75 = .ok (.aload_n 0, 1) := bg00_89.2.1.2
theorem dX12_sayOnce_76 : decode cX12_sayOnce 76 = .ok (.iconst 0, 1) := bg00_89.2.2.1.1
theorem dX12_sayOnce_77 : decode cX12_sayOnce 77 = .ok (.invokevirtual 260, 3) := bg00_89.2.2.1.2
theorem dX12_sayOnce_80 : decode cX12_sayOnce 80 = .ok (.return_, 1) := bg00_89.2.2.2
theorem bg00_90 : (((decode cX12_readLine 0 = .ok (.aload_n 0, 1) ∧ decode cX12_readLine 1 = .ok (.aload_n 0, 1)) ∧ (decode cX12_readLine 2 = .ok (.getfield 15, 3) ∧ decode cX12_readLine 5 = .ok (.invokevirtual 253, 3))) ∧ ((decode cX12_readLine 8 = .ok (.istore_n 2, 1) ∧ decode cX12_readLine 9 = .ok (.aload_n 0, 1)) ∧ (decode cX12_readLine 10 = .ok (.ldc 19, 2) ∧ decode cX12_readLine 12 = .ok (.invokevirtual 226, 3)))) ∧ (((decode cX12_readLine 15 = .ok (.ifCond .eq 7, 3) ∧ decode cX12_readLine 18 = .ok (.iconst 1, 1)) ∧ (decode cX12_readLine 19 = .ok (.goto 47, 3) ∧ decode cX12_readLine 22 = .ok (.aload_n 0, 1))) ∧ ((decode cX12_readLine 23 = .ok (.ldc_w 293, 3) ∧ decode cX12_readLine 26 = .ok (.invokevirtual 226, 3)) ∧ (decode cX12_readLine 29 = .ok (.ifCond .eq 7, 3) ∧ decode cX12_readLine 32 = .ok (.iconst 2, 1)))) := by decide +kernel
theorem dX12_readLine_0 : decode cX12_readLine 0 = .ok (.aload_n 0, 1) := bg00_90.1.1.1.1
theorem dX12_readLine_1 : decode cX12_readLine 1 = .ok (.aload_n 0, 1) := bg00_90.1.1.1.2
theorem dX12_readLine_2 : decode cX12_readLine 2 = .ok (.getfield 15, 3) := bg00_90.1.1.2.1
theorem dX12_readLine_5 : decode cX12_readLine 5 = .ok (.invokevirtual 253, 3) := bg00_90.1.1.2.2
theorem dX12_readLine_8 : decode cX12_readLine 8 = .ok (.istore_n 2, 1) := bg00_90.1.2.1.1
theorem dX12_readLine_9 : decode cX12_readLine 9 = .ok (.aload_n 0, 1) := bg00_90.1.2.1.2
theorem dX12_readLine_10 : decode cX12_readLine 10 = .ok (.ldc 19, 2) := bg00_90.1.2.2.1
theorem dX12_readLine_12 : decode cX12_readLine 12 = .ok (.invokevirtual 226, 3) := bg00_90.1.2.2.2
theorem dX12_readLine_15 : decode cX12_readLine 15 = .ok (.ifCond .eq 7, 3) := bg00_90.2.1.1.1
theorem dX12_readLine_18 : decode cX12_readLine 18 = .ok (.iconst 1, 1) := bg00_90.2.1.1.2
theorem dX12_readLine_19 : decode cX12_readLine 19 = .ok (.goto 47, 3) := bg00_90.2.1.2.1
theorem dX12_readLine_22 : decode cX12_readLine 22 = .ok (.aload_n 0, 1) := bg00_90.2.1.2.2
theorem dX12_readLine_23 : decode cX12_readLine 23 = .ok (.ldc_w 293, 3) := bg00_90.2.2.1.1
theorem dX12_readLine_26 : decode cX12_readLine 26 = .ok (.invokevirtual 226, 3) := bg00_90.2.2.1.2
theorem dX12_readLine_29 : decode cX12_readLine 29 = .ok (.ifCond .eq 7, 3) := bg00_90.2.2.2.1
theorem dX12_readLine_32 : decode cX12_readLine 32 = .ok (.iconst 2, 1) := bg00_90.2.2.2.2
theorem bg00_91 : (((decode cX12_readLine 33 = .ok (.goto 33, 3) ∧ decode cX12_readLine 36 = .ok (.aload_n 0, 1)) ∧ (decode cX12_readLine 37 = .ok (.ldc_w 295, 3) ∧ decode cX12_readLine 40 = .ok (.invokevirtual 226, 3))) ∧ ((decode cX12_readLine 43 = .ok (.ifCond .eq 7, 3) ∧ decode cX12_readLine 46 = .ok (.iconst 4, 1)) ∧ (decode cX12_readLine 47 = .ok (.goto 19, 3) ∧ decode cX12_readLine 50 = .ok (.aload_n 0, 1)))) ∧ (((decode cX12_readLine 51 = .ok (.ldc_w 297, 3) ∧ decode cX12_readLine 54 = .ok (.invokevirtual 226, 3)) ∧ (decode cX12_readLine 57 = .ok (.ifCond .eq 8, 3) ∧ decode cX12_readLine 60 = .ok (.bipush 8, 2))) ∧ ((decode cX12_readLine 62 = .ok (.goto 4, 3) ∧ decode cX12_readLine 65 = .ok (.iconst 0, 1)) ∧ (decode cX12_readLine 66 = .ok (.istore_n 3, 1) ∧ decode cX12_readLine 67 = .ok (.iload_n 3, 1)))) := by decide +kernel
theorem dX12_readLine_33 : decode cX12_readLine 33 = .ok (.goto 33, 3) := bg00_91.1.1.1.1
theorem dX12_readLine_36 : decode cX12_readLine 36 = .ok (.aload_n 0, 1) := bg00_91.1.1.1.2
theorem dX12_readLine_37 : decode cX12_readLine 37 = .ok (.ldc_w 295, 3) := bg00_91.1.1.2.1
theorem dX12_readLine_40 : decode cX12_readLine 40 = .ok (.invokevirtual 226, 3) := bg00_91.1.1.2.2
theorem dX12_readLine_43 : decode cX12_readLine 43 = .ok (.ifCond .eq 7, 3) := bg00_91.1.2.1.1
theorem dX12_readLine_46 : decode cX12_readLine 46 = .ok (.iconst 4, 1) := bg00_91.1.2.1.2
theorem dX12_readLine_47 : decode cX12_readLine 47 = .ok (.goto 19, 3) := bg00_91.1.2.2.1
theorem dX12_readLine_50 : decode cX12_readLine 50 = .ok (.aload_n 0, 1) := bg00_91.1.2.2.2
theorem dX12_readLine_51 : decode cX12_readLine 51 = .ok (.ldc_w 297, 3) := bg00_91.2.1.1.1
theorem dX12_readLine_54 : decode cX12_readLine 54 = .ok (.invokevirtual 226, 3) := bg00_91.2.1.1.2
theorem dX12_readLine_57 : decode cX12_readLine 57 = .ok (.ifCond .eq 8, 3) := bg00_91.2.1.2.1
theorem dX12_readLine_60 : decode cX12_readLine 60 = .ok (.bipush 8, 2) := bg00_91.2.1.2.2
theorem dX12_readLine_62 : decode cX12_readLine 62 = .ok (.goto 4, 3) := bg00_91.2.2.1.1
theorem dX12_readLine_65 : decode cX12_readLine 65 = .ok (.iconst 0, 1) := bg00_91.2.2.1.2
theorem dX12_readLine_66 : decode cX12_readLine 66 = .ok (.istore_n 3, 1) := bg00_91.2.2.2.1
theorem dX12_readLine_67 : decode cX12_readLine 67 = .ok (.iload_n 3, 1) := bg00_91.2.2.2.2
theorem bg00_92 : (((decode cX12_readLine 68 = .ok (.iload_n 1, 1) ∧ decode cX12_readLine 69 = .ok (.iand, 1)) ∧ (decode cX12_readLine 70 = .ok (.ifCond .eq 8, 3) ∧ decode cX12_readLine 73 = .ok (.aload_n 0, 1))) ∧ ((decode cX12_readLine 74 = .ok (.iconst 5, 1) ∧ decode cX12_readLine 75 = .ok (.invokevirtual 233, 3)) ∧ (decode cX12_readLine 78 = .ok (.iload_n 3, 1) ∧ decode cX12_readLine 79 = .ok (.ifCond .le 18, 3)))) ∧ (((decode cX12_readLine 82 = .ok (.aload_n 0, 1) ∧ decode cX12_readLine 83 = .ok (.getfield 212, 3)) ∧ (decode cX12_readLine 86 = .ok (.ifCond .ne 11, 3) ∧ decode cX12_readLine 89 = .ok (.aload_n 0, 1))) ∧ ((decode cX12_readLine 90 = .ok (.iload_n 3, 1) ∧ decode cX12_readLine 91 = .ok (.invokevirtual 299, 3)) ∧ (decode cX12_readLine 94 = .ok (.goto 38, 3) ∧ decode cX12_readLine 97 = .ok (.iload_n 2, 1)))) := by decide +kernel
theorem dX12_readLine_68 : decode cX12_readLine 68 = .ok (.iload_n 1, 1) := bg00_92.1.1.1.1
theorem dX12_readLine_69 : decode cX12_readLine 69 = .ok (.iand, 1) := bg00_92.1.1.1.2
theorem dX12_readLine_70 : decode cX12_readLine 70 = .ok (.ifCond .eq 8, 3) := bg00_92.1.1.2.1
theorem dX12_readLine_73 : decode cX12_readLine 73 = .ok (.aload_n 0, 1) := bg00_92.1.1.2.2
theorem dX12_readLine_74 : decode cX12_readLine 74 = .ok (.iconst 5, 1) := bg00_92.1.2.1.1
theorem dX12_readLine_75 : decode cX12_readLine 75 = .ok (.invokevirtual 233, 3) := bg00_92.1.2.1.2
theorem dX12_readLine_78 : decode cX12_readLine 78 = .ok (.iload_n 3, 1) := bg00_92.1.2.2.1
theorem dX12_readLine_79 : decode cX12_readLine 79 = .ok (.ifCond .le 18, 3) := bg00_92.1.2.2.2
theorem dX12_readLine_82 : decode cX12_readLine 82 = .ok (.aload_n 0, 1) := bg00_92.2.1.1.1
theorem dX12_readLine_83 : decode cX12_readLine 83 = .ok (.getfield 212, 3) := bg00_92.2.1.1.2
theorem dX12_readLine_86 : decode cX12_readLine 86 = .ok (.ifCond .ne 11, 3) := bg00_92.2.1.2.1
theorem dX12_readLine_89 : decode cX12_readLine 89 = .ok (.aload_n 0, 1) := bg00_92.2.1.2.2
theorem dX12_readLine_90 : decode cX12_readLine 90 = .ok (.iload_n 3, 1) := bg00_92.2.2.1.1
theorem dX12_readLine_91 : decode cX12_readLine 91 = .ok (.invokevirtual 299, 3) := bg00_92.2.2.1.2
theorem dX12_readLine_94 : decode cX12_readLine 94 = .ok (.goto 38, 3) := bg00_92.2.2.2.1
theorem dX12_readLine_97 : decode cX12_readLine 97 = .ok (.iload_n 2, 1) := bg00_92.2.2.2.2
theorem bg00_93 : (((decode cX12_readLine 98 = .ok (.iconst (-1), 1) ∧ decode cX12_readLine 99 = .ok (.if_icmp .eq 11, 3)) ∧ (decode cX12_readLine 102 = .ok (.aload_n 0, 1) ∧ decode cX12_readLine 103 = .ok (.iload_n 2, 1))) ∧ ((decode cX12_readLine 104 = .ok (.invokevirtual 302, 3) ∧ decode cX12_readLine 107 = .ok (.goto 25, 3)) ∧ (decode cX12_readLine 110 = .ok (.aload_n 0, 1) ∧ decode cX12_readLine 111 = .ok (.ldc_w 305, 3)))) ∧ (((decode cX12_readLine 114 = .ok (.invokevirtual 226, 3) ∧ decode cX12_readLine 117 = .ok (.ifCond .eq 10, 3)) ∧ (decode cX12_readLine 120 = .ok (.aload_n 0, 1) ∧ decode cX12_readLine 121 = .ok (.invokevirtual 307, 3))) ∧ ((decode cX12_readLine 124 = .ok (.goto 8, 3) ∧ decode cX12_readLine 127 = .ok (.aload_n 0, 1)) ∧ (decode cX12_readLine 128 = .ok (.iconst 1, 1) ∧ decode cX12_readLine 129 = .ok (.invokevirtual 233, 3)))) := by decide +kernel
theorem dX12_readLine_98 : decode cX12_readLine 98 = .ok (.iconst (-1), 1) := bg00_93.1.1.1.1
theorem dX12_readLine_99 : decode cX12_readLine 99 = .ok (.if_icmp .eq 11, 3) := bg00_93.1.1.1.2
theorem dX12_readLine_102 : decode cX12_readLine 102 = .ok (.aload_n 0, 1) := bg00_93.1.1.2.1
theorem dX12_readLine_103 : decode cX12_readLine 103 = .ok (.iload_n 2, 1) := bg00_93.1.1.2.2
theorem dX12_readLine_104 : decode cX12_readLine 104 = .ok (.invokevirtual 302, 3) := bg00_93.1.2.1.1
theorem dX12_readLine_107 : decode cX12_readLine 107 = .ok (.goto 25, 3) := bg00_93.1.2.1.2
theorem dX12_readLine_110 : decode cX12_readLine 110 = .ok (.aload_n 0, 1) := bg00_93.1.2.2.1
theorem dX12_readLine_111 : decode cX12_readLine 111 = .ok (.ldc_w 305, 3) := bg00_93.1.2.2.2
theorem dX12_readLine_114 : decode cX12_readLine 114 = .ok (.invokevirtual 226, 3) := bg00_93.2.1.1.1
theorem dX12_readLine_117 : decode cX12_readLine 117 = .ok (.ifCond .eq 10, 3) := bg00_93.2.1.1.2
theorem dX12_readLine_120 : decode cX12_readLine 120 = .ok (.aload_n 0, 1) := bg00_93.2.1.2.1
theorem dX12_readLine_121 : decode cX12_readLine 121 = .ok (.invokevirtual 307, 3) := bg00_93.2.1.2.2
theorem dX12_readLine_124 : decode cX12_readLine 124 = .ok (.goto 8, 3) := bg00_93.2.2.1.1
theorem dX12_readLine_127 : decode cX12_readLine 127 = .ok (.aload_n 0, 1) := bg00_93.2.2.1.2
theorem dX12_readLine_128 : decode cX12_readLine 128 = .ok (.iconst 1, 1) := bg00_93.2.2.2.1
theorem dX12_readLine_129 : decode cX12_readLine 129 = .ok (.invokevirtual 233, 3) := bg00_93.2.2.2.2
theorem bg00_94 : ((decode cX12_readLine 132 = .ok (.aload_n 0, 1) ∧ decode cX12_readLine 133 = .ok (.bipush 59, 2)) ∧ (decode cX12_readLine 135 = .ok (.invokevirtual 257, 3) ∧ decode cX12_readLine 138 = .ok (.iload_n 1, 1))) ∧ ((decode cX12_readLine 139 = .ok (.iload_n 3, 1) ∧ decode cX12_readLine 140 = .ok (.ior, 1)) ∧ (decode cX12_readLine 141 = .ok (.ireturn, 1) ∧ decode cX12_tower 0 = .ok (.aload_n 0, 1))) := by decide +kernel
theorem dX12_readLine_132 : decode cX12_readLine 132 = .ok (.aload_n 0, 1) := bg00_94.1.1.1
theorem dX12_readLine_133 : decode cX12_readLine 133 = .ok (.bipush 59, 2) := bg00_94.1.1.2
theorem dX12_readLine_135 : decode cX12_readLine 135 = .ok (.invokevirtual 257, 3) := bg00_94.1.2.1
theorem dX12_readLine_138 : decode cX12_readLine 138 = .ok (.iload_n 1, 1) := bg00_94.1.2.2
theorem dX12_readLine_139 : decode cX12_readLine 139 = .ok (.iload_n 3, 1) := bg00_94.2.1.1
theorem dX12_readLine_140 : decode cX12_readLine 140 = .ok (.ior, 1) := bg00_94.2.1.2
theorem dX12_readLine_141 : decode cX12_readLine 141 = .ok (.ireturn, 1) := bg00_94.2.2.1
theorem dX12_tower_0 : decode cX12_tower 0 = .ok (.aload_n 0, 1) := bg00_94.2.2.2
theorem bg00_95 : (((decode cX12_tower 1 = .ok (.iconst 0, 1) ∧ decode cX12_tower 2 = .ok (.putfield 163, 3)) ∧ (decode cX12_tower 5 = .ok (.iload_n 1, 1) ∧ decode cX12_tower 6 = .ok (.ifCond .lt 11, 3))) ∧ ((decode cX12_tower 9 = .ok (.iload_n 1, 1) ∧ decode cX12_tower 10 = .ok (.aload_n 0, 1)) ∧ (decode cX12_tower 11 = .ok (.getfield 170, 3) ∧ decode cX12_tower 14 = .ok (.if_icmp .le 9, 3)))) ∧ (((decode cX12_tower 17 = .ok (.aload_n 0, 1) ∧ decode cX12_tower 18 = .ok (.iconst 1, 1)) ∧ (decode cX12_tower 19 = .ok (.invokevirtual 310, 3) ∧ decode cX12_tower 22 = .ok (.ireturn, 1))) ∧ ((decode cX12_tower 23 = .ok (.aload_n 0, 1) ∧ decode cX12_tower 24 = .ok (.iconst 0, 1)) ∧ (decode cX12_tower 25 = .ok (.putfield 170, 3) ∧ decode cX12_tower 28 = .ok (.aload_n 0, 1)))) := by decide +kernel
theorem dX12_tower_1 : decode cX12_tower 1 = .ok (.iconst 0, 1) := bg00_95.1.1.1.1
theorem dX12_tower_2 : decode cX12_tower 2 = .ok (.putfield 163, 3) := bg00_95.1.1.1.2
theorem dX12_tower_5 : decode cX12_tower 5 = .ok (.iload_n 1, 1) := bg00_95.1.1.2.1
theorem dX12_tower_6 : decode cX12_tower 6 = .ok (.ifCond .lt 11, 3) := bg00_95.1.1.2.2
theorem dX12_tower_9 : decode cX12_tower 9 = .ok (.iload_n 1, 1) := bg00_95.1.2.1.1
theorem dX12_tower_10 : decode cX12_tower 10 = .ok (.aload_n 0, 1) := bg00_95.1.2.1.2
theorem dX12_tower_11 : decode cX12_tower 11 = .ok (.getfield 170, 3) := bg00_95.1.2.2.1
theorem dX12_tower_14 : decode cX12_tower 14 = .ok (.if_icmp .le 9, 3) := bg00_95.1.2.2.2
theorem dX12_tower_17 : decode cX12_tower 17 = .ok (.aload_n 0, 1) := bg00_95.2.1.1.1
theorem dX12_tower_18 : decode cX12_tower 18 = .ok (.iconst 1, 1) := bg00_95.2.1.1.2
theorem dX12_tower_19 : decode cX12_tower 19 = .ok (.invokevirtual 310, 3) := bg00_95.2.1.2.1
theorem dX12_tower_22 : decode cX12_tower 22 = .ok (.ireturn, 1) := bg00_95.2.1.2.2
theorem dX12_tower_23 : decode cX12_tower 23 = .ok (.aload_n 0, 1) := bg00_95.2.2.1.1
theorem dX12_tower_24 : decode cX12_tower 24 = .ok (.iconst 0, 1) := bg00_95.2.2.1.2
theorem dX12_tower_25 : decode cX12_tower 25 = .ok (.putfield 170, 3) := bg00_95.2.2.2.1
theorem dX12_tower_28 : decode cX12_tower 28 = .ok (.aload_n 0, 1) := bg00_95.2.2.2.2
theorem bg00_96 : (((decode cX12_tower 29 = .ok (.iload_n 1, 1) ∧ decode cX12_tower 30 = .ok (.putfield 173, 3)) ∧ (decode cX12_tower 33 = .ok (.aload_n 0, 1) ∧ decode cX12_tower 34 = .ok (.iconst 0, 1))) ∧ ((decode cX12_tower 35 = .ok (.putfield 176, 3) ∧ decode cX12_tower 38 = .ok (.aload_n 0, 1)) ∧ (decode cX12_tower 39 = .ok (.iconst 0, 1) ∧ decode cX12_tower 40 = .ok (.putfield 212, 3)))) ∧ (((decode cX12_tower 43 = .ok (.aload_n 0, 1) ∧ decode cX12_tower 44 = .ok (.iconst (-1), 1)) ∧ (decode cX12_tower 45 = .ok (.putfield 84, 3) ∧ decode cX12_tower 48 = .ok (.iconst 0, 1))) ∧ ((decode cX12_tower 49 = .ok (.istore_n 2, 1) ∧ decode cX12_tower 50 = .ok (.iload_n 2, 1)) ∧ (decode cX12_tower 51 = .ok (.bipush 6, 2) ∧ decode cX12_tower 53 = .ok (.if_icmp .ge 29, 3)))) := by decide +kernel
theorem dX12_tower_29 : decode cX12_tower 29 = .ok (.iload_n 1, 1) := bg00_96.1.1.1.1
theorem dX12_tower_30 : decode cX12_tower 30 = .ok (.putfield 173, 3) := bg00_96.1.1.1.2
theorem dX12_tower_33 : decode cX12_tower 33 = .ok (.aload_n 0, 1) := bg00_96.1.1.2.1
theorem dX12_tower_34 : decode cX12_tower 34 = .ok (.iconst 0, 1) := bg00_96.1.1.2.2
theorem dX12_tower_35 : decode cX12_tower 35 = .ok (.putfield 176, 3) := bg00_96.1.2.1.1
theorem dX12_tower_38 : decode cX12_tower 38 = .ok (.aload_n 0, 1) := bg00_96.1.2.1.2
theorem dX12_tower_39 : decode cX12_tower 39 = .ok (.iconst 0, 1) := bg00_96.1.2.2.1
theorem dX12_tower_40 : decode cX12_tower 40 = .ok (.putfield 212, 3) := bg00_96.1.2.2.2
theorem dX12_tower_43 : decode cX12_tower 43 = .ok (.aload_n 0, 1) := bg00_96.2.1.1.1
theorem dX12_tower_44 : decode cX12_tower 44 = .ok (.iconst (-1), 1) := bg00_96.2.1.1.2
theorem dX12_tower_45 : decode cX12_tower 45 = .ok (.putfield 84, 3) := bg00_96.2.1.2.1
theorem dX12_tower_48 : decode cX12_tower 48 = .ok (.iconst 0, 1) := bg00_96.2.1.2.2
theorem dX12_tower_49 : decode cX12_tower 49 = .ok (.istore_n 2, 1) := bg00_96.2.2.1.1
theorem dX12_tower_50 : decode cX12_tower 50 = .ok (.iload_n 2, 1) := bg00_96.2.2.1.2
theorem dX12_tower_51 : decode cX12_tower 51 = .ok (.bipush 6, 2) := bg00_96.2.2.2.1
theorem dX12_tower_53 : decode cX12_tower 53 = .ok (.if_icmp .ge 29, 3) := bg00_96.2.2.2.2
theorem bg00_97 : (((decode cX12_tower 56 = .ok (.aload_n 0, 1) ∧ decode cX12_tower 57 = .ok (.getfield 42, 3)) ∧ (decode cX12_tower 60 = .ok (.bipush 6, 2) ∧ decode cX12_tower 62 = .ok (.iload_n 2, 1))) ∧ ((decode cX12_tower 63 = .ok (.iadd, 1) ∧ decode cX12_tower 64 = .ok (.iload_n 2, 1)) ∧ (decode cX12_tower 65 = .ok (.iconst 3, 1) ∧ decode cX12_tower 66 = .ok (.if_icmp .ne 8, 3)))) ∧ (((decode cX12_tower 69 = .ok (.bipush 30, 2) ∧ decode cX12_tower 71 = .ok (.goto 4, 3)) ∧ (decode cX12_tower 74 = .ok (.iconst 0, 1) ∧ decode cX12_tower 75 = .ok (.iastore, 1))) ∧ ((decode cX12_tower 76 = .ok (.iinc 2 1, 3) ∧ decode cX12_tower 79 = .ok (.goto (-29), 3)) ∧ (decode cX12_tower 82 = .ok (.aload_n 0, 1) ∧ decode cX12_tower 83 = .ok (.invokevirtual 237, 3)))) := by decide +kernel
theorem dX12_tower_56 : decode cX12_tower 56 = .ok (.aload_n 0, 1) := bg00_97.1.1.1.1
theorem dX12_tower_57 : decode cX12_tower 57 = .ok (.getfield 42, 3) := bg00_97.1.1.1.2
theorem dX12_tower_60 : decode cX12_tower 60 = .ok (.bipush 6, 2) := bg00_97.1.1.2.1
theorem dX12_tower_62 : decode cX12_tower 62 = .ok (.iload_n 2, 1) := bg00_97.1.1.2.2
theorem dX12_tower_63 : decode cX12_tower 63 = .ok (.iadd, 1) := bg00_97.1.2.1.1
theorem dX12_tower_64 : decode cX12_tower 64 = .ok (.iload_n 2, 1) := bg00_97.1.2.1.2
theorem dX12_tower_65 : decode cX12_tower 65 = .ok (.iconst 3, 1) := bg00_97.1.2.2.1
theorem dX12_tower_66 : decode cX12_tower 66 = .ok (.if_icmp .ne 8, 3) := bg00_97.1.2.2.2
theorem dX12_tower_69 : decode cX12_tower 69 = .ok (.bipush 30, 2) := bg00_97.2.1.1.1
theorem dX12_tower_71 : decode cX12_tower 71 = .ok (.goto 4, 3) := bg00_97.2.1.1.2
theorem dX12_tower_74 : decode cX12_tower 74 = .ok (.iconst 0, 1) := bg00_97.2.1.2.1
theorem dX12_tower_75 : decode cX12_tower 75 = .ok (.iastore, 1) := bg00_97.2.1.2.2
theorem dX12_tower_76 : decode cX12_tower 76 = .ok (.iinc 2 1, 3) := bg00_97.2.2.1.1
theorem dX12_tower_79 : decode cX12_tower 79 = .ok (.goto (-29), 3) := bg00_97.2.2.1.2
theorem dX12_tower_82 : decode cX12_tower 82 = .ok (.aload_n 0, 1) := bg00_97.2.2.2.1
theorem dX12_tower_83 : decode cX12_tower 83 = .ok (.invokevirtual 237, 3) := bg00_97.2.2.2.2
theorem bg00_98 : (((decode cX12_tower 86 = .ok (.iconst 0, 1) ∧ decode cX12_tower 87 = .ok (.istore_n 2, 1)) ∧ (decode cX12_tower 88 = .ok (.aload_n 0, 1) ∧ decode cX12_tower 89 = .ok (.getfield 212, 3))) ∧ ((decode cX12_tower 92 = .ok (.ifCond .ne 19, 3) ∧ decode cX12_tower 95 = .ok (.aload_n 0, 1)) ∧ (decode cX12_tower 96 = .ok (.getfield 186, 3) ∧ decode cX12_tower 99 = .ok (.ifCond .eq 12, 3)))) ∧ (((decode cX12_tower 102 = .ok (.aload_n 0, 1) ∧ decode cX12_tower 103 = .ok (.iload_n 2, 1)) ∧ (decode cX12_tower 104 = .ok (.invokevirtual 313, 3) ∧ decode cX12_tower 107 = .ok (.istore_n 2, 1))) ∧ ((decode cX12_tower 108 = .ok (.goto (-20), 3) ∧ decode cX12_tower 111 = .ok (.aload_n 0, 1)) ∧ (decode cX12_tower 112 = .ok (.getfield 212, 3) ∧ decode cX12_tower 115 = .ok (.ifCond .eq 26, 3)))) := by decide +kernel
theorem dX12_tower_86 : decode cX12_tower 86 = .ok (.iconst 0, 1) := bg00_98.1.1.1.1
theorem dX12_tower_87 : decode cX12_tower 87 = .ok (.istore_n 2, 1) := bg00_98.1.1.1.2
theorem dX12_tower_88 : decode cX12_tower 88 = .ok (.aload_n 0, 1) := bg00_98.1.1.2.1
theorem dX12_tower_89 : decode cX12_tower 89 = .ok (.getfield 212, 3) := bg00_98.1.1.2.2
theorem dX12_tower_92 : decode cX12_tower 92 = .ok (.ifCond .ne 19, 3) := bg00_98.1.2.1.1
theorem dX12_tower_95 : decode cX12_tower 95 = .ok (.aload_n 0, 1) := bg00_98.1.2.1.2
theorem dX12_tower_96 : decode cX12_tower 96 = .ok (.getfield 186, 3) := bg00_98.1.2.2.1
theorem dX12_tower_99 : decode cX12_tower 99 = .ok (.ifCond .eq 12, 3) := bg00_98.1.2.2.2
theorem dX12_tower_102 : decode cX12_tower 102 = .ok (.aload_n 0, 1) := bg00_98.2.1.1.1
theorem dX12_tower_103 : decode cX12_tower 103 = .ok (.iload_n 2, 1) := bg00_98.2.1.1.2
theorem dX12_tower_104 : decode cX12_tower 104 = .ok (.invokevirtual 313, 3) := bg00_98.2.1.2.1
theorem dX12_tower_107 : decode cX12_tower 107 = .ok (.istore_n 2, 1) := bg00_98.2.1.2.2
theorem dX12_tower_108 : decode cX12_tower 108 = .ok (.goto (-20), 3) := bg00_98.2.2.1.1
theorem dX12_tower_111 : decode cX12_tower 111 = .ok (.aload_n 0, 1) := bg00_98.2.2.1.2
theorem dX12_tower_112 : decode cX12_tower 112 = .ok (.getfield 212, 3) := bg00_98.2.2.2.1
theorem dX12_tower_115 : decode cX12_tower 115 = .ok (.ifCond .eq 26, 3) := bg00_98.2.2.2.2
theorem bg00_99 : (((decode cX12_tower 118 = .ok (.aload_n 0, 1) ∧ decode cX12_tower 119 = .ok (.aload_n 0, 1)) ∧ (decode cX12_tower 120 = .ok (.getfield 215, 3) ∧ decode cX12_tower 123 = .ok (.putfield 84, 3))) ∧ ((decode cX12_tower 126 = .ok (.aload_n 0, 1) ∧ decode cX12_tower 127 = .ok (.getfield 78, 3)) ∧ (decode cX12_tower 130 = .ok (.iconst 0, 1) ∧ decode cX12_tower 131 = .ok (.dup2, 1)))) ∧ (((decode cX12_tower 132 = .ok (.iaload, 1) ∧ decode cX12_tower 133 = .ok (.iconst 1, 1)) ∧ (decode cX12_tower 134 = .ok (.iadd, 1) ∧ decode cX12_tower 135 = .ok (.iastore, 1))) ∧ ((decode cX12_tower 136 = .ok (.aload_n 0, 1) ∧ decode cX12_tower 137 = .ok (.getfield 212, 3)) ∧ (decode cX12_tower 140 = .ok (.ireturn, 1) ∧ decode cX12_tower 141 = .ok (.aload_n 0, 1)))) := by decide +kernel
theorem dX12_tower_118 : decode cX12_tower 118 = .ok (.aload_n 0, 1) := bg00_99.1.1.1.1
theorem dX12_tower_119 : decode cX12_tower 119 = .ok (.aload_n 0, 1) := bg00_99.1.1.1.2
theorem dX12_tower_120 : decode cX12_tower 120 = .ok (.getfield 215, 3) := bg00_99.1.1.2.1
theorem dX12_tower_123 : decode cX12_tower 123 = .ok (.putfield 84, 3) := bg00_99.1.1.2.2
theorem dX12_tower_126 : decode cX12_tower 126 = .ok (.aload_n 0, 1) := bg00_99.1.2.1.1
theorem dX12_tower_127 : decode cX12_tower 127 = .ok (.getfield 78, 3) := bg00_99.1.2.1.2
theorem dX12_tower_130 : decode cX12_tower 130 = .ok (.iconst 0, 1) := bg00_99.1.2.2.1
theorem dX12_tower_131 : decode cX12_tower 131 = .ok (.dup2, 1) := bg00_99.1.2.2.2
theorem dX12_tower_132 : decode cX12_tower 132 = .ok (.iaload, 1) := bg00_99.2.1.1.1
theorem dX12_tower_133 : decode cX12_tower 133 = .ok (.iconst 1, 1) := bg00_99.2.1.1.2
theorem dX12_tower_134 : decode cX12_tower 134 = .ok (.iadd, 1) := bg00_99.2.1.2.1
theorem dX12_tower_135 : decode cX12_tower 135 = .ok (.iastore, 1) := bg00_99.2.1.2.2
theorem dX12_tower_136 : decode cX12_tower 136 = .ok (.aload_n 0, 1) := bg00_99.2.2.1.1
theorem dX12_tower_137 : decode cX12_tower 137 = .ok (.getfield 212, 3) := bg00_99.2.2.1.2
theorem dX12_tower_140 : decode cX12_tower 140 = .ok (.ireturn, 1) := bg00_99.2.2.2.1
theorem dX12_tower_141 : decode cX12_tower 141 = .ok (.aload_n 0, 1) := bg00_99.2.2.2.2
theorem bg00_100 : ((decode cX12_tower 142 = .ok (.invokevirtual 316, 3) ∧ decode cX12_tower 145 = .ok (.iconst 0, 1)) ∧ (decode cX12_tower 146 = .ok (.ireturn, 1) ∧ decode cX12_takeHalf 0 = .ok (.iconst 0, 1))) ∧ ((decode cX12_takeHalf 1 = .ok (.istore_n 1, 1) ∧ decode cX12_takeHalf 2 = .ok (.iload_n 1, 1)) ∧ (decode cX12_takeHalf 3 = .ok (.aload_n 0, 1) ∧ decode cX12_takeHalf 4 = .ok (.arraylength, 1))) := by decide +kernel
theorem dX12_tower_142 : decode cX12_tower 142 = .ok (.invokevirtual 316, 3) := bg00_100.1.1.1
theorem dX12_tower_145 : decode cX12_tower 145 = .ok (.iconst 0, 1) := bg00_100.1.1.2
theorem dX12_tower_146 : decode cX12_tower 146 = .ok (.ireturn, 1) := bg00_100.1.2.1
theorem dX12_takeHalf_0 : decode cX12_takeHalf 0 = .ok (.iconst 0, 1) := bg00_100.1.2.2
theorem dX12_takeHalf_1 : decode cX12_takeHalf 1 = .ok (.istore_n 1, 1) := bg00_100.2.1.1
theorem dX12_takeHalf_2 : decode cX12_takeHalf 2 = .ok (.iload_n 1, 1) := bg00_100.2.1.2
theorem dX12_takeHalf_3 : decode cX12_takeHalf 3 = .ok (.aload_n 0, 1) := bg00_100.2.2.1
theorem dX12_takeHalf_4 : decode cX12_takeHalf 4 = .ok (.arraylength, 1) := bg00_100.2.2.2
theorem bg00_101 : (((decode cX12_takeHalf 5 = .ok (.iconst 2, 1) ∧ decode cX12_takeHalf 6 = .ok (.idiv, 1)) ∧ (decode cX12_takeHalf 7 = .ok (.if_icmp .ge 20, 3) ∧ decode cX12_takeHalf 10 = .ok (.aload_n 0, 1))) ∧ ((decode cX12_takeHalf 11 = .ok (.iload_n 1, 1) ∧ decode cX12_takeHalf 12 = .ok (.aload_n 0, 1)) ∧ (decode cX12_takeHalf 13 = .ok (.aload_n 0, 1) ∧ decode cX12_takeHalf 14 = .ok (.arraylength, 1)))) ∧ (((decode cX12_takeHalf 15 = .ok (.iconst 2, 1) ∧ decode cX12_takeHalf 16 = .ok (.idiv, 1)) ∧ (decode cX12_takeHalf 17 = .ok (.iload_n 1, 1) ∧ decode cX12_takeHalf 18 = .ok (.iadd, 1))) ∧ ((decode cX12_takeHalf 19 = .ok (.iaload, 1) ∧ decode cX12_takeHalf 20 = .ok (.iastore, 1)) ∧ (decode cX12_takeHalf 21 = .ok (.iinc 1 1, 3) ∧ decode cX12_takeHalf 24 = .ok (.goto (-22), 3)))) := by decide +kernel
theorem dX12_takeHalf_5 : decode cX12_takeHalf 5 = .ok (.iconst 2, 1) := bg00_101.1.1.1.1
theorem dX12_takeHalf_6 : decode cX12_takeHalf 6 = .ok (.idiv, 1) := bg00_101.1.1.1.2
theorem dX12_takeHalf_7 : decode cX12_takeHalf 7 = .ok (.if_icmp .ge 20, 3) := bg00_101.1.1.2.1
theorem dX12_takeHalf_10 : decode cX12_takeHalf 10 = .ok (.aload_n 0, 1) := bg00_101.1.1.2.2
theorem dX12_takeHalf_11 : decode cX12_takeHalf 11 = .ok (.iload_n 1, 1) := bg00_101.1.2.1.1
theorem dX12_takeHalf_12 : decode cX12_takeHalf 12 = .ok (.aload_n 0, 1) := bg00_101.1.2.1.2
theorem dX12_takeHalf_13 : decode cX12_takeHalf 13 = .ok (.aload_n 0, 1) := bg00_101.1.2.2.1
theorem dX12_takeHalf_14 : decode cX12_takeHalf 14 = .ok (.arraylength, 1) := bg00_101.1.2.2.2
theorem dX12_takeHalf_15 : decode cX12_takeHalf 15 = .ok (.iconst 2, 1) := bg00_101.2.1.1.1
theorem dX12_takeHalf_16 : decode cX12_takeHalf 16 = .ok (.idiv, 1) := bg00_101.2.1.1.2
theorem dX12_takeHalf_17 : decode cX12_takeHalf 17 = .ok (.iload_n 1, 1) := bg00_101.2.1.2.1
theorem dX12_takeHalf_18 : decode cX12_takeHalf 18 = .ok (.iadd, 1) := bg00_101.2.1.2.2
theorem dX12_takeHalf_19 : decode cX12_takeHalf 19 = .ok (.iaload, 1) := bg00_101.2.2.1.1
theorem dX12_takeHalf_20 : decode cX12_takeHalf 20 = .ok (.iastore, 1) := bg00_101.2.2.1.2
theorem dX12_takeHalf_21 : decode cX12_takeHalf 21 = .ok (.iinc 1 1, 3) := bg00_101.2.2.2.1
theorem dX12_takeHalf_24 : decode cX12_takeHalf 24 = .ok (.goto (-22), 3) := bg00_101.2.2.2.2
theorem bg00_102 : ((decode cX12_takeHalf 27 = .ok (.return_, 1) ∧ decode cX12_takeOver 0 = .ok (.aload_n 0, 1)) ∧ (decode cX12_takeOver 1 = .ok (.getfield 42, 3) ∧ decode cX12_takeOver 4 = .ok (.invokestatic 319, 3))) ∧ ((decode cX12_takeOver 7 = .ok (.aload_n 0, 1) ∧ decode cX12_takeOver 8 = .ok (.getfield 46, 3)) ∧ (decode cX12_takeOver 11 = .ok (.invokestatic 319, 3) ∧ decode cX12_takeOver 14 = .ok (.aload_n 0, 1))) := by decide +kernel
theorem dX12_takeHalf_27 : decode cX12_takeHalf 27 = .ok (.return_, 1) := bg00_102.1.1.1
theorem dX12_takeOver_0 : decode cX12_takeOver 0 = .ok (.aload_n 0, 1) := bg00_102.1.1.2
theorem dX12_takeOver_1 : decode cX12_takeOver 1 = .ok (.getfield 42, 3) := bg00_102.1.2.1
theorem dX12_takeOver_4 : decode cX12_takeOver 4 = .ok (.invokestatic 319, 3) := bg00_102.1.2.2
theorem dX12_takeOver_7 : decode cX12_takeOver 7 = .ok (.aload_n 0, 1) := bg00_102.2.1.1
theorem dX12_takeOver_8 : decode cX12_takeOver 8 = .ok (.getfield 46, 3) := bg00_102.2.1.2
theorem dX12_takeOver_11 : decode cX12_takeOver 11 = .ok (.invokestatic 319, 3) := bg00_102.2.2.1
theorem dX12_takeOver_14 : decode cX12_takeOver 14 = .ok (.aload_n 0, 1) := bg00_102.2.2.2
theorem bg00_103 : (((decode cX12_takeOver 15 = .ok (.getfield 49, 3) ∧ decode cX12_takeOver 18 = .ok (.invokestatic 319, 3)) ∧ (decode cX12_takeOver 21 = .ok (.aload_n 0, 1) ∧ decode cX12_takeOver 22 = .ok (.getfield 52, 3))) ∧ ((decode cX12_takeOver 25 = .ok (.invokestatic 319, 3) ∧ decode cX12_takeOver 28 = .ok (.aload_n 0, 1)) ∧ (decode cX12_takeOver 29 = .ok (.getfield 55, 3) ∧ decode cX12_takeOver 32 = .ok (.invokestatic 319, 3)))) ∧ (((decode cX12_takeOver 35 = .ok (.aload_n 0, 1) ∧ decode cX12_takeOver 36 = .ok (.getfield 57, 3)) ∧ (decode cX12_takeOver 39 = .ok (.invokestatic 319, 3) ∧ decode cX12_takeOver 42 = .ok (.aload_n 0, 1))) ∧ ((decode cX12_takeOver 43 = .ok (.getfield 60, 3) ∧ decode cX12_takeOver 46 = .ok (.invokestatic 319, 3)) ∧ (decode cX12_takeOver 49 = .ok (.aload_n 0, 1) ∧ decode cX12_takeOver 50 = .ok (.getfield 63, 3)))) := by decide +kernel
theorem dX12_takeOver_15 : decode cX12_takeOver 15 = .ok (.getfield 49, 3) := bg00_103.1.1.1.1
theorem dX12_takeOver_18 : decode cX12_takeOver 18 = .ok (.invokestatic 319, 3) := bg00_103.1.1.1.2
theorem dX12_takeOver_21 : decode cX12_takeOver 21 = .ok (.aload_n 0, 1) := bg00_103.1.1.2.1
theorem dX12_takeOver_22 : decode cX12_takeOver 22 = .ok (.getfield 52, 3) := bg00_103.1.1.2.2
theorem dX12_takeOver_25 : decode cX12_takeOver 25 = .ok (.invokestatic 319, 3) := bg00_103.1.2.1.1
theorem dX12_takeOver_28 : decode cX12_takeOver 28 = .ok (.aload_n 0, 1) := bg00_103.1.2.1.2
theorem dX12_takeOver_29 : decode cX12_takeOver 29 = .ok (.getfield 55, 3) := bg00_103.1.2.2.1
theorem dX12_takeOver_32 : decode cX12_takeOver 32 = .ok (.invokestatic 319, 3) := bg00_103.1.2.2.2
theorem dX12_takeOver_35 : decode cX12_takeOver 35 = .ok (.aload_n 0, 1) := bg00_103.2.1.1.1
theorem dX12_takeOver_36 : decode cX12_takeOver 36 = .ok (.getfield 57, 3) := bg00_103.2.1.1.2
theorem dX12_takeOver_39 : decode cX12_takeOver 39 = .ok (.invokestatic 319, 3) := bg00_103.2.1.2.1
theorem dX12_takeOver_42 : decode cX12_takeOver 42 = .ok (.aload_n 0, 1) := bg00_103.2.1.2.2
theorem dX12_takeOver_43 : decode cX12_takeOver 43 = .ok (.getfield 60, 3) := bg00_103.2.2.1.1
theorem dX12_takeOver_46 : decode cX12_takeOver 46 = .ok (.invokestatic 319, 3) := bg00_103.2.2.1.2
theorem dX12_takeOver_49 : decode cX12_takeOver 49 = .ok (.aload_n 0, 1) := bg00_103.2.2.2.1
theorem dX12_takeOver_50 : decode cX12_takeOver 50 = .ok (.getfield 63, 3) := bg00_103.2.2.2.2
theorem bg00_104 : (((decode cX12_takeOver 53 = .ok (.invokestatic 319, 3) ∧ decode cX12_takeOver 56 = .ok (.aload_n 0, 1)) ∧ (decode cX12_takeOver 57 = .ok (.getfield 66, 3) ∧ decode cX12_takeOver 60 = .ok (.invokestatic 319, 3))) ∧ ((decode cX12_takeOver 63 = .ok (.aload_n 0, 1) ∧ decode cX12_takeOver 64 = .ok (.getfield 69, 3)) ∧ (decode cX12_takeOver 67 = .ok (.invokestatic 319, 3) ∧ decode cX12_takeOver 70 = .ok (.aload_n 0, 1)))) ∧ (((decode cX12_takeOver 71 = .ok (.getfield 72, 3) ∧ decode cX12_takeOver 74 = .ok (.invokestatic 319, 3)) ∧ (decode cX12_takeOver 77 = .ok (.aload_n 0, 1) ∧ decode cX12_takeOver 78 = .ok (.getfield 75, 3))) ∧ ((decode cX12_takeOver 81 = .ok (.invokestatic 319, 3) ∧ decode cX12_takeOver 84 = .ok (.aload_n 0, 1)) ∧ (decode cX12_takeOver 85 = .ok (.iconst 0, 1) ∧ decode cX12_takeOver 86 = .ok (.putfield 323, 3)))) := by decide +kernel
theorem dX12_takeOver_53 : decode cX12_takeOver 53 = .ok (.invokestatic 319, 3) := bg00_104.1.1.1.1
theorem dX12_takeOver_56 : decode cX12_takeOver 56 = .ok (.aload_n 0, 1) := bg00_104.1.1.1.2
theorem dX12_takeOver_57 : decode cX12_takeOver 57 = .ok (.getfield 66, 3) := bg00_104.1.1.2.1
theorem dX12_takeOver_60 : decode cX12_takeOver 60 = .ok (.invokestatic 319, 3) := bg00_104.1.1.2.2
theorem dX12_takeOver_63 : decode cX12_takeOver 63 = .ok (.aload_n 0, 1) := bg00_104.1.2.1.1
theorem dX12_takeOver_64 : decode cX12_takeOver 64 = .ok (.getfield 69, 3) := bg00_104.1.2.1.2
theorem dX12_takeOver_67 : decode cX12_takeOver 67 = .ok (.invokestatic 319, 3) := bg00_104.1.2.2.1
theorem dX12_takeOver_70 : decode cX12_takeOver 70 = .ok (.aload_n 0, 1) := bg00_104.1.2.2.2
theorem dX12_takeOver_71 : decode cX12_takeOver 71 = .ok (.getfield 72, 3) := bg00_104.2.1.1.1
theorem dX12_takeOver_74 : decode cX12_takeOver 74 = .ok (.invokestatic 319, 3) := bg00_104.2.1.1.2
theorem dX12_takeOver_77 : decode cX12_takeOver 77 = .ok (.aload_n 0, 1) := bg00_104.2.1.2.1
theorem dX12_takeOver_78 : decode cX12_takeOver 78 = .ok (.getfield 75, 3) := bg00_104.2.1.2.2
theorem dX12_takeOver_81 : decode cX12_takeOver 81 = .ok (.invokestatic 319, 3) := bg00_104.2.2.1.1
theorem dX12_takeOver_84 : decode cX12_takeOver 84 = .ok (.aload_n 0, 1) := bg00_104.2.2.1.2
theorem dX12_takeOver_85 : decode cX12_takeOver 85 = .ok (.iconst 0, 1) := bg00_104.2.2.2.1
theorem dX12_takeOver_86 : decode cX12_takeOver 86 = .ok (.putfield 323, 3) := bg00_104.2.2.2.2
theorem bg00_105 : (((decode cX12_takeOver 89 = .ok (.iconst 0, 1) ∧ decode cX12_takeOver 90 = .ok (.istore_n 1, 1)) ∧ (decode cX12_takeOver 91 = .ok (.iload_n 1, 1) ∧ decode cX12_takeOver 92 = .ok (.bipush 8, 2))) ∧ ((decode cX12_takeOver 94 = .ok (.if_icmp .ge 95, 3) ∧ decode cX12_takeOver 97 = .ok (.iload_n 1, 1)) ∧ (decode cX12_takeOver 98 = .ok (.aload_n 0, 1) ∧ decode cX12_takeOver 99 = .ok (.getfield 42, 3)))) ∧ (((decode cX12_takeOver 102 = .ok (.iconst 0, 1) ∧ decode cX12_takeOver 103 = .ok (.iaload, 1)) ∧ (decode cX12_takeOver 104 = .ok (.if_icmp .ge 7, 3) ∧ decode cX12_takeOver 107 = .ok (.iconst 1, 1))) ∧ ((decode cX12_takeOver 108 = .ok (.goto 4, 3) ∧ decode cX12_takeOver 111 = .ok (.iconst 0, 1)) ∧ (decode cX12_takeOver 112 = .ok (.istore_n 2, 1) ∧ decode cX12_takeOver 113 = .ok (.aload_n 0, 1)))) := by decide +kernel
theorem dX12_takeOver_89 : decode cX12_takeOver 89 = .ok (.iconst 0, 1) := bg00_105.1.1.1.1
theorem dX12_takeOver_90 : decode cX12_takeOver 90 = .ok (.istore_n 1, 1) := bg00_105.1.1.1.2
theorem dX12_takeOver_91 : decode cX12_takeOver 91 = .ok (.iload_n 1, 1) := bg00_105.1.1.2.1
theorem dX12_takeOver_92 : decode cX12_takeOver 92 = .ok (.bipush 8, 2) := bg00_105.1.1.2.2
theorem dX12_takeOver_94 : decode cX12_takeOver 94 = .ok (.if_icmp .ge 95, 3) := bg00_105.1.2.1.1
theorem dX12_takeOver_97 : decode cX12_takeOver 97 = .ok (.iload_n 1, 1) := bg00_105.1.2.1.2
theorem dX12_takeOver_98 : decode cX12_takeOver 98 = .ok (.aload_n 0, 1) := bg00_105.1.2.2.1
theorem dX12_takeOver_99 : decode cX12_takeOver 99 = .ok (.getfield 42, 3) := bg00_105.1.2.2.2
theorem dX12_takeOver_102 : decode cX12_takeOver 102 = .ok (.iconst 0, 1) := bg00_105.2.1.1.1
theorem dX12_takeOver_103 : decode cX12_takeOver 103 = .ok (.iaload, 1) := bg00_105.2.1.1.2
theorem dX12_takeOver_104 : decode cX12_takeOver 104 = .ok (.if_icmp .ge 7, 3) := bg00_105.2.1.2.1
theorem dX12_takeOver_107 : decode cX12_takeOver 107 = .ok (.iconst 1, 1) := bg00_105.2.1.2.2
theorem dX12_takeOver_108 : decode cX12_takeOver 108 = .ok (.goto 4, 3) := bg00_105.2.2.1.1
theorem dX12_takeOver_111 : decode cX12_takeOver 111 = .ok (.iconst 0, 1) := bg00_105.2.2.1.2
theorem dX12_takeOver_112 : decode cX12_takeOver 112 = .ok (.istore_n 2, 1) := bg00_105.2.2.2.1
theorem dX12_takeOver_113 : decode cX12_takeOver 113 = .ok (.aload_n 0, 1) := bg00_105.2.2.2.2
theorem bg00_106 : (((decode cX12_takeOver 114 = .ok (.getfield 94, 3) ∧ decode cX12_takeOver 117 = .ok (.iload_n 1, 1)) ∧ (decode cX12_takeOver 118 = .ok (.iload_n 2, 1) ∧ decode cX12_takeOver 119 = .ok (.ifCond .eq 12, 3))) ∧ ((decode cX12_takeOver 122 = .ok (.aload_n 0, 1) ∧ decode cX12_takeOver 123 = .ok (.getfield 52, 3)) ∧ (decode cX12_takeOver 126 = .ok (.iload_n 1, 1) ∧ decode cX12_takeOver 127 = .ok (.iaload, 1)))) ∧ (((decode cX12_takeOver 128 = .ok (.goto 4, 3) ∧ decode cX12_takeOver 131 = .ok (.iconst 0, 1)) ∧ (decode cX12_takeOver 132 = .ok (.iastore, 1) ∧ decode cX12_takeOver 133 = .ok (.aload_n 0, 1))) ∧ ((decode cX12_takeOver 134 = .ok (.getfield 88, 3) ∧ decode cX12_takeOver 137 = .ok (.iload_n 1, 1)) ∧ (decode cX12_takeOver 138 = .ok (.aload_n 0, 1) ∧ decode cX12_takeOver 139 = .ok (.getfield 94, 3)))) := by decide +kernel
theorem dX12_takeOver_114 : decode cX12_takeOver 114 = .ok (.getfield 94, 3) := bg00_106.1.1.1.1
theorem dX12_takeOver_117 : decode cX12_takeOver 117 = .ok (.iload_n 1, 1) := bg00_106.1.1.1.2
theorem dX12_takeOver_118 : decode cX12_takeOver 118 = .ok (.iload_n 2, 1) := bg00_106.1.1.2.1
theorem dX12_takeOver_119 : decode cX12_takeOver 119 = .ok (.ifCond .eq 12, 3) := bg00_106.1.1.2.2
theorem dX12_takeOver_122 : decode cX12_takeOver 122 = .ok (.aload_n 0, 1) := bg00_106.1.2.1.1
theorem dX12_takeOver_123 : decode cX12_takeOver 123 = .ok (.getfield 52, 3) := bg00_106.1.2.1.2
theorem dX12_takeOver_126 : decode cX12_takeOver 126 = .ok (.iload_n 1, 1) := bg00_106.1.2.2.1
theorem dX12_takeOver_127 : decode cX12_takeOver 127 = .ok (.iaload, 1) := bg00_106.1.2.2.2
theorem dX12_takeOver_128 : decode cX12_takeOver 128 = .ok (.goto 4, 3) := bg00_106.2.1.1.1
theorem dX12_takeOver_131 : decode cX12_takeOver 131 = .ok (.iconst 0, 1) := bg00_106.2.1.1.2
theorem dX12_takeOver_132 : decode cX12_takeOver 132 = .ok (.iastore, 1) := bg00_106.2.1.2.1
theorem dX12_takeOver_133 : decode cX12_takeOver 133 = .ok (.aload_n 0, 1) := bg00_106.2.1.2.2
theorem dX12_takeOver_134 : decode cX12_takeOver 134 = .ok (.getfield 88, 3) := bg00_106.2.2.1.1
theorem dX12_takeOver_137 : decode cX12_takeOver 137 = .ok (.iload_n 1, 1) := bg00_106.2.2.1.2
theorem dX12_takeOver_138 : decode cX12_takeOver 138 = .ok (.aload_n 0, 1) := bg00_106.2.2.2.1
theorem dX12_takeOver_139 : decode cX12_takeOver 139 = .ok (.getfield 94, 3) := bg00_106.2.2.2.2
theorem bg00_107 : (((decode cX12_takeOver 142 = .ok (.iload_n 1, 1) ∧ decode cX12_takeOver 143 = .ok (.iaload, 1)) ∧ (decode cX12_takeOver 144 = .ok (.ifCond .le 12, 3) ∧ decode cX12_takeOver 147 = .ok (.aload_n 0, 1))) ∧ ((decode cX12_takeOver 148 = .ok (.getfield 46, 3) ∧ decode cX12_takeOver 151 = .ok (.iload_n 1, 1)) ∧ (decode cX12_takeOver 152 = .ok (.iaload, 1) ∧ decode cX12_takeOver 153 = .ok (.goto 4, 3)))) ∧ (((decode cX12_takeOver 156 = .ok (.iconst 0, 1) ∧ decode cX12_takeOver 157 = .ok (.iastore, 1)) ∧ (decode cX12_takeOver 158 = .ok (.aload_n 0, 1) ∧ decode cX12_takeOver 159 = .ok (.getfield 91, 3))) ∧ ((decode cX12_takeOver 162 = .ok (.iload_n 1, 1) ∧ decode cX12_takeOver 163 = .ok (.aload_n 0, 1)) ∧ (decode cX12_takeOver 164 = .ok (.getfield 94, 3) ∧ decode cX12_takeOver 167 = .ok (.iload_n 1, 1)))) := by decide +kernel
theorem dX12_takeOver_142 : decode cX12_takeOver 142 = .ok (.iload_n 1, 1) := bg00_107.1.1.1.1
theorem dX12_takeOver_143 : decode cX12_takeOver 143 = .ok (.iaload, 1) := bg00_107.1.1.1.2
theorem dX12_takeOver_144 : decode cX12_takeOver 144 = .ok (.ifCond .le 12, 3) := bg00_107.1.1.2.1
theorem dX12_takeOver_147 : decode cX12_takeOver 147 = .ok (.aload_n 0, 1) := bg00_107.1.1.2.2
theorem dX12_takeOver_148 : decode cX12_takeOver 148 = .ok (.getfield 46, 3) := bg00_107.1.2.1.1
theorem dX12_takeOver_151 : decode cX12_takeOver 151 = .ok (.iload_n 1, 1) := bg00_107.1.2.1.2
theorem dX12_takeOver_152 : decode cX12_takeOver 152 = .ok (.iaload, 1) := bg00_107.1.2.2.1
theorem dX12_takeOver_153 : decode cX12_takeOver 153 = .ok (.goto 4, 3) := bg00_107.1.2.2.2
theorem dX12_takeOver_156 : decode cX12_takeOver 156 = .ok (.iconst 0, 1) := bg00_107.2.1.1.1
theorem dX12_takeOver_157 : decode cX12_takeOver 157 = .ok (.iastore, 1) := bg00_107.2.1.1.2
theorem dX12_takeOver_158 : decode cX12_takeOver 158 = .ok (.aload_n 0, 1) := bg00_107.2.1.2.1
theorem dX12_takeOver_159 : decode cX12_takeOver 159 = .ok (.getfield 91, 3) := bg00_107.2.1.2.2
theorem dX12_takeOver_162 : decode cX12_takeOver 162 = .ok (.iload_n 1, 1) := bg00_107.2.2.1.1
theorem dX12_takeOver_163 : decode cX12_takeOver 163 = .ok (.aload_n 0, 1) := bg00_107.2.2.1.2
theorem dX12_takeOver_164 : decode cX12_takeOver 164 = .ok (.getfield 94, 3) := bg00_107.2.2.2.1
theorem dX12_takeOver_167 : decode cX12_takeOver 167 = .ok (.iload_n 1, 1) := bg00_107.2.2.2.2
theorem bg00_108 : (((decode cX12_takeOver 168 = .ok (.iaload, 1) ∧ decode cX12_takeOver 169 = .ok (.ifCond .le 12, 3)) ∧ (decode cX12_takeOver 172 = .ok (.aload_n 0, 1) ∧ decode cX12_takeOver 173 = .ok (.getfield 49, 3))) ∧ ((decode cX12_takeOver 176 = .ok (.iload_n 1, 1) ∧ decode cX12_takeOver 177 = .ok (.iaload, 1)) ∧ (decode cX12_takeOver 178 = .ok (.goto 4, 3) ∧ decode cX12_takeOver 181 = .ok (.iconst 0, 1)))) ∧ (((decode cX12_takeOver 182 = .ok (.iastore, 1) ∧ decode cX12_takeOver 183 = .ok (.iinc 1 1, 3)) ∧ (decode cX12_takeOver 186 = .ok (.goto (-95), 3) ∧ decode cX12_takeOver 189 = .ok (.iconst 0, 1))) ∧ ((decode cX12_takeOver 190 = .ok (.istore_n 1, 1) ∧ decode cX12_takeOver 191 = .ok (.iload_n 1, 1)) ∧ (decode cX12_takeOver 192 = .ok (.bipush 8, 2) ∧ decode cX12_takeOver 194 = .ok (.if_icmp .ge 112, 3)))) := by decide +kernel
theorem dX12_takeOver_168 : decode cX12_takeOver 168 = .ok (.iaload, 1) := bg00_108.1.1.1.1
theorem dX12_takeOver_169 : decode cX12_takeOver 169 = .ok (.ifCond .le 12, 3) := bg00_108.1.1.1.2
theorem dX12_takeOver_172 : decode cX12_takeOver 172 = .ok (.aload_n 0, 1) := bg00_108.1.1.2.1
theorem dX12_takeOver_173 : decode cX12_takeOver 173 = .ok (.getfield 49, 3) := bg00_108.1.1.2.2
theorem dX12_takeOver_176 : decode cX12_takeOver 176 = .ok (.iload_n 1, 1) := bg00_108.1.2.1.1
theorem dX12_takeOver_177 : decode cX12_takeOver 177 = .ok (.iaload, 1) := bg00_108.1.2.1.2
theorem dX12_takeOver_178 : decode cX12_takeOver 178 = .ok (.goto 4, 3) := bg00_108.1.2.2.1
theorem dX12_takeOver_181 : decode cX12_takeOver 181 = .ok (.iconst 0, 1) := bg00_108.1.2.2.2
theorem dX12_takeOver_182 : decode cX12_takeOver 182 = .ok (.iastore, 1) := bg00_108.2.1.1.1
theorem dX12_takeOver_183 : decode cX12_takeOver 183 = .ok (.iinc 1 1, 3) := bg00_108.2.1.1.2
theorem dX12_takeOver_186 : decode cX12_takeOver 186 = .ok (.goto (-95), 3) := bg00_108.2.1.2.1
theorem dX12_takeOver_189 : decode cX12_takeOver 189 = .ok (.iconst 0, 1) := bg00_108.2.1.2.2
theorem dX12_takeOver_190 : decode cX12_takeOver 190 = .ok (.istore_n 1, 1) := bg00_108.2.2.1.1
theorem dX12_takeOver_191 : decode cX12_takeOver 191 = .ok (.iload_n 1, 1) := bg00_108.2.2.1.2
theorem dX12_takeOver_192 : decode cX12_takeOver 192 = .ok (.bipush 8, 2) := bg00_108.2.2.2.1
theorem dX12_takeOver_194 : decode cX12_takeOver 194 = .ok (.if_icmp .ge 112, 3) := bg00_108.2.2.2.2
theorem bg00_109 : (((decode cX12_takeOver 197 = .ok (.iload_n 1, 1) ∧ decode cX12_takeOver 198 = .ok (.aload_n 0, 1)) ∧ (decode cX12_takeOver 199 = .ok (.getfield 42, 3) ∧ decode cX12_takeOver 202 = .ok (.iconst 1, 1))) ∧ ((decode cX12_takeOver 203 = .ok (.iaload, 1) ∧ decode cX12_takeOver 204 = .ok (.if_icmp .ge 7, 3)) ∧ (decode cX12_takeOver 207 = .ok (.iconst 1, 1) ∧ decode cX12_takeOver 208 = .ok (.goto 4, 3)))) ∧ (((decode cX12_takeOver 211 = .ok (.iconst 0, 1) ∧ decode cX12_takeOver 212 = .ok (.istore_n 2, 1)) ∧ (decode cX12_takeOver 213 = .ok (.aload_n 0, 1) ∧ decode cX12_takeOver 214 = .ok (.getfield 96, 3))) ∧ ((decode cX12_takeOver 217 = .ok (.iload_n 1, 1) ∧ decode cX12_takeOver 218 = .ok (.iload_n 2, 1)) ∧ (decode cX12_takeOver 219 = .ok (.ifCond .eq 12, 3) ∧ decode cX12_takeOver 222 = .ok (.aload_n 0, 1)))) := by decide +kernel
theorem dX12_takeOver_197 : decode cX12_takeOver 197 = .ok (.iload_n 1, 1) := bg00_109.1.1.1.1
theorem dX12_takeOver_198 : decode cX12_takeOver 198 = .ok (.aload_n 0, 1) := bg00_109.1.1.1.2
theorem dX12_takeOver_199 : decode cX12_takeOver 199 = .ok (.getfield 42, 3) := bg00_109.1.1.2.1
theorem dX12_takeOver_202 : decode cX12_takeOver 202 = .ok (.iconst 1, 1) := bg00_109.1.1.2.2
theorem dX12_takeOver_203 : decode cX12_takeOver 203 = .ok (.iaload, 1) := bg00_109.1.2.1.1
theorem dX12_takeOver_204 : decode cX12_takeOver 204 = .ok (.if_icmp .ge 7, 3) := bg00_109.1.2.1.2
theorem dX12_takeOver_207 : decode cX12_takeOver 207 = .ok (.iconst 1, 1) := bg00_109.1.2.2.1
theorem dX12_takeOver_208 : decode cX12_takeOver 208 = .ok (.goto 4, 3) := bg00_109.1.2.2.2
theorem dX12_takeOver_211 : decode cX12_takeOver 211 = .ok (.iconst 0, 1) := bg00_109.2.1.1.1
theorem dX12_takeOver_212 : decode cX12_takeOver 212 = .ok (.istore_n 2, 1) := bg00_109.2.1.1.2
theorem dX12_takeOver_213 : decode cX12_takeOver 213 = .ok (.aload_n 0, 1) := bg00_109.2.1.2.1
theorem dX12_takeOver_214 : decode cX12_takeOver 214 = .ok (.getfield 96, 3) := bg00_109.2.1.2.2
theorem dX12_takeOver_217 : decode cX12_takeOver 217 = .ok (.iload_n 1, 1) := bg00_109.2.2.1.1
theorem dX12_takeOver_218 : decode cX12_takeOver 218 = .ok (.iload_n 2, 1) := bg00_109.2.2.1.2
theorem dX12_takeOver_219 : decode cX12_takeOver 219 = .ok (.ifCond .eq 12, 3) := bg00_109.2.2.2.1
theorem dX12_takeOver_222 : decode cX12_takeOver 222 = .ok (.aload_n 0, 1) := bg00_109.2.2.2.2
theorem bg00_110 : (((decode cX12_takeOver 223 = .ok (.getfield 57, 3) ∧ decode cX12_takeOver 226 = .ok (.iload_n 1, 1)) ∧ (decode cX12_takeOver 227 = .ok (.iaload, 1) ∧ decode cX12_takeOver 228 = .ok (.goto 4, 3))) ∧ ((decode cX12_takeOver 231 = .ok (.iconst 0, 1) ∧ decode cX12_takeOver 232 = .ok (.iastore, 1)) ∧ (decode cX12_takeOver 233 = .ok (.aload_n 0, 1) ∧ decode cX12_takeOver 234 = .ok (.getfield 99, 3)))) ∧ (((decode cX12_takeOver 237 = .ok (.iload_n 1, 1) ∧ decode cX12_takeOver 238 = .ok (.iload_n 2, 1)) ∧ (decode cX12_takeOver 239 = .ok (.ifCond .eq 12, 3) ∧ decode cX12_takeOver 242 = .ok (.aload_n 0, 1))) ∧ ((decode cX12_takeOver 243 = .ok (.getfield 60, 3) ∧ decode cX12_takeOver 246 = .ok (.iload_n 1, 1)) ∧ (decode cX12_takeOver 247 = .ok (.iaload, 1) ∧ decode cX12_takeOver 248 = .ok (.goto 4, 3)))) := by decide +kernel
theorem dX12_takeOver_223 : decode cX12_takeOver 223 = .ok (.getfield 57, 3) := bg00_110.1.1.1.1
theorem dX12_takeOver_226 : decode cX12_takeOver 226 = .ok (.iload_n 1, 1) := bg00_110.1.1.1.2
theorem dX12_takeOver_227 : decode cX12_takeOver 227 = .ok (.iaload, 1) := bg00_110.1.1.2.1
theorem dX12_takeOver_228 : decode cX12_takeOver 228 = .ok (.goto 4, 3) := bg00_110.1.1.2.2
theorem dX12_takeOver_231 : decode cX12_takeOver 231 = .ok (.iconst 0, 1) := bg00_110.1.2.1.1
theorem dX12_takeOver_232 : decode cX12_takeOver 232 = .ok (.iastore, 1) := bg00_110.1.2.1.2
theorem dX12_takeOver_233 : decode cX12_takeOver 233 = .ok (.aload_n 0, 1) := bg00_110.1.2.2.1
theorem dX12_takeOver_234 : decode cX12_takeOver 234 = .ok (.getfield 99, 3) := bg00_110.1.2.2.2
theorem dX12_takeOver_237 : decode cX12_takeOver 237 = .ok (.iload_n 1, 1) := bg00_110.2.1.1.1
theorem dX12_takeOver_238 : decode cX12_takeOver 238 = .ok (.iload_n 2, 1) := bg00_110.2.1.1.2
theorem dX12_takeOver_239 : decode cX12_takeOver 239 = .ok (.ifCond .eq 12, 3) := bg00_110.2.1.2.1
theorem dX12_takeOver_242 : decode cX12_takeOver 242 = .ok (.aload_n 0, 1) := bg00_110.2.1.2.2
theorem dX12_takeOver_243 : decode cX12_takeOver 243 = .ok (.getfield 60, 3) := bg00_110.2.2.1.1
theorem dX12_takeOver_246 : decode cX12_takeOver 246 = .ok (.iload_n 1, 1) := bg00_110.2.2.1.2
theorem dX12_takeOver_247 : decode cX12_takeOver 247 = .ok (.iaload, 1) := bg00_110.2.2.2.1
theorem dX12_takeOver_248 : decode cX12_takeOver 248 = .ok (.goto 4, 3) := bg00_110.2.2.2.2
theorem bg00_111 : (((decode cX12_takeOver 251 = .ok (.iconst 0, 1) ∧ decode cX12_takeOver 252 = .ok (.iastore, 1)) ∧ (decode cX12_takeOver 253 = .ok (.aload_n 0, 1) ∧ decode cX12_takeOver 254 = .ok (.getfield 102, 3))) ∧ ((decode cX12_takeOver 257 = .ok (.iload_n 1, 1) ∧ decode cX12_takeOver 258 = .ok (.iload_n 2, 1)) ∧ (decode cX12_takeOver 259 = .ok (.ifCond .eq 12, 3) ∧ decode cX12_takeOver 262 = .ok (.aload_n 0, 1)))) ∧ (((decode cX12_takeOver 263 = .ok (.getfield 63, 3) ∧ decode cX12_takeOver 266 = .ok (.iload_n 1, 1)) ∧ (decode cX12_takeOver 267 = .ok (.iaload, 1) ∧ decode cX12_takeOver 268 = .ok (.goto 4, 3))) ∧ ((decode cX12_takeOver 271 = .ok (.iconst 0, 1) ∧ decode cX12_takeOver 272 = .ok (.iastore, 1)) ∧ (decode cX12_takeOver 273 = .ok (.aload_n 0, 1) ∧ decode cX12_takeOver 274 = .ok (.getfield 104, 3)))) := by decide +kernel
theorem dX12_takeOver_251 : decode cX12_takeOver 251 = .ok (.iconst 0, 1) := bg00_111.1.1.1.1
theorem dX12_takeOver_252 : decode cX12_takeOver 252 = .ok (.iastore, 1) := bg00_111.1.1.1.2
theorem dX12_takeOver_253 : decode cX12_takeOver 253 = .ok (.aload_n 0, 1) := bg00_111.1.1.2.1
theorem dX12_takeOver_254 : decode cX12_takeOver 254 = .ok (.getfield 102, 3) := bg00_111.1.1.2.2
theorem dX12_takeOver_257 : decode cX12_takeOver 257 = .ok (.iload_n 1, 1) := bg00_111.1.2.1.1
theorem dX12_takeOver_258 : decode cX12_takeOver 258 = .ok (.iload_n 2, 1) := bg00_111.1.2.1.2
theorem dX12_takeOver_259 : decode cX12_takeOver 259 = .ok (.ifCond .eq 12, 3) := bg00_111.1.2.2.1
theorem dX12_takeOver_262 : decode cX12_takeOver 262 = .ok (.aload_n 0, 1) := bg00_111.1.2.2.2
theorem dX12_takeOver_263 : decode cX12_takeOver 263 = .ok (.getfield 63, 3) := bg00_111.2.1.1.1
theorem dX12_takeOver_266 : decode cX12_takeOver 266 = .ok (.iload_n 1, 1) := bg00_111.2.1.1.2
theorem dX12_takeOver_267 : decode cX12_takeOver 267 = .ok (.iaload, 1) := bg00_111.2.1.2.1
theorem dX12_takeOver_268 : decode cX12_takeOver 268 = .ok (.goto 4, 3) := bg00_111.2.1.2.2
theorem dX12_takeOver_271 : decode cX12_takeOver 271 = .ok (.iconst 0, 1) := bg00_111.2.2.1.1
theorem dX12_takeOver_272 : decode cX12_takeOver 272 = .ok (.iastore, 1) := bg00_111.2.2.1.2
theorem dX12_takeOver_273 : decode cX12_takeOver 273 = .ok (.aload_n 0, 1) := bg00_111.2.2.2.1
theorem dX12_takeOver_274 : decode cX12_takeOver 274 = .ok (.getfield 104, 3) := bg00_111.2.2.2.2
theorem bg00_112 : (((decode cX12_takeOver 277 = .ok (.iload_n 1, 1) ∧ decode cX12_takeOver 278 = .ok (.iload_n 2, 1)) ∧ (decode cX12_takeOver 279 = .ok (.ifCond .eq 12, 3) ∧ decode cX12_takeOver 282 = .ok (.aload_n 0, 1))) ∧ ((decode cX12_takeOver 283 = .ok (.getfield 66, 3) ∧ decode cX12_takeOver 286 = .ok (.iload_n 1, 1)) ∧ (decode cX12_takeOver 287 = .ok (.iaload, 1) ∧ decode cX12_takeOver 288 = .ok (.goto 4, 3)))) ∧ (((decode cX12_takeOver 291 = .ok (.iconst (-1), 1) ∧ decode cX12_takeOver 292 = .ok (.iastore, 1)) ∧ (decode cX12_takeOver 293 = .ok (.aload_n 0, 1) ∧ decode cX12_takeOver 294 = .ok (.getfield 106, 3))) ∧ ((decode cX12_takeOver 297 = .ok (.iload_n 1, 1) ∧ decode cX12_takeOver 298 = .ok (.iconst (-1), 1)) ∧ (decode cX12_takeOver 299 = .ok (.iastore, 1) ∧ decode cX12_takeOver 300 = .ok (.iinc 1 1, 3)))) := by decide +kernel
theorem dX12_takeOver_277 : decode cX12_takeOver 277 = .ok (.iload_n 1, 1) := bg00_112.1.1.1.1
theorem dX12_takeOver_278 : decode cX12_takeOver 278 = .ok (.iload_n 2, 1) := bg00_112.1.1.1.2
theorem dX12_takeOver_279 : decode cX12_takeOver 279 = .ok (.ifCond .eq 12, 3) := bg00_112.1.1.2.1
theorem dX12_takeOver_282 : decode cX12_takeOver 282 = .ok (.aload_n 0, 1) := bg00_112.1.1.2.2
theorem dX12_takeOver_283 : decode cX12_takeOver 283 = .ok (.getfield 66, 3) := bg00_112.1.2.1.1
theorem dX12_takeOver_286 : decode cX12_takeOver 286 = .ok (.iload_n 1, 1) := bg00_112.1.2.1.2
theorem dX12_takeOver_287 : decode cX12_takeOver 287 = .ok (.iaload, 1) := bg00_112.1.2.2.1
theorem dX12_takeOver_288 : decode cX12_takeOver 288 = .ok (.goto 4, 3) := bg00_112.1.2.2.2
theorem dX12_takeOver_291 : decode cX12_takeOver 291 = .ok (.iconst (-1), 1) := bg00_112.2.1.1.1
theorem dX12_takeOver_292 : decode cX12_takeOver 292 = .ok (.iastore, 1) := bg00_112.2.1.1.2
theorem dX12_takeOver_293 : decode cX12_takeOver 293 = .ok (.aload_n 0, 1) := bg00_112.2.1.2.1
theorem dX12_takeOver_294 : decode cX12_takeOver 294 = .ok (.getfield 106, 3) := bg00_112.2.1.2.2
theorem dX12_takeOver_297 : decode cX12_takeOver 297 = .ok (.iload_n 1, 1) := bg00_112.2.2.1.1
theorem dX12_takeOver_298 : decode cX12_takeOver 298 = .ok (.iconst (-1), 1) := bg00_112.2.2.1.2
theorem dX12_takeOver_299 : decode cX12_takeOver 299 = .ok (.iastore, 1) := bg00_112.2.2.2.1
theorem dX12_takeOver_300 : decode cX12_takeOver 300 = .ok (.iinc 1 1, 3) := bg00_112.2.2.2.2
theorem bg00_113 : (((decode cX12_takeOver 303 = .ok (.goto (-112), 3) ∧ decode cX12_takeOver 306 = .ok (.aload_n 0, 1)) ∧ (decode cX12_takeOver 307 = .ok (.iconst 0, 1))) ∧ ((decode cX12_takeOver 308 = .ok (.putfield 326, 3) ∧ decode cX12_takeOver 311 = .ok (.aload_n 0, 1)) ∧ (decode cX12_takeOver 312 = .ok (.iconst 0, 1)))) ∧ (((decode cX12_takeOver 313 = .ok (.putfield 329, 3) ∧ decode cX12_takeOver 316 = .ok (.aload_n 0, 1)) ∧ (decode cX12_takeOver 317 = .ok (.iconst 0, 1))) ∧ (decode cX12_takeOver 318 = .ok (.putfield 332, 3) ∧ decode cX12_takeOver 321 = .ok (.return_, 1))) := by decide +kernel
theorem dX12_takeOver_303 : decode cX12_takeOver 303 = .ok (.goto (-112), 3) := bg00_113.1.1.1.1
theorem dX12_takeOver_306 : decode cX12_takeOver 306 = .ok (.aload_n 0, 1) := bg00_113.1.1.1.2
theorem dX12_takeOver_307 : decode cX12_takeOver 307 = .ok (.iconst 0, 1) := bg00_113.1.1.2
theorem dX12_takeOver_308 : decode cX12_takeOver 308 = .ok (.putfield 326, 3) := bg00_113.1.2.1.1
theorem dX12_takeOver_311 : decode cX12_takeOver 311 = .ok (.aload_n 0, 1) := bg00_113.1.2.1.2
theorem dX12_takeOver_312 : decode cX12_takeOver 312 = .ok (.iconst 0, 1) := bg00_113.1.2.2
theorem dX12_takeOver_313 : decode cX12_takeOver 313 = .ok (.putfield 329, 3) := bg00_113.2.1.1.1
theorem dX12_takeOver_316 : decode cX12_takeOver 316 = .ok (.aload_n 0, 1) := bg00_113.2.1.1.2
theorem dX12_takeOver_317 : decode cX12_takeOver 317 = .ok (.iconst 0, 1) := bg00_113.2.1.2
theorem dX12_takeOver_318 : decode cX12_takeOver 318 = .ok (.putfield 332, 3) := bg00_113.2.2.1
theorem dX12_takeOver_321 : decode cX12_takeOver 321 = .ok (.return_, 1) := bg00_113.2.2.2
theorem bg00_114 : ((decode cX12_fault 0 = .ok (.aload_n 0, 1) ∧ decode cX12_fault 1 = .ok (.iconst 0, 1)) ∧ (decode cX12_fault 2 = .ok (.putfield 163, 3) ∧ decode cX12_fault 5 = .ok (.aload_n 0, 1))) ∧ ((decode cX12_fault 6 = .ok (.getfield 84, 3) ∧ decode cX12_fault 9 = .ok (.ireturn, 1)) ∧ (decode cX12_pack 0 = .ok (.aload_n 1, 1) ∧ decode cX12_pack 1 = .ok (.iload_n 2, 1))) := by decide +kernel
theorem dX12_fault_0 : decode cX12_fault 0 = .ok (.aload_n 0, 1) := bg00_114.1.1.1
theorem dX12_fault_1 : decode cX12_fault 1 = .ok (.iconst 0, 1) := bg00_114.1.1.2
theorem dX12_fault_2 : decode cX12_fault 2 = .ok (.putfield 163, 3) := bg00_114.1.2.1
theorem dX12_fault_5 : decode cX12_fault 5 = .ok (.aload_n 0, 1) := bg00_114.1.2.2
theorem dX12_fault_6 : decode cX12_fault 6 = .ok (.getfield 84, 3) := bg00_114.2.1.1
theorem dX12_fault_9 : decode cX12_fault 9 = .ok (.ireturn, 1) := bg00_114.2.1.2
theorem dX12_pack_0 : decode cX12_pack 0 = .ok (.aload_n 1, 1) := bg00_114.2.2.1
theorem dX12_pack_1 : decode cX12_pack 1 = .ok (.iload_n 2, 1) := bg00_114.2.2.2
theorem bg00_115 : (((decode cX12_pack 2 = .ok (.aload_n 0, 1) ∧ decode cX12_pack 3 = .ok (.getfield 323, 3)) ∧ (decode cX12_pack 6 = .ok (.iastore, 1) ∧ decode cX12_pack 7 = .ok (.iload_n 2, 1))) ∧ ((decode cX12_pack 8 = .ok (.iconst 1, 1) ∧ decode cX12_pack 9 = .ok (.iadd, 1)) ∧ (decode cX12_pack 10 = .ok (.istore_n 3, 1) ∧ decode cX12_pack 11 = .ok (.iconst 0, 1)))) ∧ (((decode cX12_pack 12 = .ok (.istore 4, 2) ∧ decode cX12_pack 14 = .ok (.iload 4, 2)) ∧ (decode cX12_pack 16 = .ok (.bipush 8, 2) ∧ decode cX12_pack 18 = .ok (.if_icmp .ge 46, 3))) ∧ ((decode cX12_pack 21 = .ok (.aload_n 1, 1) ∧ decode cX12_pack 22 = .ok (.iload_n 3, 1)) ∧ (decode cX12_pack 23 = .ok (.aload_n 0, 1) ∧ decode cX12_pack 24 = .ok (.getfield 88, 3)))) := by decide +kernel
theorem dX12_pack_2 : decode cX12_pack 2 = .ok (.aload_n 0, 1) := bg00_115.1.1.1.1
theorem dX12_pack_3 : decode cX12_pack 3 = .ok (.getfield 323, 3) := bg00_115.1.1.1.2
theorem dX12_pack_6 : decode cX12_pack 6 = .ok (.iastore, 1) := bg00_115.1.1.2.1
theorem dX12_pack_7 : decode cX12_pack 7 = .ok (.iload_n 2, 1) := bg00_115.1.1.2.2
theorem dX12_pack_8 : decode cX12_pack 8 = .ok (.iconst 1, 1) := bg00_115.1.2.1.1
theorem dX12_pack_9 : decode cX12_pack 9 = .ok (.iadd, 1) := bg00_115.1.2.1.2
theorem dX12_pack_10 : decode cX12_pack 10 = .ok (.istore_n 3, 1) := bg00_115.1.2.2.1
theorem dX12_pack_11 : decode cX12_pack 11 = .ok (.iconst 0, 1) := bg00_115.1.2.2.2
theorem dX12_pack_12 : decode cX12_pack 12 = .ok (.istore 4, 2) := bg00_115.2.1.1.1
theorem dX12_pack_14 : decode cX12_pack 14 = .ok (.iload 4, 2) := bg00_115.2.1.1.2
theorem dX12_pack_16 : decode cX12_pack 16 = .ok (.bipush 8, 2) := bg00_115.2.1.2.1
theorem dX12_pack_18 : decode cX12_pack 18 = .ok (.if_icmp .ge 46, 3) := bg00_115.2.1.2.2
theorem dX12_pack_21 : decode cX12_pack 21 = .ok (.aload_n 1, 1) := bg00_115.2.2.1.1
theorem dX12_pack_22 : decode cX12_pack 22 = .ok (.iload_n 3, 1) := bg00_115.2.2.1.2
theorem dX12_pack_23 : decode cX12_pack 23 = .ok (.aload_n 0, 1) := bg00_115.2.2.2.1
theorem dX12_pack_24 : decode cX12_pack 24 = .ok (.getfield 88, 3) := bg00_115.2.2.2.2
theorem bg00_116 : (((decode cX12_pack 27 = .ok (.iload 4, 2) ∧ decode cX12_pack 29 = .ok (.iaload, 1)) ∧ (decode cX12_pack 30 = .ok (.iastore, 1) ∧ decode cX12_pack 31 = .ok (.aload_n 1, 1))) ∧ ((decode cX12_pack 32 = .ok (.iload_n 3, 1) ∧ decode cX12_pack 33 = .ok (.iconst 1, 1)) ∧ (decode cX12_pack 34 = .ok (.iadd, 1) ∧ decode cX12_pack 35 = .ok (.aload_n 0, 1)))) ∧ (((decode cX12_pack 36 = .ok (.getfield 91, 3) ∧ decode cX12_pack 39 = .ok (.iload 4, 2)) ∧ (decode cX12_pack 41 = .ok (.iaload, 1) ∧ decode cX12_pack 42 = .ok (.iastore, 1))) ∧ ((decode cX12_pack 43 = .ok (.aload_n 1, 1) ∧ decode cX12_pack 44 = .ok (.iload_n 3, 1)) ∧ (decode cX12_pack 45 = .ok (.iconst 2, 1) ∧ decode cX12_pack 46 = .ok (.iadd, 1)))) := by decide +kernel
theorem dX12_pack_27 : decode cX12_pack 27 = .ok (.iload 4, 2) := bg00_116.1.1.1.1
theorem dX12_pack_29 : decode cX12_pack 29 = .ok (.iaload, 1) := bg00_116.1.1.1.2
theorem dX12_pack_30 : decode cX12_pack 30 = .ok (.iastore, 1) := bg00_116.1.1.2.1
theorem dX12_pack_31 : decode cX12_pack 31 = .ok (.aload_n 1, 1) := bg00_116.1.1.2.2
theorem dX12_pack_32 : decode cX12_pack 32 = .ok (.iload_n 3, 1) := bg00_116.1.2.1.1
theorem dX12_pack_33 : decode cX12_pack 33 = .ok (.iconst 1, 1) := bg00_116.1.2.1.2
theorem dX12_pack_34 : decode cX12_pack 34 = .ok (.iadd, 1) := bg00_116.1.2.2.1
theorem dX12_pack_35 : decode cX12_pack 35 = .ok (.aload_n 0, 1) := bg00_116.1.2.2.2
theorem dX12_pack_36 : decode cX12_pack 36 = .ok (.getfield 91, 3) := bg00_116.2.1.1.1
theorem dX12_pack_39 : decode cX12_pack 39 = .ok (.iload 4, 2) := bg00_116.2.1.1.2
theorem dX12_pack_41 : decode cX12_pack 41 = .ok (.iaload, 1) := bg00_116.2.1.2.1
theorem dX12_pack_42 : decode cX12_pack 42 = .ok (.iastore, 1) := bg00_116.2.1.2.2
theorem dX12_pack_43 : decode cX12_pack 43 = .ok (.aload_n 1, 1) := bg00_116.2.2.1.1
theorem dX12_pack_44 : decode cX12_pack 44 = .ok (.iload_n 3, 1) := bg00_116.2.2.1.2
theorem dX12_pack_45 : decode cX12_pack 45 = .ok (.iconst 2, 1) := bg00_116.2.2.2.1
theorem dX12_pack_46 : decode cX12_pack 46 = .ok (.iadd, 1) := bg00_116.2.2.2.2
theorem bg00_117 : (((decode cX12_pack 47 = .ok (.aload_n 0, 1) ∧ decode cX12_pack 48 = .ok (.getfield 94, 3)) ∧ (decode cX12_pack 51 = .ok (.iload 4, 2) ∧ decode cX12_pack 53 = .ok (.iaload, 1))) ∧ ((decode cX12_pack 54 = .ok (.iastore, 1) ∧ decode cX12_pack 55 = .ok (.iinc 3 3, 3)) ∧ (decode cX12_pack 58 = .ok (.iinc 4 1, 3) ∧ decode cX12_pack 61 = .ok (.goto (-47), 3)))) ∧ (((decode cX12_pack 64 = .ok (.iconst 0, 1) ∧ decode cX12_pack 65 = .ok (.istore 4, 2)) ∧ (decode cX12_pack 67 = .ok (.iload 4, 2) ∧ decode cX12_pack 69 = .ok (.bipush 8, 2))) ∧ ((decode cX12_pack 71 = .ok (.if_icmp .ge 70, 3) ∧ decode cX12_pack 74 = .ok (.aload_n 1, 1)) ∧ (decode cX12_pack 75 = .ok (.iload_n 3, 1) ∧ decode cX12_pack 76 = .ok (.aload_n 0, 1)))) := by decide +kernel
theorem dX12_pack_47 : decode cX12_pack 47 = .ok (.aload_n 0, 1) := bg00_117.1.1.1.1
theorem dX12_pack_48 : decode cX12_pack 48 = .ok (.getfield 94, 3) := bg00_117.1.1.1.2
theorem dX12_pack_51 : decode cX12_pack 51 = .ok (.iload 4, 2) := bg00_117.1.1.2.1
theorem dX12_pack_53 : decode cX12_pack 53 = .ok (.iaload, 1) := bg00_117.1.1.2.2
theorem dX12_pack_54 : decode cX12_pack 54 = .ok (.iastore, 1) := bg00_117.1.2.1.1
theorem dX12_pack_55 : decode cX12_pack 55 = .ok (.iinc 3 3, 3) := bg00_117.1.2.1.2
theorem dX12_pack_58 : decode cX12_pack 58 = .ok (.iinc 4 1, 3) := bg00_117.1.2.2.1
theorem dX12_pack_61 : decode cX12_pack 61 = .ok (.goto (-47), 3) := bg00_117.1.2.2.2
theorem dX12_pack_64 : decode cX12_pack 64 = .ok (.iconst 0, 1) := bg00_117.2.1.1.1
theorem dX12_pack_65 : decode cX12_pack 65 = .ok (.istore 4, 2) := bg00_117.2.1.1.2
theorem dX12_pack_67 : decode cX12_pack 67 = .ok (.iload 4, 2) := bg00_117.2.1.2.1
theorem dX12_pack_69 : decode cX12_pack 69 = .ok (.bipush 8, 2) := bg00_117.2.1.2.2
theorem dX12_pack_71 : decode cX12_pack 71 = .ok (.if_icmp .ge 70, 3) := bg00_117.2.2.1.1
theorem dX12_pack_74 : decode cX12_pack 74 = .ok (.aload_n 1, 1) := bg00_117.2.2.1.2
theorem dX12_pack_75 : decode cX12_pack 75 = .ok (.iload_n 3, 1) := bg00_117.2.2.2.1
theorem dX12_pack_76 : decode cX12_pack 76 = .ok (.aload_n 0, 1) := bg00_117.2.2.2.2
theorem bg00_118 : (((decode cX12_pack 77 = .ok (.getfield 96, 3) ∧ decode cX12_pack 80 = .ok (.iload 4, 2)) ∧ (decode cX12_pack 82 = .ok (.iaload, 1) ∧ decode cX12_pack 83 = .ok (.iastore, 1))) ∧ ((decode cX12_pack 84 = .ok (.aload_n 1, 1) ∧ decode cX12_pack 85 = .ok (.iload_n 3, 1)) ∧ (decode cX12_pack 86 = .ok (.iconst 1, 1) ∧ decode cX12_pack 87 = .ok (.iadd, 1)))) ∧ (((decode cX12_pack 88 = .ok (.aload_n 0, 1) ∧ decode cX12_pack 89 = .ok (.getfield 99, 3)) ∧ (decode cX12_pack 92 = .ok (.iload 4, 2) ∧ decode cX12_pack 94 = .ok (.iaload, 1))) ∧ ((decode cX12_pack 95 = .ok (.iastore, 1) ∧ decode cX12_pack 96 = .ok (.aload_n 1, 1)) ∧ (decode cX12_pack 97 = .ok (.iload_n 3, 1) ∧ decode cX12_pack 98 = .ok (.iconst 2, 1)))) := by decide +kernel
theorem dX12_pack_77 : decode cX12_pack 77 = .ok (.getfield 96, 3) := bg00_118.1.1.1.1
theorem dX12_pack_80 : decode cX12_pack 80 = .ok (.iload 4, 2) := bg00_118.1.1.1.2
theorem dX12_pack_82 : decode cX12_pack 82 = .ok (.iaload, 1) := bg00_118.1.1.2.1
theorem dX12_pack_83 : decode cX12_pack 83 = .ok (.iastore, 1) := bg00_118.1.1.2.2
theorem dX12_pack_84 : decode cX12_pack 84 = .ok (.aload_n 1, 1) := bg00_118.1.2.1.1
theorem dX12_pack_85 : decode cX12_pack 85 = .ok (.iload_n 3, 1) := bg00_118.1.2.1.2
theorem dX12_pack_86 : decode cX12_pack 86 = .ok (.iconst 1, 1) := bg00_118.1.2.2.1
theorem dX12_pack_87 : decode cX12_pack 87 = .ok (.iadd, 1) := bg00_118.1.2.2.2
theorem dX12_pack_88 : decode cX12_pack 88 = .ok (.aload_n 0, 1) := bg00_118.2.1.1.1
theorem dX12_pack_89 : decode cX12_pack 89 = .ok (.getfield 99, 3) := bg00_118.2.1.1.2
theorem dX12_pack_92 : decode cX12_pack 92 = .ok (.iload 4, 2) := bg00_118.2.1.2.1
theorem dX12_pack_94 : decode cX12_pack 94 = .ok (.iaload, 1) := bg00_118.2.1.2.2
theorem dX12_pack_95 : decode cX12_pack 95 = .ok (.iastore, 1) := bg00_118.2.2.1.1
theorem dX12_pack_96 : decode cX12_pack 96 = .ok (.aload_n 1, 1) := bg00_118.2.2.1.2
theorem dX12_pack_97 : decode cX12_pack 97 = .ok (.iload_n 3, 1) := bg00_118.2.2.2.1
theorem dX12_pack_98 : decode cX12_pack 98 = .ok (.iconst 2, 1) := bg00_118.2.2.2.2
theorem bg00_119 : (((decode cX12_pack 99 = .ok (.iadd, 1) ∧ decode cX12_pack 100 = .ok (.aload_n 0, 1)) ∧ (decode cX12_pack 101 = .ok (.getfield 102, 3) ∧ decode cX12_pack 104 = .ok (.iload 4, 2))) ∧ ((decode cX12_pack 106 = .ok (.iaload, 1) ∧ decode cX12_pack 107 = .ok (.iastore, 1)) ∧ (decode cX12_pack 108 = .ok (.aload_n 1, 1) ∧ decode cX12_pack 109 = .ok (.iload_n 3, 1)))) ∧ (((decode cX12_pack 110 = .ok (.iconst 3, 1) ∧ decode cX12_pack 111 = .ok (.iadd, 1)) ∧ (decode cX12_pack 112 = .ok (.aload_n 0, 1) ∧ decode cX12_pack 113 = .ok (.getfield 104, 3))) ∧ ((decode cX12_pack 116 = .ok (.iload 4, 2) ∧ decode cX12_pack 118 = .ok (.iaload, 1)) ∧ (decode cX12_pack 119 = .ok (.iastore, 1) ∧ decode cX12_pack 120 = .ok (.aload_n 1, 1)))) := by decide +kernel
theorem dX12_pack_99 : decode cX12_pack 99 = .ok (.iadd, 1) := bg00_119.1.1.1.1
theorem dX12_pack_100 : decode cX12_pack 100 = .ok (.aload_n 0, 1) := bg00_119.1.1.1.2
theorem dX12_pack_101 : decode cX12_pack 101 = .ok (.getfield 102, 3) := bg00_119.1.1.2.1
theorem dX12_pack_104 : decode cX12_pack 104 = .ok (.iload 4, 2) := bg00_119.1.1.2.2
theorem dX12_pack_106 : decode cX12_pack 106 = .ok (.iaload, 1) := bg00_119.1.2.1.1
theorem dX12_pack_107 : decode cX12_pack 107 = .ok (.iastore, 1) := bg00_119.1.2.1.2
theorem dX12_pack_108 : decode cX12_pack 108 = .ok (.aload_n 1, 1) := bg00_119.1.2.2.1
theorem dX12_pack_109 : decode cX12_pack 109 = .ok (.iload_n 3, 1) := bg00_119.1.2.2.2
theorem dX12_pack_110 : decode cX12_pack 110 = .ok (.iconst 3, 1) := bg00_119.2.1.1.1
theorem dX12_pack_111 : decode cX12_pack 111 = .ok (.iadd, 1) := bg00_119.2.1.1.2
theorem dX12_pack_112 : decode cX12_pack 112 = .ok (.aload_n 0, 1) := bg00_119.2.1.2.1
theorem dX12_pack_113 : decode cX12_pack 113 = .ok (.getfield 104, 3) := bg00_119.2.1.2.2
theorem dX12_pack_116 : decode cX12_pack 116 = .ok (.iload 4, 2) := bg00_119.2.2.1.1
theorem dX12_pack_118 : decode cX12_pack 118 = .ok (.iaload, 1) := bg00_119.2.2.1.2
theorem dX12_pack_119 : decode cX12_pack 119 = .ok (.iastore, 1) := bg00_119.2.2.2.1
theorem dX12_pack_120 : decode cX12_pack 120 = .ok (.aload_n 1, 1) := bg00_119.2.2.2.2
theorem bg00_120 : ((decode cX12_pack 121 = .ok (.iload_n 3, 1) ∧ decode cX12_pack 122 = .ok (.iconst 4, 1)) ∧ (decode cX12_pack 123 = .ok (.iadd, 1) ∧ decode cX12_pack 124 = .ok (.aload_n 0, 1))) ∧ ((decode cX12_pack 125 = .ok (.getfield 106, 3) ∧ decode cX12_pack 128 = .ok (.iload 4, 2)) ∧ (decode cX12_pack 130 = .ok (.iaload, 1))) := by decide +kernel
theorem dX12_pack_121 : decode cX12_pack 121 = .ok (.iload_n 3, 1) := bg00_120.1.1.1
theorem dX12_pack_122 : decode cX12_pack 122 = .ok (.iconst 4, 1) := bg00_120.1.1.2
theorem dX12_pack_123 : decode cX12_pack 123 = .ok (.iadd, 1) := bg00_120.1.2.1
theorem dX12_pack_124 : decode cX12_pack 124 = .ok (.aload_n 0, 1) := bg00_120.1.2.2
theorem dX12_pack_125 : decode cX12_pack 125 = .ok (.getfield 106, 3) := bg00_120.2.1.1
theorem dX12_pack_128 : decode cX12_pack 128 = .ok (.iload 4, 2) := bg00_120.2.1.2
theorem dX12_pack_130 : decode cX12_pack 130 = .ok (.iaload, 1) := bg00_120.2.2
