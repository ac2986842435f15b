theorem dX7_init_0 : decode cX7_init 0 = .ok (.aload_n 0, 1) := by decide +kernel
theorem dX7_init_1 : decode cX7_init 1 = .ok (.invokespecial 1, 3) := by decide +kernel
theorem dX7_init_4 : decode cX7_init 4 = .ok (.aload_n 0, 1) := by decide +kernel
theorem dX7_init_5 : decode cX7_init 5 = .ok (.bipush 8, 2) := by decide +kernel
theorem dX7_init_7 : decode cX7_init 7 = .ok (.newarray .int, 2) := by decide +kernel
theorem dX7_init_9 : decode cX7_init 9 = .ok (.putfield 7, 3) := by decide +kernel
theorem dX7_init_12 : decode cX7_init 12 = .ok (.aload_n 0, 1) := by decide +kernel
theorem dX7_init_13 : decode cX7_init 13 = .ok (.bipush 8, 2) := by decide +kernel
theorem dX7_init_15 : decode cX7_init 15 = .ok (.newarray .int, 2) := by decide +kernel
theorem dX7_init_17 : decode cX7_init 17 = .ok (.putfield 13, 3) := by decide +kernel
theorem dX7_init_20 : decode cX7_init 20 = .ok (.aload_n 0, 1) := by decide +kernel
theorem dX7_init_21 : decode cX7_init 21 = .ok (.bipush 8, 2) := by decide +kernel
theorem dX7_init_23 : decode cX7_init 23 = .ok (.newarray .int, 2) := by decide +kernel
theorem dX7_init_25 : decode cX7_init 25 = .ok (.putfield 16, 3) := by decide +kernel
theorem dX7_init_28 : decode cX7_init 28 = .ok (.aload_n 0, 1) := by decide +kernel
theorem dX7_init_29 : decode cX7_init 29 = .ok (.bipush 8, 2) := by decide +kernel
theorem dX7_init_31 : decode cX7_init 31 = .ok (.bipush 40, 2) := by decide +kernel
theorem dX7_init_33 : decode cX7_init 33 = .ok (.multianewarray 19 2, 4) := by decide +kernel
theorem dX7_init_37 : decode cX7_init 37 = .ok (.putfield 21, 3) := by decide +kernel
theorem dX7_init_40 : decode cX7_init 40 = .ok (.aload_n 0, 1) := by decide +kernel
theorem dX7_init_41 : decode cX7_init 41 = .ok (.bipush 40, 2) := by decide +kernel
theorem dX7_init_43 : decode cX7_init 43 = .ok (.newarray .long, 2) := by decide +kernel
theorem dX7_init_45 : decode cX7_init 45 = .ok (.putfield 24, 3) := by decide +kernel
theorem dX7_init_48 : decode cX7_init 48 = .ok (.aload_n 0, 1) := by decide +kernel
theorem dX7_init_49 : decode cX7_init 49 = .ok (.bipush 8, 2) := by decide +kernel
theorem dX7_init_51 : decode cX7_init 51 = .ok (.newarray .int, 2) := by decide +kernel
theorem dX7_init_53 : decode cX7_init 53 = .ok (.putfield 28, 3) := by decide +kernel
theorem dX7_init_56 : decode cX7_init 56 = .ok (.aload_n 0, 1) := by decide +kernel
theorem dX7_init_57 : decode cX7_init 57 = .ok (.sipush 250, 3) := by decide +kernel
theorem dX7_init_60 : decode cX7_init 60 = .ok (.newarray .int, 2) := by decide +kernel
theorem dX7_init_62 : decode cX7_init 62 = .ok (.putfield 31, 3) := by decide +kernel
theorem dX7_init_65 : decode cX7_init 65 = .ok (.aload_n 0, 1) := by decide +kernel
theorem dX7_init_66 : decode cX7_init 66 = .ok (.bipush 8, 2) := by decide +kernel
theorem dX7_init_68 : decode cX7_init 68 = .ok (.newarray .int, 2) := by decide +kernel
theorem dX7_init_70 : decode cX7_init 70 = .ok (.putfield 34, 3) := by decide +kernel
theorem dX7_init_73 : decode cX7_init 73 = .ok (.aload_n 0, 1) := by decide +kernel
theorem dX7_init_74 : decode cX7_init 74 = .ok (.bipush 14, 2) := by decide +kernel
theorem dX7_init_76 : decode cX7_init 76 = .ok (.newarray .int, 2) := by decide +kernel
theorem dX7_init_78 : decode cX7_init 78 = .ok (.putfield 37, 3) := by decide +kernel
theorem dX7_init_81 : decode cX7_init 81 = .ok (.aload_n 0, 1) := by decide +kernel
theorem dX7_init_82 : decode cX7_init 82 = .ok (.bipush 14, 2) := by decide +kernel
theorem dX7_init_84 : decode cX7_init 84 = .ok (.newarray .int, 2) := by decide +kernel
theorem dX7_init_86 : decode cX7_init 86 = .ok (.putfield 40, 3) := by decide +kernel
theorem dX7_init_89 : decode cX7_init 89 = .ok (.aload_n 0, 1) := by decide +kernel
theorem dX7_init_90 : decode cX7_init 90 = .ok (.bipush 14, 2) := by decide +kernel
theorem dX7_init_92 : decode cX7_init 92 = .ok (.newarray .int, 2) := by decide +kernel
theorem dX7_init_94 : decode cX7_init 94 = .ok (.putfield 43, 3) := by decide +kernel
theorem dX7_init_97 : decode cX7_init 97 = .ok (.aload_n 0, 1) := by decide +kernel
theorem dX7_init_98 : decode cX7_init 98 = .ok (.bipush 14, 2) := by decide +kernel
theorem dX7_init_100 : decode cX7_init 100 = .ok (.newarray .int, 2) := by decide +kernel
theorem dX7_init_102 : decode cX7_init 102 = .ok (.putfield 46, 3) := by decide +kernel
theorem dX7_init_105 : decode cX7_init 105 = .ok (.aload_n 0, 1) := by decide +kernel
theorem dX7_init_106 : decode cX7_init 106 = .ok (.bipush 14, 2) := by decide +kernel
theorem dX7_init_108 : decode cX7_init 108 = .ok (.newarray .int, 2) := by decide +kernel
theorem dX7_init_110 : decode cX7_init 110 = .ok (.putfield 49, 3) := by decide +kernel
theorem dX7_init_113 : decode cX7_init 113 = .ok (.aload_n 0, 1) := by decide +kernel
theorem dX7_init_114 : decode cX7_init 114 = .ok (.bipush 9, 2) := by decide +kernel
theorem dX7_init_116 : decode cX7_init 116 = .ok (.newarray .int, 2) := by decide +kernel
theorem dX7_init_118 : decode cX7_init 118 = .ok (.putfield 52, 3) := by decide +kernel
theorem dX7_init_121 : decode cX7_init 121 = .ok (.aload_n 0, 1) := by decide +kernel
theorem dX7_init_122 : decode cX7_init 122 = .ok (.bipush 9, 2) := by decide +kernel
theorem dX7_init_124 : decode cX7_init 124 = .ok (.newarray .int, 2) := by decide +kernel
theorem dX7_init_126 : decode cX7_init 126 = .ok (.putfield 55, 3) := by decide +kernel
theorem dX7_init_129 : decode cX7_init 129 = .ok (.aload_n 0, 1) := by decide +kernel
theorem dX7_init_130 : decode cX7_init 130 = .ok (.bipush 9, 2) := by decide +kernel
theorem dX7_init_132 : decode cX7_init 132 = .ok (.newarray .int, 2) := by decide +kernel
theorem dX7_init_134 : decode cX7_init 134 = .ok (.putfield 58, 3) := by decide +kernel
theorem dX7_init_137 : decode cX7_init 137 = .ok (.aload_n 0, 1) := by decide +kernel
theorem dX7_init_138 : decode cX7_init 138 = .ok (.bipush 6, 2) := by decide +kernel
theorem dX7_init_140 : decode cX7_init 140 = .ok (.newarray .int, 2) := by decide +kernel
theorem dX7_init_142 : decode cX7_init 142 = .ok (.putfield 61, 3) := by decide +kernel
theorem dX7_init_145 : decode cX7_init 145 = .ok (.aload_n 0, 1) := by decide +kernel
theorem dX7_init_146 : decode cX7_init 146 = .ok (.bipush 6, 2) := by decide +kernel
theorem dX7_init_148 : decode cX7_init 148 = .ok (.newarray .int, 2) := by decide +kernel
theorem dX7_init_150 : decode cX7_init 150 = .ok (.putfield 64, 3) := by decide +kernel
theorem dX7_init_153 : decode cX7_init 153 = .ok (.aload_n 0, 1) := by decide +kernel
theorem dX7_init_154 : decode cX7_init 154 = .ok (.bipush 6, 2) := by decide +kernel
theorem dX7_init_156 : decode cX7_init 156 = .ok (.newarray .int, 2) := by decide +kernel
theorem dX7_init_158 : decode cX7_init 158 = .ok (.putfield 67, 3) := by decide +kernel
theorem dX7_init_161 : decode cX7_init 161 = .ok (.aload_n 0, 1) := by decide +kernel
theorem dX7_init_162 : decode cX7_init 162 = .ok (.iconst 3, 1) := by decide +kernel
theorem dX7_init_163 : decode cX7_init 163 = .ok (.putfield 70, 3) := by decide +kernel
theorem dX7_init_166 : decode cX7_init 166 = .ok (.aload_n 0, 1) := by decide +kernel
theorem dX7_init_167 : decode cX7_init 167 = .ok (.iconst (-1), 1) := by decide +kernel
theorem dX7_init_168 : decode cX7_init 168 = .ok (.putfield 74, 3) := by decide +kernel
theorem dX7_init_171 : decode cX7_init 171 = .ok (.aload_n 0, 1) := by decide +kernel
theorem dX7_init_172 : decode cX7_init 172 = .ok (.iconst 1, 1) := by decide +kernel
theorem dX7_init_173 : decode cX7_init 173 = .ok (.putfield 77, 3) := by decide +kernel
theorem dX7_init_176 : decode cX7_init 176 = .ok (.aload_n 0, 1) := by decide +kernel
theorem dX7_init_177 : decode cX7_init 177 = .ok (.iconst 4, 1) := by decide +kernel
theorem dX7_init_178 : decode cX7_init 178 = .ok (.newarray .int, 2) := by decide +kernel
theorem dX7_init_180 : decode cX7_init 180 = .ok (.putfield 80, 3) := by decide +kernel
theorem dX7_init_183 : decode cX7_init 183 = .ok (.aload_n 0, 1) := by decide +kernel
theorem dX7_init_184 : decode cX7_init 184 = .ok (.bipush 14, 2) := by decide +kernel
theorem dX7_init_186 : decode cX7_init 186 = .ok (.newarray .int, 2) := by decide +kernel
theorem dX7_init_188 : decode cX7_init 188 = .ok (.putfield 83, 3) := by decide +kernel
theorem dX7_init_191 : decode cX7_init 191 = .ok (.aload_n 0, 1) := by decide +kernel
theorem dX7_init_192 : decode cX7_init 192 = .ok (.bipush 14, 2) := by decide +kernel
theorem dX7_init_194 : decode cX7_init 194 = .ok (.newarray .int, 2) := by decide +kernel
theorem dX7_init_196 : decode cX7_init 196 = .ok (.putfield 86, 3) := by decide +kernel
theorem dX7_init_199 : decode cX7_init 199 = .ok (.aload_n 0, 1) := by decide +kernel
theorem dX7_init_200 : decode cX7_init 200 = .ok (.bipush 15, 2) := by decide +kernel
theorem dX7_init_202 : decode cX7_init 202 = .ok (.sipush 901, 3) := by decide +kernel
theorem dX7_init_205 : decode cX7_init 205 = .ok (.multianewarray 89 2, 4) := by decide +kernel
theorem dX7_init_209 : decode cX7_init 209 = .ok (.putfield 91, 3) := by decide +kernel
theorem dX7_init_212 : decode cX7_init 212 = .ok (.return_, 1) := by decide +kernel
theorem dX7_refuse_0 : decode cX7_refuse 0 = .ok (.aload_n 0, 1) := by decide +kernel
theorem dX7_refuse_1 : decode cX7_refuse 1 = .ok (.getfield 34, 3) := by decide +kernel
theorem dX7_refuse_4 : decode cX7_refuse 4 = .ok (.iload_n 1, 1) := by decide +kernel
theorem dX7_refuse_5 : decode cX7_refuse 5 = .ok (.ineg, 1) := by decide +kernel
theorem dX7_refuse_6 : decode cX7_refuse 6 = .ok (.dup2, 1) := by decide +kernel
theorem dX7_refuse_7 : decode cX7_refuse 7 = .ok (.iaload, 1) := by decide +kernel
theorem dX7_refuse_8 : decode cX7_refuse 8 = .ok (.iconst 1, 1) := by decide +kernel
theorem dX7_refuse_9 : decode cX7_refuse 9 = .ok (.iadd, 1) := by decide +kernel
theorem dX7_refuse_10 : decode cX7_refuse 10 = .ok (.iastore, 1) := by decide +kernel
theorem dX7_refuse_11 : decode cX7_refuse 11 = .ok (.iload_n 1, 1) := by decide +kernel
theorem dX7_refuse_12 : decode cX7_refuse 12 = .ok (.ireturn, 1) := by decide +kernel
theorem dX7_in_0 : decode cX7_in 0 = .ok (.lload_n 0, 1) := by decide +kernel
theorem dX7_in_1 : decode cX7_in 1 = .ok (.lload_n 2, 1) := by decide +kernel
theorem dX7_in_2 : decode cX7_in 2 = .ok (.lcmp, 1) := by decide +kernel
theorem dX7_in_3 : decode cX7_in 3 = .ok (.ifCond .lt 14, 3) := by decide +kernel
theorem dX7_in_6 : decode cX7_in 6 = .ok (.lload_n 0, 1) := by decide +kernel
theorem dX7_in_7 : decode cX7_in 7 = .ok (.lload 4, 2) := by decide +kernel
theorem dX7_in_9 : decode cX7_in 9 = .ok (.lcmp, 1) := by decide +kernel
theorem dX7_in_10 : decode cX7_in 10 = .ok (.ifCond .gt 7, 3) := by decide +kernel
theorem dX7_in_13 : decode cX7_in 13 = .ok (.iconst 1, 1) := by decide +kernel
theorem dX7_in_14 : decode cX7_in 14 = .ok (.goto 4, 3) := by decide +kernel
theorem dX7_in_17 : decode cX7_in 17 = .ok (.iconst 0, 1) := by decide +kernel
theorem dX7_in_18 : decode cX7_in 18 = .ok (.ireturn, 1) := by decide +kernel
theorem dX7_isBend_0 : decode cX7_isBend 0 = .ok (.lload_n 1, 1) := by decide +kernel
theorem dX7_isBend_1 : decode cX7_isBend 1 = .ok (.lconst 0, 1) := by decide +kernel
theorem dX7_isBend_2 : decode cX7_isBend 2 = .ok (.aload_n 0, 1) := by decide +kernel
theorem dX7_isBend_3 : decode cX7_isBend 3 = .ok (.getfield 94, 3) := by decide +kernel
theorem dX7_isBend_6 : decode cX7_isBend 6 = .ok (.iconst 1, 1) := by decide +kernel
theorem dX7_isBend_7 : decode cX7_isBend 7 = .ok (.isub, 1) := by decide +kernel
theorem dX7_isBend_8 : decode cX7_isBend 8 = .ok (.i2l, 1) := by decide +kernel
theorem dX7_isBend_9 : decode cX7_isBend 9 = .ok (.invokestatic 97, 3) := by decide +kernel
theorem dX7_isBend_12 : decode cX7_isBend 12 = .ok (.ireturn, 1) := by decide +kernel
theorem dX7_has_0 : decode cX7_has 0 = .ok (.iload_n 0, 1) := by decide +kernel
theorem dX7_has_1 : decode cX7_has 1 = .ok (.iload_n 1, 1) := by decide +kernel
theorem dX7_has_2 : decode cX7_has 2 = .ok (.ishr, 1) := by decide +kernel
theorem dX7_has_3 : decode cX7_has 3 = .ok (.iconst 1, 1) := by decide +kernel
theorem dX7_has_4 : decode cX7_has 4 = .ok (.iand, 1) := by decide +kernel
theorem dX7_has_5 : decode cX7_has 5 = .ok (.ifCond .eq 7, 3) := by decide +kernel
theorem dX7_has_8 : decode cX7_has 8 = .ok (.iconst 1, 1) := by decide +kernel
theorem dX7_has_9 : decode cX7_has 9 = .ok (.goto 4, 3) := by decide +kernel
theorem dX7_has_12 : decode cX7_has 12 = .ok (.iconst 0, 1) := by decide +kernel
theorem dX7_has_13 : decode cX7_has 13 = .ok (.ireturn, 1) := by decide +kernel
theorem dX7_bits_0 : decode cX7_bits 0 = .ok (.iconst 0, 1) := by decide +kernel
theorem dX7_bits_1 : decode cX7_bits 1 = .ok (.istore_n 1, 1) := by decide +kernel
theorem dX7_bits_2 : decode cX7_bits 2 = .ok (.iload_n 0, 1) := by decide +kernel
theorem dX7_bits_3 : decode cX7_bits 3 = .ok (.istore_n 2, 1) := by decide +kernel
theorem dX7_bits_4 : decode cX7_bits 4 = .ok (.iload_n 2, 1) := by decide +kernel
theorem dX7_bits_5 : decode cX7_bits 5 = .ok (.ifCond .eq 15, 3) := by decide +kernel
theorem dX7_bits_8 : decode cX7_bits 8 = .ok (.iinc 1 1, 3) := by decide +kernel
theorem dX7_bits_11 : decode cX7_bits 11 = .ok (.iload_n 2, 1) := by decide +kernel
theorem dX7_bits_12 : decode cX7_bits 12 = .ok (.iload_n 2, 1) := by decide +kernel
theorem dX7_bits_13 : decode cX7_bits 13 = .ok (.iconst 1, 1) := by decide +kernel
theorem dX7_bits_14 : decode cX7_bits 14 = .ok (.isub, 1) := by decide +kernel
theorem dX7_bits_15 : decode cX7_bits 15 = .ok (.iand, 1) := by decide +kernel
theorem dX7_bits_16 : decode cX7_bits 16 = .ok (.istore_n 2, 1) := by decide +kernel
theorem dX7_bits_17 : decode cX7_bits 17 = .ok (.goto (-13), 3) := by decide +kernel
theorem dX7_bits_20 : decode cX7_bits 20 = .ok (.iload_n 1, 1) := by decide +kernel
theorem dX7_bits_21 : decode cX7_bits 21 = .ok (.ireturn, 1) := by decide +kernel
theorem dX7_row_0 : decode cX7_row 0 = .ok (.iload_n 1, 1) := by decide +kernel
theorem dX7_row_1 : decode cX7_row 1 = .ok (.i2l, 1) := by decide +kernel
theorem dX7_row_2 : decode cX7_row 2 = .ok (.lconst 0, 1) := by decide +kernel
theorem dX7_row_3 : decode cX7_row 3 = .ok (.ldc2_w 101, 3) := by decide +kernel
theorem dX7_row_6 : decode cX7_row 6 = .ok (.invokestatic 97, 3) := by decide +kernel
theorem dX7_row_9 : decode cX7_row 9 = .ok (.ifCond .eq 27, 3) := by decide +kernel
theorem dX7_row_12 : decode cX7_row 12 = .ok (.iload_n 2, 1) := by decide +kernel
theorem dX7_row_13 : decode cX7_row 13 = .ok (.i2l, 1) := by decide +kernel
theorem dX7_row_14 : decode cX7_row 14 = .ok (.lconst 0, 1) := by decide +kernel
theorem dX7_row_15 : decode cX7_row 15 = .ok (.ldc2_w 103, 3) := by decide +kernel
theorem dX7_row_18 : decode cX7_row 18 = .ok (.invokestatic 97, 3) := by decide +kernel
theorem dX7_row_21 : decode cX7_row 21 = .ok (.ifCond .eq 15, 3) := by decide +kernel
theorem dX7_row_24 : decode cX7_row 24 = .ok (.iload_n 3, 1) := by decide +kernel
theorem dX7_row_25 : decode cX7_row 25 = .ok (.i2l, 1) := by decide +kernel
theorem dX7_row_26 : decode cX7_row 26 = .ok (.lconst 0, 1) := by decide +kernel
theorem dX7_row_27 : decode cX7_row 27 = .ok (.ldc2_w 105, 3) := by decide +kernel
theorem dX7_row_30 : decode cX7_row 30 = .ok (.invokestatic 97, 3) := by decide +kernel
theorem dX7_row_33 : decode cX7_row 33 = .ok (.ifCond .ne 10, 3) := by decide +kernel
theorem dX7_row_36 : decode cX7_row 36 = .ok (.aload_n 0, 1) := by decide +kernel
theorem dX7_row_37 : decode cX7_row 37 = .ok (.bipush (-2), 2) := by decide +kernel
theorem dX7_row_39 : decode cX7_row 39 = .ok (.invokevirtual 107, 3) := by decide +kernel
theorem dX7_row_42 : decode cX7_row 42 = .ok (.ireturn, 1) := by decide +kernel
theorem dX7_row_43 : decode cX7_row 43 = .ok (.aload_n 0, 1) := by decide +kernel
theorem dX7_row_44 : decode cX7_row 44 = .ok (.getfield 7, 3) := by decide +kernel
theorem dX7_row_47 : decode cX7_row 47 = .ok (.iload_n 1, 1) := by decide +kernel
theorem dX7_row_48 : decode cX7_row 48 = .ok (.iconst 1, 1) := by decide +kernel
theorem dX7_row_49 : decode cX7_row 49 = .ok (.iastore, 1) := by decide +kernel
theorem dX7_row_50 : decode cX7_row 50 = .ok (.aload_n 0, 1) := by decide +kernel
theorem dX7_row_51 : decode cX7_row 51 = .ok (.getfield 13, 3) := by decide +kernel
theorem dX7_row_54 : decode cX7_row 54 = .ok (.iload_n 1, 1) := by decide +kernel
theorem dX7_row_55 : decode cX7_row 55 = .ok (.iload_n 2, 1) := by decide +kernel
theorem dX7_row_56 : decode cX7_row 56 = .ok (.iastore, 1) := by decide +kernel
theorem dX7_row_57 : decode cX7_row 57 = .ok (.aload_n 0, 1) := by decide +kernel
theorem dX7_row_58 : decode cX7_row 58 = .ok (.getfield 16, 3) := by decide +kernel
theorem dX7_row_61 : decode cX7_row 61 = .ok (.iload_n 1, 1) := by decide +kernel
theorem dX7_row_62 : decode cX7_row 62 = .ok (.iload_n 3, 1) := by decide +kernel
theorem dX7_row_63 : decode cX7_row 63 = .ok (.iastore, 1) := by decide +kernel
theorem dX7_row_64 : decode cX7_row 64 = .ok (.iconst 0, 1) := by decide +kernel
theorem dX7_row_65 : decode cX7_row 65 = .ok (.istore 4, 2) := by decide +kernel
theorem dX7_row_67 : decode cX7_row 67 = .ok (.iload 4, 2) := by decide +kernel
theorem dX7_row_69 : decode cX7_row 69 = .ok (.bipush 40, 2) := by decide +kernel
theorem dX7_row_71 : decode cX7_row 71 = .ok (.if_icmp .ge 19, 3) := by decide +kernel
theorem dX7_row_74 : decode cX7_row 74 = .ok (.aload_n 0, 1) := by decide +kernel
theorem dX7_row_75 : decode cX7_row 75 = .ok (.getfield 21, 3) := by decide +kernel
theorem dX7_row_78 : decode cX7_row 78 = .ok (.iload_n 1, 1) := by decide +kernel
theorem dX7_row_79 : decode cX7_row 79 = .ok (.aaload, 1) := by decide +kernel
theorem dX7_row_80 : decode cX7_row 80 = .ok (.iload 4, 2) := by decide +kernel
theorem dX7_row_82 : decode cX7_row 82 = .ok (.lconst 0, 1) := by decide +kernel
theorem dX7_row_83 : decode cX7_row 83 = .ok (.lastore, 1) := by decide +kernel
theorem dX7_row_84 : decode cX7_row 84 = .ok (.iinc 4 1, 3) := by decide +kernel
theorem dX7_row_87 : decode cX7_row 87 = .ok (.goto (-20), 3) := by decide +kernel
theorem dX7_row_90 : decode cX7_row 90 = .ok (.iconst 1, 1) := by decide +kernel
theorem dX7_row_91 : decode cX7_row 91 = .ok (.ireturn, 1) := by decide +kernel
theorem dX7_fit_0 : decode cX7_fit 0 = .ok (.iload_n 0, 1) := by decide +kernel
theorem dX7_fit_1 : decode cX7_fit 1 = .ok (.tableswitch 47 0 3 #[31, 36, 41, 45], 31) := by decide +kernel
theorem dX7_fit_32 : decode cX7_fit 32 = .ok (.lload_n 1, 1) := by decide +kernel
theorem dX7_fit_33 : decode cX7_fit 33 = .ok (.l2i, 1) := by decide +kernel
theorem dX7_fit_34 : decode cX7_fit 34 = .ok (.i2b, 1) := by decide +kernel
theorem dX7_fit_35 : decode cX7_fit 35 = .ok (.i2l, 1) := by decide +kernel
theorem dX7_fit_36 : decode cX7_fit 36 = .ok (.lreturn, 1) := by decide +kernel
theorem dX7_fit_37 : decode cX7_fit 37 = .ok (.lload_n 1, 1) := by decide +kernel
theorem dX7_fit_38 : decode cX7_fit 38 = .ok (.l2i, 1) := by decide +kernel
theorem dX7_fit_39 : decode cX7_fit 39 = .ok (.i2s, 1) := by decide +kernel
theorem dX7_fit_40 : decode cX7_fit 40 = .ok (.i2l, 1) := by decide +kernel
theorem dX7_fit_41 : decode cX7_fit 41 = .ok (.lreturn, 1) := by decide +kernel
theorem dX7_fit_42 : decode cX7_fit 42 = .ok (.lload_n 1, 1) := by decide +kernel
theorem dX7_fit_43 : decode cX7_fit 43 = .ok (.l2i, 1) := by decide +kernel
theorem dX7_fit_44 : decode cX7_fit 44 = .ok (.i2l, 1) := by decide +kernel
theorem dX7_fit_45 : decode cX7_fit 45 = .ok (.lreturn, 1) := by decide +kernel
theorem dX7_fit_46 : decode cX7_fit 46 = .ok (.lload_n 1, 1) := by decide +kernel
theorem dX7_fit_47 : decode cX7_fit 47 = .ok (.lreturn, 1) := by decide +kernel
theorem dX7_fit_48 : decode cX7_fit 48 = .ok (.lload_n 1, 1) := by decide +kernel
theorem dX7_fit_49 : decode cX7_fit 49 = .ok (.lconst 0, 1) := by decide +kernel
theorem dX7_fit_50 : decode cX7_fit 50 = .ok (.lcmp, 1) := by decide +kernel
theorem dX7_fit_51 : decode cX7_fit 51 = .ok (.ifCond .eq 7, 3) := by decide +kernel
theorem dX7_fit_54 : decode cX7_fit 54 = .ok (.lconst 1, 1) := by decide +kernel
theorem dX7_fit_55 : decode cX7_fit 55 = .ok (.goto 4, 3) := by decide +kernel
theorem dX7_fit_58 : decode cX7_fit 58 = .ok (.lconst 0, 1) := by decide +kernel
theorem dX7_fit_59 : decode cX7_fit 59 = .ok (.lreturn, 1) := by decide +kernel
theorem dX7_noRow_0 : decode cX7_noRow 0 = .ok (.iload_n 1, 1) := by decide +kernel
theorem dX7_noRow_1 : decode cX7_noRow 1 = .ok (.i2l, 1) := by decide +kernel
theorem dX7_noRow_2 : decode cX7_noRow 2 = .ok (.lconst 0, 1) := by decide +kernel
theorem dX7_noRow_3 : decode cX7_noRow 3 = .ok (.ldc2_w 101, 3) := by decide +kernel
theorem dX7_noRow_6 : decode cX7_noRow 6 = .ok (.invokestatic 97, 3) := by decide +kernel
theorem dX7_noRow_9 : decode cX7_noRow 9 = .ok (.ifCond .ne 10, 3) := by decide +kernel
theorem dX7_noRow_12 : decode cX7_noRow 12 = .ok (.aload_n 0, 1) := by decide +kernel
theorem dX7_noRow_13 : decode cX7_noRow 13 = .ok (.bipush (-2), 2) := by decide +kernel
theorem dX7_noRow_15 : decode cX7_noRow 15 = .ok (.invokevirtual 107, 3) := by decide +kernel
theorem dX7_noRow_18 : decode cX7_noRow 18 = .ok (.ireturn, 1) := by decide +kernel
theorem dX7_noRow_19 : decode cX7_noRow 19 = .ok (.aload_n 0, 1) := by decide +kernel
theorem dX7_noRow_20 : decode cX7_noRow 20 = .ok (.getfield 7, 3) := by decide +kernel
theorem dX7_noRow_23 : decode cX7_noRow 23 = .ok (.iload_n 1, 1) := by decide +kernel
theorem dX7_noRow_24 : decode cX7_noRow 24 = .ok (.iaload, 1) := by decide +kernel
theorem dX7_noRow_25 : decode cX7_noRow 25 = .ok (.iconst 2, 1) := by decide +kernel
theorem dX7_noRow_26 : decode cX7_noRow 26 = .ok (.if_icmp .ne 10, 3) := by decide +kernel
theorem dX7_noRow_29 : decode cX7_noRow 29 = .ok (.aload_n 0, 1) := by decide +kernel
theorem dX7_noRow_30 : decode cX7_noRow 30 = .ok (.bipush (-3), 2) := by decide +kernel
theorem dX7_noRow_32 : decode cX7_noRow 32 = .ok (.invokevirtual 107, 3) := by decide +kernel
theorem dX7_noRow_35 : decode cX7_noRow 35 = .ok (.ireturn, 1) := by decide +kernel
theorem dX7_noRow_36 : decode cX7_noRow 36 = .ok (.aload_n 0, 1) := by decide +kernel
theorem dX7_noRow_37 : decode cX7_noRow 37 = .ok (.getfield 7, 3) := by decide +kernel
theorem dX7_noRow_40 : decode cX7_noRow 40 = .ok (.iload_n 1, 1) := by decide +kernel
theorem dX7_noRow_41 : decode cX7_noRow 41 = .ok (.iaload, 1) := by decide +kernel
theorem dX7_noRow_42 : decode cX7_noRow 42 = .ok (.ifCond .ne 12, 3) := by decide +kernel
theorem dX7_noRow_45 : decode cX7_noRow 45 = .ok (.aload_n 0, 1) := by decide +kernel
theorem dX7_noRow_46 : decode cX7_noRow 46 = .ok (.bipush (-4), 2) := by decide +kernel
theorem dX7_noRow_48 : decode cX7_noRow 48 = .ok (.invokevirtual 107, 3) := by decide +kernel
theorem dX7_noRow_51 : decode cX7_noRow 51 = .ok (.goto 4, 3) := by decide +kernel
theorem dX7_noRow_54 : decode cX7_noRow 54 = .ok (.iconst 0, 1) := by decide +kernel
theorem dX7_noRow_55 : decode cX7_noRow 55 = .ok (.ireturn, 1) := by decide +kernel
theorem dX7_set_0 : decode cX7_set 0 = .ok (.aload_n 0, 1) := by decide +kernel
theorem dX7_set_1 : decode cX7_set 1 = .ok (.iload_n 1, 1) := by decide +kernel
theorem dX7_set_2 : decode cX7_set 2 = .ok (.invokevirtual 111, 3) := by decide +kernel
theorem dX7_set_5 : decode cX7_set 5 = .ok (.istore 5, 2) := by decide +kernel
theorem dX7_set_7 : decode cX7_set 7 = .ok (.iload 5, 2) := by decide +kernel
theorem dX7_set_9 : decode cX7_set 9 = .ok (.ifCond .eq 6, 3) := by decide +kernel
theorem dX7_set_12 : decode cX7_set 12 = .ok (.iload 5, 2) := by decide +kernel
theorem dX7_set_14 : decode cX7_set 14 = .ok (.ireturn, 1) := by decide +kernel
theorem dX7_set_15 : decode cX7_set 15 = .ok (.iload_n 2, 1) := by decide +kernel
theorem dX7_set_16 : decode cX7_set 16 = .ok (.i2l, 1) := by decide +kernel
theorem dX7_set_17 : decode cX7_set 17 = .ok (.lconst 0, 1) := by decide +kernel
theorem dX7_set_18 : decode cX7_set 18 = .ok (.aload_n 0, 1) := by decide +kernel
theorem dX7_set_19 : decode cX7_set 19 = .ok (.getfield 16, 3) := by decide +kernel
theorem dX7_set_22 : decode cX7_set 22 = .ok (.iload_n 1, 1) := by decide +kernel
theorem dX7_set_23 : decode cX7_set 23 = .ok (.iaload, 1) := by decide +kernel
theorem dX7_set_24 : decode cX7_set 24 = .ok (.iconst 1, 1) := by decide +kernel
theorem dX7_set_25 : decode cX7_set 25 = .ok (.isub, 1) := by decide +kernel
theorem dX7_set_26 : decode cX7_set 26 = .ok (.i2l, 1) := by decide +kernel
theorem dX7_set_27 : decode cX7_set 27 = .ok (.invokestatic 97, 3) := by decide +kernel
theorem dX7_set_30 : decode cX7_set 30 = .ok (.ifCond .ne 10, 3) := by decide +kernel
theorem dX7_set_33 : decode cX7_set 33 = .ok (.aload_n 0, 1) := by decide +kernel
theorem dX7_set_34 : decode cX7_set 34 = .ok (.bipush (-2), 2) := by decide +kernel
theorem dX7_set_36 : decode cX7_set 36 = .ok (.invokevirtual 107, 3) := by decide +kernel
theorem dX7_set_39 : decode cX7_set 39 = .ok (.ireturn, 1) := by decide +kernel
theorem dX7_set_40 : decode cX7_set 40 = .ok (.aload_n 0, 1) := by decide +kernel
theorem dX7_set_41 : decode cX7_set 41 = .ok (.getfield 21, 3) := by decide +kernel
theorem dX7_set_44 : decode cX7_set 44 = .ok (.iload_n 1, 1) := by decide +kernel
theorem dX7_set_45 : decode cX7_set 45 = .ok (.aaload, 1) := by decide +kernel
theorem dX7_set_46 : decode cX7_set 46 = .ok (.iload_n 2, 1) := by decide +kernel
theorem dX7_set_47 : decode cX7_set 47 = .ok (.aload_n 0, 1) := by decide +kernel
theorem dX7_set_48 : decode cX7_set 48 = .ok (.getfield 13, 3) := by decide +kernel
theorem dX7_set_51 : decode cX7_set 51 = .ok (.iload_n 1, 1) := by decide +kernel
theorem dX7_set_52 : decode cX7_set 52 = .ok (.iaload, 1) := by decide +kernel
theorem dX7_set_53 : decode cX7_set 53 = .ok (.lload_n 3, 1) := by decide +kernel
theorem dX7_set_54 : decode cX7_set 54 = .ok (.invokestatic 114, 3) := by decide +kernel
theorem dX7_set_57 : decode cX7_set 57 = .ok (.lastore, 1) := by decide +kernel
theorem dX7_set_58 : decode cX7_set 58 = .ok (.iconst 1, 1) := by decide +kernel
theorem dX7_set_59 : decode cX7_set 59 = .ok (.ireturn, 1) := by decide +kernel
theorem dX7_copy_0 : decode cX7_copy 0 = .ok (.iload_n 1, 1) := by decide +kernel
theorem dX7_copy_1 : decode cX7_copy 1 = .ok (.i2l, 1) := by decide +kernel
theorem dX7_copy_2 : decode cX7_copy 2 = .ok (.lconst 0, 1) := by decide +kernel
theorem dX7_copy_3 : decode cX7_copy 3 = .ok (.ldc2_w 101, 3) := by decide +kernel
theorem dX7_copy_6 : decode cX7_copy 6 = .ok (.invokestatic 97, 3) := by decide +kernel
theorem dX7_copy_9 : decode cX7_copy 9 = .ok (.ifCond .eq 15, 3) := by decide +kernel
theorem dX7_copy_12 : decode cX7_copy 12 = .ok (.iload_n 2, 1) := by decide +kernel
theorem dX7_copy_13 : decode cX7_copy 13 = .ok (.i2l, 1) := by decide +kernel
theorem dX7_copy_14 : decode cX7_copy 14 = .ok (.lconst 0, 1) := by decide +kernel
theorem dX7_copy_15 : decode cX7_copy 15 = .ok (.ldc2_w 101, 3) := by decide +kernel
theorem dX7_copy_18 : decode cX7_copy 18 = .ok (.invokestatic 97, 3) := by decide +kernel
theorem dX7_copy_21 : decode cX7_copy 21 = .ok (.ifCond .ne 10, 3) := by decide +kernel
theorem dX7_copy_24 : decode cX7_copy 24 = .ok (.aload_n 0, 1) := by decide +kernel
theorem dX7_copy_25 : decode cX7_copy 25 = .ok (.bipush (-2), 2) := by decide +kernel
theorem dX7_copy_27 : decode cX7_copy 27 = .ok (.invokevirtual 107, 3) := by decide +kernel
theorem dX7_copy_30 : decode cX7_copy 30 = .ok (.ireturn, 1) := by decide +kernel
theorem dX7_copy_31 : decode cX7_copy 31 = .ok (.aload_n 0, 1) := by decide +kernel
theorem dX7_copy_32 : decode cX7_copy 32 = .ok (.getfield 7, 3) := by decide +kernel
theorem dX7_copy_35 : decode cX7_copy 35 = .ok (.iload_n 1, 1) := by decide +kernel
theorem dX7_copy_36 : decode cX7_copy 36 = .ok (.iaload, 1) := by decide +kernel
theorem dX7_copy_37 : decode cX7_copy 37 = .ok (.iconst 2, 1) := by decide +kernel
theorem dX7_copy_38 : decode cX7_copy 38 = .ok (.if_icmp .eq 48, 3) := by decide +kernel
theorem dX7_copy_41 : decode cX7_copy 41 = .ok (.aload_n 0, 1) := by decide +kernel
theorem dX7_copy_42 : decode cX7_copy 42 = .ok (.getfield 7, 3) := by decide +kernel
theorem dX7_copy_45 : decode cX7_copy 45 = .ok (.iload_n 2, 1) := by decide +kernel
theorem dX7_copy_46 : decode cX7_copy 46 = .ok (.iaload, 1) := by decide +kernel
theorem dX7_copy_47 : decode cX7_copy 47 = .ok (.iconst 2, 1) := by decide +kernel
theorem dX7_copy_48 : decode cX7_copy 48 = .ok (.if_icmp .eq 38, 3) := by decide +kernel
theorem dX7_copy_51 : decode cX7_copy 51 = .ok (.aload_n 0, 1) := by decide +kernel
theorem dX7_copy_52 : decode cX7_copy 52 = .ok (.getfield 7, 3) := by decide +kernel
theorem dX7_copy_55 : decode cX7_copy 55 = .ok (.iload_n 1, 1) := by decide +kernel
theorem dX7_copy_56 : decode cX7_copy 56 = .ok (.iaload, 1) := by decide +kernel
theorem dX7_copy_57 : decode cX7_copy 57 = .ok (.iconst 1, 1) := by decide +kernel
theorem dX7_copy_58 : decode cX7_copy 58 = .ok (.if_icmp .ne 35, 3) := by decide +kernel
theorem dX7_copy_61 : decode cX7_copy 61 = .ok (.aload_n 0, 1) := by decide +kernel
theorem dX7_copy_62 : decode cX7_copy 62 = .ok (.getfield 7, 3) := by decide +kernel
theorem dX7_copy_65 : decode cX7_copy 65 = .ok (.iload_n 2, 1) := by decide +kernel
theorem dX7_copy_66 : decode cX7_copy 66 = .ok (.iaload, 1) := by decide +kernel
theorem dX7_copy_67 : decode cX7_copy 67 = .ok (.iconst 1, 1) := by decide +kernel
theorem dX7_copy_68 : decode cX7_copy 68 = .ok (.if_icmp .ne 25, 3) := by decide +kernel
theorem dX7_copy_71 : decode cX7_copy 71 = .ok (.aload_n 0, 1) := by decide +kernel
theorem dX7_copy_72 : decode cX7_copy 72 = .ok (.getfield 13, 3) := by decide +kernel
theorem dX7_copy_75 : decode cX7_copy 75 = .ok (.iload_n 1, 1) := by decide +kernel
theorem dX7_copy_76 : decode cX7_copy 76 = .ok (.iaload, 1) := by decide +kernel
theorem dX7_copy_77 : decode cX7_copy 77 = .ok (.aload_n 0, 1) := by decide +kernel
theorem dX7_copy_78 : decode cX7_copy 78 = .ok (.getfield 13, 3) := by decide +kernel
theorem dX7_copy_81 : decode cX7_copy 81 = .ok (.iload_n 2, 1) := by decide +kernel
theorem dX7_copy_82 : decode cX7_copy 82 = .ok (.iaload, 1) := by decide +kernel
theorem dX7_copy_83 : decode cX7_copy 83 = .ok (.if_icmp .eq 10, 3) := by decide +kernel
theorem dX7_copy_86 : decode cX7_copy 86 = .ok (.aload_n 0, 1) := by decide +kernel
theorem dX7_copy_87 : decode cX7_copy 87 = .ok (.bipush (-3), 2) := by decide +kernel
theorem dX7_copy_89 : decode cX7_copy 89 = .ok (.invokevirtual 107, 3) := by decide +kernel
theorem dX7_copy_92 : decode cX7_copy 92 = .ok (.ireturn, 1) := by decide +kernel
theorem dX7_copy_93 : decode cX7_copy 93 = .ok (.aload_n 0, 1) := by decide +kernel
theorem dX7_copy_94 : decode cX7_copy 94 = .ok (.getfield 7, 3) := by decide +kernel
theorem dX7_copy_97 : decode cX7_copy 97 = .ok (.iload_n 1, 1) := by decide +kernel
theorem dX7_copy_98 : decode cX7_copy 98 = .ok (.iaload, 1) := by decide +kernel
theorem dX7_copy_99 : decode cX7_copy 99 = .ok (.ifCond .eq 12, 3) := by decide +kernel
theorem dX7_copy_102 : decode cX7_copy 102 = .ok (.aload_n 0, 1) := by decide +kernel
theorem dX7_copy_103 : decode cX7_copy 103 = .ok (.getfield 7, 3) := by decide +kernel
theorem dX7_copy_106 : decode cX7_copy 106 = .ok (.iload_n 2, 1) := by decide +kernel
theorem dX7_copy_107 : decode cX7_copy 107 = .ok (.iaload, 1) := by decide +kernel
theorem dX7_copy_108 : decode cX7_copy 108 = .ok (.ifCond .ne 10, 3) := by decide +kernel
theorem dX7_copy_111 : decode cX7_copy 111 = .ok (.aload_n 0, 1) := by decide +kernel
theorem dX7_copy_112 : decode cX7_copy 112 = .ok (.bipush (-4), 2) := by decide +kernel
theorem dX7_copy_114 : decode cX7_copy 114 = .ok (.invokevirtual 107, 3) := by decide +kernel
theorem dX7_copy_117 : decode cX7_copy 117 = .ok (.ireturn, 1) := by decide +kernel
theorem dX7_copy_118 : decode cX7_copy 118 = .ok (.iload 5, 2) := by decide +kernel
theorem dX7_copy_120 : decode cX7_copy 120 = .ok (.ifCond .lt 61, 3) := by decide +kernel
theorem dX7_copy_123 : decode cX7_copy 123 = .ok (.iload_n 3, 1) := by decide +kernel
theorem dX7_copy_124 : decode cX7_copy 124 = .ok (.ifCond .lt 57, 3) := by decide +kernel
theorem dX7_copy_127 : decode cX7_copy 127 = .ok (.iload 4, 2) := by decide +kernel
theorem dX7_copy_129 : decode cX7_copy 129 = .ok (.ifCond .lt 52, 3) := by decide +kernel
theorem dX7_copy_132 : decode cX7_copy 132 = .ok (.iload 5, 2) := by decide +kernel
theorem dX7_copy_134 : decode cX7_copy 134 = .ok (.aload_n 0, 1) := by decide +kernel
theorem dX7_copy_135 : decode cX7_copy 135 = .ok (.getfield 16, 3) := by decide +kernel
theorem dX7_copy_138 : decode cX7_copy 138 = .ok (.iload_n 1, 1) := by decide +kernel
theorem dX7_copy_139 : decode cX7_copy 139 = .ok (.iaload, 1) := by decide +kernel
theorem dX7_copy_140 : decode cX7_copy 140 = .ok (.if_icmp .gt 41, 3) := by decide +kernel
theorem dX7_copy_143 : decode cX7_copy 143 = .ok (.iload 5, 2) := by decide +kernel
theorem dX7_copy_145 : decode cX7_copy 145 = .ok (.aload_n 0, 1) := by decide +kernel
theorem dX7_copy_146 : decode cX7_copy 146 = .ok (.getfield 16, 3) := by decide +kernel
theorem dX7_copy_149 : decode cX7_copy 149 = .ok (.iload_n 2, 1) := by decide +kernel
theorem dX7_copy_150 : decode cX7_copy 150 = .ok (.iaload, 1) := by decide +kernel
theorem dX7_copy_151 : decode cX7_copy 151 = .ok (.if_icmp .gt 30, 3) := by decide +kernel
theorem dX7_copy_154 : decode cX7_copy 154 = .ok (.iload_n 3, 1) := by decide +kernel
theorem dX7_copy_155 : decode cX7_copy 155 = .ok (.aload_n 0, 1) := by decide +kernel
theorem dX7_copy_156 : decode cX7_copy 156 = .ok (.getfield 16, 3) := by decide +kernel
theorem dX7_copy_159 : decode cX7_copy 159 = .ok (.iload_n 1, 1) := by decide +kernel
theorem dX7_copy_160 : decode cX7_copy 160 = .ok (.iaload, 1) := by decide +kernel
theorem dX7_copy_161 : decode cX7_copy 161 = .ok (.iload 5, 2) := by decide +kernel
theorem dX7_copy_163 : decode cX7_copy 163 = .ok (.isub, 1) := by decide +kernel
theorem dX7_copy_164 : decode cX7_copy 164 = .ok (.if_icmp .gt 17, 3) := by decide +kernel
theorem dX7_copy_167 : decode cX7_copy 167 = .ok (.iload 4, 2) := by decide +kernel
theorem dX7_copy_169 : decode cX7_copy 169 = .ok (.aload_n 0, 1) := by decide +kernel
theorem dX7_copy_170 : decode cX7_copy 170 = .ok (.getfield 16, 3) := by decide +kernel
theorem dX7_copy_173 : decode cX7_copy 173 = .ok (.iload_n 2, 1) := by decide +kernel
theorem dX7_copy_174 : decode cX7_copy 174 = .ok (.iaload, 1) := by decide +kernel
theorem dX7_copy_175 : decode cX7_copy 175 = .ok (.iload 5, 2) := by decide +kernel
theorem dX7_copy_177 : decode cX7_copy 177 = .ok (.isub, 1) := by decide +kernel
theorem dX7_copy_178 : decode cX7_copy 178 = .ok (.if_icmp .le 10, 3) := by decide +kernel
theorem dX7_copy_181 : decode cX7_copy 181 = .ok (.aload_n 0, 1) := by decide +kernel
theorem dX7_copy_182 : decode cX7_copy 182 = .ok (.bipush (-2), 2) := by decide +kernel
theorem dX7_copy_184 : decode cX7_copy 184 = .ok (.invokevirtual 107, 3) := by decide +kernel
theorem dX7_copy_187 : decode cX7_copy 187 = .ok (.ireturn, 1) := by decide +kernel
theorem dX7_copy_188 : decode cX7_copy 188 = .ok (.iconst 0, 1) := by decide +kernel
theorem dX7_copy_189 : decode cX7_copy 189 = .ok (.istore 6, 2) := by decide +kernel
theorem dX7_copy_191 : decode cX7_copy 191 = .ok (.iload 6, 2) := by decide +kernel
theorem dX7_copy_193 : decode cX7_copy 193 = .ok (.iload 5, 2) := by decide +kernel
theorem dX7_copy_195 : decode cX7_copy 195 = .ok (.if_icmp .ge 27, 3) := by decide +kernel
theorem dX7_copy_198 : decode cX7_copy 198 = .ok (.aload_n 0, 1) := by decide +kernel
theorem dX7_copy_199 : decode cX7_copy 199 = .ok (.getfield 24, 3) := by decide +kernel
theorem dX7_copy_202 : decode cX7_copy 202 = .ok (.iload 6, 2) := by decide +kernel
theorem dX7_copy_204 : decode cX7_copy 204 = .ok (.aload_n 0, 1) := by decide +kernel
theorem dX7_copy_205 : decode cX7_copy 205 = .ok (.getfield 21, 3) := by decide +kernel
theorem dX7_copy_208 : decode cX7_copy 208 = .ok (.iload_n 1, 1) := by decide +kernel
theorem dX7_copy_209 : decode cX7_copy 209 = .ok (.aaload, 1) := by decide +kernel
theorem dX7_copy_210 : decode cX7_copy 210 = .ok (.iload_n 3, 1) := by decide +kernel
theorem dX7_copy_211 : decode cX7_copy 211 = .ok (.iload 6, 2) := by decide +kernel
theorem dX7_copy_213 : decode cX7_copy 213 = .ok (.iadd, 1) := by decide +kernel
theorem dX7_copy_214 : decode cX7_copy 214 = .ok (.laload, 1) := by decide +kernel
theorem dX7_copy_215 : decode cX7_copy 215 = .ok (.lastore, 1) := by decide +kernel
theorem dX7_copy_216 : decode cX7_copy 216 = .ok (.iinc 6 1, 3) := by decide +kernel
theorem dX7_copy_219 : decode cX7_copy 219 = .ok (.goto (-28), 3) := by decide +kernel
theorem dX7_copy_222 : decode cX7_copy 222 = .ok (.iconst 0, 1) := by decide +kernel
theorem dX7_copy_223 : decode cX7_copy 223 = .ok (.istore 6, 2) := by decide +kernel
theorem dX7_copy_225 : decode cX7_copy 225 = .ok (.iload 6, 2) := by decide +kernel
theorem dX7_copy_227 : decode cX7_copy 227 = .ok (.iload 5, 2) := by decide +kernel
theorem dX7_copy_229 : decode cX7_copy 229 = .ok (.if_icmp .ge 28, 3) := by decide +kernel
theorem dX7_copy_232 : decode cX7_copy 232 = .ok (.aload_n 0, 1) := by decide +kernel
theorem dX7_copy_233 : decode cX7_copy 233 = .ok (.getfield 21, 3) := by decide +kernel
theorem dX7_copy_236 : decode cX7_copy 236 = .ok (.iload_n 2, 1) := by decide +kernel
theorem dX7_copy_237 : decode cX7_copy 237 = .ok (.aaload, 1) := by decide +kernel
theorem dX7_copy_238 : decode cX7_copy 238 = .ok (.iload 4, 2) := by decide +kernel
theorem dX7_copy_240 : decode cX7_copy 240 = .ok (.iload 6, 2) := by decide +kernel
theorem dX7_copy_242 : decode cX7_copy 242 = .ok (.iadd, 1) := by decide +kernel
theorem dX7_copy_243 : decode cX7_copy 243 = .ok (.aload_n 0, 1) := by decide +kernel
theorem dX7_copy_244 : decode cX7_copy 244 = .ok (.getfield 24, 3) := by decide +kernel
theorem dX7_copy_247 : decode cX7_copy 247 = .ok (.iload 6, 2) := by decide +kernel
theorem dX7_copy_249 : decode cX7_copy 249 = .ok (.laload, 1) := by decide +kernel
theorem dX7_copy_250 : decode cX7_copy 250 = .ok (.lastore, 1) := by decide +kernel
theorem dX7_copy_251 : decode cX7_copy 251 = .ok (.iinc 6 1, 3) := by decide +kernel
theorem dX7_copy_254 : decode cX7_copy 254 = .ok (.goto (-29), 3) := by decide +kernel
theorem dX7_copy_257 : decode cX7_copy 257 = .ok (.iload 5, 2) := by decide +kernel
theorem dX7_copy_259 : decode cX7_copy 259 = .ok (.ireturn, 1) := by decide +kernel
theorem dX7_element_0 : decode cX7_element 0 = .ok (.iload_n 1, 1) := by decide +kernel
theorem dX7_element_1 : decode cX7_element 1 = .ok (.i2l, 1) := by decide +kernel
theorem dX7_element_2 : decode cX7_element 2 = .ok (.lconst 0, 1) := by decide +kernel
theorem dX7_element_3 : decode cX7_element 3 = .ok (.ldc2_w 101, 3) := by decide +kernel
theorem dX7_element_6 : decode cX7_element 6 = .ok (.invokestatic 97, 3) := by decide +kernel
theorem dX7_element_9 : decode cX7_element 9 = .ok (.ifCond .eq 42, 3) := by decide +kernel
theorem dX7_element_12 : decode cX7_element 12 = .ok (.aload_n 0, 1) := by decide +kernel
theorem dX7_element_13 : decode cX7_element 13 = .ok (.getfield 7, 3) := by decide +kernel
theorem dX7_element_16 : decode cX7_element 16 = .ok (.iload_n 1, 1) := by decide +kernel
theorem dX7_element_17 : decode cX7_element 17 = .ok (.iaload, 1) := by decide +kernel
theorem dX7_element_18 : decode cX7_element 18 = .ok (.iconst 1, 1) := by decide +kernel
theorem dX7_element_19 : decode cX7_element 19 = .ok (.if_icmp .ne 32, 3) := by decide +kernel
theorem dX7_element_22 : decode cX7_element 22 = .ok (.iload_n 2, 1) := by decide +kernel
theorem dX7_element_23 : decode cX7_element 23 = .ok (.i2l, 1) := by decide +kernel
theorem dX7_element_24 : decode cX7_element 24 = .ok (.lconst 0, 1) := by decide +kernel
theorem dX7_element_25 : decode cX7_element 25 = .ok (.aload_n 0, 1) := by decide +kernel
theorem dX7_element_26 : decode cX7_element 26 = .ok (.getfield 16, 3) := by decide +kernel
theorem dX7_element_29 : decode cX7_element 29 = .ok (.iload_n 1, 1) := by decide +kernel
theorem dX7_element_30 : decode cX7_element 30 = .ok (.iaload, 1) := by decide +kernel
theorem dX7_element_31 : decode cX7_element 31 = .ok (.iconst 1, 1) := by decide +kernel
theorem dX7_element_32 : decode cX7_element 32 = .ok (.isub, 1) := by decide +kernel
theorem dX7_element_33 : decode cX7_element 33 = .ok (.i2l, 1) := by decide +kernel
theorem dX7_element_34 : decode cX7_element 34 = .ok (.invokestatic 97, 3) := by decide +kernel
theorem dX7_element_37 : decode cX7_element 37 = .ok (.ifCond .eq 14, 3) := by decide +kernel
theorem dX7_element_40 : decode cX7_element 40 = .ok (.aload_n 0, 1) := by decide +kernel
theorem dX7_element_41 : decode cX7_element 41 = .ok (.getfield 21, 3) := by decide +kernel
theorem dX7_element_44 : decode cX7_element 44 = .ok (.iload_n 1, 1) := by decide +kernel
theorem dX7_element_45 : decode cX7_element 45 = .ok (.aaload, 1) := by decide +kernel
theorem dX7_element_46 : decode cX7_element 46 = .ok (.iload_n 2, 1) := by decide +kernel
theorem dX7_element_47 : decode cX7_element 47 = .ok (.laload, 1) := by decide +kernel
theorem dX7_element_48 : decode cX7_element 48 = .ok (.goto 4, 3) := by decide +kernel
theorem dX7_element_51 : decode cX7_element 51 = .ok (.lconst 0, 1) := by decide +kernel
theorem dX7_element_52 : decode cX7_element 52 = .ok (.lreturn, 1) := by decide +kernel
theorem dX7_holds_0 : decode cX7_holds 0 = .ok (.iload_n 1, 1) := by decide +kernel
theorem dX7_holds_1 : decode cX7_holds 1 = .ok (.i2l, 1) := by decide +kernel
theorem dX7_holds_2 : decode cX7_holds 2 = .ok (.lconst 0, 1) := by decide +kernel
theorem dX7_holds_3 : decode cX7_holds 3 = .ok (.ldc2_w 101, 3) := by decide +kernel
theorem dX7_holds_6 : decode cX7_holds 6 = .ok (.invokestatic 97, 3) := by decide +kernel
theorem dX7_holds_9 : decode cX7_holds 9 = .ok (.ifCond .eq 12, 3) := by decide +kernel
theorem dX7_holds_12 : decode cX7_holds 12 = .ok (.aload_n 0, 1) := by decide +kernel
theorem dX7_holds_13 : decode cX7_holds 13 = .ok (.getfield 7, 3) := by decide +kernel
theorem dX7_holds_16 : decode cX7_holds 16 = .ok (.iload_n 1, 1) := by decide +kernel
theorem dX7_holds_17 : decode cX7_holds 17 = .ok (.iaload, 1) := by decide +kernel
theorem dX7_holds_18 : decode cX7_holds 18 = .ok (.ifCond .ne 5, 3) := by decide +kernel
theorem dX7_holds_21 : decode cX7_holds 21 = .ok (.iconst (-1), 1) := by decide +kernel
theorem dX7_holds_22 : decode cX7_holds 22 = .ok (.ireturn, 1) := by decide +kernel
theorem dX7_holds_23 : decode cX7_holds 23 = .ok (.aload_n 0, 1) := by decide +kernel
theorem dX7_holds_24 : decode cX7_holds 24 = .ok (.getfield 7, 3) := by decide +kernel
theorem dX7_holds_27 : decode cX7_holds 27 = .ok (.iload_n 1, 1) := by decide +kernel
theorem dX7_holds_28 : decode cX7_holds 28 = .ok (.iaload, 1) := by decide +kernel
theorem dX7_holds_29 : decode cX7_holds 29 = .ok (.iconst 1, 1) := by decide +kernel
theorem dX7_holds_30 : decode cX7_holds 30 = .ok (.if_icmp .ne 12, 3) := by decide +kernel
theorem dX7_holds_33 : decode cX7_holds 33 = .ok (.aload_n 0, 1) := by decide +kernel
theorem dX7_holds_34 : decode cX7_holds 34 = .ok (.getfield 13, 3) := by decide +kernel
theorem dX7_holds_37 : decode cX7_holds 37 = .ok (.iload_n 1, 1) := by decide +kernel
theorem dX7_holds_38 : decode cX7_holds 38 = .ok (.iaload, 1) := by decide +kernel
theorem dX7_holds_39 : decode cX7_holds 39 = .ok (.goto 12, 3) := by decide +kernel
theorem dX7_holds_42 : decode cX7_holds 42 = .ok (.bipush 10, 2) := by decide +kernel
theorem dX7_holds_44 : decode cX7_holds 44 = .ok (.aload_n 0, 1) := by decide +kernel
theorem dX7_holds_45 : decode cX7_holds 45 = .ok (.getfield 28, 3) := by decide +kernel
theorem dX7_holds_48 : decode cX7_holds 48 = .ok (.iload_n 1, 1) := by decide +kernel
theorem dX7_holds_49 : decode cX7_holds 49 = .ok (.iaload, 1) := by decide +kernel
theorem dX7_holds_50 : decode cX7_holds 50 = .ok (.iadd, 1) := by decide +kernel
theorem dX7_holds_51 : decode cX7_holds 51 = .ok (.ireturn, 1) := by decide +kernel
theorem dX7_show_0 : decode cX7_show 0 = .ok (.iload_n 1, 1) := by decide +kernel
theorem dX7_show_1 : decode cX7_show 1 = .ok (.i2l, 1) := by decide +kernel
theorem dX7_show_2 : decode cX7_show 2 = .ok (.lconst 0, 1) := by decide +kernel
theorem dX7_show_3 : decode cX7_show 3 = .ok (.ldc2_w 101, 3) := by decide +kernel
theorem dX7_show_6 : decode cX7_show 6 = .ok (.invokestatic 97, 3) := by decide +kernel
theorem dX7_show_9 : decode cX7_show 9 = .ok (.ifCond .eq 17, 3) := by decide +kernel
theorem dX7_show_12 : decode cX7_show 12 = .ok (.iload_n 2, 1) := by decide +kernel
theorem dX7_show_13 : decode cX7_show 13 = .ok (.iconst (-1), 1) := by decide +kernel
theorem dX7_show_14 : decode cX7_show 14 = .ok (.if_icmp .eq 19, 3) := by decide +kernel
theorem dX7_show_17 : decode cX7_show 17 = .ok (.aload_n 0, 1) := by decide +kernel
theorem dX7_show_18 : decode cX7_show 18 = .ok (.iload_n 2, 1) := by decide +kernel
theorem dX7_show_19 : decode cX7_show 19 = .ok (.i2l, 1) := by decide +kernel
theorem dX7_show_20 : decode cX7_show 20 = .ok (.invokevirtual 118, 3) := by decide +kernel
theorem dX7_show_23 : decode cX7_show 23 = .ok (.ifCond .ne 10, 3) := by decide +kernel
theorem dX7_show_26 : decode cX7_show 26 = .ok (.aload_n 0, 1) := by decide +kernel
theorem dX7_show_27 : decode cX7_show 27 = .ok (.bipush (-2), 2) := by decide +kernel
theorem dX7_show_29 : decode cX7_show 29 = .ok (.invokevirtual 107, 3) := by decide +kernel
theorem dX7_show_32 : decode cX7_show 32 = .ok (.ireturn, 1) := by decide +kernel
theorem dX7_show_33 : decode cX7_show 33 = .ok (.aload_n 0, 1) := by decide +kernel
theorem dX7_show_34 : decode cX7_show 34 = .ok (.getfield 7, 3) := by decide +kernel
theorem dX7_show_37 : decode cX7_show 37 = .ok (.iload_n 1, 1) := by decide +kernel
theorem dX7_show_38 : decode cX7_show 38 = .ok (.iload_n 2, 1) := by decide +kernel
theorem dX7_show_39 : decode cX7_show 39 = .ok (.iconst (-1), 1) := by decide +kernel
theorem dX7_show_40 : decode cX7_show 40 = .ok (.if_icmp .ne 7, 3) := by decide +kernel
theorem dX7_show_43 : decode cX7_show 43 = .ok (.iconst 0, 1) := by decide +kernel
theorem dX7_show_44 : decode cX7_show 44 = .ok (.goto 4, 3) := by decide +kernel
theorem dX7_show_47 : decode cX7_show 47 = .ok (.iconst 2, 1) := by decide +kernel
theorem dX7_show_48 : decode cX7_show 48 = .ok (.iastore, 1) := by decide +kernel
theorem dX7_show_49 : decode cX7_show 49 = .ok (.aload_n 0, 1) := by decide +kernel
theorem dX7_show_50 : decode cX7_show 50 = .ok (.getfield 28, 3) := by decide +kernel
theorem dX7_show_53 : decode cX7_show 53 = .ok (.iload_n 1, 1) := by decide +kernel
theorem dX7_show_54 : decode cX7_show 54 = .ok (.iload_n 2, 1) := by decide +kernel
theorem dX7_show_55 : decode cX7_show 55 = .ok (.iastore, 1) := by decide +kernel
theorem dX7_show_56 : decode cX7_show 56 = .ok (.iconst 1, 1) := by decide +kernel
theorem dX7_show_57 : decode cX7_show 57 = .ok (.ireturn, 1) := by decide +kernel
theorem dX7_isUnder_0 : decode cX7_isUnder 0 = .ok (.iload_n 1, 1) := by decide +kernel
theorem dX7_isUnder_1 : decode cX7_isUnder 1 = .ok (.ifCond .eq 28, 3) := by decide +kernel
theorem dX7_isUnder_4 : decode cX7_isUnder 4 = .ok (.iload_n 0, 1) := by decide +kernel
theorem dX7_isUnder_5 : decode cX7_isUnder 5 = .ok (.iload_n 1, 1) := by decide +kernel
theorem dX7_isUnder_6 : decode cX7_isUnder 6 = .ok (.if_icmp .eq 23, 3) := by decide +kernel
theorem dX7_isUnder_9 : decode cX7_isUnder 9 = .ok (.iload_n 1, 1) := by decide +kernel
theorem dX7_isUnder_10 : decode cX7_isUnder 10 = .ok (.iconst 1, 1) := by decide +kernel
theorem dX7_isUnder_11 : decode cX7_isUnder 11 = .ok (.if_icmp .ne 8, 3) := by decide +kernel
theorem dX7_isUnder_14 : decode cX7_isUnder 14 = .ok (.iload_n 0, 1) := by decide +kernel
theorem dX7_isUnder_15 : decode cX7_isUnder 15 = .ok (.iconst 3, 1) := by decide +kernel
theorem dX7_isUnder_16 : decode cX7_isUnder 16 = .ok (.if_icmp .eq 13, 3) := by decide +kernel
theorem dX7_isUnder_19 : decode cX7_isUnder 19 = .ok (.iload_n 1, 1) := by decide +kernel
theorem dX7_isUnder_20 : decode cX7_isUnder 20 = .ok (.iconst 2, 1) := by decide +kernel
theorem dX7_isUnder_21 : decode cX7_isUnder 21 = .ok (.if_icmp .ne 12, 3) := by decide +kernel
theorem dX7_isUnder_24 : decode cX7_isUnder 24 = .ok (.iload_n 0, 1) := by decide +kernel
theorem dX7_isUnder_25 : decode cX7_isUnder 25 = .ok (.iconst 4, 1) := by decide +kernel
theorem dX7_isUnder_26 : decode cX7_isUnder 26 = .ok (.if_icmp .ne 7, 3) := by decide +kernel
theorem dX7_isUnder_29 : decode cX7_isUnder 29 = .ok (.iconst 1, 1) := by decide +kernel
theorem dX7_isUnder_30 : decode cX7_isUnder 30 = .ok (.goto 4, 3) := by decide +kernel
theorem dX7_isUnder_33 : decode cX7_isUnder 33 = .ok (.iconst 0, 1) := by decide +kernel
theorem dX7_isUnder_34 : decode cX7_isUnder 34 = .ok (.ireturn, 1) := by decide +kernel
theorem dX7_says_0 : decode cX7_says 0 = .ok (.iload_n 1, 1) := by decide +kernel
theorem dX7_says_1 : decode cX7_says 1 = .ok (.i2l, 1) := by decide +kernel
theorem dX7_says_2 : decode cX7_says 2 = .ok (.lconst 0, 1) := by decide +kernel
theorem dX7_says_3 : decode cX7_says 3 = .ok (.ldc2_w 101, 3) := by decide +kernel
theorem dX7_says_6 : decode cX7_says 6 = .ok (.invokestatic 97, 3) := by decide +kernel
theorem dX7_says_9 : decode cX7_says 9 = .ok (.ifCond .eq 15, 3) := by decide +kernel
theorem dX7_says_12 : decode cX7_says 12 = .ok (.iload_n 2, 1) := by decide +kernel
theorem dX7_says_13 : decode cX7_says 13 = .ok (.i2l, 1) := by decide +kernel
theorem dX7_says_14 : decode cX7_says 14 = .ok (.lconst 0, 1) := by decide +kernel
theorem dX7_says_15 : decode cX7_says 15 = .ok (.ldc2_w 122, 3) := by decide +kernel
theorem dX7_says_18 : decode cX7_says 18 = .ok (.invokestatic 97, 3) := by decide +kernel
theorem dX7_says_21 : decode cX7_says 21 = .ok (.ifCond .ne 10, 3) := by decide +kernel
theorem dX7_says_24 : decode cX7_says 24 = .ok (.aload_n 0, 1) := by decide +kernel
theorem dX7_says_25 : decode cX7_says 25 = .ok (.bipush (-2), 2) := by decide +kernel
theorem dX7_says_27 : decode cX7_says 27 = .ok (.invokevirtual 107, 3) := by decide +kernel
theorem dX7_says_30 : decode cX7_says 30 = .ok (.ireturn, 1) := by decide +kernel
theorem dX7_says_31 : decode cX7_says 31 = .ok (.aload_n 0, 1) := by decide +kernel
theorem dX7_says_32 : decode cX7_says 32 = .ok (.getfield 7, 3) := by decide +kernel
theorem dX7_says_35 : decode cX7_says 35 = .ok (.iload_n 1, 1) := by decide +kernel
theorem dX7_says_36 : decode cX7_says 36 = .ok (.iaload, 1) := by decide +kernel
theorem dX7_says_37 : decode cX7_says 37 = .ok (.iconst 1, 1) := by decide +kernel
theorem dX7_says_38 : decode cX7_says 38 = .ok (.if_icmp .eq 31, 3) := by decide +kernel
theorem dX7_says_41 : decode cX7_says 41 = .ok (.aload_n 0, 1) := by decide +kernel
theorem dX7_says_42 : decode cX7_says 42 = .ok (.getfield 7, 3) := by decide +kernel
theorem dX7_says_45 : decode cX7_says 45 = .ok (.iload_n 1, 1) := by decide +kernel
theorem dX7_says_46 : decode cX7_says 46 = .ok (.iaload, 1) := by decide +kernel
theorem dX7_says_47 : decode cX7_says 47 = .ok (.iconst 2, 1) := by decide +kernel
theorem dX7_says_48 : decode cX7_says 48 = .ok (.if_icmp .ne 28, 3) := by decide +kernel
theorem dX7_says_51 : decode cX7_says 51 = .ok (.aload_n 0, 1) := by decide +kernel
theorem dX7_says_52 : decode cX7_says 52 = .ok (.getfield 37, 3) := by decide +kernel
theorem dX7_says_55 : decode cX7_says 55 = .ok (.aload_n 0, 1) := by decide +kernel
theorem dX7_says_56 : decode cX7_says 56 = .ok (.getfield 28, 3) := by decide +kernel
theorem dX7_says_59 : decode cX7_says 59 = .ok (.iload_n 1, 1) := by decide +kernel
theorem dX7_says_60 : decode cX7_says 60 = .ok (.iaload, 1) := by decide +kernel
theorem dX7_says_61 : decode cX7_says 61 = .ok (.iaload, 1) := by decide +kernel
theorem dX7_says_62 : decode cX7_says 62 = .ok (.iload_n 2, 1) := by decide +kernel
theorem dX7_says_63 : decode cX7_says 63 = .ok (.invokestatic 124, 3) := by decide +kernel
theorem dX7_says_66 : decode cX7_says 66 = .ok (.ifCond .ne 10, 3) := by decide +kernel
theorem dX7_says_69 : decode cX7_says 69 = .ok (.aload_n 0, 1) := by decide +kernel
theorem dX7_says_70 : decode cX7_says 70 = .ok (.bipush (-3), 2) := by decide +kernel
theorem dX7_says_72 : decode cX7_says 72 = .ok (.invokevirtual 107, 3) := by decide +kernel
theorem dX7_says_75 : decode cX7_says 75 = .ok (.ireturn, 1) := by decide +kernel
theorem dX7_says_76 : decode cX7_says 76 = .ok (.aload_n 0, 1) := by decide +kernel
theorem dX7_says_77 : decode cX7_says 77 = .ok (.getfield 7, 3) := by decide +kernel
theorem dX7_says_80 : decode cX7_says 80 = .ok (.iload_n 1, 1) := by decide +kernel
theorem dX7_says_81 : decode cX7_says 81 = .ok (.iaload, 1) := by decide +kernel
theorem dX7_says_82 : decode cX7_says 82 = .ok (.ifCond .ne 10, 3) := by decide +kernel
theorem dX7_says_85 : decode cX7_says 85 = .ok (.aload_n 0, 1) := by decide +kernel
theorem dX7_says_86 : decode cX7_says 86 = .ok (.bipush (-4), 2) := by decide +kernel
theorem dX7_says_88 : decode cX7_says 88 = .ok (.invokevirtual 107, 3) := by decide +kernel
theorem dX7_says_91 : decode cX7_says 91 = .ok (.ireturn, 1) := by decide +kernel
theorem dX7_says_92 : decode cX7_says 92 = .ok (.aload_n 0, 1) := by decide +kernel
theorem dX7_says_93 : decode cX7_says 93 = .ok (.getfield 28, 3) := by decide +kernel
theorem dX7_says_96 : decode cX7_says 96 = .ok (.iload_n 1, 1) := by decide +kernel
theorem dX7_says_97 : decode cX7_says 97 = .ok (.iaload, 1) := by decide +kernel
theorem dX7_says_98 : decode cX7_says 98 = .ok (.istore_n 3, 1) := by decide +kernel
theorem dX7_says_99 : decode cX7_says 99 = .ok (.iload_n 2, 1) := by decide +kernel
theorem dX7_says_100 : decode cX7_says 100 = .ok (.lookupswitch 57 #[(0, 36), (2, 43), (5, 50)], 36) := by decide +kernel
theorem dX7_says_136 : decode cX7_says 136 = .ok (.aload_n 0, 1) := by decide +kernel
theorem dX7_says_137 : decode cX7_says 137 = .ok (.getfield 43, 3) := by decide +kernel
theorem dX7_says_140 : decode cX7_says 140 = .ok (.iload_n 3, 1) := by decide +kernel
theorem dX7_says_141 : decode cX7_says 141 = .ok (.iaload, 1) := by decide +kernel
theorem dX7_says_142 : decode cX7_says 142 = .ok (.ireturn, 1) := by decide +kernel
theorem dX7_says_143 : decode cX7_says 143 = .ok (.aload_n 0, 1) := by decide +kernel
theorem dX7_says_144 : decode cX7_says 144 = .ok (.iload_n 3, 1) := by decide +kernel
theorem dX7_says_145 : decode cX7_says 145 = .ok (.iconst 1, 1) := by decide +kernel
theorem dX7_says_146 : decode cX7_says 146 = .ok (.invokevirtual 128, 3) := by decide +kernel
theorem dX7_says_149 : decode cX7_says 149 = .ok (.ireturn, 1) := by decide +kernel
theorem dX7_says_150 : decode cX7_says 150 = .ok (.aload_n 0, 1) := by decide +kernel
theorem dX7_says_151 : decode cX7_says 151 = .ok (.getfield 46, 3) := by decide +kernel
theorem dX7_says_154 : decode cX7_says 154 = .ok (.iload_n 3, 1) := by decide +kernel
theorem dX7_says_155 : decode cX7_says 155 = .ok (.iaload, 1) := by decide +kernel
theorem dX7_says_156 : decode cX7_says 156 = .ok (.ireturn, 1) := by decide +kernel
theorem dX7_says_157 : decode cX7_says 157 = .ok (.aload_n 0, 1) := by decide +kernel
theorem dX7_says_158 : decode cX7_says 158 = .ok (.iload_n 3, 1) := by decide +kernel
theorem dX7_says_159 : decode cX7_says 159 = .ok (.aload_n 0, 1) := by decide +kernel
theorem dX7_says_160 : decode cX7_says 160 = .ok (.getfield 70, 3) := by decide +kernel
theorem dX7_says_163 : decode cX7_says 163 = .ok (.invokevirtual 128, 3) := by decide +kernel
theorem dX7_says_166 : decode cX7_says 166 = .ok (.ireturn, 1) := by decide +kernel
theorem dX7_addBend_0 : decode cX7_addBend 0 = .ok (.aload_n 0, 1) := by decide +kernel
theorem dX7_addBend_1 : decode cX7_addBend 1 = .ok (.getfield 37, 3) := by decide +kernel
theorem dX7_addBend_4 : decode cX7_addBend 4 = .ok (.aload_n 0, 1) := by decide +kernel
theorem dX7_addBend_5 : decode cX7_addBend 5 = .ok (.getfield 94, 3) := by decide +kernel
theorem dX7_addBend_8 : decode cX7_addBend 8 = .ok (.iload_n 1, 1) := by decide +kernel
theorem dX7_addBend_9 : decode cX7_addBend 9 = .ok (.iastore, 1) := by decide +kernel
theorem dX7_addBend_10 : decode cX7_addBend 10 = .ok (.aload_n 0, 1) := by decide +kernel
theorem dX7_addBend_11 : decode cX7_addBend 11 = .ok (.getfield 40, 3) := by decide +kernel
theorem dX7_addBend_14 : decode cX7_addBend 14 = .ok (.aload_n 0, 1) := by decide +kernel
theorem dX7_addBend_15 : decode cX7_addBend 15 = .ok (.getfield 94, 3) := by decide +kernel
theorem dX7_addBend_18 : decode cX7_addBend 18 = .ok (.iload_n 2, 1) := by decide +kernel
theorem dX7_addBend_19 : decode cX7_addBend 19 = .ok (.iastore, 1) := by decide +kernel
theorem dX7_addBend_20 : decode cX7_addBend 20 = .ok (.aload_n 0, 1) := by decide +kernel
theorem dX7_addBend_21 : decode cX7_addBend 21 = .ok (.getfield 43, 3) := by decide +kernel
theorem dX7_addBend_24 : decode cX7_addBend 24 = .ok (.aload_n 0, 1) := by decide +kernel
theorem dX7_addBend_25 : decode cX7_addBend 25 = .ok (.getfield 94, 3) := by decide +kernel
theorem dX7_addBend_28 : decode cX7_addBend 28 = .ok (.iload_n 3, 1) := by decide +kernel
theorem dX7_addBend_29 : decode cX7_addBend 29 = .ok (.iastore, 1) := by decide +kernel
theorem dX7_addBend_30 : decode cX7_addBend 30 = .ok (.aload_n 0, 1) := by decide +kernel
theorem dX7_addBend_31 : decode cX7_addBend 31 = .ok (.getfield 46, 3) := by decide +kernel
theorem dX7_addBend_34 : decode cX7_addBend 34 = .ok (.aload_n 0, 1) := by decide +kernel
theorem dX7_addBend_35 : decode cX7_addBend 35 = .ok (.getfield 94, 3) := by decide +kernel
theorem dX7_addBend_38 : decode cX7_addBend 38 = .ok (.iload 4, 2) := by decide +kernel
theorem dX7_addBend_40 : decode cX7_addBend 40 = .ok (.iastore, 1) := by decide +kernel
theorem dX7_addBend_41 : decode cX7_addBend 41 = .ok (.aload_n 0, 1) := by decide +kernel
theorem dX7_addBend_42 : decode cX7_addBend 42 = .ok (.getfield 49, 3) := by decide +kernel
theorem dX7_addBend_45 : decode cX7_addBend 45 = .ok (.aload_n 0, 1) := by decide +kernel
theorem dX7_addBend_46 : decode cX7_addBend 46 = .ok (.getfield 94, 3) := by decide +kernel
theorem dX7_addBend_49 : decode cX7_addBend 49 = .ok (.bipush 100, 2) := by decide +kernel
theorem dX7_addBend_51 : decode cX7_addBend 51 = .ok (.iastore, 1) := by decide +kernel
theorem dX7_addBend_52 : decode cX7_addBend 52 = .ok (.aload_n 0, 1) := by decide +kernel
theorem dX7_addBend_53 : decode cX7_addBend 53 = .ok (.dup, 1) := by decide +kernel
theorem dX7_addBend_54 : decode cX7_addBend 54 = .ok (.getfield 94, 3) := by decide +kernel
theorem dX7_addBend_57 : decode cX7_addBend 57 = .ok (.iconst 1, 1) := by decide +kernel
theorem dX7_addBend_58 : decode cX7_addBend 58 = .ok (.iadd, 1) := by decide +kernel
theorem dX7_addBend_59 : decode cX7_addBend 59 = .ok (.putfield 94, 3) := by decide +kernel
theorem dX7_addBend_62 : decode cX7_addBend 62 = .ok (.return_, 1) := by decide +kernel
theorem dX7_bend_0 : decode cX7_bend 0 = .ok (.iload_n 1, 1) := by decide +kernel
theorem dX7_bend_1 : decode cX7_bend 1 = .ok (.i2l, 1) := by decide +kernel
theorem dX7_bend_2 : decode cX7_bend 2 = .ok (.lconst 0, 1) := by decide +kernel
theorem dX7_bend_3 : decode cX7_bend 3 = .ok (.ldc2_w 122, 3) := by decide +kernel
theorem dX7_bend_6 : decode cX7_bend 6 = .ok (.invokestatic 97, 3) := by decide +kernel
theorem dX7_bend_9 : decode cX7_bend 9 = .ok (.ifCond .eq 40, 3) := by decide +kernel
theorem dX7_bend_12 : decode cX7_bend 12 = .ok (.iload_n 2, 1) := by decide +kernel
theorem dX7_bend_13 : decode cX7_bend 13 = .ok (.i2l, 1) := by decide +kernel
theorem dX7_bend_14 : decode cX7_bend 14 = .ok (.lconst 0, 1) := by decide +kernel
theorem dX7_bend_15 : decode cX7_bend 15 = .ok (.ldc2_w 132, 3) := by decide +kernel
theorem dX7_bend_18 : decode cX7_bend 18 = .ok (.invokestatic 97, 3) := by decide +kernel
theorem dX7_bend_21 : decode cX7_bend 21 = .ok (.ifCond .eq 28, 3) := by decide +kernel
theorem dX7_bend_24 : decode cX7_bend 24 = .ok (.iload_n 3, 1) := by decide +kernel
theorem dX7_bend_25 : decode cX7_bend 25 = .ok (.i2l, 1) := by decide +kernel
theorem dX7_bend_26 : decode cX7_bend 26 = .ok (.lconst 1, 1) := by decide +kernel
theorem dX7_bend_27 : decode cX7_bend 27 = .ok (.ldc2_w 134, 3) := by decide +kernel
theorem dX7_bend_30 : decode cX7_bend 30 = .ok (.invokestatic 97, 3) := by decide +kernel
theorem dX7_bend_33 : decode cX7_bend 33 = .ok (.ifCond .eq 16, 3) := by decide +kernel
theorem dX7_bend_36 : decode cX7_bend 36 = .ok (.iload 4, 2) := by decide +kernel
theorem dX7_bend_38 : decode cX7_bend 38 = .ok (.i2l, 1) := by decide +kernel
theorem dX7_bend_39 : decode cX7_bend 39 = .ok (.lconst 0, 1) := by decide +kernel
theorem dX7_bend_40 : decode cX7_bend 40 = .ok (.ldc2_w 136, 3) := by decide +kernel
theorem dX7_bend_43 : decode cX7_bend 43 = .ok (.invokestatic 97, 3) := by decide +kernel
theorem dX7_bend_46 : decode cX7_bend 46 = .ok (.ifCond .ne 10, 3) := by decide +kernel
theorem dX7_bend_49 : decode cX7_bend 49 = .ok (.aload_n 0, 1) := by decide +kernel
theorem dX7_bend_50 : decode cX7_bend 50 = .ok (.bipush (-2), 2) := by decide +kernel
theorem dX7_bend_52 : decode cX7_bend 52 = .ok (.invokevirtual 107, 3) := by decide +kernel
theorem dX7_bend_55 : decode cX7_bend 55 = .ok (.ireturn, 1) := by decide +kernel
theorem dX7_bend_56 : decode cX7_bend 56 = .ok (.aload_n 0, 1) := by decide +kernel
theorem dX7_bend_57 : decode cX7_bend 57 = .ok (.getfield 94, 3) := by decide +kernel
theorem dX7_bend_60 : decode cX7_bend 60 = .ok (.bipush 14, 2) := by decide +kernel
theorem dX7_bend_62 : decode cX7_bend 62 = .ok (.if_icmp .ne 10, 3) := by decide +kernel
theorem dX7_bend_65 : decode cX7_bend 65 = .ok (.aload_n 0, 1) := by decide +kernel
theorem dX7_bend_66 : decode cX7_bend 66 = .ok (.bipush (-6), 2) := by decide +kernel
theorem dX7_bend_68 : decode cX7_bend 68 = .ok (.invokevirtual 107, 3) := by decide +kernel
theorem dX7_bend_71 : decode cX7_bend 71 = .ok (.ireturn, 1) := by decide +kernel
theorem dX7_bend_72 : decode cX7_bend 72 = .ok (.aload_n 0, 1) := by decide +kernel
theorem dX7_bend_73 : decode cX7_bend 73 = .ok (.iload_n 1, 1) := by decide +kernel
theorem dX7_bend_74 : decode cX7_bend 74 = .ok (.iload_n 2, 1) := by decide +kernel
theorem dX7_bend_75 : decode cX7_bend 75 = .ok (.iload_n 3, 1) := by decide +kernel
theorem dX7_bend_76 : decode cX7_bend 76 = .ok (.iload 4, 2) := by decide +kernel
theorem dX7_bend_78 : decode cX7_bend 78 = .ok (.invokevirtual 138, 3) := by decide +kernel
theorem dX7_bend_81 : decode cX7_bend 81 = .ok (.aload_n 0, 1) := by decide +kernel
theorem dX7_bend_82 : decode cX7_bend 82 = .ok (.getfield 94, 3) := by decide +kernel
theorem dX7_bend_85 : decode cX7_bend 85 = .ok (.iconst 1, 1) := by decide +kernel
theorem dX7_bend_86 : decode cX7_bend 86 = .ok (.isub, 1) := by decide +kernel
theorem dX7_bend_87 : decode cX7_bend 87 = .ok (.ireturn, 1) := by decide +kernel
theorem dX7_ask_0 : decode cX7_ask 0 = .ok (.iload_n 1, 1) := by decide +kernel
theorem dX7_ask_1 : decode cX7_ask 1 = .ok (.ifCond .ne 15, 3) := by decide +kernel
theorem dX7_ask_4 : decode cX7_ask 4 = .ok (.iload_n 2, 1) := by decide +kernel
theorem dX7_ask_5 : decode cX7_ask 5 = .ok (.i2l, 1) := by decide +kernel
theorem dX7_ask_6 : decode cX7_ask 6 = .ok (.lconst 1, 1) := by decide +kernel
theorem dX7_ask_7 : decode cX7_ask 7 = .ok (.ldc2_w 132, 3) := by decide +kernel
theorem dX7_ask_10 : decode cX7_ask 10 = .ok (.invokestatic 97, 3) := by decide +kernel
theorem dX7_ask_13 : decode cX7_ask 13 = .ok (.goto 40, 3) := by decide +kernel
theorem dX7_ask_16 : decode cX7_ask 16 = .ok (.iload_n 1, 1) := by decide +kernel
theorem dX7_ask_17 : decode cX7_ask 17 = .ok (.iconst 1, 1) := by decide +kernel
theorem dX7_ask_18 : decode cX7_ask 18 = .ok (.if_icmp .ne 13, 3) := by decide +kernel
theorem dX7_ask_21 : decode cX7_ask 21 = .ok (.iload_n 2, 1) := by decide +kernel
theorem dX7_ask_22 : decode cX7_ask 22 = .ok (.i2l, 1) := by decide +kernel
theorem dX7_ask_23 : decode cX7_ask 23 = .ok (.lconst 0, 1) := by decide +kernel
theorem dX7_ask_24 : decode cX7_ask 24 = .ok (.lconst 1, 1) := by decide +kernel
theorem dX7_ask_25 : decode cX7_ask 25 = .ok (.invokestatic 97, 3) := by decide +kernel
theorem dX7_ask_28 : decode cX7_ask 28 = .ok (.goto 25, 3) := by decide +kernel
theorem dX7_ask_31 : decode cX7_ask 31 = .ok (.iload_n 1, 1) := by decide +kernel
theorem dX7_ask_32 : decode cX7_ask 32 = .ok (.iconst 2, 1) := by decide +kernel
theorem dX7_ask_33 : decode cX7_ask 33 = .ok (.if_icmp .ne 19, 3) := by decide +kernel
theorem dX7_ask_36 : decode cX7_ask 36 = .ok (.iload_n 2, 1) := by decide +kernel
theorem dX7_ask_37 : decode cX7_ask 37 = .ok (.i2l, 1) := by decide +kernel
theorem dX7_ask_38 : decode cX7_ask 38 = .ok (.lconst 0, 1) := by decide +kernel
theorem dX7_ask_39 : decode cX7_ask 39 = .ok (.ldc2_w 142, 3) := by decide +kernel
theorem dX7_ask_42 : decode cX7_ask 42 = .ok (.invokestatic 97, 3) := by decide +kernel
theorem dX7_ask_45 : decode cX7_ask 45 = .ok (.ifCond .eq 7, 3) := by decide +kernel
theorem dX7_ask_48 : decode cX7_ask 48 = .ok (.iconst 1, 1) := by decide +kernel
theorem dX7_ask_49 : decode cX7_ask 49 = .ok (.goto 4, 3) := by decide +kernel
theorem dX7_ask_52 : decode cX7_ask 52 = .ok (.iconst 0, 1) := by decide +kernel
theorem dX7_ask_53 : decode cX7_ask 53 = .ok (.istore_n 3, 1) := by decide +kernel
theorem dX7_ask_54 : decode cX7_ask 54 = .ok (.iload_n 3, 1) := by decide +kernel
theorem dX7_ask_55 : decode cX7_ask 55 = .ok (.ifCond .ne 10, 3) := by decide +kernel
theorem dX7_ask_58 : decode cX7_ask 58 = .ok (.aload_n 0, 1) := by decide +kernel
theorem dX7_ask_59 : decode cX7_ask 59 = .ok (.bipush (-2), 2) := by decide +kernel
theorem dX7_ask_61 : decode cX7_ask 61 = .ok (.invokevirtual 107, 3) := by decide +kernel
theorem dX7_ask_64 : decode cX7_ask 64 = .ok (.ireturn, 1) := by decide +kernel
theorem dX7_ask_65 : decode cX7_ask 65 = .ok (.iload_n 1, 1) := by decide +kernel
theorem dX7_ask_66 : decode cX7_ask 66 = .ok (.ifCond .ne 10, 3) := by decide +kernel
theorem dX7_ask_69 : decode cX7_ask 69 = .ok (.aload_n 0, 1) := by decide +kernel
theorem dX7_ask_70 : decode cX7_ask 70 = .ok (.getfield 70, 3) := by decide +kernel
theorem dX7_ask_73 : decode cX7_ask 73 = .ok (.goto 19, 3) := by decide +kernel
theorem dX7_ask_76 : decode cX7_ask 76 = .ok (.iload_n 1, 1) := by decide +kernel
theorem dX7_ask_77 : decode cX7_ask 77 = .ok (.iconst 1, 1) := by decide +kernel
theorem dX7_ask_78 : decode cX7_ask 78 = .ok (.if_icmp .ne 10, 3) := by decide +kernel
theorem dX7_ask_81 : decode cX7_ask 81 = .ok (.aload_n 0, 1) := by decide +kernel
theorem dX7_ask_82 : decode cX7_ask 82 = .ok (.getfield 144, 3) := by decide +kernel
theorem dX7_ask_85 : decode cX7_ask 85 = .ok (.goto 7, 3) := by decide +kernel
theorem dX7_ask_88 : decode cX7_ask 88 = .ok (.aload_n 0, 1) := by decide +kernel
theorem dX7_ask_89 : decode cX7_ask 89 = .ok (.getfield 147, 3) := by decide +kernel
theorem dX7_ask_92 : decode cX7_ask 92 = .ok (.istore 4, 2) := by decide +kernel
theorem dX7_ask_94 : decode cX7_ask 94 = .ok (.aload_n 0, 1) := by decide +kernel
theorem dX7_ask_95 : decode cX7_ask 95 = .ok (.iload_n 1, 1) := by decide +kernel
theorem dX7_ask_96 : decode cX7_ask 96 = .ok (.ifCond .ne 7, 3) := by decide +kernel
theorem dX7_ask_99 : decode cX7_ask 99 = .ok (.iload_n 2, 1) := by decide +kernel
theorem dX7_ask_100 : decode cX7_ask 100 = .ok (.goto 7, 3) := by decide +kernel
theorem dX7_ask_103 : decode cX7_ask 103 = .ok (.aload_n 0, 1) := by decide +kernel
theorem dX7_ask_104 : decode cX7_ask 104 = .ok (.getfield 70, 3) := by decide +kernel
theorem dX7_ask_107 : decode cX7_ask 107 = .ok (.putfield 70, 3) := by decide +kernel
theorem dX7_ask_110 : decode cX7_ask 110 = .ok (.aload_n 0, 1) := by decide +kernel
theorem dX7_ask_111 : decode cX7_ask 111 = .ok (.iload_n 1, 1) := by decide +kernel
theorem dX7_ask_112 : decode cX7_ask 112 = .ok (.iconst 1, 1) := by decide +kernel
theorem dX7_ask_113 : decode cX7_ask 113 = .ok (.if_icmp .ne 7, 3) := by decide +kernel
theorem dX7_ask_116 : decode cX7_ask 116 = .ok (.iload_n 2, 1) := by decide +kernel
theorem dX7_ask_117 : decode cX7_ask 117 = .ok (.goto 7, 3) := by decide +kernel
theorem dX7_ask_120 : decode cX7_ask 120 = .ok (.aload_n 0, 1) := by decide +kernel
theorem dX7_ask_121 : decode cX7_ask 121 = .ok (.getfield 144, 3) := by decide +kernel
theorem dX7_ask_124 : decode cX7_ask 124 = .ok (.putfield 144, 3) := by decide +kernel
theorem dX7_ask_127 : decode cX7_ask 127 = .ok (.aload_n 0, 1) := by decide +kernel
theorem dX7_ask_128 : decode cX7_ask 128 = .ok (.iload_n 1, 1) := by decide +kernel
theorem dX7_ask_129 : decode cX7_ask 129 = .ok (.iconst 2, 1) := by decide +kernel
theorem dX7_ask_130 : decode cX7_ask 130 = .ok (.if_icmp .ne 7, 3) := by decide +kernel
theorem dX7_ask_133 : decode cX7_ask 133 = .ok (.iload_n 2, 1) := by decide +kernel
theorem dX7_ask_134 : decode cX7_ask 134 = .ok (.goto 7, 3) := by decide +kernel
theorem dX7_ask_137 : decode cX7_ask 137 = .ok (.aload_n 0, 1) := by decide +kernel
theorem dX7_ask_138 : decode cX7_ask 138 = .ok (.getfield 147, 3) := by decide +kernel
theorem dX7_ask_141 : decode cX7_ask 141 = .ok (.putfield 147, 3) := by decide +kernel
theorem dX7_ask_144 : decode cX7_ask 144 = .ok (.iload 4, 2) := by decide +kernel
theorem dX7_ask_146 : decode cX7_ask 146 = .ok (.ireturn, 1) := by decide +kernel
theorem dX7_addSign_0 : decode cX7_addSign 0 = .ok (.aload_n 0, 1) := by decide +kernel
theorem dX7_addSign_1 : decode cX7_addSign 1 = .ok (.getfield 52, 3) := by decide +kernel
theorem dX7_addSign_4 : decode cX7_addSign 4 = .ok (.aload_n 0, 1) := by decide +kernel
theorem dX7_addSign_5 : decode cX7_addSign 5 = .ok (.getfield 150, 3) := by decide +kernel
theorem dX7_addSign_8 : decode cX7_addSign 8 = .ok (.iload_n 1, 1) := by decide +kernel
theorem dX7_addSign_9 : decode cX7_addSign 9 = .ok (.iastore, 1) := by decide +kernel
theorem dX7_addSign_10 : decode cX7_addSign 10 = .ok (.aload_n 0, 1) := by decide +kernel
theorem dX7_addSign_11 : decode cX7_addSign 11 = .ok (.getfield 55, 3) := by decide +kernel
theorem dX7_addSign_14 : decode cX7_addSign 14 = .ok (.aload_n 0, 1) := by decide +kernel
theorem dX7_addSign_15 : decode cX7_addSign 15 = .ok (.getfield 150, 3) := by decide +kernel
theorem dX7_addSign_18 : decode cX7_addSign 18 = .ok (.iload_n 2, 1) := by decide +kernel
theorem dX7_addSign_19 : decode cX7_addSign 19 = .ok (.iastore, 1) := by decide +kernel
theorem dX7_addSign_20 : decode cX7_addSign 20 = .ok (.aload_n 0, 1) := by decide +kernel
theorem dX7_addSign_21 : decode cX7_addSign 21 = .ok (.getfield 58, 3) := by decide +kernel
theorem dX7_addSign_24 : decode cX7_addSign 24 = .ok (.aload_n 0, 1) := by decide +kernel
theorem dX7_addSign_25 : decode cX7_addSign 25 = .ok (.getfield 150, 3) := by decide +kernel
theorem dX7_addSign_28 : decode cX7_addSign 28 = .ok (.iload_n 3, 1) := by decide +kernel
theorem dX7_addSign_29 : decode cX7_addSign 29 = .ok (.iastore, 1) := by decide +kernel
theorem dX7_addSign_30 : decode cX7_addSign 30 = .ok (.aload_n 0, 1) := by decide +kernel
theorem dX7_addSign_31 : decode cX7_addSign 31 = .ok (.dup, 1) := by decide +kernel
theorem dX7_addSign_32 : decode cX7_addSign 32 = .ok (.getfield 150, 3) := by decide +kernel
theorem dX7_addSign_35 : decode cX7_addSign 35 = .ok (.iconst 1, 1) := by decide +kernel
theorem dX7_addSign_36 : decode cX7_addSign 36 = .ok (.iadd, 1) := by decide +kernel
theorem dX7_addSign_37 : decode cX7_addSign 37 = .ok (.putfield 150, 3) := by decide +kernel
theorem dX7_addSign_40 : decode cX7_addSign 40 = .ok (.return_, 1) := by decide +kernel
theorem dX7_sign_0 : decode cX7_sign 0 = .ok (.aload_n 0, 1) := by decide +kernel
theorem dX7_sign_1 : decode cX7_sign 1 = .ok (.iload_n 1, 1) := by decide +kernel
theorem dX7_sign_2 : decode cX7_sign 2 = .ok (.i2l, 1) := by decide +kernel
theorem dX7_sign_3 : decode cX7_sign 3 = .ok (.invokevirtual 118, 3) := by decide +kernel
theorem dX7_sign_6 : decode cX7_sign 6 = .ok (.ifCond .eq 15, 3) := by decide +kernel
theorem dX7_sign_9 : decode cX7_sign 9 = .ok (.iload_n 3, 1) := by decide +kernel
theorem dX7_sign_10 : decode cX7_sign 10 = .ok (.i2l, 1) := by decide +kernel
theorem dX7_sign_11 : decode cX7_sign 11 = .ok (.lconst 0, 1) := by decide +kernel
theorem dX7_sign_12 : decode cX7_sign 12 = .ok (.ldc2_w 153, 3) := by decide +kernel
theorem dX7_sign_15 : decode cX7_sign 15 = .ok (.invokestatic 97, 3) := by decide +kernel
theorem dX7_sign_18 : decode cX7_sign 18 = .ok (.ifCond .ne 10, 3) := by decide +kernel
theorem dX7_sign_21 : decode cX7_sign 21 = .ok (.aload_n 0, 1) := by decide +kernel
theorem dX7_sign_22 : decode cX7_sign 22 = .ok (.bipush (-2), 2) := by decide +kernel
theorem dX7_sign_24 : decode cX7_sign 24 = .ok (.invokevirtual 107, 3) := by decide +kernel
theorem dX7_sign_27 : decode cX7_sign 27 = .ok (.ireturn, 1) := by decide +kernel
theorem dX7_sign_28 : decode cX7_sign 28 = .ok (.aload_n 0, 1) := by decide +kernel
theorem dX7_sign_29 : decode cX7_sign 29 = .ok (.getfield 150, 3) := by decide +kernel
theorem dX7_sign_32 : decode cX7_sign 32 = .ok (.bipush 8, 2) := by decide +kernel
theorem dX7_sign_34 : decode cX7_sign 34 = .ok (.if_icmp .ne 10, 3) := by decide +kernel
theorem dX7_sign_37 : decode cX7_sign 37 = .ok (.aload_n 0, 1) := by decide +kernel
theorem dX7_sign_38 : decode cX7_sign 38 = .ok (.bipush (-6), 2) := by decide +kernel
theorem dX7_sign_40 : decode cX7_sign 40 = .ok (.invokevirtual 107, 3) := by decide +kernel
theorem dX7_sign_43 : decode cX7_sign 43 = .ok (.ireturn, 1) := by decide +kernel
theorem dX7_sign_44 : decode cX7_sign 44 = .ok (.aload_n 0, 1) := by decide +kernel
theorem dX7_sign_45 : decode cX7_sign 45 = .ok (.iload_n 1, 1) := by decide +kernel
theorem dX7_sign_46 : decode cX7_sign 46 = .ok (.iload_n 2, 1) := by decide +kernel
theorem dX7_sign_47 : decode cX7_sign 47 = .ok (.ifCond .eq 7, 3) := by decide +kernel
theorem dX7_sign_50 : decode cX7_sign 50 = .ok (.iconst 1, 1) := by decide +kernel
theorem dX7_sign_51 : decode cX7_sign 51 = .ok (.goto 4, 3) := by decide +kernel
theorem dX7_sign_54 : decode cX7_sign 54 = .ok (.iconst 0, 1) := by decide +kernel
theorem dX7_sign_55 : decode cX7_sign 55 = .ok (.iload_n 3, 1) := by decide +kernel
theorem dX7_sign_56 : decode cX7_sign 56 = .ok (.invokevirtual 155, 3) := by decide +kernel
theorem dX7_sign_59 : decode cX7_sign 59 = .ok (.aload_n 0, 1) := by decide +kernel
theorem dX7_sign_60 : decode cX7_sign 60 = .ok (.getfield 150, 3) := by decide +kernel
theorem dX7_sign_63 : decode cX7_sign 63 = .ok (.ireturn, 1) := by decide +kernel
theorem dX7_noSigns_0 : decode cX7_noSigns 0 = .ok (.aload_n 0, 1) := by decide +kernel
theorem dX7_noSigns_1 : decode cX7_noSigns 1 = .ok (.getfield 150, 3) := by decide +kernel
theorem dX7_noSigns_4 : decode cX7_noSigns 4 = .ok (.istore_n 1, 1) := by decide +kernel
theorem dX7_noSigns_5 : decode cX7_noSigns 5 = .ok (.aload_n 0, 1) := by decide +kernel
theorem dX7_noSigns_6 : decode cX7_noSigns 6 = .ok (.iconst 0, 1) := by decide +kernel
theorem dX7_noSigns_7 : decode cX7_noSigns 7 = .ok (.putfield 150, 3) := by decide +kernel
theorem dX7_noSigns_10 : decode cX7_noSigns 10 = .ok (.iconst 0, 1) := by decide +kernel
theorem dX7_noSigns_11 : decode cX7_noSigns 11 = .ok (.istore_n 2, 1) := by decide +kernel
theorem dX7_noSigns_12 : decode cX7_noSigns 12 = .ok (.iload_n 2, 1) := by decide +kernel
theorem dX7_noSigns_13 : decode cX7_noSigns 13 = .ok (.aload_n 0, 1) := by decide +kernel
theorem dX7_noSigns_14 : decode cX7_noSigns 14 = .ok (.getfield 94, 3) := by decide +kernel
theorem dX7_noSigns_17 : decode cX7_noSigns 17 = .ok (.if_icmp .ge 17, 3) := by decide +kernel
theorem dX7_noSigns_20 : decode cX7_noSigns 20 = .ok (.aload_n 0, 1) := by decide +kernel
theorem dX7_noSigns_21 : decode cX7_noSigns 21 = .ok (.getfield 49, 3) := by decide +kernel
theorem dX7_noSigns_24 : decode cX7_noSigns 24 = .ok (.iload_n 2, 1) := by decide +kernel
theorem dX7_noSigns_25 : decode cX7_noSigns 25 = .ok (.bipush 100, 2) := by decide +kernel
theorem dX7_noSigns_27 : decode cX7_noSigns 27 = .ok (.iastore, 1) := by decide +kernel
theorem dX7_noSigns_28 : decode cX7_noSigns 28 = .ok (.iinc 2 1, 3) := by decide +kernel
theorem dX7_noSigns_31 : decode cX7_noSigns 31 = .ok (.goto (-19), 3) := by decide +kernel
theorem dX7_noSigns_34 : decode cX7_noSigns 34 = .ok (.iload_n 1, 1) := by decide +kernel
theorem dX7_noSigns_35 : decode cX7_noSigns 35 = .ok (.ireturn, 1) := by decide +kernel
theorem dX7_anew_0 : decode cX7_anew 0 = .ok (.aload_n 0, 1) := by decide +kernel
theorem dX7_anew_1 : decode cX7_anew 1 = .ok (.invokevirtual 159, 3) := by decide +kernel
theorem dX7_anew_4 : decode cX7_anew 4 = .ok (.ireturn, 1) := by decide +kernel
theorem dX7_addCall_0 : decode cX7_addCall 0 = .ok (.aload_n 0, 1) := by decide +kernel
theorem dX7_addCall_1 : decode cX7_addCall 1 = .ok (.getfield 61, 3) := by decide +kernel
theorem dX7_addCall_4 : decode cX7_addCall 4 = .ok (.aload_n 0, 1) := by decide +kernel
theorem dX7_addCall_5 : decode cX7_addCall 5 = .ok (.getfield 163, 3) := by decide +kernel
theorem dX7_addCall_8 : decode cX7_addCall 8 = .ok (.iload_n 1, 1) := by decide +kernel
theorem dX7_addCall_9 : decode cX7_addCall 9 = .ok (.iastore, 1) := by decide +kernel
theorem dX7_addCall_10 : decode cX7_addCall 10 = .ok (.aload_n 0, 1) := by decide +kernel
theorem dX7_addCall_11 : decode cX7_addCall 11 = .ok (.getfield 64, 3) := by decide +kernel
theorem dX7_addCall_14 : decode cX7_addCall 14 = .ok (.aload_n 0, 1) := by decide +kernel
theorem dX7_addCall_15 : decode cX7_addCall 15 = .ok (.getfield 163, 3) := by decide +kernel
theorem dX7_addCall_18 : decode cX7_addCall 18 = .ok (.iload_n 2, 1) := by decide +kernel
theorem dX7_addCall_19 : decode cX7_addCall 19 = .ok (.iastore, 1) := by decide +kernel
theorem dX7_addCall_20 : decode cX7_addCall 20 = .ok (.aload_n 0, 1) := by decide +kernel
theorem dX7_addCall_21 : decode cX7_addCall 21 = .ok (.getfield 67, 3) := by decide +kernel
theorem dX7_addCall_24 : decode cX7_addCall 24 = .ok (.aload_n 0, 1) := by decide +kernel
theorem dX7_addCall_25 : decode cX7_addCall 25 = .ok (.getfield 163, 3) := by decide +kernel
theorem dX7_addCall_28 : decode cX7_addCall 28 = .ok (.iload_n 3, 1) := by decide +kernel
theorem dX7_addCall_29 : decode cX7_addCall 29 = .ok (.iastore, 1) := by decide +kernel
theorem dX7_addCall_30 : decode cX7_addCall 30 = .ok (.aload_n 0, 1) := by decide +kernel
theorem dX7_addCall_31 : decode cX7_addCall 31 = .ok (.dup, 1) := by decide +kernel
theorem dX7_addCall_32 : decode cX7_addCall 32 = .ok (.getfield 163, 3) := by decide +kernel
theorem dX7_addCall_35 : decode cX7_addCall 35 = .ok (.iconst 1, 1) := by decide +kernel
theorem dX7_addCall_36 : decode cX7_addCall 36 = .ok (.iadd, 1) := by decide +kernel
theorem dX7_addCall_37 : decode cX7_addCall 37 = .ok (.putfield 163, 3) := by decide +kernel
theorem dX7_addCall_40 : decode cX7_addCall 40 = .ok (.return_, 1) := by decide +kernel
theorem dX7_call_0 : decode cX7_call 0 = .ok (.aload_n 0, 1) := by decide +kernel
theorem dX7_call_1 : decode cX7_call 1 = .ok (.iload_n 1, 1) := by decide +kernel
theorem dX7_call_2 : decode cX7_call 2 = .ok (.i2l, 1) := by decide +kernel
theorem dX7_call_3 : decode cX7_call 3 = .ok (.invokevirtual 118, 3) := by decide +kernel
theorem dX7_call_6 : decode cX7_call 6 = .ok (.ifCond .eq 27, 3) := by decide +kernel
theorem dX7_call_9 : decode cX7_call 9 = .ok (.iload_n 2, 1) := by decide +kernel
theorem dX7_call_10 : decode cX7_call 10 = .ok (.i2l, 1) := by decide +kernel
theorem dX7_call_11 : decode cX7_call 11 = .ok (.lconst 1, 1) := by decide +kernel
theorem dX7_call_12 : decode cX7_call 12 = .ok (.ldc2_w 166, 3) := by decide +kernel
theorem dX7_call_15 : decode cX7_call 15 = .ok (.invokestatic 97, 3) := by decide +kernel
theorem dX7_call_18 : decode cX7_call 18 = .ok (.ifCond .eq 15, 3) := by decide +kernel
theorem dX7_call_21 : decode cX7_call 21 = .ok (.iload_n 3, 1) := by decide +kernel
theorem dX7_call_22 : decode cX7_call 22 = .ok (.i2l, 1) := by decide +kernel
theorem dX7_call_23 : decode cX7_call 23 = .ok (.lconst 0, 1) := by decide +kernel
theorem dX7_call_24 : decode cX7_call 24 = .ok (.ldc2_w 153, 3) := by decide +kernel
theorem dX7_call_27 : decode cX7_call 27 = .ok (.invokestatic 97, 3) := by decide +kernel
theorem dX7_call_30 : decode cX7_call 30 = .ok (.ifCond .ne 10, 3) := by decide +kernel
theorem dX7_call_33 : decode cX7_call 33 = .ok (.aload_n 0, 1) := by decide +kernel
theorem dX7_call_34 : decode cX7_call 34 = .ok (.bipush (-2), 2) := by decide +kernel
theorem dX7_call_36 : decode cX7_call 36 = .ok (.invokevirtual 107, 3) := by decide +kernel
theorem dX7_call_39 : decode cX7_call 39 = .ok (.ireturn, 1) := by decide +kernel
theorem dX7_call_40 : decode cX7_call 40 = .ok (.aload_n 0, 1) := by decide +kernel
theorem dX7_call_41 : decode cX7_call 41 = .ok (.getfield 163, 3) := by decide +kernel
theorem dX7_call_44 : decode cX7_call 44 = .ok (.bipush 6, 2) := by decide +kernel
theorem dX7_call_46 : decode cX7_call 46 = .ok (.if_icmp .ne 10, 3) := by decide +kernel
theorem dX7_call_49 : decode cX7_call 49 = .ok (.aload_n 0, 1) := by decide +kernel
theorem dX7_call_50 : decode cX7_call 50 = .ok (.bipush (-6), 2) := by decide +kernel
theorem dX7_call_52 : decode cX7_call 52 = .ok (.invokevirtual 107, 3) := by decide +kernel
theorem dX7_call_55 : decode cX7_call 55 = .ok (.ireturn, 1) := by decide +kernel
theorem dX7_call_56 : decode cX7_call 56 = .ok (.aload_n 0, 1) := by decide +kernel
theorem dX7_call_57 : decode cX7_call 57 = .ok (.iload_n 1, 1) := by decide +kernel
theorem dX7_call_58 : decode cX7_call 58 = .ok (.iload_n 2, 1) := by decide +kernel
theorem dX7_call_59 : decode cX7_call 59 = .ok (.iload_n 3, 1) := by decide +kernel
theorem dX7_call_60 : decode cX7_call 60 = .ok (.invokevirtual 168, 3) := by decide +kernel
theorem dX7_call_63 : decode cX7_call 63 = .ok (.aload_n 0, 1) := by decide +kernel
theorem dX7_call_64 : decode cX7_call 64 = .ok (.getfield 163, 3) := by decide +kernel
theorem dX7_call_67 : decode cX7_call 67 = .ok (.iconst 1, 1) := by decide +kernel
theorem dX7_call_68 : decode cX7_call 68 = .ok (.isub, 1) := by decide +kernel
theorem dX7_call_69 : decode cX7_call 69 = .ok (.ireturn, 1) := by decide +kernel
theorem dX7_feed_0 : decode cX7_feed 0 = .ok (.iload_n 1, 1) := by decide +kernel
theorem dX7_feed_1 : decode cX7_feed 1 = .ok (.i2l, 1) := by decide +kernel
theorem dX7_feed_2 : decode cX7_feed 2 = .ok (.lconst 0, 1) := by decide +kernel
theorem dX7_feed_3 : decode cX7_feed 3 = .ok (.ldc2_w 171, 3) := by decide +kernel
theorem dX7_feed_6 : decode cX7_feed 6 = .ok (.invokestatic 97, 3) := by decide +kernel
theorem dX7_feed_9 : decode cX7_feed 9 = .ok (.ifCond .ne 10, 3) := by decide +kernel
theorem dX7_feed_12 : decode cX7_feed 12 = .ok (.aload_n 0, 1) := by decide +kernel
theorem dX7_feed_13 : decode cX7_feed 13 = .ok (.bipush (-2), 2) := by decide +kernel
theorem dX7_feed_15 : decode cX7_feed 15 = .ok (.invokevirtual 107, 3) := by decide +kernel
theorem dX7_feed_18 : decode cX7_feed 18 = .ok (.ireturn, 1) := by decide +kernel
theorem dX7_feed_19 : decode cX7_feed 19 = .ok (.aload_n 0, 1) := by decide +kernel
theorem dX7_feed_20 : decode cX7_feed 20 = .ok (.getfield 173, 3) := by decide +kernel
theorem dX7_feed_23 : decode cX7_feed 23 = .ok (.sipush 250, 3) := by decide +kernel
theorem dX7_feed_26 : decode cX7_feed 26 = .ok (.if_icmp .ne 10, 3) := by decide +kernel
theorem dX7_feed_29 : decode cX7_feed 29 = .ok (.aload_n 0, 1) := by decide +kernel
theorem dX7_feed_30 : decode cX7_feed 30 = .ok (.bipush (-6), 2) := by decide +kernel
theorem dX7_feed_32 : decode cX7_feed 32 = .ok (.invokevirtual 107, 3) := by decide +kernel
theorem dX7_feed_35 : decode cX7_feed 35 = .ok (.ireturn, 1) := by decide +kernel
theorem dX7_feed_36 : decode cX7_feed 36 = .ok (.aload_n 0, 1) := by decide +kernel
theorem dX7_feed_37 : decode cX7_feed 37 = .ok (.getfield 31, 3) := by decide +kernel
theorem dX7_feed_40 : decode cX7_feed 40 = .ok (.aload_n 0, 1) := by decide +kernel
theorem dX7_feed_41 : decode cX7_feed 41 = .ok (.dup, 1) := by decide +kernel
theorem dX7_feed_42 : decode cX7_feed 42 = .ok (.getfield 173, 3) := by decide +kernel
theorem dX7_feed_45 : decode cX7_feed 45 = .ok (.dup_x1, 1) := by decide +kernel
theorem dX7_feed_46 : decode cX7_feed 46 = .ok (.iconst 1, 1) := by decide +kernel
theorem dX7_feed_47 : decode cX7_feed 47 = .ok (.iadd, 1) := by decide +kernel
theorem dX7_feed_48 : decode cX7_feed 48 = .ok (.putfield 173, 3) := by decide +kernel
theorem dX7_feed_51 : decode cX7_feed 51 = .ok (.iload_n 1, 1) := by decide +kernel
theorem dX7_feed_52 : decode cX7_feed 52 = .ok (.iastore, 1) := by decide +kernel
theorem dX7_feed_53 : decode cX7_feed 53 = .ok (.aload_n 0, 1) := by decide +kernel
theorem dX7_feed_54 : decode cX7_feed 54 = .ok (.getfield 173, 3) := by decide +kernel
theorem dX7_feed_57 : decode cX7_feed 57 = .ok (.ireturn, 1) := by decide +kernel
theorem dX7_wipe_0 : decode cX7_wipe 0 = .ok (.aload_n 0, 1) := by decide +kernel
theorem dX7_wipe_1 : decode cX7_wipe 1 = .ok (.getfield 173, 3) := by decide +kernel
theorem dX7_wipe_4 : decode cX7_wipe 4 = .ok (.istore_n 1, 1) := by decide +kernel
theorem dX7_wipe_5 : decode cX7_wipe 5 = .ok (.aload_n 0, 1) := by decide +kernel
theorem dX7_wipe_6 : decode cX7_wipe 6 = .ok (.iconst 0, 1) := by decide +kernel
theorem dX7_wipe_7 : decode cX7_wipe 7 = .ok (.putfield 173, 3) := by decide +kernel
theorem dX7_wipe_10 : decode cX7_wipe 10 = .ok (.iload_n 1, 1) := by decide +kernel
theorem dX7_wipe_11 : decode cX7_wipe 11 = .ok (.ireturn, 1) := by decide +kernel
theorem dX7_isLetter_0 : decode cX7_isLetter 0 = .ok (.iload_n 0, 1) := by decide +kernel
theorem dX7_isLetter_1 : decode cX7_isLetter 1 = .ok (.bipush 97, 2) := by decide +kernel
theorem dX7_isLetter_3 : decode cX7_isLetter 3 = .ok (.if_icmp .lt 13, 3) := by decide +kernel
theorem dX7_isLetter_6 : decode cX7_isLetter 6 = .ok (.iload_n 0, 1) := by decide +kernel
theorem dX7_isLetter_7 : decode cX7_isLetter 7 = .ok (.bipush 122, 2) := by decide +kernel
theorem dX7_isLetter_9 : decode cX7_isLetter 9 = .ok (.if_icmp .gt 7, 3) := by decide +kernel
theorem dX7_isLetter_12 : decode cX7_isLetter 12 = .ok (.iconst 1, 1) := by decide +kernel
theorem dX7_isLetter_13 : decode cX7_isLetter 13 = .ok (.goto 4, 3) := by decide +kernel
theorem dX7_isLetter_16 : decode cX7_isLetter 16 = .ok (.iconst 0, 1) := by decide +kernel
theorem dX7_isLetter_17 : decode cX7_isLetter 17 = .ok (.ireturn, 1) := by decide +kernel
theorem dX7_isDigit_0 : decode cX7_isDigit 0 = .ok (.iload_n 0, 1) := by decide +kernel
theorem dX7_isDigit_1 : decode cX7_isDigit 1 = .ok (.bipush 48, 2) := by decide +kernel
theorem dX7_isDigit_3 : decode cX7_isDigit 3 = .ok (.if_icmp .lt 13, 3) := by decide +kernel
theorem dX7_isDigit_6 : decode cX7_isDigit 6 = .ok (.iload_n 0, 1) := by decide +kernel
theorem dX7_isDigit_7 : decode cX7_isDigit 7 = .ok (.bipush 57, 2) := by decide +kernel
theorem dX7_isDigit_9 : decode cX7_isDigit 9 = .ok (.if_icmp .gt 7, 3) := by decide +kernel
theorem dX7_isDigit_12 : decode cX7_isDigit 12 = .ok (.iconst 1, 1) := by decide +kernel
theorem dX7_isDigit_13 : decode cX7_isDigit 13 = .ok (.goto 4, 3) := by decide +kernel
theorem dX7_isDigit_16 : decode cX7_isDigit 16 = .ok (.iconst 0, 1) := by decide +kernel
theorem dX7_isDigit_17 : decode cX7_isDigit 17 = .ok (.ireturn, 1) := by decide +kernel
theorem dX7_token_0 : decode cX7_token 0 = .ok (.aload_n 0, 1) := by decide +kernel
theorem dX7_token_1 : decode cX7_token 1 = .ok (.getfield 176, 3) := by decide +kernel
theorem dX7_token_4 : decode cX7_token 4 = .ok (.aload_n 0, 1) := by decide +kernel
theorem dX7_token_5 : decode cX7_token 5 = .ok (.getfield 173, 3) := by decide +kernel
theorem dX7_token_8 : decode cX7_token 8 = .ok (.if_icmp .ge 30, 3) := by decide +kernel
theorem dX7_token_11 : decode cX7_token 11 = .ok (.aload_n 0, 1) := by decide +kernel
theorem dX7_token_12 : decode cX7_token 12 = .ok (.getfield 31, 3) := by decide +kernel
theorem dX7_token_15 : decode cX7_token 15 = .ok (.aload_n 0, 1) := by decide +kernel
theorem dX7_token_16 : decode cX7_token 16 = .ok (.getfield 176, 3) := by decide +kernel
theorem dX7_token_19 : decode cX7_token 19 = .ok (.iaload, 1) := by decide +kernel
theorem dX7_token_20 : decode cX7_token 20 = .ok (.bipush 32, 2) := by decide +kernel
theorem dX7_token_22 : decode cX7_token 22 = .ok (.if_icmp .ne 16, 3) := by decide +kernel
theorem dX7_token_25 : decode cX7_token 25 = .ok (.aload_n 0, 1) := by decide +kernel
theorem dX7_token_26 : decode cX7_token 26 = .ok (.dup, 1) := by decide +kernel
theorem dX7_token_27 : decode cX7_token 27 = .ok (.getfield 176, 3) := by decide +kernel
theorem dX7_token_30 : decode cX7_token 30 = .ok (.iconst 1, 1) := by decide +kernel
theorem dX7_token_31 : decode cX7_token 31 = .ok (.iadd, 1) := by decide +kernel
theorem dX7_token_32 : decode cX7_token 32 = .ok (.putfield 176, 3) := by decide +kernel
theorem dX7_token_35 : decode cX7_token 35 = .ok (.goto (-35), 3) := by decide +kernel
theorem dX7_token_38 : decode cX7_token 38 = .ok (.aload_n 0, 1) := by decide +kernel
theorem dX7_token_39 : decode cX7_token 39 = .ok (.aload_n 0, 1) := by decide +kernel
theorem dX7_token_40 : decode cX7_token 40 = .ok (.getfield 176, 3) := by decide +kernel
theorem dX7_token_43 : decode cX7_token 43 = .ok (.putfield 179, 3) := by decide +kernel
theorem dX7_token_46 : decode cX7_token 46 = .ok (.aload_n 0, 1) := by decide +kernel
theorem dX7_token_47 : decode cX7_token 47 = .ok (.iconst 0, 1) := by decide +kernel
theorem dX7_token_48 : decode cX7_token 48 = .ok (.putfield 182, 3) := by decide +kernel
theorem dX7_token_51 : decode cX7_token 51 = .ok (.aload_n 0, 1) := by decide +kernel
theorem dX7_token_52 : decode cX7_token 52 = .ok (.getfield 176, 3) := by decide +kernel
theorem dX7_token_55 : decode cX7_token 55 = .ok (.aload_n 0, 1) := by decide +kernel
theorem dX7_token_56 : decode cX7_token 56 = .ok (.getfield 173, 3) := by decide +kernel
theorem dX7_token_59 : decode cX7_token 59 = .ok (.if_icmp .ne 11, 3) := by decide +kernel
theorem dX7_token_62 : decode cX7_token 62 = .ok (.aload_n 0, 1) := by decide +kernel
theorem dX7_token_63 : decode cX7_token 63 = .ok (.iconst 0, 1) := by decide +kernel
theorem dX7_token_64 : decode cX7_token 64 = .ok (.putfield 185, 3) := by decide +kernel
theorem dX7_token_67 : decode cX7_token 67 = .ok (.goto 196, 3) := by decide +kernel
theorem dX7_token_70 : decode cX7_token 70 = .ok (.aload_n 0, 1) := by decide +kernel
theorem dX7_token_71 : decode cX7_token 71 = .ok (.getfield 31, 3) := by decide +kernel
theorem dX7_token_74 : decode cX7_token 74 = .ok (.aload_n 0, 1) := by decide +kernel
theorem dX7_token_75 : decode cX7_token 75 = .ok (.getfield 176, 3) := by decide +kernel
theorem dX7_token_78 : decode cX7_token 78 = .ok (.iaload, 1) := by decide +kernel
theorem dX7_token_79 : decode cX7_token 79 = .ok (.invokestatic 188, 3) := by decide +kernel
theorem dX7_token_82 : decode cX7_token 82 = .ok (.ifCond .eq 47, 3) := by decide +kernel
theorem dX7_token_85 : decode cX7_token 85 = .ok (.aload_n 0, 1) := by decide +kernel
theorem dX7_token_86 : decode cX7_token 86 = .ok (.iconst 1, 1) := by decide +kernel
theorem dX7_token_87 : decode cX7_token 87 = .ok (.putfield 185, 3) := by decide +kernel
theorem dX7_token_90 : decode cX7_token 90 = .ok (.aload_n 0, 1) := by decide +kernel
theorem dX7_token_91 : decode cX7_token 91 = .ok (.getfield 176, 3) := by decide +kernel
theorem dX7_token_94 : decode cX7_token 94 = .ok (.aload_n 0, 1) := by decide +kernel
theorem dX7_token_95 : decode cX7_token 95 = .ok (.getfield 173, 3) := by decide +kernel
theorem dX7_token_98 : decode cX7_token 98 = .ok (.if_icmp .ge 165, 3) := by decide +kernel
theorem dX7_token_101 : decode cX7_token 101 = .ok (.aload_n 0, 1) := by decide +kernel
theorem dX7_token_102 : decode cX7_token 102 = .ok (.getfield 31, 3) := by decide +kernel
theorem dX7_token_105 : decode cX7_token 105 = .ok (.aload_n 0, 1) := by decide +kernel
theorem dX7_token_106 : decode cX7_token 106 = .ok (.getfield 176, 3) := by decide +kernel
theorem dX7_token_109 : decode cX7_token 109 = .ok (.iaload, 1) := by decide +kernel
theorem dX7_token_110 : decode cX7_token 110 = .ok (.invokestatic 188, 3) := by decide +kernel
theorem dX7_token_113 : decode cX7_token 113 = .ok (.ifCond .eq 150, 3) := by decide +kernel
theorem dX7_token_116 : decode cX7_token 116 = .ok (.aload_n 0, 1) := by decide +kernel
theorem dX7_token_117 : decode cX7_token 117 = .ok (.dup, 1) := by decide +kernel
theorem dX7_token_118 : decode cX7_token 118 = .ok (.getfield 176, 3) := by decide +kernel
theorem dX7_token_121 : decode cX7_token 121 = .ok (.iconst 1, 1) := by decide +kernel
theorem dX7_token_122 : decode cX7_token 122 = .ok (.iadd, 1) := by decide +kernel
theorem dX7_token_123 : decode cX7_token 123 = .ok (.putfield 176, 3) := by decide +kernel
theorem dX7_token_126 : decode cX7_token 126 = .ok (.goto (-36), 3) := by decide +kernel
theorem dX7_token_129 : decode cX7_token 129 = .ok (.aload_n 0, 1) := by decide +kernel
theorem dX7_token_130 : decode cX7_token 130 = .ok (.getfield 31, 3) := by decide +kernel
theorem dX7_token_133 : decode cX7_token 133 = .ok (.aload_n 0, 1) := by decide +kernel
theorem dX7_token_134 : decode cX7_token 134 = .ok (.getfield 176, 3) := by decide +kernel
theorem dX7_token_137 : decode cX7_token 137 = .ok (.iaload, 1) := by decide +kernel
theorem dX7_token_138 : decode cX7_token 138 = .ok (.invokestatic 192, 3) := by decide +kernel
theorem dX7_token_141 : decode cX7_token 141 = .ok (.ifCond .eq 89, 3) := by decide +kernel
theorem dX7_token_144 : decode cX7_token 144 = .ok (.aload_n 0, 1) := by decide +kernel
theorem dX7_token_145 : decode cX7_token 145 = .ok (.iconst 2, 1) := by decide +kernel
theorem dX7_token_146 : decode cX7_token 146 = .ok (.putfield 185, 3) := by decide +kernel
theorem dX7_token_149 : decode cX7_token 149 = .ok (.aload_n 0, 1) := by decide +kernel
theorem dX7_token_150 : decode cX7_token 150 = .ok (.getfield 176, 3) := by decide +kernel
theorem dX7_token_153 : decode cX7_token 153 = .ok (.aload_n 0, 1) := by decide +kernel
theorem dX7_token_154 : decode cX7_token 154 = .ok (.getfield 173, 3) := by decide +kernel
theorem dX7_token_157 : decode cX7_token 157 = .ok (.if_icmp .ge 106, 3) := by decide +kernel
theorem dX7_token_160 : decode cX7_token 160 = .ok (.aload_n 0, 1) := by decide +kernel
theorem dX7_token_161 : decode cX7_token 161 = .ok (.getfield 31, 3) := by decide +kernel
theorem dX7_token_164 : decode cX7_token 164 = .ok (.aload_n 0, 1) := by decide +kernel
theorem dX7_token_165 : decode cX7_token 165 = .ok (.getfield 176, 3) := by decide +kernel
theorem dX7_token_168 : decode cX7_token 168 = .ok (.iaload, 1) := by decide +kernel
theorem dX7_token_169 : decode cX7_token 169 = .ok (.invokestatic 192, 3) := by decide +kernel
theorem dX7_token_172 : decode cX7_token 172 = .ok (.ifCond .eq 91, 3) := by decide +kernel
theorem dX7_token_175 : decode cX7_token 175 = .ok (.aload_n 0, 1) := by decide +kernel
theorem dX7_token_176 : decode cX7_token 176 = .ok (.aload_n 0, 1) := by decide +kernel
theorem dX7_token_177 : decode cX7_token 177 = .ok (.getfield 176, 3) := by decide +kernel
theorem dX7_token_180 : decode cX7_token 180 = .ok (.aload_n 0, 1) := by decide +kernel
theorem dX7_token_181 : decode cX7_token 181 = .ok (.getfield 179, 3) := by decide +kernel
theorem dX7_token_184 : decode cX7_token 184 = .ok (.isub, 1) := by decide +kernel
theorem dX7_token_185 : decode cX7_token 185 = .ok (.iconst 4, 1) := by decide +kernel
theorem dX7_token_186 : decode cX7_token 186 = .ok (.if_icmp .ge 26, 3) := by decide +kernel
theorem dX7_token_189 : decode cX7_token 189 = .ok (.aload_n 0, 1) := by decide +kernel
theorem dX7_token_190 : decode cX7_token 190 = .ok (.getfield 182, 3) := by decide +kernel
theorem dX7_token_193 : decode cX7_token 193 = .ok (.bipush 10, 2) := by decide +kernel
theorem dX7_token_195 : decode cX7_token 195 = .ok (.imul, 1) := by decide +kernel
theorem dX7_token_196 : decode cX7_token 196 = .ok (.aload_n 0, 1) := by decide +kernel
theorem dX7_token_197 : decode cX7_token 197 = .ok (.getfield 31, 3) := by decide +kernel
theorem dX7_token_200 : decode cX7_token 200 = .ok (.aload_n 0, 1) := by decide +kernel
theorem dX7_token_201 : decode cX7_token 201 = .ok (.getfield 176, 3) := by decide +kernel
theorem dX7_token_204 : decode cX7_token 204 = .ok (.iaload, 1) := by decide +kernel
theorem dX7_token_205 : decode cX7_token 205 = .ok (.iadd, 1) := by decide +kernel
theorem dX7_token_206 : decode cX7_token 206 = .ok (.bipush 48, 2) := by decide +kernel
theorem dX7_token_208 : decode cX7_token 208 = .ok (.isub, 1) := by decide +kernel
theorem dX7_token_209 : decode cX7_token 209 = .ok (.goto 5, 3) := by decide +kernel
theorem dX7_token_212 : decode cX7_token 212 = .ok (.ldc 195, 2) := by decide +kernel
theorem dX7_token_214 : decode cX7_token 214 = .ok (.putfield 182, 3) := by decide +kernel
theorem dX7_token_217 : decode cX7_token 217 = .ok (.aload_n 0, 1) := by decide +kernel
theorem dX7_token_218 : decode cX7_token 218 = .ok (.dup, 1) := by decide +kernel
theorem dX7_token_219 : decode cX7_token 219 = .ok (.getfield 176, 3) := by decide +kernel
theorem dX7_token_222 : decode cX7_token 222 = .ok (.iconst 1, 1) := by decide +kernel
theorem dX7_token_223 : decode cX7_token 223 = .ok (.iadd, 1) := by decide +kernel
theorem dX7_token_224 : decode cX7_token 224 = .ok (.putfield 176, 3) := by decide +kernel
theorem dX7_token_227 : decode cX7_token 227 = .ok (.goto (-78), 3) := by decide +kernel
theorem dX7_token_230 : decode cX7_token 230 = .ok (.aload_n 0, 1) := by decide +kernel
theorem dX7_token_231 : decode cX7_token 231 = .ok (.aload_n 0, 1) := by decide +kernel
theorem dX7_token_232 : decode cX7_token 232 = .ok (.getfield 31, 3) := by decide +kernel
theorem dX7_token_235 : decode cX7_token 235 = .ok (.aload_n 0, 1) := by decide +kernel
theorem dX7_token_236 : decode cX7_token 236 = .ok (.getfield 176, 3) := by decide +kernel
theorem dX7_token_239 : decode cX7_token 239 = .ok (.iaload, 1) := by decide +kernel
theorem dX7_token_240 : decode cX7_token 240 = .ok (.bipush 59, 2) := by decide +kernel
theorem dX7_token_242 : decode cX7_token 242 = .ok (.if_icmp .ne 7, 3) := by decide +kernel
theorem dX7_token_245 : decode cX7_token 245 = .ok (.iconst 3, 1) := by decide +kernel
theorem dX7_token_246 : decode cX7_token 246 = .ok (.goto 4, 3) := by decide +kernel
theorem dX7_token_249 : decode cX7_token 249 = .ok (.iconst 4, 1) := by decide +kernel
theorem dX7_token_250 : decode cX7_token 250 = .ok (.putfield 185, 3) := by decide +kernel
theorem dX7_token_253 : decode cX7_token 253 = .ok (.aload_n 0, 1) := by decide +kernel
theorem dX7_token_254 : decode cX7_token 254 = .ok (.dup, 1) := by decide +kernel
theorem dX7_token_255 : decode cX7_token 255 = .ok (.getfield 176, 3) := by decide +kernel
theorem dX7_token_258 : decode cX7_token 258 = .ok (.iconst 1, 1) := by decide +kernel
theorem dX7_token_259 : decode cX7_token 259 = .ok (.iadd, 1) := by decide +kernel
theorem dX7_token_260 : decode cX7_token 260 = .ok (.putfield 176, 3) := by decide +kernel
theorem dX7_token_263 : decode cX7_token 263 = .ok (.return_, 1) := by decide +kernel
theorem dX7_wrong_0 : decode cX7_wrong 0 = .ok (.aload_n 0, 1) := by decide +kernel
theorem dX7_wrong_1 : decode cX7_wrong 1 = .ok (.aload_n 0, 1) := by decide +kernel
theorem dX7_wrong_2 : decode cX7_wrong 2 = .ok (.getfield 179, 3) := by decide +kernel
theorem dX7_wrong_5 : decode cX7_wrong 5 = .ok (.putfield 196, 3) := by decide +kernel
theorem dX7_wrong_8 : decode cX7_wrong 8 = .ok (.iconst 0, 1) := by decide +kernel
theorem dX7_wrong_9 : decode cX7_wrong 9 = .ok (.ireturn, 1) := by decide +kernel
theorem dX7_isWord_0 : decode cX7_isWord 0 = .ok (.aload_n 0, 1) := by decide +kernel
theorem dX7_isWord_1 : decode cX7_isWord 1 = .ok (.getfield 185, 3) := by decide +kernel
theorem dX7_isWord_4 : decode cX7_isWord 4 = .ok (.iconst 1, 1) := by decide +kernel
theorem dX7_isWord_5 : decode cX7_isWord 5 = .ok (.if_icmp .ne 19, 3) := by decide +kernel
theorem dX7_isWord_8 : decode cX7_isWord 8 = .ok (.aload_n 0, 1) := by decide +kernel
theorem dX7_isWord_9 : decode cX7_isWord 9 = .ok (.getfield 176, 3) := by decide +kernel
theorem dX7_isWord_12 : decode cX7_isWord 12 = .ok (.aload_n 0, 1) := by decide +kernel
theorem dX7_isWord_13 : decode cX7_isWord 13 = .ok (.getfield 179, 3) := by decide +kernel
theorem dX7_isWord_16 : decode cX7_isWord 16 = .ok (.isub, 1) := by decide +kernel
theorem dX7_isWord_17 : decode cX7_isWord 17 = .ok (.aload_n 1, 1) := by decide +kernel
theorem dX7_isWord_18 : decode cX7_isWord 18 = .ok (.invokevirtual 199, 3) := by decide +kernel
theorem dX7_isWord_21 : decode cX7_isWord 21 = .ok (.if_icmp .eq 5, 3) := by decide +kernel
theorem dX7_isWord_24 : decode cX7_isWord 24 = .ok (.iconst 0, 1) := by decide +kernel
theorem dX7_isWord_25 : decode cX7_isWord 25 = .ok (.ireturn, 1) := by decide +kernel
theorem dX7_isWord_26 : decode cX7_isWord 26 = .ok (.iconst 0, 1) := by decide +kernel
theorem dX7_isWord_27 : decode cX7_isWord 27 = .ok (.istore_n 2, 1) := by decide +kernel
theorem dX7_isWord_28 : decode cX7_isWord 28 = .ok (.iload_n 2, 1) := by decide +kernel
theorem dX7_isWord_29 : decode cX7_isWord 29 = .ok (.aload_n 1, 1) := by decide +kernel
theorem dX7_isWord_30 : decode cX7_isWord 30 = .ok (.invokevirtual 199, 3) := by decide +kernel
theorem dX7_isWord_33 : decode cX7_isWord 33 = .ok (.if_icmp .ge 30, 3) := by decide +kernel
theorem dX7_isWord_36 : decode cX7_isWord 36 = .ok (.aload_n 0, 1) := by decide +kernel
theorem dX7_isWord_37 : decode cX7_isWord 37 = .ok (.getfield 31, 3) := by decide +kernel
theorem dX7_isWord_40 : decode cX7_isWord 40 = .ok (.aload_n 0, 1) := by decide +kernel
theorem dX7_isWord_41 : decode cX7_isWord 41 = .ok (.getfield 179, 3) := by decide +kernel
theorem dX7_isWord_44 : decode cX7_isWord 44 = .ok (.iload_n 2, 1) := by decide +kernel
theorem dX7_isWord_45 : decode cX7_isWord 45 = .ok (.iadd, 1) := by decide +kernel
theorem dX7_isWord_46 : decode cX7_isWord 46 = .ok (.iaload, 1) := by decide +kernel
theorem dX7_isWord_47 : decode cX7_isWord 47 = .ok (.aload_n 1, 1) := by decide +kernel
theorem dX7_isWord_48 : decode cX7_isWord 48 = .ok (.iload_n 2, 1) := by decide +kernel
theorem dX7_isWord_49 : decode cX7_isWord 49 = .ok (.invokevirtual 204, 3) := by decide +kernel
theorem dX7_isWord_52 : decode cX7_isWord 52 = .ok (.if_icmp .eq 5, 3) := by decide +kernel
theorem dX7_isWord_55 : decode cX7_isWord 55 = .ok (.iconst 0, 1) := by decide +kernel
theorem dX7_isWord_56 : decode cX7_isWord 56 = .ok (.ireturn, 1) := by decide +kernel
theorem dX7_isWord_57 : decode cX7_isWord 57 = .ok (.iinc 2 1, 3) := by decide +kernel
theorem dX7_isWord_60 : decode cX7_isWord 60 = .ok (.goto (-32), 3) := by decide +kernel
theorem dX7_isWord_63 : decode cX7_isWord 63 = .ok (.iconst 1, 1) := by decide +kernel
theorem dX7_isWord_64 : decode cX7_isWord 64 = .ok (.ireturn, 1) := by decide +kernel
theorem dX7_number_0 : decode cX7_number 0 = .ok (.aload_n 0, 1) := by decide +kernel
theorem dX7_number_1 : decode cX7_number 1 = .ok (.getfield 185, 3) := by decide +kernel
theorem dX7_number_4 : decode cX7_number 4 = .ok (.iconst 2, 1) := by decide +kernel
theorem dX7_number_5 : decode cX7_number 5 = .ok (.if_icmp .ne 18, 3) := by decide +kernel
theorem dX7_number_8 : decode cX7_number 8 = .ok (.aload_n 0, 1) := by decide +kernel
theorem dX7_number_9 : decode cX7_number 9 = .ok (.getfield 182, 3) := by decide +kernel
theorem dX7_number_12 : decode cX7_number 12 = .ok (.i2l, 1) := by decide +kernel
theorem dX7_number_13 : decode cX7_number 13 = .ok (.iload_n 2, 1) := by decide +kernel
theorem dX7_number_14 : decode cX7_number 14 = .ok (.i2l, 1) := by decide +kernel
theorem dX7_number_15 : decode cX7_number 15 = .ok (.iload_n 3, 1) := by decide +kernel
theorem dX7_number_16 : decode cX7_number 16 = .ok (.i2l, 1) := by decide +kernel
theorem dX7_number_17 : decode cX7_number 17 = .ok (.invokestatic 97, 3) := by decide +kernel
theorem dX7_number_20 : decode cX7_number 20 = .ok (.ifCond .ne 8, 3) := by decide +kernel
theorem dX7_number_23 : decode cX7_number 23 = .ok (.aload_n 0, 1) := by decide +kernel
theorem dX7_number_24 : decode cX7_number 24 = .ok (.invokevirtual 208, 3) := by decide +kernel
theorem dX7_number_27 : decode cX7_number 27 = .ok (.ireturn, 1) := by decide +kernel
theorem dX7_number_28 : decode cX7_number 28 = .ok (.aload_n 0, 1) := by decide +kernel
theorem dX7_number_29 : decode cX7_number 29 = .ok (.getfield 80, 3) := by decide +kernel
theorem dX7_number_32 : decode cX7_number 32 = .ok (.iload_n 1, 1) := by decide +kernel
theorem dX7_number_33 : decode cX7_number 33 = .ok (.aload_n 0, 1) := by decide +kernel
theorem dX7_number_34 : decode cX7_number 34 = .ok (.getfield 182, 3) := by decide +kernel
theorem dX7_number_37 : decode cX7_number 37 = .ok (.iastore, 1) := by decide +kernel
theorem dX7_number_38 : decode cX7_number 38 = .ok (.aload_n 0, 1) := by decide +kernel
theorem dX7_number_39 : decode cX7_number 39 = .ok (.invokevirtual 212, 3) := by decide +kernel
theorem dX7_number_42 : decode cX7_number 42 = .ok (.iconst 1, 1) := by decide +kernel
theorem dX7_number_43 : decode cX7_number 43 = .ok (.ireturn, 1) := by decide +kernel
theorem dX7_tells_0 : decode cX7_tells 0 = .ok (.aload_n 0, 1) := by decide +kernel
theorem dX7_tells_1 : decode cX7_tells 1 = .ok (.invokevirtual 212, 3) := by decide +kernel
theorem dX7_tells_4 : decode cX7_tells 4 = .ok (.aload_n 0, 1) := by decide +kernel
theorem dX7_tells_5 : decode cX7_tells 5 = .ok (.iconst 0, 1) := by decide +kernel
theorem dX7_tells_6 : decode cX7_tells 6 = .ok (.iload_n 1, 1) := by decide +kernel
theorem dX7_tells_7 : decode cX7_tells 7 = .ok (.iload_n 2, 1) := by decide +kernel
theorem dX7_tells_8 : decode cX7_tells 8 = .ok (.invokevirtual 214, 3) := by decide +kernel
theorem dX7_tells_11 : decode cX7_tells 11 = .ok (.ireturn, 1) := by decide +kernel
theorem dX7_asked_0 : decode cX7_asked 0 = .ok (.aload_n 0, 1) := by decide +kernel
theorem dX7_asked_1 : decode cX7_asked 1 = .ok (.iload_n 2, 1) := by decide +kernel
theorem dX7_asked_2 : decode cX7_asked 2 = .ok (.iload_n 3, 1) := by decide +kernel
theorem dX7_asked_3 : decode cX7_asked 3 = .ok (.invokevirtual 218, 3) := by decide +kernel
theorem dX7_asked_6 : decode cX7_asked 6 = .ok (.ifCond .ne 5, 3) := by decide +kernel
theorem dX7_asked_9 : decode cX7_asked 9 = .ok (.iconst 0, 1) := by decide +kernel
theorem dX7_asked_10 : decode cX7_asked 10 = .ok (.ireturn, 1) := by decide +kernel
theorem dX7_asked_11 : decode cX7_asked 11 = .ok (.aload_n 0, 1) := by decide +kernel
theorem dX7_asked_12 : decode cX7_asked 12 = .ok (.iload_n 1, 1) := by decide +kernel
theorem dX7_asked_13 : decode cX7_asked 13 = .ok (.aload_n 0, 1) := by decide +kernel
theorem dX7_asked_14 : decode cX7_asked 14 = .ok (.getfield 80, 3) := by decide +kernel
theorem dX7_asked_17 : decode cX7_asked 17 = .ok (.iconst 0, 1) := by decide +kernel
theorem dX7_asked_18 : decode cX7_asked 18 = .ok (.iaload, 1) := by decide +kernel
theorem dX7_asked_19 : decode cX7_asked 19 = .ok (.invokevirtual 221, 3) := by decide +kernel
theorem dX7_asked_22 : decode cX7_asked 22 = .ok (.pop, 1) := by decide +kernel
theorem dX7_asked_23 : decode cX7_asked 23 = .ok (.iconst 1, 1) := by decide +kernel
theorem dX7_asked_24 : decode cX7_asked 24 = .ok (.ireturn, 1) := by decide +kernel
theorem dX7_statement_0 : decode cX7_statement 0 = .ok (.aload_n 0, 1) := by decide +kernel
theorem dX7_statement_1 : decode cX7_statement 1 = .ok (.ldc 224, 2) := by decide +kernel
theorem dX7_statement_3 : decode cX7_statement 3 = .ok (.invokevirtual 226, 3) := by decide +kernel
theorem dX7_statement_6 : decode cX7_statement 6 = .ok (.ifCond .eq 88, 3) := by decide +kernel
theorem dX7_statement_9 : decode cX7_statement 9 = .ok (.aload_n 0, 1) := by decide +kernel
theorem dX7_statement_10 : decode cX7_statement 10 = .ok (.getfield 94, 3) := by decide +kernel
theorem dX7_statement_13 : decode cX7_statement 13 = .ok (.bipush 14, 2) := by decide +kernel
theorem dX7_statement_15 : decode cX7_statement 15 = .ok (.if_icmp .ge 79, 3) := by decide +kernel
theorem dX7_statement_18 : decode cX7_statement 18 = .ok (.aload_n 0, 1) := by decide +kernel
theorem dX7_statement_19 : decode cX7_statement 19 = .ok (.iconst 0, 1) := by decide +kernel
theorem dX7_statement_20 : decode cX7_statement 20 = .ok (.iconst 5, 1) := by decide +kernel
theorem dX7_statement_21 : decode cX7_statement 21 = .ok (.invokevirtual 218, 3) := by decide +kernel
theorem dX7_statement_24 : decode cX7_statement 24 = .ok (.ifCond .eq 38, 3) := by decide +kernel
theorem dX7_statement_27 : decode cX7_statement 27 = .ok (.aload_n 0, 1) := by decide +kernel
theorem dX7_statement_28 : decode cX7_statement 28 = .ok (.iconst 1, 1) := by decide +kernel
theorem dX7_statement_29 : decode cX7_statement 29 = .ok (.iconst 0, 1) := by decide +kernel
theorem dX7_statement_30 : decode cX7_statement 30 = .ok (.bipush 9, 2) := by decide +kernel
theorem dX7_statement_32 : decode cX7_statement 32 = .ok (.invokevirtual 214, 3) := by decide +kernel
theorem dX7_statement_35 : decode cX7_statement 35 = .ok (.ifCond .eq 27, 3) := by decide +kernel
theorem dX7_statement_38 : decode cX7_statement 38 = .ok (.aload_n 0, 1) := by decide +kernel
theorem dX7_statement_39 : decode cX7_statement 39 = .ok (.iconst 2, 1) := by decide +kernel
theorem dX7_statement_40 : decode cX7_statement 40 = .ok (.iconst 1, 1) := by decide +kernel
theorem dX7_statement_41 : decode cX7_statement 41 = .ok (.sipush 999, 3) := by decide +kernel
theorem dX7_statement_44 : decode cX7_statement 44 = .ok (.invokevirtual 214, 3) := by decide +kernel
theorem dX7_statement_47 : decode cX7_statement 47 = .ok (.ifCond .eq 15, 3) := by decide +kernel
theorem dX7_statement_50 : decode cX7_statement 50 = .ok (.aload_n 0, 1) := by decide +kernel
theorem dX7_statement_51 : decode cX7_statement 51 = .ok (.iconst 3, 1) := by decide +kernel
theorem dX7_statement_52 : decode cX7_statement 52 = .ok (.iconst 0, 1) := by decide +kernel
theorem dX7_statement_53 : decode cX7_statement 53 = .ok (.sipush 1000, 3) := by decide +kernel
theorem dX7_statement_56 : decode cX7_statement 56 = .ok (.invokevirtual 214, 3) := by decide +kernel
theorem dX7_statement_59 : decode cX7_statement 59 = .ok (.ifCond .ne 5, 3) := by decide +kernel
theorem dX7_statement_62 : decode cX7_statement 62 = .ok (.iconst 0, 1) := by decide +kernel
theorem dX7_statement_63 : decode cX7_statement 63 = .ok (.ireturn, 1) := by decide +kernel
theorem dX7_statement_64 : decode cX7_statement 64 = .ok (.aload_n 0, 1) := by decide +kernel
theorem dX7_statement_65 : decode cX7_statement 65 = .ok (.aload_n 0, 1) := by decide +kernel
theorem dX7_statement_66 : decode cX7_statement 66 = .ok (.getfield 80, 3) := by decide +kernel
theorem dX7_statement_69 : decode cX7_statement 69 = .ok (.iconst 0, 1) := by decide +kernel
theorem dX7_statement_70 : decode cX7_statement 70 = .ok (.iaload, 1) := by decide +kernel
theorem dX7_statement_71 : decode cX7_statement 71 = .ok (.aload_n 0, 1) := by decide +kernel
theorem dX7_statement_72 : decode cX7_statement 72 = .ok (.getfield 80, 3) := by decide +kernel
theorem dX7_statement_75 : decode cX7_statement 75 = .ok (.iconst 1, 1) := by decide +kernel
theorem dX7_statement_76 : decode cX7_statement 76 = .ok (.iaload, 1) := by decide +kernel
theorem dX7_statement_77 : decode cX7_statement 77 = .ok (.aload_n 0, 1) := by decide +kernel
theorem dX7_statement_78 : decode cX7_statement 78 = .ok (.getfield 80, 3) := by decide +kernel
theorem dX7_statement_81 : decode cX7_statement 81 = .ok (.iconst 2, 1) := by decide +kernel
theorem dX7_statement_82 : decode cX7_statement 82 = .ok (.iaload, 1) := by decide +kernel
theorem dX7_statement_83 : decode cX7_statement 83 = .ok (.aload_n 0, 1) := by decide +kernel
theorem dX7_statement_84 : decode cX7_statement 84 = .ok (.getfield 80, 3) := by decide +kernel
theorem dX7_statement_87 : decode cX7_statement 87 = .ok (.iconst 3, 1) := by decide +kernel
theorem dX7_statement_88 : decode cX7_statement 88 = .ok (.iaload, 1) := by decide +kernel
theorem dX7_statement_89 : decode cX7_statement 89 = .ok (.invokevirtual 138, 3) := by decide +kernel
theorem dX7_statement_92 : decode cX7_statement 92 = .ok (.iconst 1, 1) := by decide +kernel
theorem dX7_statement_93 : decode cX7_statement 93 = .ok (.ireturn, 1) := by decide +kernel
theorem dX7_statement_94 : decode cX7_statement 94 = .ok (.aload_n 0, 1) := by decide +kernel
theorem dX7_statement_95 : decode cX7_statement 95 = .ok (.ldc 230, 2) := by decide +kernel
theorem dX7_statement_97 : decode cX7_statement 97 = .ok (.invokevirtual 226, 3) := by decide +kernel
theorem dX7_statement_100 : decode cX7_statement 100 = .ok (.ifCond .eq 12, 3) := by decide +kernel
theorem dX7_statement_103 : decode cX7_statement 103 = .ok (.aload_n 0, 1) := by decide +kernel
theorem dX7_statement_104 : decode cX7_statement 104 = .ok (.iconst 0, 1) := by decide +kernel
theorem dX7_statement_105 : decode cX7_statement 105 = .ok (.iconst 1, 1) := by decide +kernel
theorem dX7_statement_106 : decode cX7_statement 106 = .ok (.bipush 9, 2) := by decide +kernel
theorem dX7_statement_108 : decode cX7_statement 108 = .ok (.invokevirtual 231, 3) := by decide +kernel
theorem dX7_statement_111 : decode cX7_statement 111 = .ok (.ireturn, 1) := by decide +kernel
theorem dX7_statement_112 : decode cX7_statement 112 = .ok (.aload_n 0, 1) := by decide +kernel
theorem dX7_statement_113 : decode cX7_statement 113 = .ok (.ldc 234, 2) := by decide +kernel
theorem dX7_statement_115 : decode cX7_statement 115 = .ok (.invokevirtual 226, 3) := by decide +kernel
theorem dX7_statement_118 : decode cX7_statement 118 = .ok (.ifCond .eq 11, 3) := by decide +kernel
theorem dX7_statement_121 : decode cX7_statement 121 = .ok (.aload_n 0, 1) := by decide +kernel
theorem dX7_statement_122 : decode cX7_statement 122 = .ok (.iconst 1, 1) := by decide +kernel
theorem dX7_statement_123 : decode cX7_statement 123 = .ok (.iconst 0, 1) := by decide +kernel
theorem dX7_statement_124 : decode cX7_statement 124 = .ok (.iconst 1, 1) := by decide +kernel
theorem dX7_statement_125 : decode cX7_statement 125 = .ok (.invokevirtual 231, 3) := by decide +kernel
theorem dX7_statement_128 : decode cX7_statement 128 = .ok (.ireturn, 1) := by decide +kernel
theorem dX7_statement_129 : decode cX7_statement 129 = .ok (.aload_n 0, 1) := by decide +kernel
theorem dX7_statement_130 : decode cX7_statement 130 = .ok (.ldc 235, 2) := by decide +kernel
theorem dX7_statement_132 : decode cX7_statement 132 = .ok (.invokevirtual 226, 3) := by decide +kernel
theorem dX7_statement_135 : decode cX7_statement 135 = .ok (.ifCond .eq 12, 3) := by decide +kernel
theorem dX7_statement_138 : decode cX7_statement 138 = .ok (.aload_n 0, 1) := by decide +kernel
theorem dX7_statement_139 : decode cX7_statement 139 = .ok (.iconst 2, 1) := by decide +kernel
theorem dX7_statement_140 : decode cX7_statement 140 = .ok (.iconst 0, 1) := by decide +kernel
theorem dX7_statement_141 : decode cX7_statement 141 = .ok (.bipush 10, 2) := by decide +kernel
theorem dX7_statement_143 : decode cX7_statement 143 = .ok (.invokevirtual 231, 3) := by decide +kernel
theorem dX7_statement_146 : decode cX7_statement 146 = .ok (.ireturn, 1) := by decide +kernel
theorem dX7_statement_147 : decode cX7_statement 147 = .ok (.aload_n 0, 1) := by decide +kernel
theorem dX7_statement_148 : decode cX7_statement 148 = .ok (.ldc 236, 2) := by decide +kernel
theorem dX7_statement_150 : decode cX7_statement 150 = .ok (.invokevirtual 226, 3) := by decide +kernel
theorem dX7_statement_153 : decode cX7_statement 153 = .ok (.istore_n 1, 1) := by decide +kernel
theorem dX7_statement_154 : decode cX7_statement 154 = .ok (.iload_n 1, 1) := by decide +kernel
theorem dX7_statement_155 : decode cX7_statement 155 = .ok (.ifCond .ne 12, 3) := by decide +kernel
theorem dX7_statement_158 : decode cX7_statement 158 = .ok (.aload_n 0, 1) := by decide +kernel
theorem dX7_statement_159 : decode cX7_statement 159 = .ok (.ldc 238, 2) := by decide +kernel
theorem dX7_statement_161 : decode cX7_statement 161 = .ok (.invokevirtual 226, 3) := by decide +kernel
theorem dX7_statement_164 : decode cX7_statement 164 = .ok (.ifCond .eq 66, 3) := by decide +kernel
theorem dX7_statement_167 : decode cX7_statement 167 = .ok (.aload_n 0, 1) := by decide +kernel
theorem dX7_statement_168 : decode cX7_statement 168 = .ok (.getfield 150, 3) := by decide +kernel
theorem dX7_statement_171 : decode cX7_statement 171 = .ok (.bipush 8, 2) := by decide +kernel
theorem dX7_statement_173 : decode cX7_statement 173 = .ok (.if_icmp .ge 57, 3) := by decide +kernel
theorem dX7_statement_176 : decode cX7_statement 176 = .ok (.aload_n 0, 1) := by decide +kernel
theorem dX7_statement_177 : decode cX7_statement 177 = .ok (.iconst 0, 1) := by decide +kernel
theorem dX7_statement_178 : decode cX7_statement 178 = .ok (.aload_n 0, 1) := by decide +kernel
theorem dX7_statement_179 : decode cX7_statement 179 = .ok (.getfield 94, 3) := by decide +kernel
theorem dX7_statement_182 : decode cX7_statement 182 = .ok (.iconst 1, 1) := by decide +kernel
theorem dX7_statement_183 : decode cX7_statement 183 = .ok (.isub, 1) := by decide +kernel
theorem dX7_statement_184 : decode cX7_statement 184 = .ok (.invokevirtual 218, 3) := by decide +kernel
theorem dX7_statement_187 : decode cX7_statement 187 = .ok (.ifCond .eq 14, 3) := by decide +kernel
theorem dX7_statement_190 : decode cX7_statement 190 = .ok (.aload_n 0, 1) := by decide +kernel
theorem dX7_statement_191 : decode cX7_statement 191 = .ok (.iconst 1, 1) := by decide +kernel
theorem dX7_statement_192 : decode cX7_statement 192 = .ok (.iconst 0, 1) := by decide +kernel
theorem dX7_statement_193 : decode cX7_statement 193 = .ok (.bipush 100, 2) := by decide +kernel
theorem dX7_statement_195 : decode cX7_statement 195 = .ok (.invokevirtual 214, 3) := by decide +kernel
theorem dX7_statement_198 : decode cX7_statement 198 = .ok (.ifCond .ne 5, 3) := by decide +kernel
theorem dX7_statement_201 : decode cX7_statement 201 = .ok (.iconst 0, 1) := by decide +kernel
theorem dX7_statement_202 : decode cX7_statement 202 = .ok (.ireturn, 1) := by decide +kernel
theorem dX7_statement_203 : decode cX7_statement 203 = .ok (.aload_n 0, 1) := by decide +kernel
theorem dX7_statement_204 : decode cX7_statement 204 = .ok (.aload_n 0, 1) := by decide +kernel
theorem dX7_statement_205 : decode cX7_statement 205 = .ok (.getfield 80, 3) := by decide +kernel
theorem dX7_statement_208 : decode cX7_statement 208 = .ok (.iconst 0, 1) := by decide +kernel
theorem dX7_statement_209 : decode cX7_statement 209 = .ok (.iaload, 1) := by decide +kernel
theorem dX7_statement_210 : decode cX7_statement 210 = .ok (.iload_n 1, 1) := by decide +kernel
theorem dX7_statement_211 : decode cX7_statement 211 = .ok (.ifCond .eq 7, 3) := by decide +kernel
theorem dX7_statement_214 : decode cX7_statement 214 = .ok (.iconst 1, 1) := by decide +kernel
theorem dX7_statement_215 : decode cX7_statement 215 = .ok (.goto 4, 3) := by decide +kernel
theorem dX7_statement_218 : decode cX7_statement 218 = .ok (.iconst 0, 1) := by decide +kernel
theorem dX7_statement_219 : decode cX7_statement 219 = .ok (.aload_n 0, 1) := by decide +kernel
theorem dX7_statement_220 : decode cX7_statement 220 = .ok (.getfield 80, 3) := by decide +kernel
theorem dX7_statement_223 : decode cX7_statement 223 = .ok (.iconst 1, 1) := by decide +kernel
theorem dX7_statement_224 : decode cX7_statement 224 = .ok (.iaload, 1) := by decide +kernel
theorem dX7_statement_225 : decode cX7_statement 225 = .ok (.invokevirtual 155, 3) := by decide +kernel
theorem dX7_statement_228 : decode cX7_statement 228 = .ok (.iconst 1, 1) := by decide +kernel
theorem dX7_statement_229 : decode cX7_statement 229 = .ok (.ireturn, 1) := by decide +kernel
theorem dX7_statement_230 : decode cX7_statement 230 = .ok (.aload_n 0, 1) := by decide +kernel
theorem dX7_statement_231 : decode cX7_statement 231 = .ok (.ldc 240, 2) := by decide +kernel
theorem dX7_statement_233 : decode cX7_statement 233 = .ok (.invokevirtual 226, 3) := by decide +kernel
theorem dX7_statement_236 : decode cX7_statement 236 = .ok (.ifCond .eq 74, 3) := by decide +kernel
theorem dX7_statement_239 : decode cX7_statement 239 = .ok (.aload_n 0, 1) := by decide +kernel
theorem dX7_statement_240 : decode cX7_statement 240 = .ok (.getfield 163, 3) := by decide +kernel
theorem dX7_statement_243 : decode cX7_statement 243 = .ok (.bipush 6, 2) := by decide +kernel
theorem dX7_statement_245 : decode cX7_statement 245 = .ok (.if_icmp .ge 65, 3) := by decide +kernel
theorem dX7_statement_248 : decode cX7_statement 248 = .ok (.aload_n 0, 1) := by decide +kernel
theorem dX7_statement_249 : decode cX7_statement 249 = .ok (.iconst 0, 1) := by decide +kernel
theorem dX7_statement_250 : decode cX7_statement 250 = .ok (.aload_n 0, 1) := by decide +kernel
theorem dX7_statement_251 : decode cX7_statement 251 = .ok (.getfield 94, 3) := by decide +kernel
theorem dX7_statement_254 : decode cX7_statement 254 = .ok (.iconst 1, 1) := by decide +kernel
theorem dX7_statement_255 : decode cX7_statement 255 = .ok (.isub, 1) := by decide +kernel
theorem dX7_statement_256 : decode cX7_statement 256 = .ok (.invokevirtual 218, 3) := by decide +kernel
theorem dX7_statement_259 : decode cX7_statement 259 = .ok (.ifCond .eq 25, 3) := by decide +kernel
theorem dX7_statement_262 : decode cX7_statement 262 = .ok (.aload_n 0, 1) := by decide +kernel
theorem dX7_statement_263 : decode cX7_statement 263 = .ok (.iconst 1, 1) := by decide +kernel
theorem dX7_statement_264 : decode cX7_statement 264 = .ok (.iconst 1, 1) := by decide +kernel
theorem dX7_statement_265 : decode cX7_statement 265 = .ok (.bipush 99, 2) := by decide +kernel
theorem dX7_statement_267 : decode cX7_statement 267 = .ok (.invokevirtual 214, 3) := by decide +kernel
theorem dX7_statement_270 : decode cX7_statement 270 = .ok (.ifCond .eq 14, 3) := by decide +kernel
theorem dX7_statement_273 : decode cX7_statement 273 = .ok (.aload_n 0, 1) := by decide +kernel
theorem dX7_statement_274 : decode cX7_statement 274 = .ok (.iconst 2, 1) := by decide +kernel
theorem dX7_statement_275 : decode cX7_statement 275 = .ok (.iconst 0, 1) := by decide +kernel
theorem dX7_statement_276 : decode cX7_statement 276 = .ok (.bipush 100, 2) := by decide +kernel
theorem dX7_statement_278 : decode cX7_statement 278 = .ok (.invokevirtual 214, 3) := by decide +kernel
theorem dX7_statement_281 : decode cX7_statement 281 = .ok (.ifCond .ne 5, 3) := by decide +kernel
theorem dX7_statement_284 : decode cX7_statement 284 = .ok (.iconst 0, 1) := by decide +kernel
theorem dX7_statement_285 : decode cX7_statement 285 = .ok (.ireturn, 1) := by decide +kernel
theorem dX7_statement_286 : decode cX7_statement 286 = .ok (.aload_n 0, 1) := by decide +kernel
theorem dX7_statement_287 : decode cX7_statement 287 = .ok (.aload_n 0, 1) := by decide +kernel
theorem dX7_statement_288 : decode cX7_statement 288 = .ok (.getfield 80, 3) := by decide +kernel
theorem dX7_statement_291 : decode cX7_statement 291 = .ok (.iconst 0, 1) := by decide +kernel
theorem dX7_statement_292 : decode cX7_statement 292 = .ok (.iaload, 1) := by decide +kernel
theorem dX7_statement_293 : decode cX7_statement 293 = .ok (.aload_n 0, 1) := by decide +kernel
theorem dX7_statement_294 : decode cX7_statement 294 = .ok (.getfield 80, 3) := by decide +kernel
theorem dX7_statement_297 : decode cX7_statement 297 = .ok (.iconst 1, 1) := by decide +kernel
theorem dX7_statement_298 : decode cX7_statement 298 = .ok (.iaload, 1) := by decide +kernel
theorem dX7_statement_299 : decode cX7_statement 299 = .ok (.aload_n 0, 1) := by decide +kernel
theorem dX7_statement_300 : decode cX7_statement 300 = .ok (.getfield 80, 3) := by decide +kernel
theorem dX7_statement_303 : decode cX7_statement 303 = .ok (.iconst 2, 1) := by decide +kernel
theorem dX7_statement_304 : decode cX7_statement 304 = .ok (.iaload, 1) := by decide +kernel
theorem dX7_statement_305 : decode cX7_statement 305 = .ok (.invokevirtual 168, 3) := by decide +kernel
theorem dX7_statement_308 : decode cX7_statement 308 = .ok (.iconst 1, 1) := by decide +kernel
theorem dX7_statement_309 : decode cX7_statement 309 = .ok (.ireturn, 1) := by decide +kernel
theorem dX7_statement_310 : decode cX7_statement 310 = .ok (.aload_n 0, 1) := by decide +kernel
theorem dX7_statement_311 : decode cX7_statement 311 = .ok (.ldc 242, 2) := by decide +kernel
theorem dX7_statement_313 : decode cX7_statement 313 = .ok (.invokevirtual 226, 3) := by decide +kernel
theorem dX7_statement_316 : decode cX7_statement 316 = .ok (.ifCond .eq 49, 3) := by decide +kernel
theorem dX7_statement_319 : decode cX7_statement 319 = .ok (.aload_n 0, 1) := by decide +kernel
theorem dX7_statement_320 : decode cX7_statement 320 = .ok (.iconst 0, 1) := by decide +kernel
theorem dX7_statement_321 : decode cX7_statement 321 = .ok (.aload_n 0, 1) := by decide +kernel
theorem dX7_statement_322 : decode cX7_statement 322 = .ok (.getfield 94, 3) := by decide +kernel
theorem dX7_statement_325 : decode cX7_statement 325 = .ok (.iconst 1, 1) := by decide +kernel
theorem dX7_statement_326 : decode cX7_statement 326 = .ok (.isub, 1) := by decide +kernel
theorem dX7_statement_327 : decode cX7_statement 327 = .ok (.invokevirtual 218, 3) := by decide +kernel
theorem dX7_statement_330 : decode cX7_statement 330 = .ok (.ifCond .eq 13, 3) := by decide +kernel
theorem dX7_statement_333 : decode cX7_statement 333 = .ok (.aload_n 0, 1) := by decide +kernel
theorem dX7_statement_334 : decode cX7_statement 334 = .ok (.iconst 1, 1) := by decide +kernel
theorem dX7_statement_335 : decode cX7_statement 335 = .ok (.iconst 0, 1) := by decide +kernel
theorem dX7_statement_336 : decode cX7_statement 336 = .ok (.iconst 2, 1) := by decide +kernel
theorem dX7_statement_337 : decode cX7_statement 337 = .ok (.invokevirtual 214, 3) := by decide +kernel
theorem dX7_statement_340 : decode cX7_statement 340 = .ok (.ifCond .ne 5, 3) := by decide +kernel
theorem dX7_statement_343 : decode cX7_statement 343 = .ok (.iconst 0, 1) := by decide +kernel
theorem dX7_statement_344 : decode cX7_statement 344 = .ok (.ireturn, 1) := by decide +kernel
theorem dX7_statement_345 : decode cX7_statement 345 = .ok (.aload_n 0, 1) := by decide +kernel
theorem dX7_statement_346 : decode cX7_statement 346 = .ok (.aload_n 0, 1) := by decide +kernel
theorem dX7_statement_347 : decode cX7_statement 347 = .ok (.getfield 80, 3) := by decide +kernel
theorem dX7_statement_350 : decode cX7_statement 350 = .ok (.iconst 0, 1) := by decide +kernel
theorem dX7_statement_351 : decode cX7_statement 351 = .ok (.iaload, 1) := by decide +kernel
theorem dX7_statement_352 : decode cX7_statement 352 = .ok (.aload_n 0, 1) := by decide +kernel
theorem dX7_statement_353 : decode cX7_statement 353 = .ok (.getfield 80, 3) := by decide +kernel
theorem dX7_statement_356 : decode cX7_statement 356 = .ok (.iconst 1, 1) := by decide +kernel
theorem dX7_statement_357 : decode cX7_statement 357 = .ok (.iaload, 1) := by decide +kernel
theorem dX7_statement_358 : decode cX7_statement 358 = .ok (.iconst 1, 1) := by decide +kernel
theorem dX7_statement_359 : decode cX7_statement 359 = .ok (.iadd, 1) := by decide +kernel
theorem dX7_statement_360 : decode cX7_statement 360 = .ok (.invokevirtual 244, 3) := by decide +kernel
theorem dX7_statement_363 : decode cX7_statement 363 = .ok (.iconst 1, 1) := by decide +kernel
theorem dX7_statement_364 : decode cX7_statement 364 = .ok (.ireturn, 1) := by decide +kernel
theorem dX7_statement_365 : decode cX7_statement 365 = .ok (.aload_n 0, 1) := by decide +kernel
theorem dX7_statement_366 : decode cX7_statement 366 = .ok (.invokevirtual 208, 3) := by decide +kernel
theorem dX7_statement_369 : decode cX7_statement 369 = .ok (.ireturn, 1) := by decide +kernel
theorem dX7_readAll_0 : decode cX7_readAll 0 = .ok (.aload_n 0, 1) := by decide +kernel
theorem dX7_readAll_1 : decode cX7_readAll 1 = .ok (.iconst 1, 1) := by decide +kernel
theorem dX7_readAll_2 : decode cX7_readAll 2 = .ok (.putfield 248, 3) := by decide +kernel
theorem dX7_readAll_5 : decode cX7_readAll 5 = .ok (.aload_n 0, 1) := by decide +kernel
theorem dX7_readAll_6 : decode cX7_readAll 6 = .ok (.iconst 0, 1) := by decide +kernel
theorem dX7_readAll_7 : decode cX7_readAll 7 = .ok (.putfield 176, 3) := by decide +kernel
theorem dX7_readAll_10 : decode cX7_readAll 10 = .ok (.aload_n 0, 1) := by decide +kernel
theorem dX7_readAll_11 : decode cX7_readAll 11 = .ok (.invokevirtual 212, 3) := by decide +kernel
theorem dX7_readAll_14 : decode cX7_readAll 14 = .ok (.aload_n 0, 1) := by decide +kernel
theorem dX7_readAll_15 : decode cX7_readAll 15 = .ok (.invokevirtual 251, 3) := by decide +kernel
theorem dX7_readAll_18 : decode cX7_readAll 18 = .ok (.ifCond .ne 5, 3) := by decide +kernel
theorem dX7_readAll_21 : decode cX7_readAll 21 = .ok (.iconst 0, 1) := by decide +kernel
theorem dX7_readAll_22 : decode cX7_readAll 22 = .ok (.ireturn, 1) := by decide +kernel
theorem dX7_readAll_23 : decode cX7_readAll 23 = .ok (.aload_n 0, 1) := by decide +kernel
theorem dX7_readAll_24 : decode cX7_readAll 24 = .ok (.getfield 185, 3) := by decide +kernel
theorem dX7_readAll_27 : decode cX7_readAll 27 = .ok (.ifCond .eq 42, 3) := by decide +kernel
theorem dX7_readAll_30 : decode cX7_readAll 30 = .ok (.aload_n 0, 1) := by decide +kernel
theorem dX7_readAll_31 : decode cX7_readAll 31 = .ok (.getfield 185, 3) := by decide +kernel
theorem dX7_readAll_34 : decode cX7_readAll 34 = .ok (.iconst 3, 1) := by decide +kernel
theorem dX7_readAll_35 : decode cX7_readAll 35 = .ok (.if_icmp .eq 8, 3) := by decide +kernel
theorem dX7_readAll_38 : decode cX7_readAll 38 = .ok (.aload_n 0, 1) := by decide +kernel
theorem dX7_readAll_39 : decode cX7_readAll 39 = .ok (.invokevirtual 208, 3) := by decide +kernel
theorem dX7_readAll_42 : decode cX7_readAll 42 = .ok (.ireturn, 1) := by decide +kernel
theorem dX7_readAll_43 : decode cX7_readAll 43 = .ok (.aload_n 0, 1) := by decide +kernel
theorem dX7_readAll_44 : decode cX7_readAll 44 = .ok (.invokevirtual 212, 3) := by decide +kernel
theorem dX7_readAll_47 : decode cX7_readAll 47 = .ok (.aload_n 0, 1) := by decide +kernel
theorem dX7_readAll_48 : decode cX7_readAll 48 = .ok (.invokevirtual 251, 3) := by decide +kernel
theorem dX7_readAll_51 : decode cX7_readAll 51 = .ok (.ifCond .ne 5, 3) := by decide +kernel
theorem dX7_readAll_54 : decode cX7_readAll 54 = .ok (.iconst 0, 1) := by decide +kernel
theorem dX7_readAll_55 : decode cX7_readAll 55 = .ok (.ireturn, 1) := by decide +kernel
theorem dX7_readAll_56 : decode cX7_readAll 56 = .ok (.aload_n 0, 1) := by decide +kernel
theorem dX7_readAll_57 : decode cX7_readAll 57 = .ok (.dup, 1) := by decide +kernel
theorem dX7_readAll_58 : decode cX7_readAll 58 = .ok (.getfield 248, 3) := by decide +kernel
theorem dX7_readAll_61 : decode cX7_readAll 61 = .ok (.iconst 1, 1) := by decide +kernel
theorem dX7_readAll_62 : decode cX7_readAll 62 = .ok (.iadd, 1) := by decide +kernel
theorem dX7_readAll_63 : decode cX7_readAll 63 = .ok (.putfield 248, 3) := by decide +kernel
theorem dX7_readAll_66 : decode cX7_readAll 66 = .ok (.goto (-43), 3) := by decide +kernel
theorem dX7_readAll_69 : decode cX7_readAll 69 = .ok (.iconst 1, 1) := by decide +kernel
theorem dX7_readAll_70 : decode cX7_readAll 70 = .ok (.ireturn, 1) := by decide +kernel
theorem dX7_fresh_0 : decode cX7_fresh 0 = .ok (.aload_n 0, 1) := by decide +kernel
theorem dX7_fresh_1 : decode cX7_fresh 1 = .ok (.getfield 254, 3) := by decide +kernel
theorem dX7_fresh_4 : decode cX7_fresh 4 = .ok (.ifnonnull 14, 3) := by decide +kernel
theorem dX7_fresh_7 : decode cX7_fresh 7 = .ok (.aload_n 0, 1) := by decide +kernel
theorem dX7_fresh_8 : decode cX7_fresh 8 = .ok (.new 8, 3) := by decide +kernel
theorem dX7_fresh_11 : decode cX7_fresh 11 = .ok (.dup, 1) := by decide +kernel
theorem dX7_fresh_12 : decode cX7_fresh 12 = .ok (.invokespecial 258, 3) := by decide +kernel
theorem dX7_fresh_15 : decode cX7_fresh 15 = .ok (.putfield 254, 3) := by decide +kernel
theorem dX7_fresh_18 : decode cX7_fresh 18 = .ok (.aload_n 0, 1) := by decide +kernel
theorem dX7_fresh_19 : decode cX7_fresh 19 = .ok (.getfield 254, 3) := by decide +kernel
theorem dX7_fresh_22 : decode cX7_fresh 22 = .ok (.aload_n 0, 1) := by decide +kernel
theorem dX7_fresh_23 : decode cX7_fresh 23 = .ok (.invokevirtual 259, 3) := by decide +kernel
theorem dX7_fresh_26 : decode cX7_fresh 26 = .ok (.aload_n 0, 1) := by decide +kernel
theorem dX7_fresh_27 : decode cX7_fresh 27 = .ok (.getfield 254, 3) := by decide +kernel
theorem dX7_fresh_30 : decode cX7_fresh 30 = .ok (.areturn, 1) := by decide +kernel
theorem dX7_way_0 : decode cX7_way 0 = .ok (.aload_n 0, 1) := by decide +kernel
theorem dX7_way_1 : decode cX7_way 1 = .ok (.invokevirtual 263, 3) := by decide +kernel
theorem dX7_way_4 : decode cX7_way 4 = .ok (.astore_n 1, 1) := by decide +kernel
theorem dX7_way_5 : decode cX7_way 5 = .ok (.aload_n 0, 1) := by decide +kernel
theorem dX7_way_6 : decode cX7_way 6 = .ok (.invokevirtual 267, 3) := by decide +kernel
theorem dX7_way_9 : decode cX7_way 9 = .ok (.istore_n 2, 1) := by decide +kernel
theorem dX7_way_10 : decode cX7_way 10 = .ok (.aload_n 0, 1) := by decide +kernel
theorem dX7_way_11 : decode cX7_way 11 = .ok (.iconst 0, 1) := by decide +kernel
theorem dX7_way_12 : decode cX7_way 12 = .ok (.putfield 173, 3) := by decide +kernel
theorem dX7_way_15 : decode cX7_way 15 = .ok (.iload_n 2, 1) := by decide +kernel
theorem dX7_way_16 : decode cX7_way 16 = .ok (.ifCond .ne 23, 3) := by decide +kernel
theorem dX7_way_19 : decode cX7_way 19 = .ok (.aload_n 0, 1) := by decide +kernel
theorem dX7_way_20 : decode cX7_way 20 = .ok (.aload_n 1, 1) := by decide +kernel
theorem dX7_way_21 : decode cX7_way 21 = .ok (.invokevirtual 259, 3) := by decide +kernel
theorem dX7_way_24 : decode cX7_way 24 = .ok (.aload_n 0, 1) := by decide +kernel
theorem dX7_way_25 : decode cX7_way 25 = .ok (.bipush (-2), 2) := by decide +kernel
theorem dX7_way_27 : decode cX7_way 27 = .ok (.invokevirtual 107, 3) := by decide +kernel
theorem dX7_way_30 : decode cX7_way 30 = .ok (.pop, 1) := by decide +kernel
theorem dX7_way_31 : decode cX7_way 31 = .ok (.bipush (-20), 2) := by decide +kernel
theorem dX7_way_33 : decode cX7_way 33 = .ok (.aload_n 0, 1) := by decide +kernel
theorem dX7_way_34 : decode cX7_way 34 = .ok (.getfield 196, 3) := by decide +kernel
theorem dX7_way_37 : decode cX7_way 37 = .ok (.isub, 1) := by decide +kernel
theorem dX7_way_38 : decode cX7_way 38 = .ok (.ireturn, 1) := by decide +kernel
theorem dX7_way_39 : decode cX7_way 39 = .ok (.aload_n 0, 1) := by decide +kernel
theorem dX7_way_40 : decode cX7_way 40 = .ok (.getfield 248, 3) := by decide +kernel
theorem dX7_way_43 : decode cX7_way 43 = .ok (.ireturn, 1) := by decide +kernel
theorem dX7_yardsTo_0 : decode cX7_yardsTo 0 = .ok (.iconst 0, 1) := by decide +kernel
theorem dX7_yardsTo_1 : decode cX7_yardsTo 1 = .ok (.istore_n 2, 1) := by decide +kernel
theorem dX7_yardsTo_2 : decode cX7_yardsTo 2 = .ok (.iconst 0, 1) := by decide +kernel
theorem dX7_yardsTo_3 : decode cX7_yardsTo 3 = .ok (.istore_n 3, 1) := by decide +kernel
theorem dX7_yardsTo_4 : decode cX7_yardsTo 4 = .ok (.iload_n 3, 1) := by decide +kernel
theorem dX7_yardsTo_5 : decode cX7_yardsTo 5 = .ok (.iload_n 1, 1) := by decide +kernel
theorem dX7_yardsTo_6 : decode cX7_yardsTo 6 = .ok (.if_icmp .gt 18, 3) := by decide +kernel
theorem dX7_yardsTo_9 : decode cX7_yardsTo 9 = .ok (.iload_n 2, 1) := by decide +kernel
theorem dX7_yardsTo_10 : decode cX7_yardsTo 10 = .ok (.aload_n 0, 1) := by decide +kernel
theorem dX7_yardsTo_11 : decode cX7_yardsTo 11 = .ok (.getfield 43, 3) := by decide +kernel
theorem dX7_yardsTo_14 : decode cX7_yardsTo 14 = .ok (.iload_n 3, 1) := by decide +kernel
theorem dX7_yardsTo_15 : decode cX7_yardsTo 15 = .ok (.iaload, 1) := by decide +kernel
theorem dX7_yardsTo_16 : decode cX7_yardsTo 16 = .ok (.iadd, 1) := by decide +kernel
theorem dX7_yardsTo_17 : decode cX7_yardsTo 17 = .ok (.istore_n 2, 1) := by decide +kernel
theorem dX7_yardsTo_18 : decode cX7_yardsTo 18 = .ok (.iinc 3 1, 3) := by decide +kernel
theorem dX7_yardsTo_21 : decode cX7_yardsTo 21 = .ok (.goto (-17), 3) := by decide +kernel
theorem dX7_yardsTo_24 : decode cX7_yardsTo 24 = .ok (.iload_n 2, 1) := by decide +kernel
theorem dX7_yardsTo_25 : decode cX7_yardsTo 25 = .ok (.ireturn, 1) := by decide +kernel
theorem dX7_bendOf_0 : decode cX7_bendOf 0 = .ok (.aload_n 0, 1) := by decide +kernel
theorem dX7_bendOf_1 : decode cX7_bendOf 1 = .ok (.iload_n 1, 1) := by decide +kernel
theorem dX7_bendOf_2 : decode cX7_bendOf 2 = .ok (.i2l, 1) := by decide +kernel
theorem dX7_bendOf_3 : decode cX7_bendOf 3 = .ok (.invokevirtual 118, 3) := by decide +kernel
theorem dX7_bendOf_6 : decode cX7_bendOf 6 = .ok (.ifCond .ne 10, 3) := by decide +kernel
theorem dX7_bendOf_9 : decode cX7_bendOf 9 = .ok (.aload_n 0, 1) := by decide +kernel
theorem dX7_bendOf_10 : decode cX7_bendOf 10 = .ok (.bipush (-2), 2) := by decide +kernel
theorem dX7_bendOf_12 : decode cX7_bendOf 12 = .ok (.invokevirtual 107, 3) := by decide +kernel
theorem dX7_bendOf_15 : decode cX7_bendOf 15 = .ok (.ireturn, 1) := by decide +kernel
theorem dX7_bendOf_16 : decode cX7_bendOf 16 = .ok (.iload_n 2, 1) := by decide +kernel
theorem dX7_bendOf_17 : decode cX7_bendOf 17 = .ok (.tableswitch 94 0 6 #[43, 50, 57, 64, 71, 78, 88], 43) := by decide +kernel
theorem dX7_bendOf_60 : decode cX7_bendOf 60 = .ok (.aload_n 0, 1) := by decide +kernel
theorem dX7_bendOf_61 : decode cX7_bendOf 61 = .ok (.getfield 37, 3) := by decide +kernel
theorem dX7_bendOf_64 : decode cX7_bendOf 64 = .ok (.iload_n 1, 1) := by decide +kernel
theorem dX7_bendOf_65 : decode cX7_bendOf 65 = .ok (.iaload, 1) := by decide +kernel
theorem dX7_bendOf_66 : decode cX7_bendOf 66 = .ok (.ireturn, 1) := by decide +kernel
theorem dX7_bendOf_67 : decode cX7_bendOf 67 = .ok (.aload_n 0, 1) := by decide +kernel
theorem dX7_bendOf_68 : decode cX7_bendOf 68 = .ok (.getfield 40, 3) := by decide +kernel
theorem dX7_bendOf_71 : decode cX7_bendOf 71 = .ok (.iload_n 1, 1) := by decide +kernel
theorem dX7_bendOf_72 : decode cX7_bendOf 72 = .ok (.iaload, 1) := by decide +kernel
theorem dX7_bendOf_73 : decode cX7_bendOf 73 = .ok (.ireturn, 1) := by decide +kernel
theorem dX7_bendOf_74 : decode cX7_bendOf 74 = .ok (.aload_n 0, 1) := by decide +kernel
theorem dX7_bendOf_75 : decode cX7_bendOf 75 = .ok (.getfield 43, 3) := by decide +kernel
theorem dX7_bendOf_78 : decode cX7_bendOf 78 = .ok (.iload_n 1, 1) := by decide +kernel
theorem dX7_bendOf_79 : decode cX7_bendOf 79 = .ok (.iaload, 1) := by decide +kernel
theorem dX7_bendOf_80 : decode cX7_bendOf 80 = .ok (.ireturn, 1) := by decide +kernel
theorem dX7_bendOf_81 : decode cX7_bendOf 81 = .ok (.aload_n 0, 1) := by decide +kernel
theorem dX7_bendOf_82 : decode cX7_bendOf 82 = .ok (.getfield 46, 3) := by decide +kernel
theorem dX7_bendOf_85 : decode cX7_bendOf 85 = .ok (.iload_n 1, 1) := by decide +kernel
theorem dX7_bendOf_86 : decode cX7_bendOf 86 = .ok (.iaload, 1) := by decide +kernel
theorem dX7_bendOf_87 : decode cX7_bendOf 87 = .ok (.ireturn, 1) := by decide +kernel
theorem dX7_bendOf_88 : decode cX7_bendOf 88 = .ok (.aload_n 0, 1) := by decide +kernel
theorem dX7_bendOf_89 : decode cX7_bendOf 89 = .ok (.getfield 49, 3) := by decide +kernel
theorem dX7_bendOf_92 : decode cX7_bendOf 92 = .ok (.iload_n 1, 1) := by decide +kernel
theorem dX7_bendOf_93 : decode cX7_bendOf 93 = .ok (.iaload, 1) := by decide +kernel
theorem dX7_bendOf_94 : decode cX7_bendOf 94 = .ok (.ireturn, 1) := by decide +kernel
theorem dX7_bendOf_95 : decode cX7_bendOf 95 = .ok (.aload_n 0, 1) := by decide +kernel
theorem dX7_bendOf_96 : decode cX7_bendOf 96 = .ok (.iload_n 1, 1) := by decide +kernel
theorem dX7_bendOf_97 : decode cX7_bendOf 97 = .ok (.aload_n 0, 1) := by decide +kernel
theorem dX7_bendOf_98 : decode cX7_bendOf 98 = .ok (.getfield 70, 3) := by decide +kernel
theorem dX7_bendOf_101 : decode cX7_bendOf 101 = .ok (.invokevirtual 128, 3) := by decide +kernel
theorem dX7_bendOf_104 : decode cX7_bendOf 104 = .ok (.ireturn, 1) := by decide +kernel
theorem dX7_bendOf_105 : decode cX7_bendOf 105 = .ok (.aload_n 0, 1) := by decide +kernel
theorem dX7_bendOf_106 : decode cX7_bendOf 106 = .ok (.iload_n 1, 1) := by decide +kernel
theorem dX7_bendOf_107 : decode cX7_bendOf 107 = .ok (.invokevirtual 270, 3) := by decide +kernel
theorem dX7_bendOf_110 : decode cX7_bendOf 110 = .ok (.ireturn, 1) := by decide +kernel
theorem dX7_bendOf_111 : decode cX7_bendOf 111 = .ok (.aload_n 0, 1) := by decide +kernel
theorem dX7_bendOf_112 : decode cX7_bendOf 112 = .ok (.bipush (-2), 2) := by decide +kernel
theorem dX7_bendOf_114 : decode cX7_bendOf 114 = .ok (.invokevirtual 107, 3) := by decide +kernel
theorem dX7_bendOf_117 : decode cX7_bendOf 117 = .ok (.ireturn, 1) := by decide +kernel
theorem dX7_signOf_0 : decode cX7_signOf 0 = .ok (.iload_n 1, 1) := by decide +kernel
theorem dX7_signOf_1 : decode cX7_signOf 1 = .ok (.i2l, 1) := by decide +kernel
theorem dX7_signOf_2 : decode cX7_signOf 2 = .ok (.lconst 0, 1) := by decide +kernel
theorem dX7_signOf_3 : decode cX7_signOf 3 = .ok (.aload_n 0, 1) := by decide +kernel
theorem dX7_signOf_4 : decode cX7_signOf 4 = .ok (.getfield 150, 3) := by decide +kernel
theorem dX7_signOf_7 : decode cX7_signOf 7 = .ok (.iconst 1, 1) := by decide +kernel
theorem dX7_signOf_8 : decode cX7_signOf 8 = .ok (.isub, 1) := by decide +kernel
theorem dX7_signOf_9 : decode cX7_signOf 9 = .ok (.i2l, 1) := by decide +kernel
theorem dX7_signOf_10 : decode cX7_signOf 10 = .ok (.invokestatic 97, 3) := by decide +kernel
theorem dX7_signOf_13 : decode cX7_signOf 13 = .ok (.ifCond .eq 15, 3) := by decide +kernel
theorem dX7_signOf_16 : decode cX7_signOf 16 = .ok (.iload_n 2, 1) := by decide +kernel
theorem dX7_signOf_17 : decode cX7_signOf 17 = .ok (.i2l, 1) := by decide +kernel
theorem dX7_signOf_18 : decode cX7_signOf 18 = .ok (.lconst 0, 1) := by decide +kernel
theorem dX7_signOf_19 : decode cX7_signOf 19 = .ok (.ldc2_w 273, 3) := by decide +kernel
theorem dX7_signOf_22 : decode cX7_signOf 22 = .ok (.invokestatic 97, 3) := by decide +kernel
theorem dX7_signOf_25 : decode cX7_signOf 25 = .ok (.ifCond .ne 10, 3) := by decide +kernel
theorem dX7_signOf_28 : decode cX7_signOf 28 = .ok (.aload_n 0, 1) := by decide +kernel
theorem dX7_signOf_29 : decode cX7_signOf 29 = .ok (.bipush (-2), 2) := by decide +kernel
theorem dX7_signOf_31 : decode cX7_signOf 31 = .ok (.invokevirtual 107, 3) := by decide +kernel
theorem dX7_signOf_34 : decode cX7_signOf 34 = .ok (.ireturn, 1) := by decide +kernel
theorem dX7_signOf_35 : decode cX7_signOf 35 = .ok (.iload_n 2, 1) := by decide +kernel
theorem dX7_signOf_36 : decode cX7_signOf 36 = .ok (.ifCond .ne 12, 3) := by decide +kernel
theorem dX7_signOf_39 : decode cX7_signOf 39 = .ok (.aload_n 0, 1) := by decide +kernel
theorem dX7_signOf_40 : decode cX7_signOf 40 = .ok (.getfield 52, 3) := by decide +kernel
theorem dX7_signOf_43 : decode cX7_signOf 43 = .ok (.iload_n 1, 1) := by decide +kernel
theorem dX7_signOf_44 : decode cX7_signOf 44 = .ok (.iaload, 1) := by decide +kernel
theorem dX7_signOf_45 : decode cX7_signOf 45 = .ok (.goto 23, 3) := by decide +kernel
theorem dX7_signOf_48 : decode cX7_signOf 48 = .ok (.iload_n 2, 1) := by decide +kernel
theorem dX7_signOf_49 : decode cX7_signOf 49 = .ok (.iconst 1, 1) := by decide +kernel
theorem dX7_signOf_50 : decode cX7_signOf 50 = .ok (.if_icmp .ne 12, 3) := by decide +kernel
theorem dX7_signOf_53 : decode cX7_signOf 53 = .ok (.aload_n 0, 1) := by decide +kernel
theorem dX7_signOf_54 : decode cX7_signOf 54 = .ok (.getfield 55, 3) := by decide +kernel
theorem dX7_signOf_57 : decode cX7_signOf 57 = .ok (.iload_n 1, 1) := by decide +kernel
theorem dX7_signOf_58 : decode cX7_signOf 58 = .ok (.iaload, 1) := by decide +kernel
theorem dX7_signOf_59 : decode cX7_signOf 59 = .ok (.goto 9, 3) := by decide +kernel
theorem dX7_signOf_62 : decode cX7_signOf 62 = .ok (.aload_n 0, 1) := by decide +kernel
theorem dX7_signOf_63 : decode cX7_signOf 63 = .ok (.getfield 58, 3) := by decide +kernel
theorem dX7_signOf_66 : decode cX7_signOf 66 = .ok (.iload_n 1, 1) := by decide +kernel
theorem dX7_signOf_67 : decode cX7_signOf 67 = .ok (.iaload, 1) := by decide +kernel
theorem dX7_signOf_68 : decode cX7_signOf 68 = .ok (.ireturn, 1) := by decide +kernel
theorem dX7_callOf_0 : decode cX7_callOf 0 = .ok (.iload_n 1, 1) := by decide +kernel
theorem dX7_callOf_1 : decode cX7_callOf 1 = .ok (.i2l, 1) := by decide +kernel
theorem dX7_callOf_2 : decode cX7_callOf 2 = .ok (.lconst 0, 1) := by decide +kernel
theorem dX7_callOf_3 : decode cX7_callOf 3 = .ok (.aload_n 0, 1) := by decide +kernel
theorem dX7_callOf_4 : decode cX7_callOf 4 = .ok (.getfield 163, 3) := by decide +kernel
theorem dX7_callOf_7 : decode cX7_callOf 7 = .ok (.iconst 1, 1) := by decide +kernel
theorem dX7_callOf_8 : decode cX7_callOf 8 = .ok (.isub, 1) := by decide +kernel
theorem dX7_callOf_9 : decode cX7_callOf 9 = .ok (.i2l, 1) := by decide +kernel
theorem dX7_callOf_10 : decode cX7_callOf 10 = .ok (.invokestatic 97, 3) := by decide +kernel
theorem dX7_callOf_13 : decode cX7_callOf 13 = .ok (.ifCond .eq 15, 3) := by decide +kernel
theorem dX7_callOf_16 : decode cX7_callOf 16 = .ok (.iload_n 2, 1) := by decide +kernel
theorem dX7_callOf_17 : decode cX7_callOf 17 = .ok (.i2l, 1) := by decide +kernel
theorem dX7_callOf_18 : decode cX7_callOf 18 = .ok (.lconst 0, 1) := by decide +kernel
theorem dX7_callOf_19 : decode cX7_callOf 19 = .ok (.ldc2_w 273, 3) := by decide +kernel
theorem dX7_callOf_22 : decode cX7_callOf 22 = .ok (.invokestatic 97, 3) := by decide +kernel
theorem dX7_callOf_25 : decode cX7_callOf 25 = .ok (.ifCond .ne 10, 3) := by decide +kernel
theorem dX7_callOf_28 : decode cX7_callOf 28 = .ok (.aload_n 0, 1) := by decide +kernel
theorem dX7_callOf_29 : decode cX7_callOf 29 = .ok (.bipush (-2), 2) := by decide +kernel
theorem dX7_callOf_31 : decode cX7_callOf 31 = .ok (.invokevirtual 107, 3) := by decide +kernel
theorem dX7_callOf_34 : decode cX7_callOf 34 = .ok (.ireturn, 1) := by decide +kernel
theorem dX7_callOf_35 : decode cX7_callOf 35 = .ok (.iload_n 2, 1) := by decide +kernel
theorem dX7_callOf_36 : decode cX7_callOf 36 = .ok (.ifCond .ne 12, 3) := by decide +kernel
theorem dX7_callOf_39 : decode cX7_callOf 39 = .ok (.aload_n 0, 1) := by decide +kernel
theorem dX7_callOf_40 : decode cX7_callOf 40 = .ok (.getfield 61, 3) := by decide +kernel
theorem dX7_callOf_43 : decode cX7_callOf 43 = .ok (.iload_n 1, 1) := by decide +kernel
theorem dX7_callOf_44 : decode cX7_callOf 44 = .ok (.iaload, 1) := by decide +kernel
theorem dX7_callOf_45 : decode cX7_callOf 45 = .ok (.goto 23, 3) := by decide +kernel
theorem dX7_callOf_48 : decode cX7_callOf 48 = .ok (.iload_n 2, 1) := by decide +kernel
theorem dX7_callOf_49 : decode cX7_callOf 49 = .ok (.iconst 1, 1) := by decide +kernel
theorem dX7_callOf_50 : decode cX7_callOf 50 = .ok (.if_icmp .ne 12, 3) := by decide +kernel
theorem dX7_callOf_53 : decode cX7_callOf 53 = .ok (.aload_n 0, 1) := by decide +kernel
theorem dX7_callOf_54 : decode cX7_callOf 54 = .ok (.getfield 64, 3) := by decide +kernel
theorem dX7_callOf_57 : decode cX7_callOf 57 = .ok (.iload_n 1, 1) := by decide +kernel
theorem dX7_callOf_58 : decode cX7_callOf 58 = .ok (.iaload, 1) := by decide +kernel
theorem dX7_callOf_59 : decode cX7_callOf 59 = .ok (.goto 9, 3) := by decide +kernel
theorem dX7_callOf_62 : decode cX7_callOf 62 = .ok (.aload_n 0, 1) := by decide +kernel
theorem dX7_callOf_63 : decode cX7_callOf 63 = .ok (.getfield 67, 3) := by decide +kernel
theorem dX7_callOf_66 : decode cX7_callOf 66 = .ok (.iload_n 1, 1) := by decide +kernel
theorem dX7_callOf_67 : decode cX7_callOf 67 = .ok (.iaload, 1) := by decide +kernel
theorem dX7_callOf_68 : decode cX7_callOf 68 = .ok (.ireturn, 1) := by decide +kernel
theorem dX7_fallOf_0 : decode cX7_fallOf 0 = .ok (.aload_n 0, 1) := by decide +kernel
theorem dX7_fallOf_1 : decode cX7_fallOf 1 = .ok (.getfield 40, 3) := by decide +kernel
theorem dX7_fallOf_4 : decode cX7_fallOf 4 = .ok (.iload_n 1, 1) := by decide +kernel
theorem dX7_fallOf_5 : decode cX7_fallOf 5 = .ok (.iaload, 1) := by decide +kernel
theorem dX7_fallOf_6 : decode cX7_fallOf 6 = .ok (.iload_n 2, 1) := by decide +kernel
theorem dX7_fallOf_7 : decode cX7_fallOf 7 = .ok (.imul, 1) := by decide +kernel
theorem dX7_fallOf_8 : decode cX7_fallOf 8 = .ok (.istore_n 3, 1) := by decide +kernel
theorem dX7_fallOf_9 : decode cX7_fallOf 9 = .ok (.aload_n 0, 1) := by decide +kernel
theorem dX7_fallOf_10 : decode cX7_fallOf 10 = .ok (.getfield 144, 3) := by decide +kernel
theorem dX7_fallOf_13 : decode cX7_fallOf 13 = .ok (.iconst 1, 1) := by decide +kernel
theorem dX7_fallOf_14 : decode cX7_fallOf 14 = .ok (.if_icmp .ne 8, 3) := by decide +kernel
theorem dX7_fallOf_17 : decode cX7_fallOf 17 = .ok (.bipush 20, 2) := by decide +kernel
theorem dX7_fallOf_19 : decode cX7_fallOf 19 = .ok (.goto 4, 3) := by decide +kernel
theorem dX7_fallOf_22 : decode cX7_fallOf 22 = .ok (.iconst 0, 1) := by decide +kernel
theorem dX7_fallOf_23 : decode cX7_fallOf 23 = .ok (.istore 4, 2) := by decide +kernel
theorem dX7_fallOf_25 : decode cX7_fallOf 25 = .ok (.aload_n 0, 1) := by decide +kernel
theorem dX7_fallOf_26 : decode cX7_fallOf 26 = .ok (.getfield 37, 3) := by decide +kernel
theorem dX7_fallOf_29 : decode cX7_fallOf 29 = .ok (.iload_n 1, 1) := by decide +kernel
theorem dX7_fallOf_30 : decode cX7_fallOf 30 = .ok (.iaload, 1) := by decide +kernel
theorem dX7_fallOf_31 : decode cX7_fallOf 31 = .ok (.tableswitch 84 1 5 #[33, 55, 43, 64, 73], 33) := by decide +kernel
theorem dX7_fallOf_64 : decode cX7_fallOf 64 = .ok (.iload_n 3, 1) := by decide +kernel
theorem dX7_fallOf_65 : decode cX7_fallOf 65 = .ok (.iload_n 2, 1) := by decide +kernel
theorem dX7_fallOf_66 : decode cX7_fallOf 66 = .ok (.iload_n 2, 1) := by decide +kernel
theorem dX7_fallOf_67 : decode cX7_fallOf 67 = .ok (.imul, 1) := by decide +kernel
theorem dX7_fallOf_68 : decode cX7_fallOf 68 = .ok (.iadd, 1) := by decide +kernel
theorem dX7_fallOf_69 : decode cX7_fallOf 69 = .ok (.istore 5, 2) := by decide +kernel
theorem dX7_fallOf_71 : decode cX7_fallOf 71 = .ok (.goto 47, 3) := by decide +kernel
theorem dX7_fallOf_74 : decode cX7_fallOf 74 = .ok (.iconst 2, 1) := by decide +kernel
theorem dX7_fallOf_75 : decode cX7_fallOf 75 = .ok (.iload_n 3, 1) := by decide +kernel
theorem dX7_fallOf_76 : decode cX7_fallOf 76 = .ok (.iload_n 2, 1) := by decide +kernel
theorem dX7_fallOf_77 : decode cX7_fallOf 77 = .ok (.iload_n 2, 1) := by decide +kernel
theorem dX7_fallOf_78 : decode cX7_fallOf 78 = .ok (.imul, 1) := by decide +kernel
theorem dX7_fallOf_79 : decode cX7_fallOf 79 = .ok (.iadd, 1) := by decide +kernel
theorem dX7_fallOf_80 : decode cX7_fallOf 80 = .ok (.imul, 1) := by decide +kernel
theorem dX7_fallOf_81 : decode cX7_fallOf 81 = .ok (.istore 5, 2) := by decide +kernel
theorem dX7_fallOf_83 : decode cX7_fallOf 83 = .ok (.goto 35, 3) := by decide +kernel
theorem dX7_fallOf_86 : decode cX7_fallOf 86 = .ok (.bipush 10, 2) := by decide +kernel
theorem dX7_fallOf_88 : decode cX7_fallOf 88 = .ok (.iload_n 3, 1) := by decide +kernel
theorem dX7_fallOf_89 : decode cX7_fallOf 89 = .ok (.iadd, 1) := by decide +kernel
theorem dX7_fallOf_90 : decode cX7_fallOf 90 = .ok (.istore 5, 2) := by decide +kernel
theorem dX7_fallOf_92 : decode cX7_fallOf 92 = .ok (.goto 26, 3) := by decide +kernel
theorem dX7_fallOf_95 : decode cX7_fallOf 95 = .ok (.bipush 30, 2) := by decide +kernel
theorem dX7_fallOf_97 : decode cX7_fallOf 97 = .ok (.iload_n 3, 1) := by decide +kernel
theorem dX7_fallOf_98 : decode cX7_fallOf 98 = .ok (.iadd, 1) := by decide +kernel
theorem dX7_fallOf_99 : decode cX7_fallOf 99 = .ok (.istore 5, 2) := by decide +kernel
theorem dX7_fallOf_101 : decode cX7_fallOf 101 = .ok (.goto 17, 3) := by decide +kernel
theorem dX7_fallOf_104 : decode cX7_fallOf 104 = .ok (.aload_n 0, 1) := by decide +kernel
theorem dX7_fallOf_105 : decode cX7_fallOf 105 = .ok (.getfield 40, 3) := by decide +kernel
theorem dX7_fallOf_108 : decode cX7_fallOf 108 = .ok (.iload_n 1, 1) := by decide +kernel
theorem dX7_fallOf_109 : decode cX7_fallOf 109 = .ok (.iaload, 1) := by decide +kernel
theorem dX7_fallOf_110 : decode cX7_fallOf 110 = .ok (.istore 5, 2) := by decide +kernel
theorem dX7_fallOf_112 : decode cX7_fallOf 112 = .ok (.goto 6, 3) := by decide +kernel
theorem dX7_fallOf_115 : decode cX7_fallOf 115 = .ok (.iload_n 3, 1) := by decide +kernel
theorem dX7_fallOf_116 : decode cX7_fallOf 116 = .ok (.istore 5, 2) := by decide +kernel
theorem dX7_fallOf_118 : decode cX7_fallOf 118 = .ok (.iload 5, 2) := by decide +kernel
theorem dX7_fallOf_120 : decode cX7_fallOf 120 = .ok (.iload 4, 2) := by decide +kernel
theorem dX7_fallOf_122 : decode cX7_fallOf 122 = .ok (.iadd, 1) := by decide +kernel
theorem dX7_fallOf_123 : decode cX7_fallOf 123 = .ok (.bipush 10, 2) := by decide +kernel
theorem dX7_fallOf_125 : decode cX7_fallOf 125 = .ok (.aload_n 0, 1) := by decide +kernel
theorem dX7_fallOf_126 : decode cX7_fallOf 126 = .ok (.getfield 147, 3) := by decide +kernel
theorem dX7_fallOf_129 : decode cX7_fallOf 129 = .ok (.isub, 1) := by decide +kernel
theorem dX7_fallOf_130 : decode cX7_fallOf 130 = .ok (.imul, 1) := by decide +kernel
theorem dX7_fallOf_131 : decode cX7_fallOf 131 = .ok (.bipush 10, 2) := by decide +kernel
theorem dX7_fallOf_133 : decode cX7_fallOf 133 = .ok (.idiv, 1) := by decide +kernel
theorem dX7_fallOf_134 : decode cX7_fallOf 134 = .ok (.ireturn, 1) := by decide +kernel
theorem dX7_fall_0 : decode cX7_fall 0 = .ok (.aload_n 0, 1) := by decide +kernel
theorem dX7_fall_1 : decode cX7_fall 1 = .ok (.iload_n 1, 1) := by decide +kernel
theorem dX7_fall_2 : decode cX7_fall 2 = .ok (.i2l, 1) := by decide +kernel
theorem dX7_fall_3 : decode cX7_fall 3 = .ok (.invokevirtual 118, 3) := by decide +kernel
theorem dX7_fall_6 : decode cX7_fall 6 = .ok (.ifCond .eq 24, 3) := by decide +kernel
theorem dX7_fall_9 : decode cX7_fall 9 = .ok (.iload_n 2, 1) := by decide +kernel
theorem dX7_fall_10 : decode cX7_fall 10 = .ok (.i2l, 1) := by decide +kernel
theorem dX7_fall_11 : decode cX7_fall 11 = .ok (.lconst 1, 1) := by decide +kernel
theorem dX7_fall_12 : decode cX7_fall 12 = .ok (.ldc2_w 132, 3) := by decide +kernel
theorem dX7_fall_15 : decode cX7_fall 15 = .ok (.invokestatic 97, 3) := by decide +kernel
theorem dX7_fall_18 : decode cX7_fall 18 = .ok (.ifCond .eq 12, 3) := by decide +kernel
theorem dX7_fall_21 : decode cX7_fall 21 = .ok (.aload_n 0, 1) := by decide +kernel
theorem dX7_fall_22 : decode cX7_fall 22 = .ok (.iload_n 1, 1) := by decide +kernel
theorem dX7_fall_23 : decode cX7_fall 23 = .ok (.iload_n 2, 1) := by decide +kernel
theorem dX7_fall_24 : decode cX7_fall 24 = .ok (.invokevirtual 128, 3) := by decide +kernel
theorem dX7_fall_27 : decode cX7_fall 27 = .ok (.goto 9, 3) := by decide +kernel
theorem dX7_fall_30 : decode cX7_fall 30 = .ok (.aload_n 0, 1) := by decide +kernel
theorem dX7_fall_31 : decode cX7_fall 31 = .ok (.bipush (-2), 2) := by decide +kernel
theorem dX7_fall_33 : decode cX7_fall 33 = .ok (.invokevirtual 107, 3) := by decide +kernel
theorem dX7_fall_36 : decode cX7_fall 36 = .ok (.ireturn, 1) := by decide +kernel
theorem dX7_goes_0 : decode cX7_goes 0 = .ok (.aload_n 0, 1) := by decide +kernel
theorem dX7_goes_1 : decode cX7_goes 1 = .ok (.ldc_w 275, 3) := by decide +kernel
theorem dX7_goes_4 : decode cX7_goes 4 = .ok (.putfield 276, 3) := by decide +kernel
theorem dX7_goes_7 : decode cX7_goes 7 = .ok (.iconst 0, 1) := by decide +kernel
theorem dX7_goes_8 : decode cX7_goes 8 = .ok (.istore 4, 2) := by decide +kernel
theorem dX7_goes_10 : decode cX7_goes 10 = .ok (.iload 4, 2) := by decide +kernel
theorem dX7_goes_12 : decode cX7_goes 12 = .ok (.aload_n 0, 1) := by decide +kernel
theorem dX7_goes_13 : decode cX7_goes 13 = .ok (.getfield 94, 3) := by decide +kernel
theorem dX7_goes_16 : decode cX7_goes 16 = .ok (.if_icmp .ge 78, 3) := by decide +kernel
theorem dX7_goes_19 : decode cX7_goes 19 = .ok (.iload 4, 2) := by decide +kernel
theorem dX7_goes_21 : decode cX7_goes 21 = .ok (.iload_n 3, 1) := by decide +kernel
theorem dX7_goes_22 : decode cX7_goes 22 = .ok (.if_icmp .ne 7, 3) := by decide +kernel
theorem dX7_goes_25 : decode cX7_goes 25 = .ok (.iconst 0, 1) := by decide +kernel
theorem dX7_goes_26 : decode cX7_goes 26 = .ok (.goto 23, 3) := by decide +kernel
theorem dX7_goes_29 : decode cX7_goes 29 = .ok (.aload_n 0, 1) := by decide +kernel
theorem dX7_goes_30 : decode cX7_goes 30 = .ok (.iload 4, 2) := by decide +kernel
theorem dX7_goes_32 : decode cX7_goes 32 = .ok (.iload_n 2, 1) := by decide +kernel
theorem dX7_goes_33 : decode cX7_goes 33 = .ok (.iload 4, 2) := by decide +kernel
theorem dX7_goes_35 : decode cX7_goes 35 = .ok (.invokestatic 279, 3) := by decide +kernel
theorem dX7_goes_38 : decode cX7_goes 38 = .ok (.ifCond .eq 7, 3) := by decide +kernel
theorem dX7_goes_41 : decode cX7_goes 41 = .ok (.iconst 1, 1) := by decide +kernel
theorem dX7_goes_42 : decode cX7_goes 42 = .ok (.goto 4, 3) := by decide +kernel
theorem dX7_goes_45 : decode cX7_goes 45 = .ok (.iload_n 1, 1) := by decide +kernel
theorem dX7_goes_46 : decode cX7_goes 46 = .ok (.invokevirtual 128, 3) := by decide +kernel
theorem dX7_goes_49 : decode cX7_goes 49 = .ok (.istore 5, 2) := by decide +kernel
theorem dX7_goes_51 : decode cX7_goes 51 = .ok (.aload_n 0, 1) := by decide +kernel
theorem dX7_goes_52 : decode cX7_goes 52 = .ok (.getfield 83, 3) := by decide +kernel
theorem dX7_goes_55 : decode cX7_goes 55 = .ok (.iload 4, 2) := by decide +kernel
theorem dX7_goes_57 : decode cX7_goes 57 = .ok (.aload_n 0, 1) := by decide +kernel
theorem dX7_goes_58 : decode cX7_goes 58 = .ok (.getfield 276, 3) := by decide +kernel
theorem dX7_goes_61 : decode cX7_goes 61 = .ok (.i2l, 1) := by decide +kernel
theorem dX7_goes_62 : decode cX7_goes 62 = .ok (.iload 5, 2) := by decide +kernel
theorem dX7_goes_64 : decode cX7_goes 64 = .ok (.i2l, 1) := by decide +kernel
theorem dX7_goes_65 : decode cX7_goes 65 = .ok (.lmul, 1) := by decide +kernel
theorem dX7_goes_66 : decode cX7_goes 66 = .ok (.ldc2_w 136, 3) := by decide +kernel
theorem dX7_goes_69 : decode cX7_goes 69 = .ok (.ldiv, 1) := by decide +kernel
theorem dX7_goes_70 : decode cX7_goes 70 = .ok (.l2i, 1) := by decide +kernel
theorem dX7_goes_71 : decode cX7_goes 71 = .ok (.iastore, 1) := by decide +kernel
theorem dX7_goes_72 : decode cX7_goes 72 = .ok (.aload_n 0, 1) := by decide +kernel
theorem dX7_goes_73 : decode cX7_goes 73 = .ok (.dup, 1) := by decide +kernel
theorem dX7_goes_74 : decode cX7_goes 74 = .ok (.getfield 276, 3) := by decide +kernel
theorem dX7_goes_77 : decode cX7_goes 77 = .ok (.aload_n 0, 1) := by decide +kernel
theorem dX7_goes_78 : decode cX7_goes 78 = .ok (.getfield 83, 3) := by decide +kernel
theorem dX7_goes_81 : decode cX7_goes 81 = .ok (.iload 4, 2) := by decide +kernel
theorem dX7_goes_83 : decode cX7_goes 83 = .ok (.iaload, 1) := by decide +kernel
theorem dX7_goes_84 : decode cX7_goes 84 = .ok (.isub, 1) := by decide +kernel
theorem dX7_goes_85 : decode cX7_goes 85 = .ok (.putfield 276, 3) := by decide +kernel
theorem dX7_goes_88 : decode cX7_goes 88 = .ok (.iinc 4 1, 3) := by decide +kernel
theorem dX7_goes_91 : decode cX7_goes 91 = .ok (.goto (-81), 3) := by decide +kernel
theorem dX7_goes_94 : decode cX7_goes 94 = .ok (.return_, 1) := by decide +kernel
theorem dX7_heldBy_0 : decode cX7_heldBy 0 = .ok (.aload_n 0, 1) := by decide +kernel
theorem dX7_heldBy_1 : decode cX7_heldBy 1 = .ok (.iload_n 1, 1) := by decide +kernel
theorem dX7_heldBy_2 : decode cX7_heldBy 2 = .ok (.iconst 0, 1) := by decide +kernel
theorem dX7_heldBy_3 : decode cX7_heldBy 3 = .ok (.iconst (-1), 1) := by decide +kernel
theorem dX7_heldBy_4 : decode cX7_heldBy 4 = .ok (.invokevirtual 282, 3) := by decide +kernel
theorem dX7_heldBy_7 : decode cX7_heldBy 7 = .ok (.aload_n 0, 1) := by decide +kernel
theorem dX7_heldBy_8 : decode cX7_heldBy 8 = .ok (.getfield 276, 3) := by decide +kernel
theorem dX7_heldBy_11 : decode cX7_heldBy 11 = .ok (.ireturn, 1) := by decide +kernel
theorem dX7_fell_0 : decode cX7_fell 0 = .ok (.iload_n 1, 1) := by decide +kernel
theorem dX7_fell_1 : decode cX7_fell 1 = .ok (.iconst (-1), 1) := by decide +kernel
theorem dX7_fell_2 : decode cX7_fell 2 = .ok (.if_icmp .eq 12, 3) := by decide +kernel
theorem dX7_fell_5 : decode cX7_fell 5 = .ok (.aload_n 0, 1) := by decide +kernel
theorem dX7_fell_6 : decode cX7_fell 6 = .ok (.iload_n 1, 1) := by decide +kernel
theorem dX7_fell_7 : decode cX7_fell 7 = .ok (.i2l, 1) := by decide +kernel
theorem dX7_fell_8 : decode cX7_fell 8 = .ok (.invokevirtual 118, 3) := by decide +kernel
theorem dX7_fell_11 : decode cX7_fell 11 = .ok (.ifCond .eq 15, 3) := by decide +kernel
theorem dX7_fell_14 : decode cX7_fell 14 = .ok (.iload_n 2, 1) := by decide +kernel
theorem dX7_fell_15 : decode cX7_fell 15 = .ok (.i2l, 1) := by decide +kernel
theorem dX7_fell_16 : decode cX7_fell 16 = .ok (.lconst 1, 1) := by decide +kernel
theorem dX7_fell_17 : decode cX7_fell 17 = .ok (.ldc2_w 132, 3) := by decide +kernel
theorem dX7_fell_20 : decode cX7_fell 20 = .ok (.invokestatic 97, 3) := by decide +kernel
theorem dX7_fell_23 : decode cX7_fell 23 = .ok (.ifCond .ne 10, 3) := by decide +kernel
theorem dX7_fell_26 : decode cX7_fell 26 = .ok (.aload_n 0, 1) := by decide +kernel
theorem dX7_fell_27 : decode cX7_fell 27 = .ok (.bipush (-2), 2) := by decide +kernel
theorem dX7_fell_29 : decode cX7_fell 29 = .ok (.invokevirtual 107, 3) := by decide +kernel
theorem dX7_fell_32 : decode cX7_fell 32 = .ok (.ireturn, 1) := by decide +kernel
theorem dX7_fell_33 : decode cX7_fell 33 = .ok (.aload_n 0, 1) := by decide +kernel
theorem dX7_fell_34 : decode cX7_fell 34 = .ok (.iload_n 2, 1) := by decide +kernel
theorem dX7_fell_35 : decode cX7_fell 35 = .ok (.iconst 0, 1) := by decide +kernel
theorem dX7_fell_36 : decode cX7_fell 36 = .ok (.iconst (-1), 1) := by decide +kernel
theorem dX7_fell_37 : decode cX7_fell 37 = .ok (.invokevirtual 282, 3) := by decide +kernel
theorem dX7_fell_40 : decode cX7_fell 40 = .ok (.iload_n 1, 1) := by decide +kernel
theorem dX7_fell_41 : decode cX7_fell 41 = .ok (.iconst (-1), 1) := by decide +kernel
theorem dX7_fell_42 : decode cX7_fell 42 = .ok (.if_icmp .ne 10, 3) := by decide +kernel
theorem dX7_fell_45 : decode cX7_fell 45 = .ok (.aload_n 0, 1) := by decide +kernel
theorem dX7_fell_46 : decode cX7_fell 46 = .ok (.getfield 276, 3) := by decide +kernel
theorem dX7_fell_49 : decode cX7_fell 49 = .ok (.goto 9, 3) := by decide +kernel
theorem dX7_fell_52 : decode cX7_fell 52 = .ok (.aload_n 0, 1) := by decide +kernel
theorem dX7_fell_53 : decode cX7_fell 53 = .ok (.getfield 83, 3) := by decide +kernel
theorem dX7_fell_56 : decode cX7_fell 56 = .ok (.iload_n 1, 1) := by decide +kernel
theorem dX7_fell_57 : decode cX7_fell 57 = .ok (.iaload, 1) := by decide +kernel
theorem dX7_fell_58 : decode cX7_fell 58 = .ok (.ireturn, 1) := by decide +kernel
theorem dX7_part_0 : decode cX7_part 0 = .ok (.iload_n 0, 1) := by decide +kernel
theorem dX7_part_1 : decode cX7_part 1 = .ok (.i2l, 1) := by decide +kernel
theorem dX7_part_2 : decode cX7_part 2 = .ok (.iload_n 1, 1) := by decide +kernel
theorem dX7_part_3 : decode cX7_part 3 = .ok (.i2l, 1) := by decide +kernel
theorem dX7_part_4 : decode cX7_part 4 = .ok (.lmul, 1) := by decide +kernel
theorem dX7_part_5 : decode cX7_part 5 = .ok (.ldc2_w 153, 3) := by decide +kernel
theorem dX7_part_8 : decode cX7_part 8 = .ok (.ldiv, 1) := by decide +kernel
theorem dX7_part_9 : decode cX7_part 9 = .ok (.l2i, 1) := by decide +kernel
theorem dX7_part_10 : decode cX7_part 10 = .ok (.ireturn, 1) := by decide +kernel
theorem dX7_weigh_0 : decode cX7_weigh 0 = .ok (.aload_n 0, 1) := by decide +kernel
theorem dX7_weigh_1 : decode cX7_weigh 1 = .ok (.aload_n 0, 1) := by decide +kernel
theorem dX7_weigh_2 : decode cX7_weigh 2 = .ok (.getfield 70, 3) := by decide +kernel
theorem dX7_weigh_5 : decode cX7_weigh 5 = .ok (.iconst 0, 1) := by decide +kernel
theorem dX7_weigh_6 : decode cX7_weigh 6 = .ok (.iconst (-1), 1) := by decide +kernel
theorem dX7_weigh_7 : decode cX7_weigh 7 = .ok (.invokevirtual 282, 3) := by decide +kernel
theorem dX7_weigh_10 : decode cX7_weigh 10 = .ok (.aload_n 0, 1) := by decide +kernel
theorem dX7_weigh_11 : decode cX7_weigh 11 = .ok (.aload_n 0, 1) := by decide +kernel
theorem dX7_weigh_12 : decode cX7_weigh 12 = .ok (.getfield 276, 3) := by decide +kernel
theorem dX7_weigh_15 : decode cX7_weigh 15 = .ok (.putfield 285, 3) := by decide +kernel
theorem dX7_weigh_18 : decode cX7_weigh 18 = .ok (.iconst 0, 1) := by decide +kernel
theorem dX7_weigh_19 : decode cX7_weigh 19 = .ok (.istore_n 1, 1) := by decide +kernel
theorem dX7_weigh_20 : decode cX7_weigh 20 = .ok (.iload_n 1, 1) := by decide +kernel
theorem dX7_weigh_21 : decode cX7_weigh 21 = .ok (.aload_n 0, 1) := by decide +kernel
theorem dX7_weigh_22 : decode cX7_weigh 22 = .ok (.getfield 94, 3) := by decide +kernel
theorem dX7_weigh_25 : decode cX7_weigh 25 = .ok (.if_icmp .ge 21, 3) := by decide +kernel
theorem dX7_weigh_28 : decode cX7_weigh 28 = .ok (.aload_n 0, 1) := by decide +kernel
theorem dX7_weigh_29 : decode cX7_weigh 29 = .ok (.getfield 86, 3) := by decide +kernel
theorem dX7_weigh_32 : decode cX7_weigh 32 = .ok (.iload_n 1, 1) := by decide +kernel
theorem dX7_weigh_33 : decode cX7_weigh 33 = .ok (.aload_n 0, 1) := by decide +kernel
theorem dX7_weigh_34 : decode cX7_weigh 34 = .ok (.getfield 83, 3) := by decide +kernel
theorem dX7_weigh_37 : decode cX7_weigh 37 = .ok (.iload_n 1, 1) := by decide +kernel
theorem dX7_weigh_38 : decode cX7_weigh 38 = .ok (.iaload, 1) := by decide +kernel
theorem dX7_weigh_39 : decode cX7_weigh 39 = .ok (.iastore, 1) := by decide +kernel
theorem dX7_weigh_40 : decode cX7_weigh 40 = .ok (.iinc 1 1, 3) := by decide +kernel
theorem dX7_weigh_43 : decode cX7_weigh 43 = .ok (.goto (-23), 3) := by decide +kernel
theorem dX7_weigh_46 : decode cX7_weigh 46 = .ok (.iconst 0, 1) := by decide +kernel
theorem dX7_weigh_47 : decode cX7_weigh 47 = .ok (.istore_n 1, 1) := by decide +kernel
theorem dX7_weigh_48 : decode cX7_weigh 48 = .ok (.iload_n 1, 1) := by decide +kernel
theorem dX7_weigh_49 : decode cX7_weigh 49 = .ok (.aload_n 0, 1) := by decide +kernel
theorem dX7_weigh_50 : decode cX7_weigh 50 = .ok (.getfield 150, 3) := by decide +kernel
theorem dX7_weigh_53 : decode cX7_weigh 53 = .ok (.if_icmp .ge 143, 3) := by decide +kernel
theorem dX7_weigh_56 : decode cX7_weigh 56 = .ok (.iconst 0, 1) := by decide +kernel
theorem dX7_weigh_57 : decode cX7_weigh 57 = .ok (.istore_n 2, 1) := by decide +kernel
theorem dX7_weigh_58 : decode cX7_weigh 58 = .ok (.iload_n 2, 1) := by decide +kernel
theorem dX7_weigh_59 : decode cX7_weigh 59 = .ok (.aload_n 0, 1) := by decide +kernel
theorem dX7_weigh_60 : decode cX7_weigh 60 = .ok (.getfield 94, 3) := by decide +kernel
theorem dX7_weigh_63 : decode cX7_weigh 63 = .ok (.if_icmp .ge 90, 3) := by decide +kernel
theorem dX7_weigh_66 : decode cX7_weigh 66 = .ok (.aload_n 0, 1) := by decide +kernel
theorem dX7_weigh_67 : decode cX7_weigh 67 = .ok (.getfield 55, 3) := by decide +kernel
theorem dX7_weigh_70 : decode cX7_weigh 70 = .ok (.iload_n 1, 1) := by decide +kernel
theorem dX7_weigh_71 : decode cX7_weigh 71 = .ok (.iaload, 1) := by decide +kernel
theorem dX7_weigh_72 : decode cX7_weigh 72 = .ok (.iconst 1, 1) := by decide +kernel
theorem dX7_weigh_73 : decode cX7_weigh 73 = .ok (.if_icmp .ne 21, 3) := by decide +kernel
theorem dX7_weigh_76 : decode cX7_weigh 76 = .ok (.iload_n 2, 1) := by decide +kernel
theorem dX7_weigh_77 : decode cX7_weigh 77 = .ok (.aload_n 0, 1) := by decide +kernel
theorem dX7_weigh_78 : decode cX7_weigh 78 = .ok (.getfield 52, 3) := by decide +kernel
theorem dX7_weigh_81 : decode cX7_weigh 81 = .ok (.iload_n 1, 1) := by decide +kernel
theorem dX7_weigh_82 : decode cX7_weigh 82 = .ok (.iaload, 1) := by decide +kernel
theorem dX7_weigh_83 : decode cX7_weigh 83 = .ok (.if_icmp .gt 7, 3) := by decide +kernel
theorem dX7_weigh_86 : decode cX7_weigh 86 = .ok (.iconst 1, 1) := by decide +kernel
theorem dX7_weigh_87 : decode cX7_weigh 87 = .ok (.goto 22, 3) := by decide +kernel
theorem dX7_weigh_90 : decode cX7_weigh 90 = .ok (.iconst 0, 1) := by decide +kernel
theorem dX7_weigh_91 : decode cX7_weigh 91 = .ok (.goto 18, 3) := by decide +kernel
theorem dX7_weigh_94 : decode cX7_weigh 94 = .ok (.iload_n 2, 1) := by decide +kernel
theorem dX7_weigh_95 : decode cX7_weigh 95 = .ok (.aload_n 0, 1) := by decide +kernel
theorem dX7_weigh_96 : decode cX7_weigh 96 = .ok (.getfield 52, 3) := by decide +kernel
theorem dX7_weigh_99 : decode cX7_weigh 99 = .ok (.iload_n 1, 1) := by decide +kernel
theorem dX7_weigh_100 : decode cX7_weigh 100 = .ok (.iaload, 1) := by decide +kernel
theorem dX7_weigh_101 : decode cX7_weigh 101 = .ok (.if_icmp .le 7, 3) := by decide +kernel
theorem dX7_weigh_104 : decode cX7_weigh 104 = .ok (.iconst 1, 1) := by decide +kernel
theorem dX7_weigh_105 : decode cX7_weigh 105 = .ok (.goto 4, 3) := by decide +kernel
theorem dX7_weigh_108 : decode cX7_weigh 108 = .ok (.iconst 0, 1) := by decide +kernel
theorem dX7_weigh_109 : decode cX7_weigh 109 = .ok (.istore_n 3, 1) := by decide +kernel
theorem dX7_weigh_110 : decode cX7_weigh 110 = .ok (.aload_n 0, 1) := by decide +kernel
theorem dX7_weigh_111 : decode cX7_weigh 111 = .ok (.getfield 86, 3) := by decide +kernel
theorem dX7_weigh_114 : decode cX7_weigh 114 = .ok (.iload_n 2, 1) := by decide +kernel
theorem dX7_weigh_115 : decode cX7_weigh 115 = .ok (.iload_n 3, 1) := by decide +kernel
theorem dX7_weigh_116 : decode cX7_weigh 116 = .ok (.ifCond .eq 24, 3) := by decide +kernel
theorem dX7_weigh_119 : decode cX7_weigh 119 = .ok (.aload_n 0, 1) := by decide +kernel
theorem dX7_weigh_120 : decode cX7_weigh 120 = .ok (.getfield 86, 3) := by decide +kernel
theorem dX7_weigh_123 : decode cX7_weigh 123 = .ok (.iload_n 2, 1) := by decide +kernel
theorem dX7_weigh_124 : decode cX7_weigh 124 = .ok (.iaload, 1) := by decide +kernel
theorem dX7_weigh_125 : decode cX7_weigh 125 = .ok (.bipush 100, 2) := by decide +kernel
theorem dX7_weigh_127 : decode cX7_weigh 127 = .ok (.aload_n 0, 1) := by decide +kernel
theorem dX7_weigh_128 : decode cX7_weigh 128 = .ok (.getfield 58, 3) := by decide +kernel
theorem dX7_weigh_131 : decode cX7_weigh 131 = .ok (.iload_n 1, 1) := by decide +kernel
theorem dX7_weigh_132 : decode cX7_weigh 132 = .ok (.iaload, 1) := by decide +kernel
theorem dX7_weigh_133 : decode cX7_weigh 133 = .ok (.isub, 1) := by decide +kernel
theorem dX7_weigh_134 : decode cX7_weigh 134 = .ok (.invokestatic 288, 3) := by decide +kernel
theorem dX7_weigh_137 : decode cX7_weigh 137 = .ok (.goto 9, 3) := by decide +kernel
theorem dX7_weigh_140 : decode cX7_weigh 140 = .ok (.aload_n 0, 1) := by decide +kernel
theorem dX7_weigh_141 : decode cX7_weigh 141 = .ok (.getfield 86, 3) := by decide +kernel
theorem dX7_weigh_144 : decode cX7_weigh 144 = .ok (.iload_n 2, 1) := by decide +kernel
theorem dX7_weigh_145 : decode cX7_weigh 145 = .ok (.iaload, 1) := by decide +kernel
theorem dX7_weigh_146 : decode cX7_weigh 146 = .ok (.iastore, 1) := by decide +kernel
theorem dX7_weigh_147 : decode cX7_weigh 147 = .ok (.iinc 2 1, 3) := by decide +kernel
theorem dX7_weigh_150 : decode cX7_weigh 150 = .ok (.goto (-92), 3) := by decide +kernel
theorem dX7_weigh_153 : decode cX7_weigh 153 = .ok (.aload_n 0, 1) := by decide +kernel
theorem dX7_weigh_154 : decode cX7_weigh 154 = .ok (.aload_n 0, 1) := by decide +kernel
theorem dX7_weigh_155 : decode cX7_weigh 155 = .ok (.getfield 55, 3) := by decide +kernel
theorem dX7_weigh_158 : decode cX7_weigh 158 = .ok (.iload_n 1, 1) := by decide +kernel
theorem dX7_weigh_159 : decode cX7_weigh 159 = .ok (.iaload, 1) := by decide +kernel
theorem dX7_weigh_160 : decode cX7_weigh 160 = .ok (.iconst 1, 1) := by decide +kernel
theorem dX7_weigh_161 : decode cX7_weigh 161 = .ok (.if_icmp .ne 10, 3) := by decide +kernel
theorem dX7_weigh_164 : decode cX7_weigh 164 = .ok (.aload_n 0, 1) := by decide +kernel
theorem dX7_weigh_165 : decode cX7_weigh 165 = .ok (.getfield 285, 3) := by decide +kernel
theorem dX7_weigh_168 : decode cX7_weigh 168 = .ok (.goto 19, 3) := by decide +kernel
theorem dX7_weigh_171 : decode cX7_weigh 171 = .ok (.aload_n 0, 1) := by decide +kernel
theorem dX7_weigh_172 : decode cX7_weigh 172 = .ok (.getfield 285, 3) := by decide +kernel
theorem dX7_weigh_175 : decode cX7_weigh 175 = .ok (.bipush 100, 2) := by decide +kernel
theorem dX7_weigh_177 : decode cX7_weigh 177 = .ok (.aload_n 0, 1) := by decide +kernel
theorem dX7_weigh_178 : decode cX7_weigh 178 = .ok (.getfield 58, 3) := by decide +kernel
theorem dX7_weigh_181 : decode cX7_weigh 181 = .ok (.iload_n 1, 1) := by decide +kernel
theorem dX7_weigh_182 : decode cX7_weigh 182 = .ok (.iaload, 1) := by decide +kernel
theorem dX7_weigh_183 : decode cX7_weigh 183 = .ok (.isub, 1) := by decide +kernel
theorem dX7_weigh_184 : decode cX7_weigh 184 = .ok (.invokestatic 288, 3) := by decide +kernel
theorem dX7_weigh_187 : decode cX7_weigh 187 = .ok (.putfield 285, 3) := by decide +kernel
theorem dX7_weigh_190 : decode cX7_weigh 190 = .ok (.iinc 1 1, 3) := by decide +kernel
theorem dX7_weigh_193 : decode cX7_weigh 193 = .ok (.goto (-145), 3) := by decide +kernel
theorem dX7_weigh_196 : decode cX7_weigh 196 = .ok (.aload_n 0, 1) := by decide +kernel
theorem dX7_weigh_197 : decode cX7_weigh 197 = .ok (.aload_n 0, 1) := by decide +kernel
theorem dX7_weigh_198 : decode cX7_weigh 198 = .ok (.getfield 285, 3) := by decide +kernel
theorem dX7_weigh_201 : decode cX7_weigh 201 = .ok (.putfield 291, 3) := by decide +kernel
theorem dX7_weigh_204 : decode cX7_weigh 204 = .ok (.iconst 0, 1) := by decide +kernel
theorem dX7_weigh_205 : decode cX7_weigh 205 = .ok (.istore_n 1, 1) := by decide +kernel
theorem dX7_weigh_206 : decode cX7_weigh 206 = .ok (.iload_n 1, 1) := by decide +kernel
theorem dX7_weigh_207 : decode cX7_weigh 207 = .ok (.aload_n 0, 1) := by decide +kernel
theorem dX7_weigh_208 : decode cX7_weigh 208 = .ok (.getfield 94, 3) := by decide +kernel
theorem dX7_weigh_211 : decode cX7_weigh 211 = .ok (.if_icmp .ge 45, 3) := by decide +kernel
theorem dX7_weigh_214 : decode cX7_weigh 214 = .ok (.aload_n 0, 1) := by decide +kernel
theorem dX7_weigh_215 : decode cX7_weigh 215 = .ok (.getfield 86, 3) := by decide +kernel
theorem dX7_weigh_218 : decode cX7_weigh 218 = .ok (.iload_n 1, 1) := by decide +kernel
theorem dX7_weigh_219 : decode cX7_weigh 219 = .ok (.aload_n 0, 1) := by decide +kernel
theorem dX7_weigh_220 : decode cX7_weigh 220 = .ok (.getfield 86, 3) := by decide +kernel
theorem dX7_weigh_223 : decode cX7_weigh 223 = .ok (.iload_n 1, 1) := by decide +kernel
theorem dX7_weigh_224 : decode cX7_weigh 224 = .ok (.iaload, 1) := by decide +kernel
theorem dX7_weigh_225 : decode cX7_weigh 225 = .ok (.aload_n 0, 1) := by decide +kernel
theorem dX7_weigh_226 : decode cX7_weigh 226 = .ok (.getfield 49, 3) := by decide +kernel
theorem dX7_weigh_229 : decode cX7_weigh 229 = .ok (.iload_n 1, 1) := by decide +kernel
theorem dX7_weigh_230 : decode cX7_weigh 230 = .ok (.iaload, 1) := by decide +kernel
theorem dX7_weigh_231 : decode cX7_weigh 231 = .ok (.invokestatic 288, 3) := by decide +kernel
theorem dX7_weigh_234 : decode cX7_weigh 234 = .ok (.iastore, 1) := by decide +kernel
theorem dX7_weigh_235 : decode cX7_weigh 235 = .ok (.aload_n 0, 1) := by decide +kernel
theorem dX7_weigh_236 : decode cX7_weigh 236 = .ok (.dup, 1) := by decide +kernel
theorem dX7_weigh_237 : decode cX7_weigh 237 = .ok (.getfield 291, 3) := by decide +kernel
theorem dX7_weigh_240 : decode cX7_weigh 240 = .ok (.aload_n 0, 1) := by decide +kernel
theorem dX7_weigh_241 : decode cX7_weigh 241 = .ok (.getfield 86, 3) := by decide +kernel
theorem dX7_weigh_244 : decode cX7_weigh 244 = .ok (.iload_n 1, 1) := by decide +kernel
theorem dX7_weigh_245 : decode cX7_weigh 245 = .ok (.iaload, 1) := by decide +kernel
theorem dX7_weigh_246 : decode cX7_weigh 246 = .ok (.iadd, 1) := by decide +kernel
theorem dX7_weigh_247 : decode cX7_weigh 247 = .ok (.putfield 291, 3) := by decide +kernel
theorem dX7_weigh_250 : decode cX7_weigh 250 = .ok (.iinc 1 1, 3) := by decide +kernel
theorem dX7_weigh_253 : decode cX7_weigh 253 = .ok (.goto (-47), 3) := by decide +kernel
theorem dX7_weigh_256 : decode cX7_weigh 256 = .ok (.return_, 1) := by decide +kernel
theorem dX7_weight_0 : decode cX7_weight 0 = .ok (.iload_n 1, 1) := by decide +kernel
theorem dX7_weight_1 : decode cX7_weight 1 = .ok (.iconst (-1), 1) := by decide +kernel
theorem dX7_weight_2 : decode cX7_weight 2 = .ok (.if_icmp .eq 19, 3) := by decide +kernel
theorem dX7_weight_5 : decode cX7_weight 5 = .ok (.aload_n 0, 1) := by decide +kernel
theorem dX7_weight_6 : decode cX7_weight 6 = .ok (.iload_n 1, 1) := by decide +kernel
theorem dX7_weight_7 : decode cX7_weight 7 = .ok (.i2l, 1) := by decide +kernel
theorem dX7_weight_8 : decode cX7_weight 8 = .ok (.invokevirtual 118, 3) := by decide +kernel
theorem dX7_weight_11 : decode cX7_weight 11 = .ok (.ifCond .ne 10, 3) := by decide +kernel
theorem dX7_weight_14 : decode cX7_weight 14 = .ok (.aload_n 0, 1) := by decide +kernel
theorem dX7_weight_15 : decode cX7_weight 15 = .ok (.bipush (-2), 2) := by decide +kernel
theorem dX7_weight_17 : decode cX7_weight 17 = .ok (.invokevirtual 107, 3) := by decide +kernel
theorem dX7_weight_20 : decode cX7_weight 20 = .ok (.ireturn, 1) := by decide +kernel
theorem dX7_weight_21 : decode cX7_weight 21 = .ok (.aload_n 0, 1) := by decide +kernel
theorem dX7_weight_22 : decode cX7_weight 22 = .ok (.invokevirtual 294, 3) := by decide +kernel
theorem dX7_weight_25 : decode cX7_weight 25 = .ok (.iload_n 1, 1) := by decide +kernel
theorem dX7_weight_26 : decode cX7_weight 26 = .ok (.iconst (-1), 1) := by decide +kernel
theorem dX7_weight_27 : decode cX7_weight 27 = .ok (.if_icmp .ne 10, 3) := by decide +kernel
theorem dX7_weight_30 : decode cX7_weight 30 = .ok (.aload_n 0, 1) := by decide +kernel
theorem dX7_weight_31 : decode cX7_weight 31 = .ok (.getfield 285, 3) := by decide +kernel
theorem dX7_weight_34 : decode cX7_weight 34 = .ok (.goto 9, 3) := by decide +kernel
theorem dX7_weight_37 : decode cX7_weight 37 = .ok (.aload_n 0, 1) := by decide +kernel
theorem dX7_weight_38 : decode cX7_weight 38 = .ok (.getfield 86, 3) := by decide +kernel
theorem dX7_weight_41 : decode cX7_weight 41 = .ok (.iload_n 1, 1) := by decide +kernel
theorem dX7_weight_42 : decode cX7_weight 42 = .ok (.iaload, 1) := by decide +kernel
theorem dX7_weight_43 : decode cX7_weight 43 = .ok (.ireturn, 1) := by decide +kernel
theorem dX7_thousandths_0 : decode cX7_thousandths 0 = .ok (.aload_n 0, 1) := by decide +kernel
theorem dX7_thousandths_1 : decode cX7_thousandths 1 = .ok (.getfield 291, 3) := by decide +kernel
theorem dX7_thousandths_4 : decode cX7_thousandths 4 = .ok (.ifCond .ne 12, 3) := by decide +kernel
theorem dX7_thousandths_7 : decode cX7_thousandths 7 = .ok (.aload_n 0, 1) := by decide +kernel
theorem dX7_thousandths_8 : decode cX7_thousandths 8 = .ok (.bipush (-5), 2) := by decide +kernel
theorem dX7_thousandths_10 : decode cX7_thousandths 10 = .ok (.invokevirtual 107, 3) := by decide +kernel
theorem dX7_thousandths_13 : decode cX7_thousandths 13 = .ok (.goto 15, 3) := by decide +kernel
theorem dX7_thousandths_16 : decode cX7_thousandths 16 = .ok (.ldc2_w 136, 3) := by decide +kernel
theorem dX7_thousandths_19 : decode cX7_thousandths 19 = .ok (.lload_n 1, 1) := by decide +kernel
theorem dX7_thousandths_20 : decode cX7_thousandths 20 = .ok (.lmul, 1) := by decide +kernel
theorem dX7_thousandths_21 : decode cX7_thousandths 21 = .ok (.aload_n 0, 1) := by decide +kernel
theorem dX7_thousandths_22 : decode cX7_thousandths 22 = .ok (.getfield 291, 3) := by decide +kernel
theorem dX7_thousandths_25 : decode cX7_thousandths 25 = .ok (.i2l, 1) := by decide +kernel
theorem dX7_thousandths_26 : decode cX7_thousandths 26 = .ok (.ldiv, 1) := by decide +kernel
theorem dX7_thousandths_27 : decode cX7_thousandths 27 = .ok (.l2i, 1) := by decide +kernel
theorem dX7_thousandths_28 : decode cX7_thousandths 28 = .ok (.ireturn, 1) := by decide +kernel
theorem dX7_likely_0 : decode cX7_likely 0 = .ok (.iload_n 1, 1) := by decide +kernel
theorem dX7_likely_1 : decode cX7_likely 1 = .ok (.iconst (-1), 1) := by decide +kernel
theorem dX7_likely_2 : decode cX7_likely 2 = .ok (.if_icmp .eq 19, 3) := by decide +kernel
theorem dX7_likely_5 : decode cX7_likely 5 = .ok (.aload_n 0, 1) := by decide +kernel
theorem dX7_likely_6 : decode cX7_likely 6 = .ok (.iload_n 1, 1) := by decide +kernel
theorem dX7_likely_7 : decode cX7_likely 7 = .ok (.i2l, 1) := by decide +kernel
theorem dX7_likely_8 : decode cX7_likely 8 = .ok (.invokevirtual 118, 3) := by decide +kernel
theorem dX7_likely_11 : decode cX7_likely 11 = .ok (.ifCond .ne 10, 3) := by decide +kernel
theorem dX7_likely_14 : decode cX7_likely 14 = .ok (.aload_n 0, 1) := by decide +kernel
theorem dX7_likely_15 : decode cX7_likely 15 = .ok (.bipush (-2), 2) := by decide +kernel
theorem dX7_likely_17 : decode cX7_likely 17 = .ok (.invokevirtual 107, 3) := by decide +kernel
theorem dX7_likely_20 : decode cX7_likely 20 = .ok (.ireturn, 1) := by decide +kernel
theorem dX7_likely_21 : decode cX7_likely 21 = .ok (.aload_n 0, 1) := by decide +kernel
theorem dX7_likely_22 : decode cX7_likely 22 = .ok (.invokevirtual 294, 3) := by decide +kernel
theorem dX7_likely_25 : decode cX7_likely 25 = .ok (.aload_n 0, 1) := by decide +kernel
theorem dX7_likely_26 : decode cX7_likely 26 = .ok (.iload_n 1, 1) := by decide +kernel
theorem dX7_likely_27 : decode cX7_likely 27 = .ok (.iconst (-1), 1) := by decide +kernel
theorem dX7_likely_28 : decode cX7_likely 28 = .ok (.if_icmp .ne 11, 3) := by decide +kernel
theorem dX7_likely_31 : decode cX7_likely 31 = .ok (.aload_n 0, 1) := by decide +kernel
theorem dX7_likely_32 : decode cX7_likely 32 = .ok (.getfield 285, 3) := by decide +kernel
theorem dX7_likely_35 : decode cX7_likely 35 = .ok (.i2l, 1) := by decide +kernel
theorem dX7_likely_36 : decode cX7_likely 36 = .ok (.goto 10, 3) := by decide +kernel
theorem dX7_likely_39 : decode cX7_likely 39 = .ok (.aload_n 0, 1) := by decide +kernel
theorem dX7_likely_40 : decode cX7_likely 40 = .ok (.getfield 86, 3) := by decide +kernel
theorem dX7_likely_43 : decode cX7_likely 43 = .ok (.iload_n 1, 1) := by decide +kernel
theorem dX7_likely_44 : decode cX7_likely 44 = .ok (.iaload, 1) := by decide +kernel
theorem dX7_likely_45 : decode cX7_likely 45 = .ok (.i2l, 1) := by decide +kernel
theorem dX7_likely_46 : decode cX7_likely 46 = .ok (.invokevirtual 297, 3) := by decide +kernel
theorem dX7_likely_49 : decode cX7_likely 49 = .ok (.ireturn, 1) := by decide +kernel
theorem dX7_sumOf_0 : decode cX7_sumOf 0 = .ok (.iconst 0, 1) := by decide +kernel
theorem dX7_sumOf_1 : decode cX7_sumOf 1 = .ok (.istore_n 3, 1) := by decide +kernel
theorem dX7_sumOf_2 : decode cX7_sumOf 2 = .ok (.iload_n 1, 1) := by decide +kernel
theorem dX7_sumOf_3 : decode cX7_sumOf 3 = .ok (.istore 4, 2) := by decide +kernel
theorem dX7_sumOf_5 : decode cX7_sumOf 5 = .ok (.iload 4, 2) := by decide +kernel
theorem dX7_sumOf_7 : decode cX7_sumOf 7 = .ok (.iload_n 2, 1) := by decide +kernel
theorem dX7_sumOf_8 : decode cX7_sumOf 8 = .ok (.if_icmp .gt 19, 3) := by decide +kernel
theorem dX7_sumOf_11 : decode cX7_sumOf 11 = .ok (.iload_n 3, 1) := by decide +kernel
theorem dX7_sumOf_12 : decode cX7_sumOf 12 = .ok (.aload_n 0, 1) := by decide +kernel
theorem dX7_sumOf_13 : decode cX7_sumOf 13 = .ok (.getfield 86, 3) := by decide +kernel
theorem dX7_sumOf_16 : decode cX7_sumOf 16 = .ok (.iload 4, 2) := by decide +kernel
theorem dX7_sumOf_18 : decode cX7_sumOf 18 = .ok (.iaload, 1) := by decide +kernel
theorem dX7_sumOf_19 : decode cX7_sumOf 19 = .ok (.iadd, 1) := by decide +kernel
theorem dX7_sumOf_20 : decode cX7_sumOf 20 = .ok (.istore_n 3, 1) := by decide +kernel
theorem dX7_sumOf_21 : decode cX7_sumOf 21 = .ok (.iinc 4 1, 3) := by decide +kernel
theorem dX7_sumOf_24 : decode cX7_sumOf 24 = .ok (.goto (-19), 3) := by decide +kernel
theorem dX7_sumOf_27 : decode cX7_sumOf 27 = .ok (.iload_n 3, 1) := by decide +kernel
theorem dX7_sumOf_28 : decode cX7_sumOf 28 = .ok (.ireturn, 1) := by decide +kernel
theorem dX7_between_0 : decode cX7_between 0 = .ok (.aload_n 0, 1) := by decide +kernel
theorem dX7_between_1 : decode cX7_between 1 = .ok (.iload_n 1, 1) := by decide +kernel
theorem dX7_between_2 : decode cX7_between 2 = .ok (.i2l, 1) := by decide +kernel
theorem dX7_between_3 : decode cX7_between 3 = .ok (.invokevirtual 118, 3) := by decide +kernel
theorem dX7_between_6 : decode cX7_between 6 = .ok (.ifCond .eq 17, 3) := by decide +kernel
theorem dX7_between_9 : decode cX7_between 9 = .ok (.aload_n 0, 1) := by decide +kernel
theorem dX7_between_10 : decode cX7_between 10 = .ok (.iload_n 2, 1) := by decide +kernel
theorem dX7_between_11 : decode cX7_between 11 = .ok (.i2l, 1) := by decide +kernel
theorem dX7_between_12 : decode cX7_between 12 = .ok (.invokevirtual 118, 3) := by decide +kernel
theorem dX7_between_15 : decode cX7_between 15 = .ok (.ifCond .eq 8, 3) := by decide +kernel
theorem dX7_between_18 : decode cX7_between 18 = .ok (.iload_n 2, 1) := by decide +kernel
theorem dX7_between_19 : decode cX7_between 19 = .ok (.iload_n 1, 1) := by decide +kernel
theorem dX7_between_20 : decode cX7_between 20 = .ok (.if_icmp .ge 10, 3) := by decide +kernel
theorem dX7_between_23 : decode cX7_between 23 = .ok (.aload_n 0, 1) := by decide +kernel
theorem dX7_between_24 : decode cX7_between 24 = .ok (.bipush (-2), 2) := by decide +kernel
theorem dX7_between_26 : decode cX7_between 26 = .ok (.invokevirtual 107, 3) := by decide +kernel
theorem dX7_between_29 : decode cX7_between 29 = .ok (.ireturn, 1) := by decide +kernel
theorem dX7_between_30 : decode cX7_between 30 = .ok (.aload_n 0, 1) := by decide +kernel
theorem dX7_between_31 : decode cX7_between 31 = .ok (.invokevirtual 294, 3) := by decide +kernel
theorem dX7_between_34 : decode cX7_between 34 = .ok (.aload_n 0, 1) := by decide +kernel
theorem dX7_between_35 : decode cX7_between 35 = .ok (.aload_n 0, 1) := by decide +kernel
theorem dX7_between_36 : decode cX7_between 36 = .ok (.iload_n 1, 1) := by decide +kernel
theorem dX7_between_37 : decode cX7_between 37 = .ok (.iload_n 2, 1) := by decide +kernel
theorem dX7_between_38 : decode cX7_between 38 = .ok (.invokevirtual 301, 3) := by decide +kernel
theorem dX7_between_41 : decode cX7_between 41 = .ok (.i2l, 1) := by decide +kernel
theorem dX7_between_42 : decode cX7_between 42 = .ok (.invokevirtual 297, 3) := by decide +kernel
theorem dX7_between_45 : decode cX7_between 45 = .ok (.ireturn, 1) := by decide +kernel
theorem dX7_half_0 : decode cX7_half 0 = .ok (.aload_n 0, 1) := by decide +kernel
theorem dX7_half_1 : decode cX7_half 1 = .ok (.invokevirtual 294, 3) := by decide +kernel
theorem dX7_half_4 : decode cX7_half 4 = .ok (.iconst 0, 1) := by decide +kernel
theorem dX7_half_5 : decode cX7_half 5 = .ok (.istore_n 1, 1) := by decide +kernel
theorem dX7_half_6 : decode cX7_half 6 = .ok (.iload_n 1, 1) := by decide +kernel
theorem dX7_half_7 : decode cX7_half 7 = .ok (.aload_n 0, 1) := by decide +kernel
theorem dX7_half_8 : decode cX7_half 8 = .ok (.getfield 94, 3) := by decide +kernel
theorem dX7_half_11 : decode cX7_half 11 = .ok (.if_icmp .ge 26, 3) := by decide +kernel
theorem dX7_half_14 : decode cX7_half 14 = .ok (.iconst 2, 1) := by decide +kernel
theorem dX7_half_15 : decode cX7_half 15 = .ok (.aload_n 0, 1) := by decide +kernel
theorem dX7_half_16 : decode cX7_half 16 = .ok (.iconst 0, 1) := by decide +kernel
theorem dX7_half_17 : decode cX7_half 17 = .ok (.iload_n 1, 1) := by decide +kernel
theorem dX7_half_18 : decode cX7_half 18 = .ok (.invokevirtual 301, 3) := by decide +kernel
theorem dX7_half_21 : decode cX7_half 21 = .ok (.imul, 1) := by decide +kernel
theorem dX7_half_22 : decode cX7_half 22 = .ok (.aload_n 0, 1) := by decide +kernel
theorem dX7_half_23 : decode cX7_half 23 = .ok (.getfield 291, 3) := by decide +kernel
theorem dX7_half_26 : decode cX7_half 26 = .ok (.if_icmp .lt 5, 3) := by decide +kernel
theorem dX7_half_29 : decode cX7_half 29 = .ok (.iload_n 1, 1) := by decide +kernel
theorem dX7_half_30 : decode cX7_half 30 = .ok (.ireturn, 1) := by decide +kernel
theorem dX7_half_31 : decode cX7_half 31 = .ok (.iinc 1 1, 3) := by decide +kernel
theorem dX7_half_34 : decode cX7_half 34 = .ok (.goto (-28), 3) := by decide +kernel
theorem dX7_half_37 : decode cX7_half 37 = .ok (.iconst (-1), 1) := by decide +kernel
theorem dX7_half_38 : decode cX7_half 38 = .ok (.ireturn, 1) := by decide +kernel
theorem dX7_few_0 : decode cX7_few 0 = .ok (.iload_n 1, 1) := by decide +kernel
theorem dX7_few_1 : decode cX7_few 1 = .ok (.i2l, 1) := by decide +kernel
theorem dX7_few_2 : decode cX7_few 2 = .ok (.lconst 0, 1) := by decide +kernel
theorem dX7_few_3 : decode cX7_few 3 = .ok (.ldc2_w 136, 3) := by decide +kernel
theorem dX7_few_6 : decode cX7_few 6 = .ok (.invokestatic 97, 3) := by decide +kernel
theorem dX7_few_9 : decode cX7_few 9 = .ok (.ifCond .ne 10, 3) := by decide +kernel
theorem dX7_few_12 : decode cX7_few 12 = .ok (.aload_n 0, 1) := by decide +kernel
theorem dX7_few_13 : decode cX7_few 13 = .ok (.bipush (-2), 2) := by decide +kernel
theorem dX7_few_15 : decode cX7_few 15 = .ok (.invokevirtual 107, 3) := by decide +kernel
theorem dX7_few_18 : decode cX7_few 18 = .ok (.ireturn, 1) := by decide +kernel
theorem dX7_few_19 : decode cX7_few 19 = .ok (.aload_n 0, 1) := by decide +kernel
theorem dX7_few_20 : decode cX7_few 20 = .ok (.invokevirtual 294, 3) := by decide +kernel
theorem dX7_few_23 : decode cX7_few 23 = .ok (.iload_n 1, 1) := by decide +kernel
theorem dX7_few_24 : decode cX7_few 24 = .ok (.i2l, 1) := by decide +kernel
theorem dX7_few_25 : decode cX7_few 25 = .ok (.aload_n 0, 1) := by decide +kernel
theorem dX7_few_26 : decode cX7_few 26 = .ok (.iconst 0, 1) := by decide +kernel
theorem dX7_few_27 : decode cX7_few 27 = .ok (.aload_n 0, 1) := by decide +kernel
theorem dX7_few_28 : decode cX7_few 28 = .ok (.getfield 94, 3) := by decide +kernel
theorem dX7_few_31 : decode cX7_few 31 = .ok (.iconst 1, 1) := by decide +kernel
theorem dX7_few_32 : decode cX7_few 32 = .ok (.isub, 1) := by decide +kernel
theorem dX7_few_33 : decode cX7_few 33 = .ok (.invokevirtual 301, 3) := by decide +kernel
theorem dX7_few_36 : decode cX7_few 36 = .ok (.i2l, 1) := by decide +kernel
theorem dX7_few_37 : decode cX7_few 37 = .ok (.lmul, 1) := by decide +kernel
theorem dX7_few_38 : decode cX7_few 38 = .ok (.lstore_n 2, 1) := by decide +kernel
theorem dX7_few_39 : decode cX7_few 39 = .ok (.lconst 0, 1) := by decide +kernel
theorem dX7_few_40 : decode cX7_few 40 = .ok (.lstore 4, 2) := by decide +kernel
theorem dX7_few_42 : decode cX7_few 42 = .ok (.iconst 0, 1) := by decide +kernel
theorem dX7_few_43 : decode cX7_few 43 = .ok (.istore 6, 2) := by decide +kernel
theorem dX7_few_45 : decode cX7_few 45 = .ok (.iconst 0, 1) := by decide +kernel
theorem dX7_few_46 : decode cX7_few 46 = .ok (.istore 7, 2) := by decide +kernel
theorem dX7_few_48 : decode cX7_few 48 = .ok (.ldc2_w 136, 3) := by decide +kernel
theorem dX7_few_51 : decode cX7_few 51 = .ok (.lload 4, 2) := by decide +kernel
theorem dX7_few_53 : decode cX7_few 53 = .ok (.lmul, 1) := by decide +kernel
theorem dX7_few_54 : decode cX7_few 54 = .ok (.lload_n 2, 1) := by decide +kernel
theorem dX7_few_55 : decode cX7_few 55 = .ok (.lcmp, 1) := by decide +kernel
theorem dX7_few_56 : decode cX7_few 56 = .ok (.ifCond .ge 89, 3) := by decide +kernel
theorem dX7_few_59 : decode cX7_few 59 = .ok (.iconst (-1), 1) := by decide +kernel
theorem dX7_few_60 : decode cX7_few 60 = .ok (.istore 8, 2) := by decide +kernel
theorem dX7_few_62 : decode cX7_few 62 = .ok (.iconst 0, 1) := by decide +kernel
theorem dX7_few_63 : decode cX7_few 63 = .ok (.istore 9, 2) := by decide +kernel
theorem dX7_few_65 : decode cX7_few 65 = .ok (.iload 9, 2) := by decide +kernel
theorem dX7_few_67 : decode cX7_few 67 = .ok (.aload_n 0, 1) := by decide +kernel
theorem dX7_few_68 : decode cX7_few 68 = .ok (.getfield 94, 3) := by decide +kernel
theorem dX7_few_71 : decode cX7_few 71 = .ok (.if_icmp .ge 46, 3) := by decide +kernel
theorem dX7_few_74 : decode cX7_few 74 = .ok (.iload 6, 2) := by decide +kernel
theorem dX7_few_76 : decode cX7_few 76 = .ok (.iload 9, 2) := by decide +kernel
theorem dX7_few_78 : decode cX7_few 78 = .ok (.invokestatic 279, 3) := by decide +kernel
theorem dX7_few_81 : decode cX7_few 81 = .ok (.ifCond .ne 30, 3) := by decide +kernel
theorem dX7_few_84 : decode cX7_few 84 = .ok (.iload 8, 2) := by decide +kernel
theorem dX7_few_86 : decode cX7_few 86 = .ok (.iconst (-1), 1) := by decide +kernel
theorem dX7_few_87 : decode cX7_few 87 = .ok (.if_icmp .eq 20, 3) := by decide +kernel
theorem dX7_few_90 : decode cX7_few 90 = .ok (.aload_n 0, 1) := by decide +kernel
theorem dX7_few_91 : decode cX7_few 91 = .ok (.getfield 86, 3) := by decide +kernel
theorem dX7_few_94 : decode cX7_few 94 = .ok (.iload 9, 2) := by decide +kernel
theorem dX7_few_96 : decode cX7_few 96 = .ok (.iaload, 1) := by decide +kernel
theorem dX7_few_97 : decode cX7_few 97 = .ok (.aload_n 0, 1) := by decide +kernel
theorem dX7_few_98 : decode cX7_few 98 = .ok (.getfield 86, 3) := by decide +kernel
theorem dX7_few_101 : decode cX7_few 101 = .ok (.iload 8, 2) := by decide +kernel
theorem dX7_few_103 : decode cX7_few 103 = .ok (.iaload, 1) := by decide +kernel
theorem dX7_few_104 : decode cX7_few 104 = .ok (.if_icmp .le 7, 3) := by decide +kernel
theorem dX7_few_107 : decode cX7_few 107 = .ok (.iload 9, 2) := by decide +kernel
theorem dX7_few_109 : decode cX7_few 109 = .ok (.istore 8, 2) := by decide +kernel
theorem dX7_few_111 : decode cX7_few 111 = .ok (.iinc 9 1, 3) := by decide +kernel
theorem dX7_few_114 : decode cX7_few 114 = .ok (.goto (-49), 3) := by decide +kernel
theorem dX7_few_117 : decode cX7_few 117 = .ok (.iload 6, 2) := by decide +kernel
theorem dX7_few_119 : decode cX7_few 119 = .ok (.iconst 1, 1) := by decide +kernel
theorem dX7_few_120 : decode cX7_few 120 = .ok (.iload 8, 2) := by decide +kernel
theorem dX7_few_122 : decode cX7_few 122 = .ok (.ishl, 1) := by decide +kernel
theorem dX7_few_123 : decode cX7_few 123 = .ok (.ior, 1) := by decide +kernel
theorem dX7_few_124 : decode cX7_few 124 = .ok (.istore 6, 2) := by decide +kernel
theorem dX7_few_126 : decode cX7_few 126 = .ok (.lload 4, 2) := by decide +kernel
theorem dX7_few_128 : decode cX7_few 128 = .ok (.aload_n 0, 1) := by decide +kernel
theorem dX7_few_129 : decode cX7_few 129 = .ok (.getfield 86, 3) := by decide +kernel
theorem dX7_few_132 : decode cX7_few 132 = .ok (.iload 8, 2) := by decide +kernel
theorem dX7_few_134 : decode cX7_few 134 = .ok (.iaload, 1) := by decide +kernel
theorem dX7_few_135 : decode cX7_few 135 = .ok (.i2l, 1) := by decide +kernel
theorem dX7_few_136 : decode cX7_few 136 = .ok (.ladd, 1) := by decide +kernel
theorem dX7_few_137 : decode cX7_few 137 = .ok (.lstore 4, 2) := by decide +kernel
theorem dX7_few_139 : decode cX7_few 139 = .ok (.iinc 7 1, 3) := by decide +kernel
theorem dX7_few_142 : decode cX7_few 142 = .ok (.goto (-94), 3) := by decide +kernel
theorem dX7_few_145 : decode cX7_few 145 = .ok (.iload 7, 2) := by decide +kernel
theorem dX7_few_147 : decode cX7_few 147 = .ok (.ireturn, 1) := by decide +kernel
theorem dX7_asks_0 : decode cX7_asks 0 = .ok (.aload_n 0, 1) := by decide +kernel
theorem dX7_asks_1 : decode cX7_asks 1 = .ok (.getfield 94, 3) := by decide +kernel
theorem dX7_asks_4 : decode cX7_asks 4 = .ok (.ifCond .ne 10, 3) := by decide +kernel
theorem dX7_asks_7 : decode cX7_asks 7 = .ok (.aload_n 0, 1) := by decide +kernel
theorem dX7_asks_8 : decode cX7_asks 8 = .ok (.bipush (-5), 2) := by decide +kernel
theorem dX7_asks_10 : decode cX7_asks 10 = .ok (.invokevirtual 107, 3) := by decide +kernel
theorem dX7_asks_13 : decode cX7_asks 13 = .ok (.ireturn, 1) := by decide +kernel
theorem dX7_asks_14 : decode cX7_asks 14 = .ok (.aload_n 0, 1) := by decide +kernel
theorem dX7_asks_15 : decode cX7_asks 15 = .ok (.invokevirtual 294, 3) := by decide +kernel
theorem dX7_asks_18 : decode cX7_asks 18 = .ok (.iconst (-1), 1) := by decide +kernel
theorem dX7_asks_19 : decode cX7_asks 19 = .ok (.istore_n 1, 1) := by decide +kernel
theorem dX7_asks_20 : decode cX7_asks 20 = .ok (.iconst 0, 1) := by decide +kernel
theorem dX7_asks_21 : decode cX7_asks 21 = .ok (.istore_n 2, 1) := by decide +kernel
theorem dX7_asks_22 : decode cX7_asks 22 = .ok (.iconst 0, 1) := by decide +kernel
theorem dX7_asks_23 : decode cX7_asks 23 = .ok (.istore_n 3, 1) := by decide +kernel
theorem dX7_asks_24 : decode cX7_asks 24 = .ok (.iload_n 3, 1) := by decide +kernel
theorem dX7_asks_25 : decode cX7_asks 25 = .ok (.aload_n 0, 1) := by decide +kernel
theorem dX7_asks_26 : decode cX7_asks 26 = .ok (.getfield 94, 3) := by decide +kernel
theorem dX7_asks_29 : decode cX7_asks 29 = .ok (.if_icmp .ge 55, 3) := by decide +kernel
theorem dX7_asks_32 : decode cX7_asks 32 = .ok (.iconst 2, 1) := by decide +kernel
theorem dX7_asks_33 : decode cX7_asks 33 = .ok (.aload_n 0, 1) := by decide +kernel
theorem dX7_asks_34 : decode cX7_asks 34 = .ok (.iconst 0, 1) := by decide +kernel
theorem dX7_asks_35 : decode cX7_asks 35 = .ok (.iload_n 3, 1) := by decide +kernel
theorem dX7_asks_36 : decode cX7_asks 36 = .ok (.invokevirtual 301, 3) := by decide +kernel
theorem dX7_asks_39 : decode cX7_asks 39 = .ok (.imul, 1) := by decide +kernel
theorem dX7_asks_40 : decode cX7_asks 40 = .ok (.aload_n 0, 1) := by decide +kernel
theorem dX7_asks_41 : decode cX7_asks 41 = .ok (.getfield 291, 3) := by decide +kernel
theorem dX7_asks_44 : decode cX7_asks 44 = .ok (.isub, 1) := by decide +kernel
theorem dX7_asks_45 : decode cX7_asks 45 = .ok (.istore 4, 2) := by decide +kernel
theorem dX7_asks_47 : decode cX7_asks 47 = .ok (.iload 4, 2) := by decide +kernel
theorem dX7_asks_49 : decode cX7_asks 49 = .ok (.ifCond .ge 9, 3) := by decide +kernel
theorem dX7_asks_52 : decode cX7_asks 52 = .ok (.iload 4, 2) := by decide +kernel
theorem dX7_asks_54 : decode cX7_asks 54 = .ok (.ineg, 1) := by decide +kernel
theorem dX7_asks_55 : decode cX7_asks 55 = .ok (.goto 5, 3) := by decide +kernel
theorem dX7_asks_58 : decode cX7_asks 58 = .ok (.iload 4, 2) := by decide +kernel
theorem dX7_asks_60 : decode cX7_asks 60 = .ok (.istore 4, 2) := by decide +kernel
theorem dX7_asks_62 : decode cX7_asks 62 = .ok (.iload_n 1, 1) := by decide +kernel
theorem dX7_asks_63 : decode cX7_asks 63 = .ok (.iconst (-1), 1) := by decide +kernel
theorem dX7_asks_64 : decode cX7_asks 64 = .ok (.if_icmp .eq 9, 3) := by decide +kernel
theorem dX7_asks_67 : decode cX7_asks 67 = .ok (.iload 4, 2) := by decide +kernel
theorem dX7_asks_69 : decode cX7_asks 69 = .ok (.iload_n 2, 1) := by decide +kernel
theorem dX7_asks_70 : decode cX7_asks 70 = .ok (.if_icmp .ge 8, 3) := by decide +kernel
theorem dX7_asks_73 : decode cX7_asks 73 = .ok (.iload_n 3, 1) := by decide +kernel
theorem dX7_asks_74 : decode cX7_asks 74 = .ok (.istore_n 1, 1) := by decide +kernel
theorem dX7_asks_75 : decode cX7_asks 75 = .ok (.iload 4, 2) := by decide +kernel
theorem dX7_asks_77 : decode cX7_asks 77 = .ok (.istore_n 2, 1) := by decide +kernel
theorem dX7_asks_78 : decode cX7_asks 78 = .ok (.iinc 3 1, 3) := by decide +kernel
theorem dX7_asks_81 : decode cX7_asks 81 = .ok (.goto (-57), 3) := by decide +kernel
theorem dX7_asks_84 : decode cX7_asks 84 = .ok (.iload_n 1, 1) := by decide +kernel
theorem dX7_asks_85 : decode cX7_asks 85 = .ok (.ireturn, 1) := by decide +kernel
theorem dX7_after_0 : decode cX7_after 0 = .ok (.aload_n 0, 1) := by decide +kernel
theorem dX7_after_1 : decode cX7_after 1 = .ok (.iload_n 1, 1) := by decide +kernel
theorem dX7_after_2 : decode cX7_after 2 = .ok (.i2l, 1) := by decide +kernel
theorem dX7_after_3 : decode cX7_after 3 = .ok (.invokevirtual 118, 3) := by decide +kernel
theorem dX7_after_6 : decode cX7_after 6 = .ok (.ifCond .eq 15, 3) := by decide +kernel
theorem dX7_after_9 : decode cX7_after 9 = .ok (.iload_n 3, 1) := by decide +kernel
theorem dX7_after_10 : decode cX7_after 10 = .ok (.i2l, 1) := by decide +kernel
theorem dX7_after_11 : decode cX7_after 11 = .ok (.lconst 0, 1) := by decide +kernel
theorem dX7_after_12 : decode cX7_after 12 = .ok (.ldc2_w 153, 3) := by decide +kernel
theorem dX7_after_15 : decode cX7_after 15 = .ok (.invokestatic 97, 3) := by decide +kernel
theorem dX7_after_18 : decode cX7_after 18 = .ok (.ifCond .ne 10, 3) := by decide +kernel
theorem dX7_after_21 : decode cX7_after 21 = .ok (.aload_n 0, 1) := by decide +kernel
theorem dX7_after_22 : decode cX7_after 22 = .ok (.bipush (-2), 2) := by decide +kernel
theorem dX7_after_24 : decode cX7_after 24 = .ok (.invokevirtual 107, 3) := by decide +kernel
theorem dX7_after_27 : decode cX7_after 27 = .ok (.ireturn, 1) := by decide +kernel
theorem dX7_after_28 : decode cX7_after 28 = .ok (.aload_n 0, 1) := by decide +kernel
theorem dX7_after_29 : decode cX7_after 29 = .ok (.getfield 150, 3) := by decide +kernel
theorem dX7_after_32 : decode cX7_after 32 = .ok (.bipush 8, 2) := by decide +kernel
theorem dX7_after_34 : decode cX7_after 34 = .ok (.if_icmp .ne 10, 3) := by decide +kernel
theorem dX7_after_37 : decode cX7_after 37 = .ok (.aload_n 0, 1) := by decide +kernel
theorem dX7_after_38 : decode cX7_after 38 = .ok (.bipush (-6), 2) := by decide +kernel
theorem dX7_after_40 : decode cX7_after 40 = .ok (.invokevirtual 107, 3) := by decide +kernel
theorem dX7_after_43 : decode cX7_after 43 = .ok (.ireturn, 1) := by decide +kernel
theorem dX7_after_44 : decode cX7_after 44 = .ok (.aload_n 0, 1) := by decide +kernel
theorem dX7_after_45 : decode cX7_after 45 = .ok (.iload_n 1, 1) := by decide +kernel
theorem dX7_after_46 : decode cX7_after 46 = .ok (.iload_n 2, 1) := by decide +kernel
theorem dX7_after_47 : decode cX7_after 47 = .ok (.ifCond .eq 7, 3) := by decide +kernel
theorem dX7_after_50 : decode cX7_after 50 = .ok (.iconst 1, 1) := by decide +kernel
theorem dX7_after_51 : decode cX7_after 51 = .ok (.goto 4, 3) := by decide +kernel
theorem dX7_after_54 : decode cX7_after 54 = .ok (.iconst 0, 1) := by decide +kernel
theorem dX7_after_55 : decode cX7_after 55 = .ok (.iload_n 3, 1) := by decide +kernel
theorem dX7_after_56 : decode cX7_after 56 = .ok (.invokevirtual 155, 3) := by decide +kernel
theorem dX7_after_59 : decode cX7_after 59 = .ok (.aload_n 0, 1) := by decide +kernel
theorem dX7_after_60 : decode cX7_after 60 = .ok (.invokevirtual 294, 3) := by decide +kernel
theorem dX7_after_63 : decode cX7_after 63 = .ok (.aload_n 0, 1) := by decide +kernel
theorem dX7_after_64 : decode cX7_after 64 = .ok (.dup, 1) := by decide +kernel
theorem dX7_after_65 : decode cX7_after 65 = .ok (.getfield 150, 3) := by decide +kernel
theorem dX7_after_68 : decode cX7_after 68 = .ok (.iconst 1, 1) := by decide +kernel
theorem dX7_after_69 : decode cX7_after 69 = .ok (.isub, 1) := by decide +kernel
theorem dX7_after_70 : decode cX7_after 70 = .ok (.putfield 150, 3) := by decide +kernel
theorem dX7_after_73 : decode cX7_after 73 = .ok (.aload_n 0, 1) := by decide +kernel
theorem dX7_after_74 : decode cX7_after 74 = .ok (.aload_n 0, 1) := by decide +kernel
theorem dX7_after_75 : decode cX7_after 75 = .ok (.getfield 285, 3) := by decide +kernel
theorem dX7_after_78 : decode cX7_after 78 = .ok (.i2l, 1) := by decide +kernel
theorem dX7_after_79 : decode cX7_after 79 = .ok (.invokevirtual 297, 3) := by decide +kernel
theorem dX7_after_82 : decode cX7_after 82 = .ok (.ireturn, 1) := by decide +kernel
theorem dX7_where_0 : decode cX7_where 0 = .ok (.aload_n 0, 1) := by decide +kernel
theorem dX7_where_1 : decode cX7_where 1 = .ok (.getfield 94, 3) := by decide +kernel
theorem dX7_where_4 : decode cX7_where 4 = .ok (.ifCond .ne 10, 3) := by decide +kernel
theorem dX7_where_7 : decode cX7_where 7 = .ok (.aload_n 0, 1) := by decide +kernel
theorem dX7_where_8 : decode cX7_where 8 = .ok (.bipush (-5), 2) := by decide +kernel
theorem dX7_where_10 : decode cX7_where 10 = .ok (.invokevirtual 107, 3) := by decide +kernel
theorem dX7_where_13 : decode cX7_where 13 = .ok (.ireturn, 1) := by decide +kernel
theorem dX7_where_14 : decode cX7_where 14 = .ok (.aload_n 0, 1) := by decide +kernel
theorem dX7_where_15 : decode cX7_where 15 = .ok (.invokevirtual 294, 3) := by decide +kernel
theorem dX7_where_18 : decode cX7_where 18 = .ok (.iconst 0, 1) := by decide +kernel
theorem dX7_where_19 : decode cX7_where 19 = .ok (.istore_n 1, 1) := by decide +kernel
theorem dX7_where_20 : decode cX7_where 20 = .ok (.iconst 1, 1) := by decide +kernel
theorem dX7_where_21 : decode cX7_where 21 = .ok (.istore_n 2, 1) := by decide +kernel
theorem dX7_where_22 : decode cX7_where 22 = .ok (.iload_n 2, 1) := by decide +kernel
theorem dX7_where_23 : decode cX7_where 23 = .ok (.aload_n 0, 1) := by decide +kernel
theorem dX7_where_24 : decode cX7_where 24 = .ok (.getfield 94, 3) := by decide +kernel
theorem dX7_where_27 : decode cX7_where 27 = .ok (.if_icmp .ge 30, 3) := by decide +kernel
theorem dX7_where_30 : decode cX7_where 30 = .ok (.aload_n 0, 1) := by decide +kernel
theorem dX7_where_31 : decode cX7_where 31 = .ok (.getfield 86, 3) := by decide +kernel
theorem dX7_where_34 : decode cX7_where 34 = .ok (.iload_n 2, 1) := by decide +kernel
theorem dX7_where_35 : decode cX7_where 35 = .ok (.iaload, 1) := by decide +kernel
theorem dX7_where_36 : decode cX7_where 36 = .ok (.aload_n 0, 1) := by decide +kernel
theorem dX7_where_37 : decode cX7_where 37 = .ok (.getfield 86, 3) := by decide +kernel
theorem dX7_where_40 : decode cX7_where 40 = .ok (.iload_n 1, 1) := by decide +kernel
theorem dX7_where_41 : decode cX7_where 41 = .ok (.iaload, 1) := by decide +kernel
theorem dX7_where_42 : decode cX7_where 42 = .ok (.if_icmp .le 7, 3) := by decide +kernel
theorem dX7_where_45 : decode cX7_where 45 = .ok (.iload_n 2, 1) := by decide +kernel
theorem dX7_where_46 : decode cX7_where 46 = .ok (.goto 4, 3) := by decide +kernel
theorem dX7_where_49 : decode cX7_where 49 = .ok (.iload_n 1, 1) := by decide +kernel
theorem dX7_where_50 : decode cX7_where 50 = .ok (.istore_n 1, 1) := by decide +kernel
theorem dX7_where_51 : decode cX7_where 51 = .ok (.iinc 2 1, 3) := by decide +kernel
theorem dX7_where_54 : decode cX7_where 54 = .ok (.goto (-32), 3) := by decide +kernel
theorem dX7_where_57 : decode cX7_where 57 = .ok (.iload_n 1, 1) := by decide +kernel
theorem dX7_where_58 : decode cX7_where 58 = .ok (.ireturn, 1) := by decide +kernel
theorem dX7_sees_0 : decode cX7_sees 0 = .ok (.bipush 30, 2) := by decide +kernel
theorem dX7_sees_2 : decode cX7_sees 2 = .ok (.iload_n 0, 1) := by decide +kernel
theorem dX7_sees_3 : decode cX7_sees 3 = .ok (.imul, 1) := by decide +kernel
theorem dX7_sees_4 : decode cX7_sees 4 = .ok (.ireturn, 1) := by decide +kernel
theorem dX7_misses_0 : decode cX7_misses 0 = .ok (.aload_n 0, 1) := by decide +kernel
theorem dX7_misses_1 : decode cX7_misses 1 = .ok (.getfield 49, 3) := by decide +kernel
theorem dX7_misses_4 : decode cX7_misses 4 = .ok (.iload_n 1, 1) := by decide +kernel
theorem dX7_misses_5 : decode cX7_misses 5 = .ok (.aload_n 0, 1) := by decide +kernel
theorem dX7_misses_6 : decode cX7_misses 6 = .ok (.getfield 49, 3) := by decide +kernel
theorem dX7_misses_9 : decode cX7_misses 9 = .ok (.iload_n 1, 1) := by decide +kernel
theorem dX7_misses_10 : decode cX7_misses 10 = .ok (.iaload, 1) := by decide +kernel
theorem dX7_misses_11 : decode cX7_misses 11 = .ok (.bipush 100, 2) := by decide +kernel
theorem dX7_misses_13 : decode cX7_misses 13 = .ok (.iload_n 2, 1) := by decide +kernel
theorem dX7_misses_14 : decode cX7_misses 14 = .ok (.invokestatic 304, 3) := by decide +kernel
theorem dX7_misses_17 : decode cX7_misses 17 = .ok (.isub, 1) := by decide +kernel
theorem dX7_misses_18 : decode cX7_misses 18 = .ok (.invokestatic 288, 3) := by decide +kernel
theorem dX7_misses_21 : decode cX7_misses 21 = .ok (.iastore, 1) := by decide +kernel
theorem dX7_misses_22 : decode cX7_misses 22 = .ok (.return_, 1) := by decide +kernel
theorem dX7_secondsOf_0 : decode cX7_secondsOf 0 = .ok (.aload_n 0, 1) := by decide +kernel
theorem dX7_secondsOf_1 : decode cX7_secondsOf 1 = .ok (.getfield 43, 3) := by decide +kernel
theorem dX7_secondsOf_4 : decode cX7_secondsOf 4 = .ok (.iload_n 1, 1) := by decide +kernel
theorem dX7_secondsOf_5 : decode cX7_secondsOf 5 = .ok (.iaload, 1) := by decide +kernel
theorem dX7_secondsOf_6 : decode cX7_secondsOf 6 = .ok (.iload_n 2, 1) := by decide +kernel
theorem dX7_secondsOf_7 : decode cX7_secondsOf 7 = .ok (.iconst 1, 1) := by decide +kernel
theorem dX7_secondsOf_8 : decode cX7_secondsOf 8 = .ok (.if_icmp .ne 8, 3) := by decide +kernel
theorem dX7_secondsOf_11 : decode cX7_secondsOf 11 = .ok (.bipush 10, 2) := by decide +kernel
theorem dX7_secondsOf_13 : decode cX7_secondsOf 13 = .ok (.goto 13, 3) := by decide +kernel
theorem dX7_secondsOf_16 : decode cX7_secondsOf 16 = .ok (.iload_n 2, 1) := by decide +kernel
theorem dX7_secondsOf_17 : decode cX7_secondsOf 17 = .ok (.iconst 2, 1) := by decide +kernel
theorem dX7_secondsOf_18 : decode cX7_secondsOf 18 = .ok (.if_icmp .ne 7, 3) := by decide +kernel
theorem dX7_secondsOf_21 : decode cX7_secondsOf 21 = .ok (.iconst 4, 1) := by decide +kernel
theorem dX7_secondsOf_22 : decode cX7_secondsOf 22 = .ok (.goto 4, 3) := by decide +kernel
theorem dX7_secondsOf_25 : decode cX7_secondsOf 25 = .ok (.iconst 1, 1) := by decide +kernel
theorem dX7_secondsOf_26 : decode cX7_secondsOf 26 = .ok (.idiv, 1) := by decide +kernel
theorem dX7_secondsOf_27 : decode cX7_secondsOf 27 = .ok (.iconst 1, 1) := by decide +kernel
theorem dX7_secondsOf_28 : decode cX7_secondsOf 28 = .ok (.iadd, 1) := by decide +kernel
theorem dX7_secondsOf_29 : decode cX7_secondsOf 29 = .ok (.ireturn, 1) := by decide +kernel
theorem dX7_isLook_0 : decode cX7_isLook 0 = .ok (.iload_n 0, 1) := by decide +kernel
theorem dX7_isLook_1 : decode cX7_isLook 1 = .ok (.i2l, 1) := by decide +kernel
theorem dX7_isLook_2 : decode cX7_isLook 2 = .ok (.lconst 1, 1) := by decide +kernel
theorem dX7_isLook_3 : decode cX7_isLook 3 = .ok (.ldc2_w 307, 3) := by decide +kernel
theorem dX7_isLook_6 : decode cX7_isLook 6 = .ok (.invokestatic 97, 3) := by decide +kernel
theorem dX7_isLook_9 : decode cX7_isLook 9 = .ok (.ireturn, 1) := by decide +kernel
theorem dX7_seconds_0 : decode cX7_seconds 0 = .ok (.aload_n 0, 1) := by decide +kernel
theorem dX7_seconds_1 : decode cX7_seconds 1 = .ok (.iload_n 1, 1) := by decide +kernel
theorem dX7_seconds_2 : decode cX7_seconds 2 = .ok (.i2l, 1) := by decide +kernel
theorem dX7_seconds_3 : decode cX7_seconds 3 = .ok (.invokevirtual 118, 3) := by decide +kernel
theorem dX7_seconds_6 : decode cX7_seconds 6 = .ok (.ifCond .eq 19, 3) := by decide +kernel
theorem dX7_seconds_9 : decode cX7_seconds 9 = .ok (.iload_n 2, 1) := by decide +kernel
theorem dX7_seconds_10 : decode cX7_seconds 10 = .ok (.invokestatic 309, 3) := by decide +kernel
theorem dX7_seconds_13 : decode cX7_seconds 13 = .ok (.ifCond .eq 12, 3) := by decide +kernel
theorem dX7_seconds_16 : decode cX7_seconds 16 = .ok (.aload_n 0, 1) := by decide +kernel
theorem dX7_seconds_17 : decode cX7_seconds 17 = .ok (.iload_n 1, 1) := by decide +kernel
theorem dX7_seconds_18 : decode cX7_seconds 18 = .ok (.iload_n 2, 1) := by decide +kernel
theorem dX7_seconds_19 : decode cX7_seconds 19 = .ok (.invokevirtual 312, 3) := by decide +kernel
theorem dX7_seconds_22 : decode cX7_seconds 22 = .ok (.goto 9, 3) := by decide +kernel
theorem dX7_seconds_25 : decode cX7_seconds 25 = .ok (.aload_n 0, 1) := by decide +kernel
theorem dX7_seconds_26 : decode cX7_seconds 26 = .ok (.bipush (-2), 2) := by decide +kernel
theorem dX7_seconds_28 : decode cX7_seconds 28 = .ok (.invokevirtual 107, 3) := by decide +kernel
theorem dX7_seconds_31 : decode cX7_seconds 31 = .ok (.ireturn, 1) := by decide +kernel
theorem dX7_foundBy_0 : decode cX7_foundBy 0 = .ok (.aload_n 0, 1) := by decide +kernel
theorem dX7_foundBy_1 : decode cX7_foundBy 1 = .ok (.getfield 86, 3) := by decide +kernel
theorem dX7_foundBy_4 : decode cX7_foundBy 4 = .ok (.iload_n 1, 1) := by decide +kernel
theorem dX7_foundBy_5 : decode cX7_foundBy 5 = .ok (.iaload, 1) := by decide +kernel
theorem dX7_foundBy_6 : decode cX7_foundBy 6 = .ok (.iload_n 2, 1) := by decide +kernel
theorem dX7_foundBy_7 : decode cX7_foundBy 7 = .ok (.invokestatic 304, 3) := by decide +kernel
theorem dX7_foundBy_10 : decode cX7_foundBy 10 = .ok (.invokestatic 288, 3) := by decide +kernel
theorem dX7_foundBy_13 : decode cX7_foundBy 13 = .ok (.ireturn, 1) := by decide +kernel
theorem dX7_found_0 : decode cX7_found 0 = .ok (.aload_n 0, 1) := by decide +kernel
theorem dX7_found_1 : decode cX7_found 1 = .ok (.iload_n 1, 1) := by decide +kernel
theorem dX7_found_2 : decode cX7_found 2 = .ok (.i2l, 1) := by decide +kernel
theorem dX7_found_3 : decode cX7_found 3 = .ok (.invokevirtual 118, 3) := by decide +kernel
theorem dX7_found_6 : decode cX7_found 6 = .ok (.ifCond .eq 10, 3) := by decide +kernel
theorem dX7_found_9 : decode cX7_found 9 = .ok (.iload_n 2, 1) := by decide +kernel
theorem dX7_found_10 : decode cX7_found 10 = .ok (.invokestatic 309, 3) := by decide +kernel
theorem dX7_found_13 : decode cX7_found 13 = .ok (.ifCond .ne 10, 3) := by decide +kernel
theorem dX7_found_16 : decode cX7_found 16 = .ok (.aload_n 0, 1) := by decide +kernel
theorem dX7_found_17 : decode cX7_found 17 = .ok (.bipush (-2), 2) := by decide +kernel
theorem dX7_found_19 : decode cX7_found 19 = .ok (.invokevirtual 107, 3) := by decide +kernel
theorem dX7_found_22 : decode cX7_found 22 = .ok (.ireturn, 1) := by decide +kernel
theorem dX7_found_23 : decode cX7_found 23 = .ok (.aload_n 0, 1) := by decide +kernel
theorem dX7_found_24 : decode cX7_found 24 = .ok (.invokevirtual 294, 3) := by decide +kernel
theorem dX7_found_27 : decode cX7_found 27 = .ok (.aload_n 0, 1) := by decide +kernel
theorem dX7_found_28 : decode cX7_found 28 = .ok (.iload_n 1, 1) := by decide +kernel
theorem dX7_found_29 : decode cX7_found 29 = .ok (.iload_n 2, 1) := by decide +kernel
theorem dX7_found_30 : decode cX7_found 30 = .ok (.invokevirtual 315, 3) := by decide +kernel
theorem dX7_found_33 : decode cX7_found 33 = .ok (.ireturn, 1) := by decide +kernel
theorem dX7_tensOf_0 : decode cX7_tensOf 0 = .ok (.iload_n 2, 1) := by decide +kernel
theorem dX7_tensOf_1 : decode cX7_tensOf 1 = .ok (.ifCond .ne 7, 3) := by decide +kernel
theorem dX7_tensOf_4 : decode cX7_tensOf 4 = .ok (.iconst 0, 1) := by decide +kernel
theorem dX7_tensOf_5 : decode cX7_tensOf 5 = .ok (.goto 15, 3) := by decide +kernel
theorem dX7_tensOf_8 : decode cX7_tensOf 8 = .ok (.aload_n 0, 1) := by decide +kernel
theorem dX7_tensOf_9 : decode cX7_tensOf 9 = .ok (.iload_n 1, 1) := by decide +kernel
theorem dX7_tensOf_10 : decode cX7_tensOf 10 = .ok (.iload_n 2, 1) := by decide +kernel
theorem dX7_tensOf_11 : decode cX7_tensOf 11 = .ok (.invokevirtual 312, 3) := by decide +kernel
theorem dX7_tensOf_14 : decode cX7_tensOf 14 = .ok (.bipush 9, 2) := by decide +kernel
theorem dX7_tensOf_16 : decode cX7_tensOf 16 = .ok (.iadd, 1) := by decide +kernel
theorem dX7_tensOf_17 : decode cX7_tensOf 17 = .ok (.bipush 10, 2) := by decide +kernel
theorem dX7_tensOf_19 : decode cX7_tensOf 19 = .ok (.idiv, 1) := by decide +kernel
theorem dX7_tensOf_20 : decode cX7_tensOf 20 = .ok (.ireturn, 1) := by decide +kernel
theorem dX7_mostBy_0 : decode cX7_mostBy 0 = .ok (.iload_n 3, 1) := by decide +kernel
theorem dX7_mostBy_1 : decode cX7_mostBy 1 = .ok (.aload_n 0, 1) := by decide +kernel
theorem dX7_mostBy_2 : decode cX7_mostBy 2 = .ok (.iload_n 1, 1) := by decide +kernel
theorem dX7_mostBy_3 : decode cX7_mostBy 3 = .ok (.iload_n 2, 1) := by decide +kernel
theorem dX7_mostBy_4 : decode cX7_mostBy 4 = .ok (.invokevirtual 318, 3) := by decide +kernel
theorem dX7_mostBy_7 : decode cX7_mostBy 7 = .ok (.isub, 1) := by decide +kernel
theorem dX7_mostBy_8 : decode cX7_mostBy 8 = .ok (.istore 4, 2) := by decide +kernel
theorem dX7_mostBy_10 : decode cX7_mostBy 10 = .ok (.iload 4, 2) := by decide +kernel
theorem dX7_mostBy_12 : decode cX7_mostBy 12 = .ok (.ifCond .ge 7, 3) := by decide +kernel
theorem dX7_mostBy_15 : decode cX7_mostBy 15 = .ok (.iconst (-1), 1) := by decide +kernel
theorem dX7_mostBy_16 : decode cX7_mostBy 16 = .ok (.goto 29, 3) := by decide +kernel
theorem dX7_mostBy_19 : decode cX7_mostBy 19 = .ok (.iload_n 2, 1) := by decide +kernel
theorem dX7_mostBy_20 : decode cX7_mostBy 20 = .ok (.ifCond .ne 7, 3) := by decide +kernel
theorem dX7_mostBy_23 : decode cX7_mostBy 23 = .ok (.iconst 0, 1) := by decide +kernel
theorem dX7_mostBy_24 : decode cX7_mostBy 24 = .ok (.goto 9, 3) := by decide +kernel
theorem dX7_mostBy_27 : decode cX7_mostBy 27 = .ok (.aload_n 0, 1) := by decide +kernel
theorem dX7_mostBy_28 : decode cX7_mostBy 28 = .ok (.iload_n 1, 1) := by decide +kernel
theorem dX7_mostBy_29 : decode cX7_mostBy 29 = .ok (.iload_n 2, 1) := by decide +kernel
theorem dX7_mostBy_30 : decode cX7_mostBy 30 = .ok (.invokevirtual 315, 3) := by decide +kernel
theorem dX7_mostBy_33 : decode cX7_mostBy 33 = .ok (.aload_n 0, 1) := by decide +kernel
theorem dX7_mostBy_34 : decode cX7_mostBy 34 = .ok (.getfield 91, 3) := by decide +kernel
theorem dX7_mostBy_37 : decode cX7_mostBy 37 = .ok (.iload_n 1, 1) := by decide +kernel
theorem dX7_mostBy_38 : decode cX7_mostBy 38 = .ok (.iconst 1, 1) := by decide +kernel
theorem dX7_mostBy_39 : decode cX7_mostBy 39 = .ok (.iadd, 1) := by decide +kernel
theorem dX7_mostBy_40 : decode cX7_mostBy 40 = .ok (.aaload, 1) := by decide +kernel
theorem dX7_mostBy_41 : decode cX7_mostBy 41 = .ok (.iload 4, 2) := by decide +kernel
theorem dX7_mostBy_43 : decode cX7_mostBy 43 = .ok (.iaload, 1) := by decide +kernel
theorem dX7_mostBy_44 : decode cX7_mostBy 44 = .ok (.iadd, 1) := by decide +kernel
theorem dX7_mostBy_45 : decode cX7_mostBy 45 = .ok (.ireturn, 1) := by decide +kernel
theorem dX7_findMost_0 : decode cX7_findMost 0 = .ok (.aload_n 0, 1) := by decide +kernel
theorem dX7_findMost_1 : decode cX7_findMost 1 = .ok (.invokevirtual 294, 3) := by decide +kernel
theorem dX7_findMost_4 : decode cX7_findMost 4 = .ok (.iconst 0, 1) := by decide +kernel
theorem dX7_findMost_5 : decode cX7_findMost 5 = .ok (.istore_n 1, 1) := by decide +kernel
theorem dX7_findMost_6 : decode cX7_findMost 6 = .ok (.iload_n 1, 1) := by decide +kernel
theorem dX7_findMost_7 : decode cX7_findMost 7 = .ok (.sipush 900, 3) := by decide +kernel
theorem dX7_findMost_10 : decode cX7_findMost 10 = .ok (.if_icmp .gt 21, 3) := by decide +kernel
theorem dX7_findMost_13 : decode cX7_findMost 13 = .ok (.aload_n 0, 1) := by decide +kernel
theorem dX7_findMost_14 : decode cX7_findMost 14 = .ok (.getfield 91, 3) := by decide +kernel
theorem dX7_findMost_17 : decode cX7_findMost 17 = .ok (.aload_n 0, 1) := by decide +kernel
theorem dX7_findMost_18 : decode cX7_findMost 18 = .ok (.getfield 94, 3) := by decide +kernel
theorem dX7_findMost_21 : decode cX7_findMost 21 = .ok (.aaload, 1) := by decide +kernel
theorem dX7_findMost_22 : decode cX7_findMost 22 = .ok (.iload_n 1, 1) := by decide +kernel
theorem dX7_findMost_23 : decode cX7_findMost 23 = .ok (.iconst 0, 1) := by decide +kernel
theorem dX7_findMost_24 : decode cX7_findMost 24 = .ok (.iastore, 1) := by decide +kernel
theorem dX7_findMost_25 : decode cX7_findMost 25 = .ok (.iinc 1 1, 3) := by decide +kernel
theorem dX7_findMost_28 : decode cX7_findMost 28 = .ok (.goto (-22), 3) := by decide +kernel
theorem dX7_findMost_31 : decode cX7_findMost 31 = .ok (.aload_n 0, 1) := by decide +kernel
theorem dX7_findMost_32 : decode cX7_findMost 32 = .ok (.getfield 94, 3) := by decide +kernel
theorem dX7_findMost_35 : decode cX7_findMost 35 = .ok (.iconst 1, 1) := by decide +kernel
theorem dX7_findMost_36 : decode cX7_findMost 36 = .ok (.isub, 1) := by decide +kernel
theorem dX7_findMost_37 : decode cX7_findMost 37 = .ok (.istore_n 1, 1) := by decide +kernel
theorem dX7_findMost_38 : decode cX7_findMost 38 = .ok (.iload_n 1, 1) := by decide +kernel
theorem dX7_findMost_39 : decode cX7_findMost 39 = .ok (.ifCond .lt 73, 3) := by decide +kernel
theorem dX7_findMost_42 : decode cX7_findMost 42 = .ok (.iconst 0, 1) := by decide +kernel
theorem dX7_findMost_43 : decode cX7_findMost 43 = .ok (.istore_n 2, 1) := by decide +kernel
theorem dX7_findMost_44 : decode cX7_findMost 44 = .ok (.iload_n 2, 1) := by decide +kernel
theorem dX7_findMost_45 : decode cX7_findMost 45 = .ok (.sipush 900, 3) := by decide +kernel
theorem dX7_findMost_48 : decode cX7_findMost 48 = .ok (.if_icmp .gt 58, 3) := by decide +kernel
theorem dX7_findMost_51 : decode cX7_findMost 51 = .ok (.iconst 0, 1) := by decide +kernel
theorem dX7_findMost_52 : decode cX7_findMost 52 = .ok (.istore_n 3, 1) := by decide +kernel
theorem dX7_findMost_53 : decode cX7_findMost 53 = .ok (.iconst 0, 1) := by decide +kernel
theorem dX7_findMost_54 : decode cX7_findMost 54 = .ok (.istore 4, 2) := by decide +kernel
theorem dX7_findMost_56 : decode cX7_findMost 56 = .ok (.iload 4, 2) := by decide +kernel
theorem dX7_findMost_58 : decode cX7_findMost 58 = .ok (.iconst 3, 1) := by decide +kernel
theorem dX7_findMost_59 : decode cX7_findMost 59 = .ok (.if_icmp .gt 32, 3) := by decide +kernel
theorem dX7_findMost_62 : decode cX7_findMost 62 = .ok (.aload_n 0, 1) := by decide +kernel
theorem dX7_findMost_63 : decode cX7_findMost 63 = .ok (.iload_n 1, 1) := by decide +kernel
theorem dX7_findMost_64 : decode cX7_findMost 64 = .ok (.iload 4, 2) := by decide +kernel
theorem dX7_findMost_66 : decode cX7_findMost 66 = .ok (.iload_n 2, 1) := by decide +kernel
theorem dX7_findMost_67 : decode cX7_findMost 67 = .ok (.invokevirtual 321, 3) := by decide +kernel
theorem dX7_findMost_70 : decode cX7_findMost 70 = .ok (.istore 5, 2) := by decide +kernel
theorem dX7_findMost_72 : decode cX7_findMost 72 = .ok (.iload 5, 2) := by decide +kernel
theorem dX7_findMost_74 : decode cX7_findMost 74 = .ok (.iload_n 3, 1) := by decide +kernel
theorem dX7_findMost_75 : decode cX7_findMost 75 = .ok (.if_icmp .le 8, 3) := by decide +kernel
theorem dX7_findMost_78 : decode cX7_findMost 78 = .ok (.iload 5, 2) := by decide +kernel
theorem dX7_findMost_80 : decode cX7_findMost 80 = .ok (.goto 4, 3) := by decide +kernel
theorem dX7_findMost_83 : decode cX7_findMost 83 = .ok (.iload_n 3, 1) := by decide +kernel
theorem dX7_findMost_84 : decode cX7_findMost 84 = .ok (.istore_n 3, 1) := by decide +kernel
theorem dX7_findMost_85 : decode cX7_findMost 85 = .ok (.iinc 4 1, 3) := by decide +kernel
theorem dX7_findMost_88 : decode cX7_findMost 88 = .ok (.goto (-32), 3) := by decide +kernel
theorem dX7_findMost_91 : decode cX7_findMost 91 = .ok (.aload_n 0, 1) := by decide +kernel
theorem dX7_findMost_92 : decode cX7_findMost 92 = .ok (.getfield 91, 3) := by decide +kernel
theorem dX7_findMost_95 : decode cX7_findMost 95 = .ok (.iload_n 1, 1) := by decide +kernel
theorem dX7_findMost_96 : decode cX7_findMost 96 = .ok (.aaload, 1) := by decide +kernel
theorem dX7_findMost_97 : decode cX7_findMost 97 = .ok (.iload_n 2, 1) := by decide +kernel
theorem dX7_findMost_98 : decode cX7_findMost 98 = .ok (.iload_n 3, 1) := by decide +kernel
theorem dX7_findMost_99 : decode cX7_findMost 99 = .ok (.iastore, 1) := by decide +kernel
theorem dX7_findMost_100 : decode cX7_findMost 100 = .ok (.iinc 2 1, 3) := by decide +kernel
theorem dX7_findMost_103 : decode cX7_findMost 103 = .ok (.goto (-59), 3) := by decide +kernel
theorem dX7_findMost_106 : decode cX7_findMost 106 = .ok (.iinc 1 (-1), 3) := by decide +kernel
theorem dX7_findMost_109 : decode cX7_findMost 109 = .ok (.goto (-71), 3) := by decide +kernel
theorem dX7_findMost_112 : decode cX7_findMost 112 = .ok (.return_, 1) := by decide +kernel
theorem dX7_best_0 : decode cX7_best 0 = .ok (.iload_n 1, 1) := by decide +kernel
theorem dX7_best_1 : decode cX7_best 1 = .ok (.i2l, 1) := by decide +kernel
theorem dX7_best_2 : decode cX7_best 2 = .ok (.lconst 0, 1) := by decide +kernel
theorem dX7_best_3 : decode cX7_best 3 = .ok (.ldc2_w 325, 3) := by decide +kernel
theorem dX7_best_6 : decode cX7_best 6 = .ok (.invokestatic 97, 3) := by decide +kernel
theorem dX7_best_9 : decode cX7_best 9 = .ok (.ifCond .eq 17, 3) := by decide +kernel
theorem dX7_best_12 : decode cX7_best 12 = .ok (.iload_n 2, 1) := by decide +kernel
theorem dX7_best_13 : decode cX7_best 13 = .ok (.iconst (-1), 1) := by decide +kernel
theorem dX7_best_14 : decode cX7_best 14 = .ok (.if_icmp .eq 19, 3) := by decide +kernel
theorem dX7_best_17 : decode cX7_best 17 = .ok (.aload_n 0, 1) := by decide +kernel
theorem dX7_best_18 : decode cX7_best 18 = .ok (.iload_n 2, 1) := by decide +kernel
theorem dX7_best_19 : decode cX7_best 19 = .ok (.i2l, 1) := by decide +kernel
theorem dX7_best_20 : decode cX7_best 20 = .ok (.invokevirtual 118, 3) := by decide +kernel
theorem dX7_best_23 : decode cX7_best 23 = .ok (.ifCond .ne 10, 3) := by decide +kernel
theorem dX7_best_26 : decode cX7_best 26 = .ok (.aload_n 0, 1) := by decide +kernel
theorem dX7_best_27 : decode cX7_best 27 = .ok (.bipush (-2), 2) := by decide +kernel
theorem dX7_best_29 : decode cX7_best 29 = .ok (.invokevirtual 107, 3) := by decide +kernel
theorem dX7_best_32 : decode cX7_best 32 = .ok (.ireturn, 1) := by decide +kernel
theorem dX7_best_33 : decode cX7_best 33 = .ok (.aload_n 0, 1) := by decide +kernel
theorem dX7_best_34 : decode cX7_best 34 = .ok (.invokevirtual 327, 3) := by decide +kernel
theorem dX7_best_37 : decode cX7_best 37 = .ok (.iload_n 1, 1) := by decide +kernel
theorem dX7_best_38 : decode cX7_best 38 = .ok (.bipush 10, 2) := by decide +kernel
theorem dX7_best_40 : decode cX7_best 40 = .ok (.idiv, 1) := by decide +kernel
theorem dX7_best_41 : decode cX7_best 41 = .ok (.istore_n 3, 1) := by decide +kernel
theorem dX7_best_42 : decode cX7_best 42 = .ok (.iload_n 2, 1) := by decide +kernel
theorem dX7_best_43 : decode cX7_best 43 = .ok (.iconst (-1), 1) := by decide +kernel
theorem dX7_best_44 : decode cX7_best 44 = .ok (.if_icmp .ne 12, 3) := by decide +kernel
theorem dX7_best_47 : decode cX7_best 47 = .ok (.aload_n 0, 1) := by decide +kernel
theorem dX7_best_48 : decode cX7_best 48 = .ok (.getfield 91, 3) := by decide +kernel
theorem dX7_best_51 : decode cX7_best 51 = .ok (.iconst 0, 1) := by decide +kernel
theorem dX7_best_52 : decode cX7_best 52 = .ok (.aaload, 1) := by decide +kernel
theorem dX7_best_53 : decode cX7_best 53 = .ok (.iload_n 3, 1) := by decide +kernel
theorem dX7_best_54 : decode cX7_best 54 = .ok (.iaload, 1) := by decide +kernel
theorem dX7_best_55 : decode cX7_best 55 = .ok (.ireturn, 1) := by decide +kernel
theorem dX7_best_56 : decode cX7_best 56 = .ok (.iconst 0, 1) := by decide +kernel
theorem dX7_best_57 : decode cX7_best 57 = .ok (.istore 4, 2) := by decide +kernel
theorem dX7_best_59 : decode cX7_best 59 = .ok (.iconst 0, 1) := by decide +kernel
theorem dX7_best_60 : decode cX7_best 60 = .ok (.istore 5, 2) := by decide +kernel
theorem dX7_best_62 : decode cX7_best 62 = .ok (.iload 5, 2) := by decide +kernel
theorem dX7_best_64 : decode cX7_best 64 = .ok (.iload_n 2, 1) := by decide +kernel
theorem dX7_best_65 : decode cX7_best 65 = .ok (.if_icmp .gt 50, 3) := by decide +kernel
theorem dX7_best_68 : decode cX7_best 68 = .ok (.iconst 0, 1) := by decide +kernel
theorem dX7_best_69 : decode cX7_best 69 = .ok (.istore 4, 2) := by decide +kernel
theorem dX7_best_71 : decode cX7_best 71 = .ok (.aload_n 0, 1) := by decide +kernel
theorem dX7_best_72 : decode cX7_best 72 = .ok (.iload 5, 2) := by decide +kernel
theorem dX7_best_74 : decode cX7_best 74 = .ok (.iload 4, 2) := by decide +kernel
theorem dX7_best_76 : decode cX7_best 76 = .ok (.iload_n 3, 1) := by decide +kernel
theorem dX7_best_77 : decode cX7_best 77 = .ok (.invokevirtual 321, 3) := by decide +kernel
theorem dX7_best_80 : decode cX7_best 80 = .ok (.aload_n 0, 1) := by decide +kernel
theorem dX7_best_81 : decode cX7_best 81 = .ok (.getfield 91, 3) := by decide +kernel
theorem dX7_best_84 : decode cX7_best 84 = .ok (.iload 5, 2) := by decide +kernel
theorem dX7_best_86 : decode cX7_best 86 = .ok (.aaload, 1) := by decide +kernel
theorem dX7_best_87 : decode cX7_best 87 = .ok (.iload_n 3, 1) := by decide +kernel
theorem dX7_best_88 : decode cX7_best 88 = .ok (.iaload, 1) := by decide +kernel
theorem dX7_best_89 : decode cX7_best 89 = .ok (.if_icmp .eq 9, 3) := by decide +kernel
theorem dX7_best_92 : decode cX7_best 92 = .ok (.iinc 4 1, 3) := by decide +kernel
theorem dX7_best_95 : decode cX7_best 95 = .ok (.goto (-24), 3) := by decide +kernel
theorem dX7_best_98 : decode cX7_best 98 = .ok (.iload_n 3, 1) := by decide +kernel
theorem dX7_best_99 : decode cX7_best 99 = .ok (.aload_n 0, 1) := by decide +kernel
theorem dX7_best_100 : decode cX7_best 100 = .ok (.iload 5, 2) := by decide +kernel
theorem dX7_best_102 : decode cX7_best 102 = .ok (.iload 4, 2) := by decide +kernel
theorem dX7_best_104 : decode cX7_best 104 = .ok (.invokevirtual 318, 3) := by decide +kernel
theorem dX7_best_107 : decode cX7_best 107 = .ok (.isub, 1) := by decide +kernel
theorem dX7_best_108 : decode cX7_best 108 = .ok (.istore_n 3, 1) := by decide +kernel
theorem dX7_best_109 : decode cX7_best 109 = .ok (.iinc 5 1, 3) := by decide +kernel
theorem dX7_best_112 : decode cX7_best 112 = .ok (.goto (-50), 3) := by decide +kernel
theorem dX7_best_115 : decode cX7_best 115 = .ok (.iload 4, 2) := by decide +kernel
theorem dX7_best_117 : decode cX7_best 117 = .ok (.ireturn, 1) := by decide +kernel
theorem dX7_nextNow_0 : decode cX7_nextNow 0 = .ok (.aload_n 0, 1) := by decide +kernel
theorem dX7_nextNow_1 : decode cX7_nextNow 1 = .ok (.invokevirtual 294, 3) := by decide +kernel
theorem dX7_nextNow_4 : decode cX7_nextNow 4 = .ok (.iconst (-1), 1) := by decide +kernel
theorem dX7_nextNow_5 : decode cX7_nextNow 5 = .ok (.istore_n 1, 1) := by decide +kernel
theorem dX7_nextNow_6 : decode cX7_nextNow 6 = .ok (.lconst 0, 1) := by decide +kernel
theorem dX7_nextNow_7 : decode cX7_nextNow 7 = .ok (.lstore_n 2, 1) := by decide +kernel
theorem dX7_nextNow_8 : decode cX7_nextNow 8 = .ok (.iconst 0, 1) := by decide +kernel
theorem dX7_nextNow_9 : decode cX7_nextNow 9 = .ok (.istore 4, 2) := by decide +kernel
theorem dX7_nextNow_11 : decode cX7_nextNow 11 = .ok (.iload 4, 2) := by decide +kernel
theorem dX7_nextNow_13 : decode cX7_nextNow 13 = .ok (.aload_n 0, 1) := by decide +kernel
theorem dX7_nextNow_14 : decode cX7_nextNow 14 = .ok (.getfield 94, 3) := by decide +kernel
theorem dX7_nextNow_17 : decode cX7_nextNow 17 = .ok (.if_icmp .ge 68, 3) := by decide +kernel
theorem dX7_nextNow_20 : decode cX7_nextNow 20 = .ok (.iconst 1, 1) := by decide +kernel
theorem dX7_nextNow_21 : decode cX7_nextNow 21 = .ok (.istore 5, 2) := by decide +kernel
theorem dX7_nextNow_23 : decode cX7_nextNow 23 = .ok (.iload 5, 2) := by decide +kernel
theorem dX7_nextNow_25 : decode cX7_nextNow 25 = .ok (.iconst 3, 1) := by decide +kernel
theorem dX7_nextNow_26 : decode cX7_nextNow 26 = .ok (.if_icmp .gt 53, 3) := by decide +kernel
theorem dX7_nextNow_29 : decode cX7_nextNow 29 = .ok (.aload_n 0, 1) := by decide +kernel
theorem dX7_nextNow_30 : decode cX7_nextNow 30 = .ok (.iload 4, 2) := by decide +kernel
theorem dX7_nextNow_32 : decode cX7_nextNow 32 = .ok (.iload 5, 2) := by decide +kernel
theorem dX7_nextNow_34 : decode cX7_nextNow 34 = .ok (.invokevirtual 315, 3) := by decide +kernel
theorem dX7_nextNow_37 : decode cX7_nextNow 37 = .ok (.i2l, 1) := by decide +kernel
theorem dX7_nextNow_38 : decode cX7_nextNow 38 = .ok (.ldc2_w 136, 3) := by decide +kernel
theorem dX7_nextNow_41 : decode cX7_nextNow 41 = .ok (.lmul, 1) := by decide +kernel
theorem dX7_nextNow_42 : decode cX7_nextNow 42 = .ok (.aload_n 0, 1) := by decide +kernel
theorem dX7_nextNow_43 : decode cX7_nextNow 43 = .ok (.iload 4, 2) := by decide +kernel
theorem dX7_nextNow_45 : decode cX7_nextNow 45 = .ok (.iload 5, 2) := by decide +kernel
theorem dX7_nextNow_47 : decode cX7_nextNow 47 = .ok (.invokevirtual 312, 3) := by decide +kernel
theorem dX7_nextNow_50 : decode cX7_nextNow 50 = .ok (.i2l, 1) := by decide +kernel
theorem dX7_nextNow_51 : decode cX7_nextNow 51 = .ok (.ldiv, 1) := by decide +kernel
theorem dX7_nextNow_52 : decode cX7_nextNow 52 = .ok (.lstore 6, 2) := by decide +kernel
theorem dX7_nextNow_54 : decode cX7_nextNow 54 = .ok (.lload 6, 2) := by decide +kernel
theorem dX7_nextNow_56 : decode cX7_nextNow 56 = .ok (.lload_n 2, 1) := by decide +kernel
theorem dX7_nextNow_57 : decode cX7_nextNow 57 = .ok (.lcmp, 1) := by decide +kernel
theorem dX7_nextNow_58 : decode cX7_nextNow 58 = .ok (.ifCond .le 15, 3) := by decide +kernel
theorem dX7_nextNow_61 : decode cX7_nextNow 61 = .ok (.bipush 10, 2) := by decide +kernel
theorem dX7_nextNow_63 : decode cX7_nextNow 63 = .ok (.iload 4, 2) := by decide +kernel
theorem dX7_nextNow_65 : decode cX7_nextNow 65 = .ok (.imul, 1) := by decide +kernel
theorem dX7_nextNow_66 : decode cX7_nextNow 66 = .ok (.iload 5, 2) := by decide +kernel
theorem dX7_nextNow_68 : decode cX7_nextNow 68 = .ok (.iadd, 1) := by decide +kernel
theorem dX7_nextNow_69 : decode cX7_nextNow 69 = .ok (.istore_n 1, 1) := by decide +kernel
theorem dX7_nextNow_70 : decode cX7_nextNow 70 = .ok (.lload 6, 2) := by decide +kernel
theorem dX7_nextNow_72 : decode cX7_nextNow 72 = .ok (.lstore_n 2, 1) := by decide +kernel
theorem dX7_nextNow_73 : decode cX7_nextNow 73 = .ok (.iinc 5 1, 3) := by decide +kernel
theorem dX7_nextNow_76 : decode cX7_nextNow 76 = .ok (.goto (-53), 3) := by decide +kernel
theorem dX7_nextNow_79 : decode cX7_nextNow 79 = .ok (.iinc 4 1, 3) := by decide +kernel
theorem dX7_nextNow_82 : decode cX7_nextNow 82 = .ok (.goto (-71), 3) := by decide +kernel
theorem dX7_nextNow_85 : decode cX7_nextNow 85 = .ok (.iload_n 1, 1) := by decide +kernel
theorem dX7_nextNow_86 : decode cX7_nextNow 86 = .ok (.ireturn, 1) := by decide +kernel
theorem dX7_next_0 : decode cX7_next 0 = .ok (.aload_n 0, 1) := by decide +kernel
theorem dX7_next_1 : decode cX7_next 1 = .ok (.invokevirtual 330, 3) := by decide +kernel
theorem dX7_next_4 : decode cX7_next 4 = .ok (.ireturn, 1) := by decide +kernel
theorem dX7_soonest_0 : decode cX7_soonest 0 = .ok (.iload_n 1, 1) := by decide +kernel
theorem dX7_soonest_1 : decode cX7_soonest 1 = .ok (.i2l, 1) := by decide +kernel
theorem dX7_soonest_2 : decode cX7_soonest 2 = .ok (.lconst 0, 1) := by decide +kernel
theorem dX7_soonest_3 : decode cX7_soonest 3 = .ok (.ldc2_w 333, 3) := by decide +kernel
theorem dX7_soonest_6 : decode cX7_soonest 6 = .ok (.invokestatic 97, 3) := by decide +kernel
theorem dX7_soonest_9 : decode cX7_soonest 9 = .ok (.ifCond .ne 10, 3) := by decide +kernel
theorem dX7_soonest_12 : decode cX7_soonest 12 = .ok (.aload_n 0, 1) := by decide +kernel
theorem dX7_soonest_13 : decode cX7_soonest 13 = .ok (.bipush (-2), 2) := by decide +kernel
theorem dX7_soonest_15 : decode cX7_soonest 15 = .ok (.invokevirtual 107, 3) := by decide +kernel
theorem dX7_soonest_18 : decode cX7_soonest 18 = .ok (.ireturn, 1) := by decide +kernel
theorem dX7_soonest_19 : decode cX7_soonest 19 = .ok (.aload_n 0, 1) := by decide +kernel
theorem dX7_soonest_20 : decode cX7_soonest 20 = .ok (.invokevirtual 327, 3) := by decide +kernel
theorem dX7_soonest_23 : decode cX7_soonest 23 = .ok (.iconst 0, 1) := by decide +kernel
theorem dX7_soonest_24 : decode cX7_soonest 24 = .ok (.istore_n 2, 1) := by decide +kernel
theorem dX7_soonest_25 : decode cX7_soonest 25 = .ok (.iload_n 2, 1) := by decide +kernel
theorem dX7_soonest_26 : decode cX7_soonest 26 = .ok (.sipush 900, 3) := by decide +kernel
theorem dX7_soonest_29 : decode cX7_soonest 29 = .ok (.if_icmp .gt 26, 3) := by decide +kernel
theorem dX7_soonest_32 : decode cX7_soonest 32 = .ok (.aload_n 0, 1) := by decide +kernel
theorem dX7_soonest_33 : decode cX7_soonest 33 = .ok (.getfield 91, 3) := by decide +kernel
theorem dX7_soonest_36 : decode cX7_soonest 36 = .ok (.iconst 0, 1) := by decide +kernel
theorem dX7_soonest_37 : decode cX7_soonest 37 = .ok (.aaload, 1) := by decide +kernel
theorem dX7_soonest_38 : decode cX7_soonest 38 = .ok (.iload_n 2, 1) := by decide +kernel
theorem dX7_soonest_39 : decode cX7_soonest 39 = .ok (.iaload, 1) := by decide +kernel
theorem dX7_soonest_40 : decode cX7_soonest 40 = .ok (.iload_n 1, 1) := by decide +kernel
theorem dX7_soonest_41 : decode cX7_soonest 41 = .ok (.if_icmp .lt 8, 3) := by decide +kernel
theorem dX7_soonest_44 : decode cX7_soonest 44 = .ok (.bipush 10, 2) := by decide +kernel
theorem dX7_soonest_46 : decode cX7_soonest 46 = .ok (.iload_n 2, 1) := by decide +kernel
theorem dX7_soonest_47 : decode cX7_soonest 47 = .ok (.imul, 1) := by decide +kernel
theorem dX7_soonest_48 : decode cX7_soonest 48 = .ok (.ireturn, 1) := by decide +kernel
theorem dX7_soonest_49 : decode cX7_soonest 49 = .ok (.iinc 2 1, 3) := by decide +kernel
theorem dX7_soonest_52 : decode cX7_soonest 52 = .ok (.goto (-27), 3) := by decide +kernel
theorem dX7_soonest_55 : decode cX7_soonest 55 = .ok (.iconst (-1), 1) := by decide +kernel
theorem dX7_soonest_56 : decode cX7_soonest 56 = .ok (.ireturn, 1) := by decide +kernel
theorem dX7_vainly_0 : decode cX7_vainly 0 = .ok (.aload_n 0, 1) := by decide +kernel
theorem dX7_vainly_1 : decode cX7_vainly 1 = .ok (.invokevirtual 263, 3) := by decide +kernel
theorem dX7_vainly_4 : decode cX7_vainly 4 = .ok (.astore_n 2, 1) := by decide +kernel
theorem dX7_vainly_5 : decode cX7_vainly 5 = .ok (.aload_n 2, 1) := by decide +kernel
theorem dX7_vainly_6 : decode cX7_vainly 6 = .ok (.invokevirtual 330, 3) := by decide +kernel
theorem dX7_vainly_9 : decode cX7_vainly 9 = .ok (.istore_n 3, 1) := by decide +kernel
theorem dX7_vainly_10 : decode cX7_vainly 10 = .ok (.iconst 0, 1) := by decide +kernel
theorem dX7_vainly_11 : decode cX7_vainly 11 = .ok (.istore 4, 2) := by decide +kernel
theorem dX7_vainly_13 : decode cX7_vainly 13 = .ok (.iload 4, 2) := by decide +kernel
theorem dX7_vainly_15 : decode cX7_vainly 15 = .ok (.iload_n 1, 1) := by decide +kernel
theorem dX7_vainly_16 : decode cX7_vainly 16 = .ok (.if_icmp .ge 31, 3) := by decide +kernel
theorem dX7_vainly_19 : decode cX7_vainly 19 = .ok (.iload_n 3, 1) := by decide +kernel
theorem dX7_vainly_20 : decode cX7_vainly 20 = .ok (.iconst (-1), 1) := by decide +kernel
theorem dX7_vainly_21 : decode cX7_vainly 21 = .ok (.if_icmp .eq 26, 3) := by decide +kernel
theorem dX7_vainly_24 : decode cX7_vainly 24 = .ok (.aload_n 2, 1) := by decide +kernel
theorem dX7_vainly_25 : decode cX7_vainly 25 = .ok (.iload_n 3, 1) := by decide +kernel
theorem dX7_vainly_26 : decode cX7_vainly 26 = .ok (.bipush 10, 2) := by decide +kernel
theorem dX7_vainly_28 : decode cX7_vainly 28 = .ok (.idiv, 1) := by decide +kernel
theorem dX7_vainly_29 : decode cX7_vainly 29 = .ok (.iload_n 3, 1) := by decide +kernel
theorem dX7_vainly_30 : decode cX7_vainly 30 = .ok (.bipush 10, 2) := by decide +kernel
theorem dX7_vainly_32 : decode cX7_vainly 32 = .ok (.irem, 1) := by decide +kernel
theorem dX7_vainly_33 : decode cX7_vainly 33 = .ok (.invokevirtual 244, 3) := by decide +kernel
theorem dX7_vainly_36 : decode cX7_vainly 36 = .ok (.aload_n 2, 1) := by decide +kernel
theorem dX7_vainly_37 : decode cX7_vainly 37 = .ok (.invokevirtual 330, 3) := by decide +kernel
theorem dX7_vainly_40 : decode cX7_vainly 40 = .ok (.istore_n 3, 1) := by decide +kernel
theorem dX7_vainly_41 : decode cX7_vainly 41 = .ok (.iinc 4 1, 3) := by decide +kernel
theorem dX7_vainly_44 : decode cX7_vainly 44 = .ok (.goto (-31), 3) := by decide +kernel
theorem dX7_vainly_47 : decode cX7_vainly 47 = .ok (.aload_n 2, 1) := by decide +kernel
theorem dX7_vainly_48 : decode cX7_vainly 48 = .ok (.areturn, 1) := by decide +kernel
theorem dX7_order_0 : decode cX7_order 0 = .ok (.iload_n 1, 1) := by decide +kernel
theorem dX7_order_1 : decode cX7_order 1 = .ok (.i2l, 1) := by decide +kernel
theorem dX7_order_2 : decode cX7_order 2 = .ok (.lconst 0, 1) := by decide +kernel
theorem dX7_order_3 : decode cX7_order 3 = .ok (.ldc2_w 105, 3) := by decide +kernel
theorem dX7_order_6 : decode cX7_order 6 = .ok (.invokestatic 97, 3) := by decide +kernel
theorem dX7_order_9 : decode cX7_order 9 = .ok (.ifCond .eq 14, 3) := by decide +kernel
theorem dX7_order_12 : decode cX7_order 12 = .ok (.aload_n 0, 1) := by decide +kernel
theorem dX7_order_13 : decode cX7_order 13 = .ok (.iload_n 1, 1) := by decide +kernel
theorem dX7_order_14 : decode cX7_order 14 = .ok (.invokevirtual 335, 3) := by decide +kernel
theorem dX7_order_17 : decode cX7_order 17 = .ok (.invokevirtual 330, 3) := by decide +kernel
theorem dX7_order_20 : decode cX7_order 20 = .ok (.goto 9, 3) := by decide +kernel
theorem dX7_order_23 : decode cX7_order 23 = .ok (.aload_n 0, 1) := by decide +kernel
theorem dX7_order_24 : decode cX7_order 24 = .ok (.bipush (-2), 2) := by decide +kernel
theorem dX7_order_26 : decode cX7_order 26 = .ok (.invokevirtual 107, 3) := by decide +kernel
theorem dX7_order_29 : decode cX7_order 29 = .ok (.ireturn, 1) := by decide +kernel
theorem dX7_vain_0 : decode cX7_vain 0 = .ok (.iload_n 1, 1) := by decide +kernel
theorem dX7_vain_1 : decode cX7_vain 1 = .ok (.i2l, 1) := by decide +kernel
theorem dX7_vain_2 : decode cX7_vain 2 = .ok (.lconst 0, 1) := by decide +kernel
theorem dX7_vain_3 : decode cX7_vain 3 = .ok (.ldc2_w 105, 3) := by decide +kernel
theorem dX7_vain_6 : decode cX7_vain 6 = .ok (.invokestatic 97, 3) := by decide +kernel
theorem dX7_vain_9 : decode cX7_vain 9 = .ok (.ifCond .eq 14, 3) := by decide +kernel
theorem dX7_vain_12 : decode cX7_vain 12 = .ok (.aload_n 0, 1) := by decide +kernel
theorem dX7_vain_13 : decode cX7_vain 13 = .ok (.iload_n 1, 1) := by decide +kernel
theorem dX7_vain_14 : decode cX7_vain 14 = .ok (.invokevirtual 335, 3) := by decide +kernel
theorem dX7_vain_17 : decode cX7_vain 17 = .ok (.getfield 291, 3) := by decide +kernel
theorem dX7_vain_20 : decode cX7_vain 20 = .ok (.goto 9, 3) := by decide +kernel
theorem dX7_vain_23 : decode cX7_vain 23 = .ok (.aload_n 0, 1) := by decide +kernel
theorem dX7_vain_24 : decode cX7_vain 24 = .ok (.bipush (-2), 2) := by decide +kernel
theorem dX7_vain_26 : decode cX7_vain 26 = .ok (.invokevirtual 107, 3) := by decide +kernel
theorem dX7_vain_29 : decode cX7_vain 29 = .ok (.ireturn, 1) := by decide +kernel
theorem dX7_others_0 : decode cX7_others 0 = .ok (.iload_n 1, 1) := by decide +kernel
theorem dX7_others_1 : decode cX7_others 1 = .ok (.i2l, 1) := by decide +kernel
theorem dX7_others_2 : decode cX7_others 2 = .ok (.lconst 0, 1) := by decide +kernel
theorem dX7_others_3 : decode cX7_others 3 = .ok (.ldc2_w 339, 3) := by decide +kernel
theorem dX7_others_6 : decode cX7_others 6 = .ok (.invokestatic 97, 3) := by decide +kernel
theorem dX7_others_9 : decode cX7_others 9 = .ok (.ifCond .ne 10, 3) := by decide +kernel
theorem dX7_others_12 : decode cX7_others 12 = .ok (.aload_n 0, 1) := by decide +kernel
theorem dX7_others_13 : decode cX7_others 13 = .ok (.bipush (-2), 2) := by decide +kernel
theorem dX7_others_15 : decode cX7_others 15 = .ok (.invokevirtual 107, 3) := by decide +kernel
theorem dX7_others_18 : decode cX7_others 18 = .ok (.ireturn, 1) := by decide +kernel
theorem dX7_others_19 : decode cX7_others 19 = .ok (.aload_n 0, 1) := by decide +kernel
theorem dX7_others_20 : decode cX7_others 20 = .ok (.invokevirtual 294, 3) := by decide +kernel
theorem dX7_others_23 : decode cX7_others 23 = .ok (.iconst 0, 1) := by decide +kernel
theorem dX7_others_24 : decode cX7_others 24 = .ok (.istore_n 2, 1) := by decide +kernel
theorem dX7_others_25 : decode cX7_others 25 = .ok (.iconst 0, 1) := by decide +kernel
theorem dX7_others_26 : decode cX7_others 26 = .ok (.istore_n 3, 1) := by decide +kernel
theorem dX7_others_27 : decode cX7_others 27 = .ok (.iload_n 3, 1) := by decide +kernel
theorem dX7_others_28 : decode cX7_others 28 = .ok (.aload_n 0, 1) := by decide +kernel
theorem dX7_others_29 : decode cX7_others 29 = .ok (.getfield 94, 3) := by decide +kernel
theorem dX7_others_32 : decode cX7_others 32 = .ok (.if_icmp .ge 65, 3) := by decide +kernel
theorem dX7_others_35 : decode cX7_others 35 = .ok (.aload_n 0, 1) := by decide +kernel
theorem dX7_others_36 : decode cX7_others 36 = .ok (.getfield 86, 3) := by decide +kernel
theorem dX7_others_39 : decode cX7_others 39 = .ok (.iload_n 3, 1) := by decide +kernel
theorem dX7_others_40 : decode cX7_others 40 = .ok (.iaload, 1) := by decide +kernel
theorem dX7_others_41 : decode cX7_others 41 = .ok (.istore 4, 2) := by decide +kernel
theorem dX7_others_43 : decode cX7_others 43 = .ok (.iconst 0, 1) := by decide +kernel
theorem dX7_others_44 : decode cX7_others 44 = .ok (.istore 5, 2) := by decide +kernel
theorem dX7_others_46 : decode cX7_others 46 = .ok (.iload 5, 2) := by decide +kernel
theorem dX7_others_48 : decode cX7_others 48 = .ok (.iload_n 1, 1) := by decide +kernel
theorem dX7_others_49 : decode cX7_others 49 = .ok (.if_icmp .ge 30, 3) := by decide +kernel
theorem dX7_others_52 : decode cX7_others 52 = .ok (.iload 4, 2) := by decide +kernel
theorem dX7_others_54 : decode cX7_others 54 = .ok (.iload 4, 2) := by decide +kernel
theorem dX7_others_56 : decode cX7_others 56 = .ok (.i2l, 1) := by decide +kernel
theorem dX7_others_57 : decode cX7_others 57 = .ok (.aload_n 0, 1) := by decide +kernel
theorem dX7_others_58 : decode cX7_others 58 = .ok (.getfield 46, 3) := by decide +kernel
theorem dX7_others_61 : decode cX7_others 61 = .ok (.iload_n 3, 1) := by decide +kernel
theorem dX7_others_62 : decode cX7_others 62 = .ok (.iaload, 1) := by decide +kernel
theorem dX7_others_63 : decode cX7_others 63 = .ok (.i2l, 1) := by decide +kernel
theorem dX7_others_64 : decode cX7_others 64 = .ok (.lmul, 1) := by decide +kernel
theorem dX7_others_65 : decode cX7_others 65 = .ok (.ldc2_w 136, 3) := by decide +kernel
theorem dX7_others_68 : decode cX7_others 68 = .ok (.ldiv, 1) := by decide +kernel
theorem dX7_others_69 : decode cX7_others 69 = .ok (.l2i, 1) := by decide +kernel
theorem dX7_others_70 : decode cX7_others 70 = .ok (.isub, 1) := by decide +kernel
theorem dX7_others_71 : decode cX7_others 71 = .ok (.istore 4, 2) := by decide +kernel
theorem dX7_others_73 : decode cX7_others 73 = .ok (.iinc 5 1, 3) := by decide +kernel
theorem dX7_others_76 : decode cX7_others 76 = .ok (.goto (-30), 3) := by decide +kernel
theorem dX7_others_79 : decode cX7_others 79 = .ok (.iload_n 2, 1) := by decide +kernel
theorem dX7_others_80 : decode cX7_others 80 = .ok (.aload_n 0, 1) := by decide +kernel
theorem dX7_others_81 : decode cX7_others 81 = .ok (.getfield 86, 3) := by decide +kernel
theorem dX7_others_84 : decode cX7_others 84 = .ok (.iload_n 3, 1) := by decide +kernel
theorem dX7_others_85 : decode cX7_others 85 = .ok (.iaload, 1) := by decide +kernel
theorem dX7_others_86 : decode cX7_others 86 = .ok (.iload 4, 2) := by decide +kernel
theorem dX7_others_88 : decode cX7_others 88 = .ok (.isub, 1) := by decide +kernel
theorem dX7_others_89 : decode cX7_others 89 = .ok (.iadd, 1) := by decide +kernel
theorem dX7_others_90 : decode cX7_others 90 = .ok (.istore_n 2, 1) := by decide +kernel
theorem dX7_others_91 : decode cX7_others 91 = .ok (.iinc 3 1, 3) := by decide +kernel
theorem dX7_others_94 : decode cX7_others 94 = .ok (.goto (-67), 3) := by decide +kernel
theorem dX7_others_97 : decode cX7_others 97 = .ok (.iload_n 2, 1) := by decide +kernel
theorem dX7_others_98 : decode cX7_others 98 = .ok (.ireturn, 1) := by decide +kernel
theorem dX7_fast_0 : decode cX7_fast 0 = .ok (.iload_n 1, 1) := by decide +kernel
theorem dX7_fast_1 : decode cX7_fast 1 = .ok (.i2l, 1) := by decide +kernel
theorem dX7_fast_2 : decode cX7_fast 2 = .ok (.lconst 0, 1) := by decide +kernel
theorem dX7_fast_3 : decode cX7_fast 3 = .ok (.ldc2_w 333, 3) := by decide +kernel
theorem dX7_fast_6 : decode cX7_fast 6 = .ok (.invokestatic 97, 3) := by decide +kernel
theorem dX7_fast_9 : decode cX7_fast 9 = .ok (.ifCond .ne 10, 3) := by decide +kernel
theorem dX7_fast_12 : decode cX7_fast 12 = .ok (.aload_n 0, 1) := by decide +kernel
theorem dX7_fast_13 : decode cX7_fast 13 = .ok (.bipush (-2), 2) := by decide +kernel
theorem dX7_fast_15 : decode cX7_fast 15 = .ok (.invokevirtual 107, 3) := by decide +kernel
theorem dX7_fast_18 : decode cX7_fast 18 = .ok (.ireturn, 1) := by decide +kernel
theorem dX7_fast_19 : decode cX7_fast 19 = .ok (.iconst (-1), 1) := by decide +kernel
theorem dX7_fast_20 : decode cX7_fast 20 = .ok (.istore_n 2, 1) := by decide +kernel
theorem dX7_fast_21 : decode cX7_fast 21 = .ok (.iconst 1, 1) := by decide +kernel
theorem dX7_fast_22 : decode cX7_fast 22 = .ok (.istore_n 3, 1) := by decide +kernel
theorem dX7_fast_23 : decode cX7_fast 23 = .ok (.iload_n 3, 1) := by decide +kernel
theorem dX7_fast_24 : decode cX7_fast 24 = .ok (.bipush 9, 2) := by decide +kernel
theorem dX7_fast_26 : decode cX7_fast 26 = .ok (.if_icmp .gt 24, 3) := by decide +kernel
theorem dX7_fast_29 : decode cX7_fast 29 = .ok (.aload_n 0, 1) := by decide +kernel
theorem dX7_fast_30 : decode cX7_fast 30 = .ok (.iload_n 3, 1) := by decide +kernel
theorem dX7_fast_31 : decode cX7_fast 31 = .ok (.invokevirtual 341, 3) := by decide +kernel
theorem dX7_fast_34 : decode cX7_fast 34 = .ok (.iload_n 1, 1) := by decide +kernel
theorem dX7_fast_35 : decode cX7_fast 35 = .ok (.if_icmp .lt 7, 3) := by decide +kernel
theorem dX7_fast_38 : decode cX7_fast 38 = .ok (.iload_n 3, 1) := by decide +kernel
theorem dX7_fast_39 : decode cX7_fast 39 = .ok (.goto 4, 3) := by decide +kernel
theorem dX7_fast_42 : decode cX7_fast 42 = .ok (.iload_n 2, 1) := by decide +kernel
theorem dX7_fast_43 : decode cX7_fast 43 = .ok (.istore_n 2, 1) := by decide +kernel
theorem dX7_fast_44 : decode cX7_fast 44 = .ok (.iinc 3 1, 3) := by decide +kernel
theorem dX7_fast_47 : decode cX7_fast 47 = .ok (.goto (-24), 3) := by decide +kernel
theorem dX7_fast_50 : decode cX7_fast 50 = .ok (.iload_n 2, 1) := by decide +kernel
theorem dX7_fast_51 : decode cX7_fast 51 = .ok (.ireturn, 1) := by decide +kernel
theorem dX7_drove_0 : decode cX7_drove 0 = .ok (.aload_n 0, 1) := by decide +kernel
theorem dX7_drove_1 : decode cX7_drove 1 = .ok (.iload_n 1, 1) := by decide +kernel
theorem dX7_drove_2 : decode cX7_drove 2 = .ok (.i2l, 1) := by decide +kernel
theorem dX7_drove_3 : decode cX7_drove 3 = .ok (.invokevirtual 118, 3) := by decide +kernel
theorem dX7_drove_6 : decode cX7_drove 6 = .ok (.ifCond .ne 10, 3) := by decide +kernel
theorem dX7_drove_9 : decode cX7_drove 9 = .ok (.aload_n 0, 1) := by decide +kernel
theorem dX7_drove_10 : decode cX7_drove 10 = .ok (.bipush (-2), 2) := by decide +kernel
theorem dX7_drove_12 : decode cX7_drove 12 = .ok (.invokevirtual 107, 3) := by decide +kernel
theorem dX7_drove_15 : decode cX7_drove 15 = .ok (.ireturn, 1) := by decide +kernel
theorem dX7_drove_16 : decode cX7_drove 16 = .ok (.iconst 0, 1) := by decide +kernel
theorem dX7_drove_17 : decode cX7_drove 17 = .ok (.istore_n 2, 1) := by decide +kernel
theorem dX7_drove_18 : decode cX7_drove 18 = .ok (.iconst (-1), 1) := by decide +kernel
theorem dX7_drove_19 : decode cX7_drove 19 = .ok (.istore_n 3, 1) := by decide +kernel
theorem dX7_drove_20 : decode cX7_drove 20 = .ok (.iconst 1, 1) := by decide +kernel
theorem dX7_drove_21 : decode cX7_drove 21 = .ok (.istore 4, 2) := by decide +kernel
theorem dX7_drove_23 : decode cX7_drove 23 = .ok (.iload 4, 2) := by decide +kernel
theorem dX7_drove_25 : decode cX7_drove 25 = .ok (.bipush 9, 2) := by decide +kernel
theorem dX7_drove_27 : decode cX7_drove 27 = .ok (.if_icmp .gt 37, 3) := by decide +kernel
theorem dX7_drove_30 : decode cX7_drove 30 = .ok (.aload_n 0, 1) := by decide +kernel
theorem dX7_drove_31 : decode cX7_drove 31 = .ok (.iload 4, 2) := by decide +kernel
theorem dX7_drove_33 : decode cX7_drove 33 = .ok (.iconst 0, 1) := by decide +kernel
theorem dX7_drove_34 : decode cX7_drove 34 = .ok (.iconst (-1), 1) := by decide +kernel
theorem dX7_drove_35 : decode cX7_drove 35 = .ok (.invokevirtual 282, 3) := by decide +kernel
theorem dX7_drove_38 : decode cX7_drove 38 = .ok (.aload_n 0, 1) := by decide +kernel
theorem dX7_drove_39 : decode cX7_drove 39 = .ok (.getfield 83, 3) := by decide +kernel
theorem dX7_drove_42 : decode cX7_drove 42 = .ok (.iload_n 1, 1) := by decide +kernel
theorem dX7_drove_43 : decode cX7_drove 43 = .ok (.iaload, 1) := by decide +kernel
theorem dX7_drove_44 : decode cX7_drove 44 = .ok (.iload_n 3, 1) := by decide +kernel
theorem dX7_drove_45 : decode cX7_drove 45 = .ok (.if_icmp .le 13, 3) := by decide +kernel
theorem dX7_drove_48 : decode cX7_drove 48 = .ok (.iload 4, 2) := by decide +kernel
theorem dX7_drove_50 : decode cX7_drove 50 = .ok (.istore_n 2, 1) := by decide +kernel
theorem dX7_drove_51 : decode cX7_drove 51 = .ok (.aload_n 0, 1) := by decide +kernel
theorem dX7_drove_52 : decode cX7_drove 52 = .ok (.getfield 83, 3) := by decide +kernel
theorem dX7_drove_55 : decode cX7_drove 55 = .ok (.iload_n 1, 1) := by decide +kernel
theorem dX7_drove_56 : decode cX7_drove 56 = .ok (.iaload, 1) := by decide +kernel
theorem dX7_drove_57 : decode cX7_drove 57 = .ok (.istore_n 3, 1) := by decide +kernel
theorem dX7_drove_58 : decode cX7_drove 58 = .ok (.iinc 4 1, 3) := by decide +kernel
theorem dX7_drove_61 : decode cX7_drove 61 = .ok (.goto (-38), 3) := by decide +kernel
theorem dX7_drove_64 : decode cX7_drove 64 = .ok (.iload_n 2, 1) := by decide +kernel
theorem dX7_drove_65 : decode cX7_drove 65 = .ok (.ireturn, 1) := by decide +kernel
theorem dX7_gripFor_0 : decode cX7_gripFor 0 = .ok (.iload_n 1, 1) := by decide +kernel
theorem dX7_gripFor_1 : decode cX7_gripFor 1 = .ok (.i2l, 1) := by decide +kernel
theorem dX7_gripFor_2 : decode cX7_gripFor 2 = .ok (.lconst 0, 1) := by decide +kernel
theorem dX7_gripFor_3 : decode cX7_gripFor 3 = .ok (.ldc2_w 333, 3) := by decide +kernel
theorem dX7_gripFor_6 : decode cX7_gripFor 6 = .ok (.invokestatic 97, 3) := by decide +kernel
theorem dX7_gripFor_9 : decode cX7_gripFor 9 = .ok (.ifCond .ne 10, 3) := by decide +kernel
theorem dX7_gripFor_12 : decode cX7_gripFor 12 = .ok (.aload_n 0, 1) := by decide +kernel
theorem dX7_gripFor_13 : decode cX7_gripFor 13 = .ok (.bipush (-2), 2) := by decide +kernel
theorem dX7_gripFor_15 : decode cX7_gripFor 15 = .ok (.invokevirtual 107, 3) := by decide +kernel
theorem dX7_gripFor_18 : decode cX7_gripFor 18 = .ok (.ireturn, 1) := by decide +kernel
theorem dX7_gripFor_19 : decode cX7_gripFor 19 = .ok (.aload_n 0, 1) := by decide +kernel
theorem dX7_gripFor_20 : decode cX7_gripFor 20 = .ok (.invokevirtual 263, 3) := by decide +kernel
theorem dX7_gripFor_23 : decode cX7_gripFor 23 = .ok (.astore_n 2, 1) := by decide +kernel
theorem dX7_gripFor_24 : decode cX7_gripFor 24 = .ok (.iconst 0, 1) := by decide +kernel
theorem dX7_gripFor_25 : decode cX7_gripFor 25 = .ok (.istore_n 3, 1) := by decide +kernel
theorem dX7_gripFor_26 : decode cX7_gripFor 26 = .ok (.iload_n 3, 1) := by decide +kernel
theorem dX7_gripFor_27 : decode cX7_gripFor 27 = .ok (.bipush 10, 2) := by decide +kernel
theorem dX7_gripFor_29 : decode cX7_gripFor 29 = .ok (.if_icmp .gt 28, 3) := by decide +kernel
theorem dX7_gripFor_32 : decode cX7_gripFor 32 = .ok (.aload_n 2, 1) := by decide +kernel
theorem dX7_gripFor_33 : decode cX7_gripFor 33 = .ok (.iload_n 3, 1) := by decide +kernel
theorem dX7_gripFor_34 : decode cX7_gripFor 34 = .ok (.putfield 147, 3) := by decide +kernel
theorem dX7_gripFor_37 : decode cX7_gripFor 37 = .ok (.aload_n 2, 1) := by decide +kernel
theorem dX7_gripFor_38 : decode cX7_gripFor 38 = .ok (.aload_n 0, 1) := by decide +kernel
theorem dX7_gripFor_39 : decode cX7_gripFor 39 = .ok (.getfield 70, 3) := by decide +kernel
theorem dX7_gripFor_42 : decode cX7_gripFor 42 = .ok (.invokevirtual 341, 3) := by decide +kernel
theorem dX7_gripFor_45 : decode cX7_gripFor 45 = .ok (.iload_n 1, 1) := by decide +kernel
theorem dX7_gripFor_46 : decode cX7_gripFor 46 = .ok (.if_icmp .lt 5, 3) := by decide +kernel
theorem dX7_gripFor_49 : decode cX7_gripFor 49 = .ok (.iload_n 3, 1) := by decide +kernel
theorem dX7_gripFor_50 : decode cX7_gripFor 50 = .ok (.ireturn, 1) := by decide +kernel
theorem dX7_gripFor_51 : decode cX7_gripFor 51 = .ok (.iinc 3 1, 3) := by decide +kernel
theorem dX7_gripFor_54 : decode cX7_gripFor 54 = .ok (.goto (-28), 3) := by decide +kernel
theorem dX7_gripFor_57 : decode cX7_gripFor 57 = .ok (.iconst (-1), 1) := by decide +kernel
theorem dX7_gripFor_58 : decode cX7_gripFor 58 = .ok (.ireturn, 1) := by decide +kernel
theorem dX7_otherwise_0 : decode cX7_otherwise 0 = .ok (.aload_n 0, 1) := by decide +kernel
theorem dX7_otherwise_1 : decode cX7_otherwise 1 = .ok (.invokevirtual 263, 3) := by decide +kernel
theorem dX7_otherwise_4 : decode cX7_otherwise 4 = .ok (.astore_n 1, 1) := by decide +kernel
theorem dX7_otherwise_5 : decode cX7_otherwise 5 = .ok (.aload_n 1, 1) := by decide +kernel
theorem dX7_otherwise_6 : decode cX7_otherwise 6 = .ok (.iconst 1, 1) := by decide +kernel
theorem dX7_otherwise_7 : decode cX7_otherwise 7 = .ok (.aload_n 0, 1) := by decide +kernel
theorem dX7_otherwise_8 : decode cX7_otherwise 8 = .ok (.getfield 144, 3) := by decide +kernel
theorem dX7_otherwise_11 : decode cX7_otherwise 11 = .ok (.isub, 1) := by decide +kernel
theorem dX7_otherwise_12 : decode cX7_otherwise 12 = .ok (.putfield 144, 3) := by decide +kernel
theorem dX7_otherwise_15 : decode cX7_otherwise 15 = .ok (.aload_n 1, 1) := by decide +kernel
theorem dX7_otherwise_16 : decode cX7_otherwise 16 = .ok (.aload_n 0, 1) := by decide +kernel
theorem dX7_otherwise_17 : decode cX7_otherwise 17 = .ok (.getfield 70, 3) := by decide +kernel
theorem dX7_otherwise_20 : decode cX7_otherwise 20 = .ok (.invokevirtual 341, 3) := by decide +kernel
theorem dX7_otherwise_23 : decode cX7_otherwise 23 = .ok (.ireturn, 1) := by decide +kernel
theorem dX7_slows_0 : decode cX7_slows 0 = .ok (.iload_n 1, 1) := by decide +kernel
theorem dX7_slows_1 : decode cX7_slows 1 = .ok (.i2l, 1) := by decide +kernel
theorem dX7_slows_2 : decode cX7_slows 2 = .ok (.lconst 0, 1) := by decide +kernel
theorem dX7_slows_3 : decode cX7_slows 3 = .ok (.ldc2_w 307, 3) := by decide +kernel
theorem dX7_slows_6 : decode cX7_slows 6 = .ok (.invokestatic 97, 3) := by decide +kernel
theorem dX7_slows_9 : decode cX7_slows 9 = .ok (.ifCond .ne 10, 3) := by decide +kernel
theorem dX7_slows_12 : decode cX7_slows 12 = .ok (.aload_n 0, 1) := by decide +kernel
theorem dX7_slows_13 : decode cX7_slows 13 = .ok (.bipush (-2), 2) := by decide +kernel
theorem dX7_slows_15 : decode cX7_slows 15 = .ok (.invokevirtual 107, 3) := by decide +kernel
theorem dX7_slows_18 : decode cX7_slows 18 = .ok (.ireturn, 1) := by decide +kernel
theorem dX7_slows_19 : decode cX7_slows 19 = .ok (.iconst 0, 1) := by decide +kernel
theorem dX7_slows_20 : decode cX7_slows 20 = .ok (.istore_n 2, 1) := by decide +kernel
theorem dX7_slows_21 : decode cX7_slows 21 = .ok (.iconst (-1), 1) := by decide +kernel
theorem dX7_slows_22 : decode cX7_slows 22 = .ok (.istore_n 3, 1) := by decide +kernel
theorem dX7_slows_23 : decode cX7_slows 23 = .ok (.iconst 0, 1) := by decide +kernel
theorem dX7_slows_24 : decode cX7_slows 24 = .ok (.istore 4, 2) := by decide +kernel
theorem dX7_slows_26 : decode cX7_slows 26 = .ok (.iload 4, 2) := by decide +kernel
theorem dX7_slows_28 : decode cX7_slows 28 = .ok (.iconst 1, 1) := by decide +kernel
theorem dX7_slows_29 : decode cX7_slows 29 = .ok (.aload_n 0, 1) := by decide +kernel
theorem dX7_slows_30 : decode cX7_slows 30 = .ok (.getfield 94, 3) := by decide +kernel
theorem dX7_slows_33 : decode cX7_slows 33 = .ok (.ishl, 1) := by decide +kernel
theorem dX7_slows_34 : decode cX7_slows 34 = .ok (.if_icmp .ge 61, 3) := by decide +kernel
theorem dX7_slows_37 : decode cX7_slows 37 = .ok (.iload 4, 2) := by decide +kernel
theorem dX7_slows_39 : decode cX7_slows 39 = .ok (.invokestatic 344, 3) := by decide +kernel
theorem dX7_slows_42 : decode cX7_slows 42 = .ok (.iload_n 1, 1) := by decide +kernel
theorem dX7_slows_43 : decode cX7_slows 43 = .ok (.if_icmp .gt 46, 3) := by decide +kernel
theorem dX7_slows_46 : decode cX7_slows 46 = .ok (.aload_n 0, 1) := by decide +kernel
theorem dX7_slows_47 : decode cX7_slows 47 = .ok (.aload_n 0, 1) := by decide +kernel
theorem dX7_slows_48 : decode cX7_slows 48 = .ok (.getfield 70, 3) := by decide +kernel
theorem dX7_slows_51 : decode cX7_slows 51 = .ok (.iload 4, 2) := by decide +kernel
theorem dX7_slows_53 : decode cX7_slows 53 = .ok (.iconst (-1), 1) := by decide +kernel
theorem dX7_slows_54 : decode cX7_slows 54 = .ok (.invokevirtual 282, 3) := by decide +kernel
theorem dX7_slows_57 : decode cX7_slows 57 = .ok (.aload_n 0, 1) := by decide +kernel
theorem dX7_slows_58 : decode cX7_slows 58 = .ok (.getfield 276, 3) := by decide +kernel
theorem dX7_slows_61 : decode cX7_slows 61 = .ok (.iload_n 3, 1) := by decide +kernel
theorem dX7_slows_62 : decode cX7_slows 62 = .ok (.if_icmp .le 8, 3) := by decide +kernel
theorem dX7_slows_65 : decode cX7_slows 65 = .ok (.iload 4, 2) := by decide +kernel
theorem dX7_slows_67 : decode cX7_slows 67 = .ok (.goto 4, 3) := by decide +kernel
theorem dX7_slows_70 : decode cX7_slows 70 = .ok (.iload_n 2, 1) := by decide +kernel
theorem dX7_slows_71 : decode cX7_slows 71 = .ok (.istore_n 2, 1) := by decide +kernel
theorem dX7_slows_72 : decode cX7_slows 72 = .ok (.aload_n 0, 1) := by decide +kernel
theorem dX7_slows_73 : decode cX7_slows 73 = .ok (.getfield 276, 3) := by decide +kernel
theorem dX7_slows_76 : decode cX7_slows 76 = .ok (.iload_n 3, 1) := by decide +kernel
theorem dX7_slows_77 : decode cX7_slows 77 = .ok (.if_icmp .le 10, 3) := by decide +kernel
theorem dX7_slows_80 : decode cX7_slows 80 = .ok (.aload_n 0, 1) := by decide +kernel
theorem dX7_slows_81 : decode cX7_slows 81 = .ok (.getfield 276, 3) := by decide +kernel
theorem dX7_slows_84 : decode cX7_slows 84 = .ok (.goto 4, 3) := by decide +kernel
theorem dX7_slows_87 : decode cX7_slows 87 = .ok (.iload_n 3, 1) := by decide +kernel
theorem dX7_slows_88 : decode cX7_slows 88 = .ok (.istore_n 3, 1) := by decide +kernel
theorem dX7_slows_89 : decode cX7_slows 89 = .ok (.iinc 4 1, 3) := by decide +kernel
theorem dX7_slows_92 : decode cX7_slows 92 = .ok (.goto (-66), 3) := by decide +kernel
theorem dX7_slows_95 : decode cX7_slows 95 = .ok (.iload_n 2, 1) := by decide +kernel
theorem dX7_slows_96 : decode cX7_slows 96 = .ok (.ireturn, 1) := by decide +kernel
theorem dX7_without_0 : decode cX7_without 0 = .ok (.aload_n 0, 1) := by decide +kernel
theorem dX7_without_1 : decode cX7_without 1 = .ok (.iload_n 1, 1) := by decide +kernel
theorem dX7_without_2 : decode cX7_without 2 = .ok (.i2l, 1) := by decide +kernel
theorem dX7_without_3 : decode cX7_without 3 = .ok (.invokevirtual 118, 3) := by decide +kernel
theorem dX7_without_6 : decode cX7_without 6 = .ok (.ifCond .ne 10, 3) := by decide +kernel
theorem dX7_without_9 : decode cX7_without 9 = .ok (.aload_n 0, 1) := by decide +kernel
theorem dX7_without_10 : decode cX7_without 10 = .ok (.bipush (-2), 2) := by decide +kernel
theorem dX7_without_12 : decode cX7_without 12 = .ok (.invokevirtual 107, 3) := by decide +kernel
theorem dX7_without_15 : decode cX7_without 15 = .ok (.ireturn, 1) := by decide +kernel
theorem dX7_without_16 : decode cX7_without 16 = .ok (.aload_n 0, 1) := by decide +kernel
theorem dX7_without_17 : decode cX7_without 17 = .ok (.aload_n 0, 1) := by decide +kernel
theorem dX7_without_18 : decode cX7_without 18 = .ok (.getfield 70, 3) := by decide +kernel
theorem dX7_without_21 : decode cX7_without 21 = .ok (.iconst 0, 1) := by decide +kernel
theorem dX7_without_22 : decode cX7_without 22 = .ok (.iload_n 1, 1) := by decide +kernel
theorem dX7_without_23 : decode cX7_without 23 = .ok (.invokevirtual 282, 3) := by decide +kernel
theorem dX7_without_26 : decode cX7_without 26 = .ok (.aload_n 0, 1) := by decide +kernel
theorem dX7_without_27 : decode cX7_without 27 = .ok (.getfield 276, 3) := by decide +kernel
theorem dX7_without_30 : decode cX7_without 30 = .ok (.ireturn, 1) := by decide +kernel
theorem dX7_once_0 : decode cX7_once 0 = .ok (.iload_n 1, 1) := by decide +kernel
theorem dX7_once_1 : decode cX7_once 1 = .ok (.i2l, 1) := by decide +kernel
theorem dX7_once_2 : decode cX7_once 2 = .ok (.lconst 0, 1) := by decide +kernel
theorem dX7_once_3 : decode cX7_once 3 = .ok (.ldc2_w 134, 3) := by decide +kernel
theorem dX7_once_6 : decode cX7_once 6 = .ok (.invokestatic 97, 3) := by decide +kernel
theorem dX7_once_9 : decode cX7_once 9 = .ok (.ifCond .ne 10, 3) := by decide +kernel
theorem dX7_once_12 : decode cX7_once 12 = .ok (.aload_n 0, 1) := by decide +kernel
theorem dX7_once_13 : decode cX7_once 13 = .ok (.bipush (-2), 2) := by decide +kernel
theorem dX7_once_15 : decode cX7_once 15 = .ok (.invokevirtual 107, 3) := by decide +kernel
theorem dX7_once_18 : decode cX7_once 18 = .ok (.ireturn, 1) := by decide +kernel
theorem dX7_once_19 : decode cX7_once 19 = .ok (.aload_n 0, 1) := by decide +kernel
theorem dX7_once_20 : decode cX7_once 20 = .ok (.aload_n 0, 1) := by decide +kernel
theorem dX7_once_21 : decode cX7_once 21 = .ok (.getfield 70, 3) := by decide +kernel
theorem dX7_once_24 : decode cX7_once 24 = .ok (.invokevirtual 341, 3) := by decide +kernel
theorem dX7_once_27 : decode cX7_once 27 = .ok (.i2l, 1) := by decide +kernel
theorem dX7_once_28 : decode cX7_once 28 = .ok (.lstore_n 2, 1) := by decide +kernel
theorem dX7_once_29 : decode cX7_once 29 = .ok (.ldc2_w 333, 3) := by decide +kernel
theorem dX7_once_32 : decode cX7_once 32 = .ok (.lstore 4, 2) := by decide +kernel
theorem dX7_once_34 : decode cX7_once 34 = .ok (.iconst 0, 1) := by decide +kernel
theorem dX7_once_35 : decode cX7_once 35 = .ok (.istore 6, 2) := by decide +kernel
theorem dX7_once_37 : decode cX7_once 37 = .ok (.iload 6, 2) := by decide +kernel
theorem dX7_once_39 : decode cX7_once 39 = .ok (.iload_n 1, 1) := by decide +kernel
theorem dX7_once_40 : decode cX7_once 40 = .ok (.if_icmp .ge 19, 3) := by decide +kernel
theorem dX7_once_43 : decode cX7_once 43 = .ok (.lload 4, 2) := by decide +kernel
theorem dX7_once_45 : decode cX7_once 45 = .ok (.lload_n 2, 1) := by decide +kernel
theorem dX7_once_46 : decode cX7_once 46 = .ok (.lmul, 1) := by decide +kernel
theorem dX7_once_47 : decode cX7_once 47 = .ok (.ldc2_w 333, 3) := by decide +kernel
theorem dX7_once_50 : decode cX7_once 50 = .ok (.ldiv, 1) := by decide +kernel
theorem dX7_once_51 : decode cX7_once 51 = .ok (.lstore 4, 2) := by decide +kernel
theorem dX7_once_53 : decode cX7_once 53 = .ok (.iinc 6 1, 3) := by decide +kernel
theorem dX7_once_56 : decode cX7_once 56 = .ok (.goto (-19), 3) := by decide +kernel
theorem dX7_once_59 : decode cX7_once 59 = .ok (.ldc_w 275, 3) := by decide +kernel
theorem dX7_once_62 : decode cX7_once 62 = .ok (.lload 4, 2) := by decide +kernel
theorem dX7_once_64 : decode cX7_once 64 = .ok (.l2i, 1) := by decide +kernel
theorem dX7_once_65 : decode cX7_once 65 = .ok (.isub, 1) := by decide +kernel
theorem dX7_once_66 : decode cX7_once 66 = .ok (.ireturn, 1) := by decide +kernel
theorem dX7_until_0 : decode cX7_until 0 = .ok (.iload_n 1, 1) := by decide +kernel
theorem dX7_until_1 : decode cX7_until 1 = .ok (.i2l, 1) := by decide +kernel
theorem dX7_until_2 : decode cX7_until 2 = .ok (.lconst 0, 1) := by decide +kernel
theorem dX7_until_3 : decode cX7_until 3 = .ok (.ldc2_w 333, 3) := by decide +kernel
theorem dX7_until_6 : decode cX7_until 6 = .ok (.invokestatic 97, 3) := by decide +kernel
theorem dX7_until_9 : decode cX7_until 9 = .ok (.ifCond .ne 10, 3) := by decide +kernel
theorem dX7_until_12 : decode cX7_until 12 = .ok (.aload_n 0, 1) := by decide +kernel
theorem dX7_until_13 : decode cX7_until 13 = .ok (.bipush (-2), 2) := by decide +kernel
theorem dX7_until_15 : decode cX7_until 15 = .ok (.invokevirtual 107, 3) := by decide +kernel
theorem dX7_until_18 : decode cX7_until 18 = .ok (.ireturn, 1) := by decide +kernel
theorem dX7_until_19 : decode cX7_until 19 = .ok (.aload_n 0, 1) := by decide +kernel
theorem dX7_until_20 : decode cX7_until 20 = .ok (.aload_n 0, 1) := by decide +kernel
theorem dX7_until_21 : decode cX7_until 21 = .ok (.getfield 70, 3) := by decide +kernel
theorem dX7_until_24 : decode cX7_until 24 = .ok (.invokevirtual 341, 3) := by decide +kernel
theorem dX7_until_27 : decode cX7_until 27 = .ok (.i2l, 1) := by decide +kernel
theorem dX7_until_28 : decode cX7_until 28 = .ok (.lstore_n 2, 1) := by decide +kernel
theorem dX7_until_29 : decode cX7_until 29 = .ok (.ldc2_w 333, 3) := by decide +kernel
theorem dX7_until_32 : decode cX7_until 32 = .ok (.lstore 4, 2) := by decide +kernel
theorem dX7_until_34 : decode cX7_until 34 = .ok (.iconst 0, 1) := by decide +kernel
theorem dX7_until_35 : decode cX7_until 35 = .ok (.istore 6, 2) := by decide +kernel
theorem dX7_until_37 : decode cX7_until 37 = .ok (.iload 6, 2) := by decide +kernel
theorem dX7_until_39 : decode cX7_until 39 = .ok (.sipush 999, 3) := by decide +kernel
theorem dX7_until_42 : decode cX7_until 42 = .ok (.if_icmp .gt 34, 3) := by decide +kernel
theorem dX7_until_45 : decode cX7_until 45 = .ok (.ldc2_w 333, 3) := by decide +kernel
theorem dX7_until_48 : decode cX7_until 48 = .ok (.lload 4, 2) := by decide +kernel
theorem dX7_until_50 : decode cX7_until 50 = .ok (.lsub, 1) := by decide +kernel
theorem dX7_until_51 : decode cX7_until 51 = .ok (.iload_n 1, 1) := by decide +kernel
theorem dX7_until_52 : decode cX7_until 52 = .ok (.i2l, 1) := by decide +kernel
theorem dX7_until_53 : decode cX7_until 53 = .ok (.lcmp, 1) := by decide +kernel
theorem dX7_until_54 : decode cX7_until 54 = .ok (.ifCond .lt 6, 3) := by decide +kernel
theorem dX7_until_57 : decode cX7_until 57 = .ok (.iload 6, 2) := by decide +kernel
theorem dX7_until_59 : decode cX7_until 59 = .ok (.ireturn, 1) := by decide +kernel
theorem dX7_until_60 : decode cX7_until 60 = .ok (.lload 4, 2) := by decide +kernel
theorem dX7_until_62 : decode cX7_until 62 = .ok (.lload_n 2, 1) := by decide +kernel
theorem dX7_until_63 : decode cX7_until 63 = .ok (.lmul, 1) := by decide +kernel
theorem dX7_until_64 : decode cX7_until 64 = .ok (.ldc2_w 333, 3) := by decide +kernel
theorem dX7_until_67 : decode cX7_until 67 = .ok (.ldiv, 1) := by decide +kernel
theorem dX7_until_68 : decode cX7_until 68 = .ok (.lstore 4, 2) := by decide +kernel
theorem dX7_until_70 : decode cX7_until 70 = .ok (.iinc 6 1, 3) := by decide +kernel
theorem dX7_until_73 : decode cX7_until 73 = .ok (.goto (-36), 3) := by decide +kernel
theorem dX7_until_76 : decode cX7_until 76 = .ok (.iconst (-1), 1) := by decide +kernel
theorem dX7_until_77 : decode cX7_until 77 = .ok (.ireturn, 1) := by decide +kernel
theorem dX7_worst_0 : decode cX7_worst 0 = .ok (.aload_n 0, 1) := by decide +kernel
theorem dX7_worst_1 : decode cX7_worst 1 = .ok (.getfield 94, 3) := by decide +kernel
theorem dX7_worst_4 : decode cX7_worst 4 = .ok (.ifCond .ne 10, 3) := by decide +kernel
theorem dX7_worst_7 : decode cX7_worst 7 = .ok (.aload_n 0, 1) := by decide +kernel
theorem dX7_worst_8 : decode cX7_worst 8 = .ok (.bipush (-5), 2) := by decide +kernel
theorem dX7_worst_10 : decode cX7_worst 10 = .ok (.invokevirtual 107, 3) := by decide +kernel
theorem dX7_worst_13 : decode cX7_worst 13 = .ok (.ireturn, 1) := by decide +kernel
theorem dX7_worst_14 : decode cX7_worst 14 = .ok (.iconst 0, 1) := by decide +kernel
theorem dX7_worst_15 : decode cX7_worst 15 = .ok (.istore_n 1, 1) := by decide +kernel
theorem dX7_worst_16 : decode cX7_worst 16 = .ok (.iconst 1, 1) := by decide +kernel
theorem dX7_worst_17 : decode cX7_worst 17 = .ok (.istore_n 2, 1) := by decide +kernel
theorem dX7_worst_18 : decode cX7_worst 18 = .ok (.iload_n 2, 1) := by decide +kernel
theorem dX7_worst_19 : decode cX7_worst 19 = .ok (.aload_n 0, 1) := by decide +kernel
theorem dX7_worst_20 : decode cX7_worst 20 = .ok (.getfield 94, 3) := by decide +kernel
theorem dX7_worst_23 : decode cX7_worst 23 = .ok (.if_icmp .ge 36, 3) := by decide +kernel
theorem dX7_worst_26 : decode cX7_worst 26 = .ok (.aload_n 0, 1) := by decide +kernel
theorem dX7_worst_27 : decode cX7_worst 27 = .ok (.iload_n 2, 1) := by decide +kernel
theorem dX7_worst_28 : decode cX7_worst 28 = .ok (.aload_n 0, 1) := by decide +kernel
theorem dX7_worst_29 : decode cX7_worst 29 = .ok (.getfield 70, 3) := by decide +kernel
theorem dX7_worst_32 : decode cX7_worst 32 = .ok (.invokevirtual 128, 3) := by decide +kernel
theorem dX7_worst_35 : decode cX7_worst 35 = .ok (.aload_n 0, 1) := by decide +kernel
theorem dX7_worst_36 : decode cX7_worst 36 = .ok (.iload_n 1, 1) := by decide +kernel
theorem dX7_worst_37 : decode cX7_worst 37 = .ok (.aload_n 0, 1) := by decide +kernel
theorem dX7_worst_38 : decode cX7_worst 38 = .ok (.getfield 70, 3) := by decide +kernel
theorem dX7_worst_41 : decode cX7_worst 41 = .ok (.invokevirtual 128, 3) := by decide +kernel
theorem dX7_worst_44 : decode cX7_worst 44 = .ok (.if_icmp .le 7, 3) := by decide +kernel
theorem dX7_worst_47 : decode cX7_worst 47 = .ok (.iload_n 2, 1) := by decide +kernel
theorem dX7_worst_48 : decode cX7_worst 48 = .ok (.goto 4, 3) := by decide +kernel
theorem dX7_worst_51 : decode cX7_worst 51 = .ok (.iload_n 1, 1) := by decide +kernel
theorem dX7_worst_52 : decode cX7_worst 52 = .ok (.istore_n 1, 1) := by decide +kernel
theorem dX7_worst_53 : decode cX7_worst 53 = .ok (.iinc 2 1, 3) := by decide +kernel
theorem dX7_worst_56 : decode cX7_worst 56 = .ok (.goto (-38), 3) := by decide +kernel
theorem dX7_worst_59 : decode cX7_worst 59 = .ok (.iload_n 1, 1) := by decide +kernel
theorem dX7_worst_60 : decode cX7_worst 60 = .ok (.ireturn, 1) := by decide +kernel
theorem dX7_last_0 : decode cX7_last 0 = .ok (.aload_n 0, 1) := by decide +kernel
theorem dX7_last_1 : decode cX7_last 1 = .ok (.invokevirtual 294, 3) := by decide +kernel
theorem dX7_last_4 : decode cX7_last 4 = .ok (.iconst (-1), 1) := by decide +kernel
theorem dX7_last_5 : decode cX7_last 5 = .ok (.istore_n 1, 1) := by decide +kernel
theorem dX7_last_6 : decode cX7_last 6 = .ok (.iconst 0, 1) := by decide +kernel
theorem dX7_last_7 : decode cX7_last 7 = .ok (.istore_n 2, 1) := by decide +kernel
theorem dX7_last_8 : decode cX7_last 8 = .ok (.iload_n 2, 1) := by decide +kernel
theorem dX7_last_9 : decode cX7_last 9 = .ok (.aload_n 0, 1) := by decide +kernel
theorem dX7_last_10 : decode cX7_last 10 = .ok (.getfield 94, 3) := by decide +kernel
theorem dX7_last_13 : decode cX7_last 13 = .ok (.if_icmp .ge 24, 3) := by decide +kernel
theorem dX7_last_16 : decode cX7_last 16 = .ok (.aload_n 0, 1) := by decide +kernel
theorem dX7_last_17 : decode cX7_last 17 = .ok (.getfield 86, 3) := by decide +kernel
theorem dX7_last_20 : decode cX7_last 20 = .ok (.iload_n 2, 1) := by decide +kernel
theorem dX7_last_21 : decode cX7_last 21 = .ok (.iaload, 1) := by decide +kernel
theorem dX7_last_22 : decode cX7_last 22 = .ok (.ifCond .le 7, 3) := by decide +kernel
theorem dX7_last_25 : decode cX7_last 25 = .ok (.iload_n 2, 1) := by decide +kernel
theorem dX7_last_26 : decode cX7_last 26 = .ok (.goto 4, 3) := by decide +kernel
theorem dX7_last_29 : decode cX7_last 29 = .ok (.iload_n 1, 1) := by decide +kernel
theorem dX7_last_30 : decode cX7_last 30 = .ok (.istore_n 1, 1) := by decide +kernel
theorem dX7_last_31 : decode cX7_last 31 = .ok (.iinc 2 1, 3) := by decide +kernel
theorem dX7_last_34 : decode cX7_last 34 = .ok (.goto (-26), 3) := by decide +kernel
theorem dX7_last_37 : decode cX7_last 37 = .ok (.iload_n 1, 1) := by decide +kernel
theorem dX7_last_38 : decode cX7_last 38 = .ok (.ireturn, 1) := by decide +kernel
theorem dX7_hearsOf_0 : decode cX7_hearsOf 0 = .ok (.iconst 0, 1) := by decide +kernel
theorem dX7_hearsOf_1 : decode cX7_hearsOf 1 = .ok (.istore_n 2, 1) := by decide +kernel
theorem dX7_hearsOf_2 : decode cX7_hearsOf 2 = .ok (.iconst 0, 1) := by decide +kernel
theorem dX7_hearsOf_3 : decode cX7_hearsOf 3 = .ok (.istore_n 3, 1) := by decide +kernel
theorem dX7_hearsOf_4 : decode cX7_hearsOf 4 = .ok (.iload_n 3, 1) := by decide +kernel
theorem dX7_hearsOf_5 : decode cX7_hearsOf 5 = .ok (.aload_n 0, 1) := by decide +kernel
theorem dX7_hearsOf_6 : decode cX7_hearsOf 6 = .ok (.getfield 163, 3) := by decide +kernel
theorem dX7_hearsOf_9 : decode cX7_hearsOf 9 = .ok (.if_icmp .ge 47, 3) := by decide +kernel
theorem dX7_hearsOf_12 : decode cX7_hearsOf 12 = .ok (.aload_n 0, 1) := by decide +kernel
theorem dX7_hearsOf_13 : decode cX7_hearsOf 13 = .ok (.getfield 61, 3) := by decide +kernel
theorem dX7_hearsOf_16 : decode cX7_hearsOf 16 = .ok (.iload_n 3, 1) := by decide +kernel
theorem dX7_hearsOf_17 : decode cX7_hearsOf 17 = .ok (.iaload, 1) := by decide +kernel
theorem dX7_hearsOf_18 : decode cX7_hearsOf 18 = .ok (.aload_n 0, 1) := by decide +kernel
theorem dX7_hearsOf_19 : decode cX7_hearsOf 19 = .ok (.getfield 61, 3) := by decide +kernel
theorem dX7_hearsOf_22 : decode cX7_hearsOf 22 = .ok (.iload_n 1, 1) := by decide +kernel
theorem dX7_hearsOf_23 : decode cX7_hearsOf 23 = .ok (.iaload, 1) := by decide +kernel
theorem dX7_hearsOf_24 : decode cX7_hearsOf 24 = .ok (.if_icmp .ge 24, 3) := by decide +kernel
theorem dX7_hearsOf_27 : decode cX7_hearsOf 27 = .ok (.aload_n 0, 1) := by decide +kernel
theorem dX7_hearsOf_28 : decode cX7_hearsOf 28 = .ok (.getfield 61, 3) := by decide +kernel
theorem dX7_hearsOf_31 : decode cX7_hearsOf 31 = .ok (.iload_n 3, 1) := by decide +kernel
theorem dX7_hearsOf_32 : decode cX7_hearsOf 32 = .ok (.iaload, 1) := by decide +kernel
theorem dX7_hearsOf_33 : decode cX7_hearsOf 33 = .ok (.iload_n 2, 1) := by decide +kernel
theorem dX7_hearsOf_34 : decode cX7_hearsOf 34 = .ok (.if_icmp .lt 14, 3) := by decide +kernel
theorem dX7_hearsOf_37 : decode cX7_hearsOf 37 = .ok (.aload_n 0, 1) := by decide +kernel
theorem dX7_hearsOf_38 : decode cX7_hearsOf 38 = .ok (.getfield 61, 3) := by decide +kernel
theorem dX7_hearsOf_41 : decode cX7_hearsOf 41 = .ok (.iload_n 3, 1) := by decide +kernel
theorem dX7_hearsOf_42 : decode cX7_hearsOf 42 = .ok (.iaload, 1) := by decide +kernel
theorem dX7_hearsOf_43 : decode cX7_hearsOf 43 = .ok (.iconst 1, 1) := by decide +kernel
theorem dX7_hearsOf_44 : decode cX7_hearsOf 44 = .ok (.iadd, 1) := by decide +kernel
theorem dX7_hearsOf_45 : decode cX7_hearsOf 45 = .ok (.goto 4, 3) := by decide +kernel
theorem dX7_hearsOf_48 : decode cX7_hearsOf 48 = .ok (.iload_n 2, 1) := by decide +kernel
theorem dX7_hearsOf_49 : decode cX7_hearsOf 49 = .ok (.istore_n 2, 1) := by decide +kernel
theorem dX7_hearsOf_50 : decode cX7_hearsOf 50 = .ok (.iinc 3 1, 3) := by decide +kernel
theorem dX7_hearsOf_53 : decode cX7_hearsOf 53 = .ok (.goto (-49), 3) := by decide +kernel
theorem dX7_hearsOf_56 : decode cX7_hearsOf 56 = .ok (.aload_n 0, 1) := by decide +kernel
theorem dX7_hearsOf_57 : decode cX7_hearsOf 57 = .ok (.iload_n 2, 1) := by decide +kernel
theorem dX7_hearsOf_58 : decode cX7_hearsOf 58 = .ok (.aload_n 0, 1) := by decide +kernel
theorem dX7_hearsOf_59 : decode cX7_hearsOf 59 = .ok (.getfield 61, 3) := by decide +kernel
theorem dX7_hearsOf_62 : decode cX7_hearsOf 62 = .ok (.iload_n 1, 1) := by decide +kernel
theorem dX7_hearsOf_63 : decode cX7_hearsOf 63 = .ok (.iaload, 1) := by decide +kernel
theorem dX7_hearsOf_64 : decode cX7_hearsOf 64 = .ok (.invokevirtual 301, 3) := by decide +kernel
theorem dX7_hearsOf_67 : decode cX7_hearsOf 67 = .ok (.aload_n 0, 1) := by decide +kernel
theorem dX7_hearsOf_68 : decode cX7_hearsOf 68 = .ok (.getfield 67, 3) := by decide +kernel
theorem dX7_hearsOf_71 : decode cX7_hearsOf 71 = .ok (.iload_n 1, 1) := by decide +kernel
theorem dX7_hearsOf_72 : decode cX7_hearsOf 72 = .ok (.iaload, 1) := by decide +kernel
theorem dX7_hearsOf_73 : decode cX7_hearsOf 73 = .ok (.invokestatic 288, 3) := by decide +kernel
theorem dX7_hearsOf_76 : decode cX7_hearsOf 76 = .ok (.ireturn, 1) := by decide +kernel
theorem dX7_hears_0 : decode cX7_hears 0 = .ok (.iload_n 1, 1) := by decide +kernel
theorem dX7_hears_1 : decode cX7_hears 1 = .ok (.i2l, 1) := by decide +kernel
theorem dX7_hears_2 : decode cX7_hears 2 = .ok (.lconst 0, 1) := by decide +kernel
theorem dX7_hears_3 : decode cX7_hears 3 = .ok (.aload_n 0, 1) := by decide +kernel
theorem dX7_hears_4 : decode cX7_hears 4 = .ok (.getfield 163, 3) := by decide +kernel
theorem dX7_hears_7 : decode cX7_hears 7 = .ok (.iconst 1, 1) := by decide +kernel
theorem dX7_hears_8 : decode cX7_hears 8 = .ok (.isub, 1) := by decide +kernel
theorem dX7_hears_9 : decode cX7_hears 9 = .ok (.i2l, 1) := by decide +kernel
theorem dX7_hears_10 : decode cX7_hears 10 = .ok (.invokestatic 97, 3) := by decide +kernel
theorem dX7_hears_13 : decode cX7_hears 13 = .ok (.ifCond .ne 10, 3) := by decide +kernel
theorem dX7_hears_16 : decode cX7_hears 16 = .ok (.aload_n 0, 1) := by decide +kernel
theorem dX7_hears_17 : decode cX7_hears 17 = .ok (.bipush (-2), 2) := by decide +kernel
theorem dX7_hears_19 : decode cX7_hears 19 = .ok (.invokevirtual 107, 3) := by decide +kernel
theorem dX7_hears_22 : decode cX7_hears 22 = .ok (.ireturn, 1) := by decide +kernel
theorem dX7_hears_23 : decode cX7_hears 23 = .ok (.aload_n 0, 1) := by decide +kernel
theorem dX7_hears_24 : decode cX7_hears 24 = .ok (.invokevirtual 294, 3) := by decide +kernel
theorem dX7_hears_27 : decode cX7_hears 27 = .ok (.aload_n 0, 1) := by decide +kernel
theorem dX7_hears_28 : decode cX7_hears 28 = .ok (.iload_n 1, 1) := by decide +kernel
theorem dX7_hears_29 : decode cX7_hears 29 = .ok (.invokevirtual 347, 3) := by decide +kernel
theorem dX7_hears_32 : decode cX7_hears 32 = .ok (.ireturn, 1) := by decide +kernel
theorem dX7_rings_0 : decode cX7_rings 0 = .ok (.iload_n 1, 1) := by decide +kernel
theorem dX7_rings_1 : decode cX7_rings 1 = .ok (.i2l, 1) := by decide +kernel
theorem dX7_rings_2 : decode cX7_rings 2 = .ok (.lconst 0, 1) := by decide +kernel
theorem dX7_rings_3 : decode cX7_rings 3 = .ok (.ldc2_w 134, 3) := by decide +kernel
theorem dX7_rings_6 : decode cX7_rings 6 = .ok (.invokestatic 97, 3) := by decide +kernel
theorem dX7_rings_9 : decode cX7_rings 9 = .ok (.ifCond .ne 10, 3) := by decide +kernel
theorem dX7_rings_12 : decode cX7_rings 12 = .ok (.aload_n 0, 1) := by decide +kernel
theorem dX7_rings_13 : decode cX7_rings 13 = .ok (.bipush (-2), 2) := by decide +kernel
theorem dX7_rings_15 : decode cX7_rings 15 = .ok (.invokevirtual 107, 3) := by decide +kernel
theorem dX7_rings_18 : decode cX7_rings 18 = .ok (.ireturn, 1) := by decide +kernel
theorem dX7_rings_19 : decode cX7_rings 19 = .ok (.aload_n 0, 1) := by decide +kernel
theorem dX7_rings_20 : decode cX7_rings 20 = .ok (.invokevirtual 294, 3) := by decide +kernel
theorem dX7_rings_23 : decode cX7_rings 23 = .ok (.iconst 0, 1) := by decide +kernel
theorem dX7_rings_24 : decode cX7_rings 24 = .ok (.istore_n 2, 1) := by decide +kernel
theorem dX7_rings_25 : decode cX7_rings 25 = .ok (.iconst (-1), 1) := by decide +kernel
theorem dX7_rings_26 : decode cX7_rings 26 = .ok (.istore_n 3, 1) := by decide +kernel
theorem dX7_rings_27 : decode cX7_rings 27 = .ok (.iconst 0, 1) := by decide +kernel
theorem dX7_rings_28 : decode cX7_rings 28 = .ok (.istore 4, 2) := by decide +kernel
theorem dX7_rings_30 : decode cX7_rings 30 = .ok (.iload 4, 2) := by decide +kernel
theorem dX7_rings_32 : decode cX7_rings 32 = .ok (.iconst 1, 1) := by decide +kernel
theorem dX7_rings_33 : decode cX7_rings 33 = .ok (.aload_n 0, 1) := by decide +kernel
theorem dX7_rings_34 : decode cX7_rings 34 = .ok (.getfield 163, 3) := by decide +kernel
theorem dX7_rings_37 : decode cX7_rings 37 = .ok (.ishl, 1) := by decide +kernel
theorem dX7_rings_38 : decode cX7_rings 38 = .ok (.if_icmp .ge 102, 3) := by decide +kernel
theorem dX7_rings_41 : decode cX7_rings 41 = .ok (.iconst 0, 1) := by decide +kernel
theorem dX7_rings_42 : decode cX7_rings 42 = .ok (.istore 5, 2) := by decide +kernel
theorem dX7_rings_44 : decode cX7_rings 44 = .ok (.iconst 0, 1) := by decide +kernel
theorem dX7_rings_45 : decode cX7_rings 45 = .ok (.istore 6, 2) := by decide +kernel
theorem dX7_rings_47 : decode cX7_rings 47 = .ok (.iconst 0, 1) := by decide +kernel
theorem dX7_rings_48 : decode cX7_rings 48 = .ok (.istore 7, 2) := by decide +kernel
theorem dX7_rings_50 : decode cX7_rings 50 = .ok (.iload 7, 2) := by decide +kernel
theorem dX7_rings_52 : decode cX7_rings 52 = .ok (.aload_n 0, 1) := by decide +kernel
theorem dX7_rings_53 : decode cX7_rings 53 = .ok (.getfield 163, 3) := by decide +kernel
theorem dX7_rings_56 : decode cX7_rings 56 = .ok (.if_icmp .ge 60, 3) := by decide +kernel
theorem dX7_rings_59 : decode cX7_rings 59 = .ok (.iload 5, 2) := by decide +kernel
theorem dX7_rings_61 : decode cX7_rings 61 = .ok (.iload 4, 2) := by decide +kernel
theorem dX7_rings_63 : decode cX7_rings 63 = .ok (.iload 7, 2) := by decide +kernel
theorem dX7_rings_65 : decode cX7_rings 65 = .ok (.invokestatic 279, 3) := by decide +kernel
theorem dX7_rings_68 : decode cX7_rings 68 = .ok (.ifCond .eq 13, 3) := by decide +kernel
theorem dX7_rings_71 : decode cX7_rings 71 = .ok (.aload_n 0, 1) := by decide +kernel
theorem dX7_rings_72 : decode cX7_rings 72 = .ok (.getfield 64, 3) := by decide +kernel
theorem dX7_rings_75 : decode cX7_rings 75 = .ok (.iload 7, 2) := by decide +kernel
theorem dX7_rings_77 : decode cX7_rings 77 = .ok (.iaload, 1) := by decide +kernel
theorem dX7_rings_78 : decode cX7_rings 78 = .ok (.goto 4, 3) := by decide +kernel
theorem dX7_rings_81 : decode cX7_rings 81 = .ok (.iconst 0, 1) := by decide +kernel
theorem dX7_rings_82 : decode cX7_rings 82 = .ok (.iadd, 1) := by decide +kernel
theorem dX7_rings_83 : decode cX7_rings 83 = .ok (.istore 5, 2) := by decide +kernel
theorem dX7_rings_85 : decode cX7_rings 85 = .ok (.iload 6, 2) := by decide +kernel
theorem dX7_rings_87 : decode cX7_rings 87 = .ok (.iload 4, 2) := by decide +kernel
theorem dX7_rings_89 : decode cX7_rings 89 = .ok (.iload 7, 2) := by decide +kernel
theorem dX7_rings_91 : decode cX7_rings 91 = .ok (.invokestatic 279, 3) := by decide +kernel
theorem dX7_rings_94 : decode cX7_rings 94 = .ok (.ifCond .eq 12, 3) := by decide +kernel
theorem dX7_rings_97 : decode cX7_rings 97 = .ok (.aload_n 0, 1) := by decide +kernel
theorem dX7_rings_98 : decode cX7_rings 98 = .ok (.iload 7, 2) := by decide +kernel
theorem dX7_rings_100 : decode cX7_rings 100 = .ok (.invokevirtual 347, 3) := by decide +kernel
theorem dX7_rings_103 : decode cX7_rings 103 = .ok (.goto 4, 3) := by decide +kernel
theorem dX7_rings_106 : decode cX7_rings 106 = .ok (.iconst 0, 1) := by decide +kernel
theorem dX7_rings_107 : decode cX7_rings 107 = .ok (.iadd, 1) := by decide +kernel
theorem dX7_rings_108 : decode cX7_rings 108 = .ok (.istore 6, 2) := by decide +kernel
theorem dX7_rings_110 : decode cX7_rings 110 = .ok (.iinc 7 1, 3) := by decide +kernel
theorem dX7_rings_113 : decode cX7_rings 113 = .ok (.goto (-63), 3) := by decide +kernel
theorem dX7_rings_116 : decode cX7_rings 116 = .ok (.iload 5, 2) := by decide +kernel
theorem dX7_rings_118 : decode cX7_rings 118 = .ok (.iload_n 1, 1) := by decide +kernel
theorem dX7_rings_119 : decode cX7_rings 119 = .ok (.if_icmp .gt 15, 3) := by decide +kernel
theorem dX7_rings_122 : decode cX7_rings 122 = .ok (.iload 6, 2) := by decide +kernel
theorem dX7_rings_124 : decode cX7_rings 124 = .ok (.iload_n 3, 1) := by decide +kernel
theorem dX7_rings_125 : decode cX7_rings 125 = .ok (.if_icmp .le 9, 3) := by decide +kernel
theorem dX7_rings_128 : decode cX7_rings 128 = .ok (.iload 4, 2) := by decide +kernel
theorem dX7_rings_130 : decode cX7_rings 130 = .ok (.istore_n 2, 1) := by decide +kernel
theorem dX7_rings_131 : decode cX7_rings 131 = .ok (.iload 6, 2) := by decide +kernel
theorem dX7_rings_133 : decode cX7_rings 133 = .ok (.istore_n 3, 1) := by decide +kernel
theorem dX7_rings_134 : decode cX7_rings 134 = .ok (.iinc 4 1, 3) := by decide +kernel
theorem dX7_rings_137 : decode cX7_rings 137 = .ok (.goto (-107), 3) := by decide +kernel
theorem dX7_rings_140 : decode cX7_rings 140 = .ok (.iload_n 2, 1) := by decide +kernel
theorem dX7_rings_141 : decode cX7_rings 141 = .ok (.ireturn, 1) := by decide +kernel
theorem dX7_worth_0 : decode cX7_worth 0 = .ok (.iload_n 1, 1) := by decide +kernel
theorem dX7_worth_1 : decode cX7_worth 1 = .ok (.i2l, 1) := by decide +kernel
theorem dX7_worth_2 : decode cX7_worth 2 = .ok (.lconst 0, 1) := by decide +kernel
theorem dX7_worth_3 : decode cX7_worth 3 = .ok (.ldc2_w 134, 3) := by decide +kernel
theorem dX7_worth_6 : decode cX7_worth 6 = .ok (.invokestatic 97, 3) := by decide +kernel
theorem dX7_worth_9 : decode cX7_worth 9 = .ok (.ifCond .eq 27, 3) := by decide +kernel
theorem dX7_worth_12 : decode cX7_worth 12 = .ok (.iload_n 2, 1) := by decide +kernel
theorem dX7_worth_13 : decode cX7_worth 13 = .ok (.i2l, 1) := by decide +kernel
theorem dX7_worth_14 : decode cX7_worth 14 = .ok (.lconst 0, 1) := by decide +kernel
theorem dX7_worth_15 : decode cX7_worth 15 = .ok (.ldc2_w 134, 3) := by decide +kernel
theorem dX7_worth_18 : decode cX7_worth 18 = .ok (.invokestatic 97, 3) := by decide +kernel
theorem dX7_worth_21 : decode cX7_worth 21 = .ok (.ifCond .eq 15, 3) := by decide +kernel
theorem dX7_worth_24 : decode cX7_worth 24 = .ok (.iload_n 3, 1) := by decide +kernel
theorem dX7_worth_25 : decode cX7_worth 25 = .ok (.i2l, 1) := by decide +kernel
theorem dX7_worth_26 : decode cX7_worth 26 = .ok (.lconst 0, 1) := by decide +kernel
theorem dX7_worth_27 : decode cX7_worth 27 = .ok (.ldc2_w 350, 3) := by decide +kernel
theorem dX7_worth_30 : decode cX7_worth 30 = .ok (.invokestatic 97, 3) := by decide +kernel
theorem dX7_worth_33 : decode cX7_worth 33 = .ok (.ifCond .ne 14, 3) := by decide +kernel
theorem dX7_worth_36 : decode cX7_worth 36 = .ok (.aload_n 0, 1) := by decide +kernel
theorem dX7_worth_37 : decode cX7_worth 37 = .ok (.bipush (-2), 2) := by decide +kernel
theorem dX7_worth_39 : decode cX7_worth 39 = .ok (.invokevirtual 107, 3) := by decide +kernel
theorem dX7_worth_42 : decode cX7_worth 42 = .ok (.ldc_w 352, 3) := by decide +kernel
theorem dX7_worth_45 : decode cX7_worth 45 = .ok (.iadd, 1) := by decide +kernel
theorem dX7_worth_46 : decode cX7_worth 46 = .ok (.ireturn, 1) := by decide +kernel
theorem dX7_worth_47 : decode cX7_worth 47 = .ok (.iload_n 1, 1) := by decide +kernel
theorem dX7_worth_48 : decode cX7_worth 48 = .ok (.i2l, 1) := by decide +kernel
theorem dX7_worth_49 : decode cX7_worth 49 = .ok (.iload_n 2, 1) := by decide +kernel
theorem dX7_worth_50 : decode cX7_worth 50 = .ok (.i2l, 1) := by decide +kernel
theorem dX7_worth_51 : decode cX7_worth 51 = .ok (.lmul, 1) := by decide +kernel
theorem dX7_worth_52 : decode cX7_worth 52 = .ok (.ldc_w 275, 3) := by decide +kernel
theorem dX7_worth_55 : decode cX7_worth 55 = .ok (.aload_n 0, 1) := by decide +kernel
theorem dX7_worth_56 : decode cX7_worth 56 = .ok (.aload_n 0, 1) := by decide +kernel
theorem dX7_worth_57 : decode cX7_worth 57 = .ok (.getfield 70, 3) := by decide +kernel
theorem dX7_worth_60 : decode cX7_worth 60 = .ok (.invokevirtual 341, 3) := by decide +kernel
theorem dX7_worth_63 : decode cX7_worth 63 = .ok (.isub, 1) := by decide +kernel
theorem dX7_worth_64 : decode cX7_worth 64 = .ok (.i2l, 1) := by decide +kernel
theorem dX7_worth_65 : decode cX7_worth 65 = .ok (.lmul, 1) := by decide +kernel
theorem dX7_worth_66 : decode cX7_worth 66 = .ok (.ldc2_w 333, 3) := by decide +kernel
theorem dX7_worth_69 : decode cX7_worth 69 = .ok (.ldiv, 1) := by decide +kernel
theorem dX7_worth_70 : decode cX7_worth 70 = .ok (.lstore 4, 2) := by decide +kernel
theorem dX7_worth_72 : decode cX7_worth 72 = .ok (.lload 4, 2) := by decide +kernel
theorem dX7_worth_74 : decode cX7_worth 74 = .ok (.l2i, 1) := by decide +kernel
theorem dX7_worth_75 : decode cX7_worth 75 = .ok (.iload_n 3, 1) := by decide +kernel
theorem dX7_worth_76 : decode cX7_worth 76 = .ok (.isub, 1) := by decide +kernel
theorem dX7_worth_77 : decode cX7_worth 77 = .ok (.ireturn, 1) := by decide +kernel
theorem dX7_noList_0 : decode cX7_noList 0 = .ok (.iload_n 1, 1) := by decide +kernel
theorem dX7_noList_1 : decode cX7_noList 1 = .ok (.i2l, 1) := by decide +kernel
theorem dX7_noList_2 : decode cX7_noList 2 = .ok (.lconst 0, 1) := by decide +kernel
theorem dX7_noList_3 : decode cX7_noList 3 = .ok (.ldc2_w 101, 3) := by decide +kernel
theorem dX7_noList_6 : decode cX7_noList 6 = .ok (.invokestatic 97, 3) := by decide +kernel
theorem dX7_noList_9 : decode cX7_noList 9 = .ok (.ifCond .eq 15, 3) := by decide +kernel
theorem dX7_noList_12 : decode cX7_noList 12 = .ok (.iload_n 2, 1) := by decide +kernel
theorem dX7_noList_13 : decode cX7_noList 13 = .ok (.i2l, 1) := by decide +kernel
theorem dX7_noList_14 : decode cX7_noList 14 = .ok (.lconst 0, 1) := by decide +kernel
theorem dX7_noList_15 : decode cX7_noList 15 = .ok (.ldc2_w 105, 3) := by decide +kernel
theorem dX7_noList_18 : decode cX7_noList 18 = .ok (.invokestatic 97, 3) := by decide +kernel
theorem dX7_noList_21 : decode cX7_noList 21 = .ok (.ifCond .ne 10, 3) := by decide +kernel
theorem dX7_noList_24 : decode cX7_noList 24 = .ok (.aload_n 0, 1) := by decide +kernel
theorem dX7_noList_25 : decode cX7_noList 25 = .ok (.bipush (-2), 2) := by decide +kernel
theorem dX7_noList_27 : decode cX7_noList 27 = .ok (.invokevirtual 107, 3) := by decide +kernel
theorem dX7_noList_30 : decode cX7_noList 30 = .ok (.ireturn, 1) := by decide +kernel
theorem dX7_noList_31 : decode cX7_noList 31 = .ok (.aload_n 0, 1) := by decide +kernel
theorem dX7_noList_32 : decode cX7_noList 32 = .ok (.iload_n 1, 1) := by decide +kernel
theorem dX7_noList_33 : decode cX7_noList 33 = .ok (.invokevirtual 111, 3) := by decide +kernel
theorem dX7_noList_36 : decode cX7_noList 36 = .ok (.istore_n 3, 1) := by decide +kernel
theorem dX7_noList_37 : decode cX7_noList 37 = .ok (.iload_n 3, 1) := by decide +kernel
theorem dX7_noList_38 : decode cX7_noList 38 = .ok (.ifCond .eq 5, 3) := by decide +kernel
theorem dX7_noList_41 : decode cX7_noList 41 = .ok (.iload_n 3, 1) := by decide +kernel
theorem dX7_noList_42 : decode cX7_noList 42 = .ok (.ireturn, 1) := by decide +kernel
theorem dX7_noList_43 : decode cX7_noList 43 = .ok (.aload_n 0, 1) := by decide +kernel
theorem dX7_noList_44 : decode cX7_noList 44 = .ok (.getfield 16, 3) := by decide +kernel
theorem dX7_noList_47 : decode cX7_noList 47 = .ok (.iload_n 1, 1) := by decide +kernel
theorem dX7_noList_48 : decode cX7_noList 48 = .ok (.iaload, 1) := by decide +kernel
theorem dX7_noList_49 : decode cX7_noList 49 = .ok (.iload_n 2, 1) := by decide +kernel
theorem dX7_noList_50 : decode cX7_noList 50 = .ok (.if_icmp .ge 12, 3) := by decide +kernel
theorem dX7_noList_53 : decode cX7_noList 53 = .ok (.aload_n 0, 1) := by decide +kernel
theorem dX7_noList_54 : decode cX7_noList 54 = .ok (.bipush (-2), 2) := by decide +kernel
theorem dX7_noList_56 : decode cX7_noList 56 = .ok (.invokevirtual 107, 3) := by decide +kernel
theorem dX7_noList_59 : decode cX7_noList 59 = .ok (.goto 4, 3) := by decide +kernel
theorem dX7_noList_62 : decode cX7_noList 62 = .ok (.iconst 0, 1) := by decide +kernel
theorem dX7_noList_63 : decode cX7_noList 63 = .ok (.ireturn, 1) := by decide +kernel
theorem dX7_wrongIn_0 : decode cX7_wrongIn 0 = .ok (.iconst 0, 1) := by decide +kernel
theorem dX7_wrongIn_1 : decode cX7_wrongIn 1 = .ok (.istore_n 3, 1) := by decide +kernel
theorem dX7_wrongIn_2 : decode cX7_wrongIn 2 = .ok (.iload_n 3, 1) := by decide +kernel
theorem dX7_wrongIn_3 : decode cX7_wrongIn 3 = .ok (.iload_n 2, 1) := by decide +kernel
theorem dX7_wrongIn_4 : decode cX7_wrongIn 4 = .ok (.if_icmp .ge 37, 3) := by decide +kernel
theorem dX7_wrongIn_7 : decode cX7_wrongIn 7 = .ok (.aload_n 0, 1) := by decide +kernel
theorem dX7_wrongIn_8 : decode cX7_wrongIn 8 = .ok (.aload_n 1, 1) := by decide +kernel
theorem dX7_wrongIn_9 : decode cX7_wrongIn 9 = .ok (.iload_n 3, 1) := by decide +kernel
theorem dX7_wrongIn_10 : decode cX7_wrongIn 10 = .ok (.laload, 1) := by decide +kernel
theorem dX7_wrongIn_11 : decode cX7_wrongIn 11 = .ok (.invokevirtual 118, 3) := by decide +kernel
theorem dX7_wrongIn_14 : decode cX7_wrongIn 14 = .ok (.ifCond .eq 19, 3) := by decide +kernel
theorem dX7_wrongIn_17 : decode cX7_wrongIn 17 = .ok (.iload_n 3, 1) := by decide +kernel
theorem dX7_wrongIn_18 : decode cX7_wrongIn 18 = .ok (.ifCond .le 17, 3) := by decide +kernel
theorem dX7_wrongIn_21 : decode cX7_wrongIn 21 = .ok (.aload_n 1, 1) := by decide +kernel
theorem dX7_wrongIn_22 : decode cX7_wrongIn 22 = .ok (.iload_n 3, 1) := by decide +kernel
theorem dX7_wrongIn_23 : decode cX7_wrongIn 23 = .ok (.laload, 1) := by decide +kernel
theorem dX7_wrongIn_24 : decode cX7_wrongIn 24 = .ok (.aload_n 1, 1) := by decide +kernel
theorem dX7_wrongIn_25 : decode cX7_wrongIn 25 = .ok (.iload_n 3, 1) := by decide +kernel
theorem dX7_wrongIn_26 : decode cX7_wrongIn 26 = .ok (.iconst 1, 1) := by decide +kernel
theorem dX7_wrongIn_27 : decode cX7_wrongIn 27 = .ok (.isub, 1) := by decide +kernel
theorem dX7_wrongIn_28 : decode cX7_wrongIn 28 = .ok (.laload, 1) := by decide +kernel
theorem dX7_wrongIn_29 : decode cX7_wrongIn 29 = .ok (.lcmp, 1) := by decide +kernel
theorem dX7_wrongIn_30 : decode cX7_wrongIn 30 = .ok (.ifCond .ge 5, 3) := by decide +kernel
theorem dX7_wrongIn_33 : decode cX7_wrongIn 33 = .ok (.iload_n 3, 1) := by decide +kernel
theorem dX7_wrongIn_34 : decode cX7_wrongIn 34 = .ok (.ireturn, 1) := by decide +kernel
theorem dX7_wrongIn_35 : decode cX7_wrongIn 35 = .ok (.iinc 3 1, 3) := by decide +kernel
theorem dX7_wrongIn_38 : decode cX7_wrongIn 38 = .ok (.goto (-36), 3) := by decide +kernel
theorem dX7_wrongIn_41 : decode cX7_wrongIn 41 = .ok (.iconst (-1), 1) := by decide +kernel
theorem dX7_wrongIn_42 : decode cX7_wrongIn 42 = .ok (.ireturn, 1) := by decide +kernel
theorem dX7_judge_0 : decode cX7_judge 0 = .ok (.aload_n 0, 1) := by decide +kernel
theorem dX7_judge_1 : decode cX7_judge 1 = .ok (.iload_n 1, 1) := by decide +kernel
theorem dX7_judge_2 : decode cX7_judge 2 = .ok (.iload_n 2, 1) := by decide +kernel
theorem dX7_judge_3 : decode cX7_judge 3 = .ok (.invokevirtual 353, 3) := by decide +kernel
theorem dX7_judge_6 : decode cX7_judge 6 = .ok (.istore_n 3, 1) := by decide +kernel
theorem dX7_judge_7 : decode cX7_judge 7 = .ok (.iload_n 3, 1) := by decide +kernel
theorem dX7_judge_8 : decode cX7_judge 8 = .ok (.ifCond .eq 7, 3) := by decide +kernel
theorem dX7_judge_11 : decode cX7_judge 11 = .ok (.iload_n 3, 1) := by decide +kernel
theorem dX7_judge_12 : decode cX7_judge 12 = .ok (.goto 14, 3) := by decide +kernel
theorem dX7_judge_15 : decode cX7_judge 15 = .ok (.aload_n 0, 1) := by decide +kernel
theorem dX7_judge_16 : decode cX7_judge 16 = .ok (.aload_n 0, 1) := by decide +kernel
theorem dX7_judge_17 : decode cX7_judge 17 = .ok (.getfield 21, 3) := by decide +kernel
theorem dX7_judge_20 : decode cX7_judge 20 = .ok (.iload_n 1, 1) := by decide +kernel
theorem dX7_judge_21 : decode cX7_judge 21 = .ok (.aaload, 1) := by decide +kernel
theorem dX7_judge_22 : decode cX7_judge 22 = .ok (.iload_n 2, 1) := by decide +kernel
theorem dX7_judge_23 : decode cX7_judge 23 = .ok (.invokevirtual 356, 3) := by decide +kernel
theorem dX7_judge_26 : decode cX7_judge 26 = .ok (.ireturn, 1) := by decide +kernel
theorem dX7_apart_0 : decode cX7_apart 0 = .ok (.aload_n 0, 1) := by decide +kernel
theorem dX7_apart_1 : decode cX7_apart 1 = .ok (.iload_n 1, 1) := by decide +kernel
theorem dX7_apart_2 : decode cX7_apart 2 = .ok (.iload_n 2, 1) := by decide +kernel
theorem dX7_apart_3 : decode cX7_apart 3 = .ok (.invokevirtual 353, 3) := by decide +kernel
theorem dX7_apart_6 : decode cX7_apart 6 = .ok (.istore_n 3, 1) := by decide +kernel
theorem dX7_apart_7 : decode cX7_apart 7 = .ok (.iload_n 3, 1) := by decide +kernel
theorem dX7_apart_8 : decode cX7_apart 8 = .ok (.ifCond .eq 5, 3) := by decide +kernel
theorem dX7_apart_11 : decode cX7_apart 11 = .ok (.iload_n 3, 1) := by decide +kernel
theorem dX7_apart_12 : decode cX7_apart 12 = .ok (.ireturn, 1) := by decide +kernel
theorem dX7_apart_13 : decode cX7_apart 13 = .ok (.aload_n 0, 1) := by decide +kernel
theorem dX7_apart_14 : decode cX7_apart 14 = .ok (.aload_n 0, 1) := by decide +kernel
theorem dX7_apart_15 : decode cX7_apart 15 = .ok (.getfield 21, 3) := by decide +kernel
theorem dX7_apart_18 : decode cX7_apart 18 = .ok (.iload_n 1, 1) := by decide +kernel
theorem dX7_apart_19 : decode cX7_apart 19 = .ok (.aaload, 1) := by decide +kernel
theorem dX7_apart_20 : decode cX7_apart 20 = .ok (.iload_n 2, 1) := by decide +kernel
theorem dX7_apart_21 : decode cX7_apart 21 = .ok (.invokevirtual 356, 3) := by decide +kernel
theorem dX7_apart_24 : decode cX7_apart 24 = .ok (.iconst (-1), 1) := by decide +kernel
theorem dX7_apart_25 : decode cX7_apart 25 = .ok (.if_icmp .eq 10, 3) := by decide +kernel
theorem dX7_apart_28 : decode cX7_apart 28 = .ok (.aload_n 0, 1) := by decide +kernel
theorem dX7_apart_29 : decode cX7_apart 29 = .ok (.bipush (-5), 2) := by decide +kernel
theorem dX7_apart_31 : decode cX7_apart 31 = .ok (.invokevirtual 107, 3) := by decide +kernel
theorem dX7_apart_34 : decode cX7_apart 34 = .ok (.ireturn, 1) := by decide +kernel
theorem dX7_apart_35 : decode cX7_apart 35 = .ok (.iconst 0, 1) := by decide +kernel
theorem dX7_apart_36 : decode cX7_apart 36 = .ok (.istore 4, 2) := by decide +kernel
theorem dX7_apart_38 : decode cX7_apart 38 = .ok (.iconst 1, 1) := by decide +kernel
theorem dX7_apart_39 : decode cX7_apart 39 = .ok (.istore 5, 2) := by decide +kernel
theorem dX7_apart_41 : decode cX7_apart 41 = .ok (.iload 5, 2) := by decide +kernel
theorem dX7_apart_43 : decode cX7_apart 43 = .ok (.iload_n 2, 1) := by decide +kernel
theorem dX7_apart_44 : decode cX7_apart 44 = .ok (.if_icmp .ge 58, 3) := by decide +kernel
theorem dX7_apart_47 : decode cX7_apart 47 = .ok (.aload_n 0, 1) := by decide +kernel
theorem dX7_apart_48 : decode cX7_apart 48 = .ok (.aload_n 0, 1) := by decide +kernel
theorem dX7_apart_49 : decode cX7_apart 49 = .ok (.getfield 21, 3) := by decide +kernel
theorem dX7_apart_52 : decode cX7_apart 52 = .ok (.iload_n 1, 1) := by decide +kernel
theorem dX7_apart_53 : decode cX7_apart 53 = .ok (.aaload, 1) := by decide +kernel
theorem dX7_apart_54 : decode cX7_apart 54 = .ok (.iload 5, 2) := by decide +kernel
theorem dX7_apart_56 : decode cX7_apart 56 = .ok (.laload, 1) := by decide +kernel
theorem dX7_apart_57 : decode cX7_apart 57 = .ok (.l2i, 1) := by decide +kernel
theorem dX7_apart_58 : decode cX7_apart 58 = .ok (.invokevirtual 270, 3) := by decide +kernel
theorem dX7_apart_61 : decode cX7_apart 61 = .ok (.aload_n 0, 1) := by decide +kernel
theorem dX7_apart_62 : decode cX7_apart 62 = .ok (.aload_n 0, 1) := by decide +kernel
theorem dX7_apart_63 : decode cX7_apart 63 = .ok (.getfield 21, 3) := by decide +kernel
theorem dX7_apart_66 : decode cX7_apart 66 = .ok (.iload_n 1, 1) := by decide +kernel
theorem dX7_apart_67 : decode cX7_apart 67 = .ok (.aaload, 1) := by decide +kernel
theorem dX7_apart_68 : decode cX7_apart 68 = .ok (.iload 5, 2) := by decide +kernel
theorem dX7_apart_70 : decode cX7_apart 70 = .ok (.iconst 1, 1) := by decide +kernel
theorem dX7_apart_71 : decode cX7_apart 71 = .ok (.isub, 1) := by decide +kernel
theorem dX7_apart_72 : decode cX7_apart 72 = .ok (.laload, 1) := by decide +kernel
theorem dX7_apart_73 : decode cX7_apart 73 = .ok (.l2i, 1) := by decide +kernel
theorem dX7_apart_74 : decode cX7_apart 74 = .ok (.invokevirtual 270, 3) := by decide +kernel
theorem dX7_apart_77 : decode cX7_apart 77 = .ok (.isub, 1) := by decide +kernel
theorem dX7_apart_78 : decode cX7_apart 78 = .ok (.istore 6, 2) := by decide +kernel
theorem dX7_apart_80 : decode cX7_apart 80 = .ok (.iload 6, 2) := by decide +kernel
theorem dX7_apart_82 : decode cX7_apart 82 = .ok (.iload 4, 2) := by decide +kernel
theorem dX7_apart_84 : decode cX7_apart 84 = .ok (.if_icmp .le 8, 3) := by decide +kernel
theorem dX7_apart_87 : decode cX7_apart 87 = .ok (.iload 6, 2) := by decide +kernel
theorem dX7_apart_89 : decode cX7_apart 89 = .ok (.goto 5, 3) := by decide +kernel
theorem dX7_apart_92 : decode cX7_apart 92 = .ok (.iload 4, 2) := by decide +kernel
theorem dX7_apart_94 : decode cX7_apart 94 = .ok (.istore 4, 2) := by decide +kernel
theorem dX7_apart_96 : decode cX7_apart 96 = .ok (.iinc 5 1, 3) := by decide +kernel
theorem dX7_apart_99 : decode cX7_apart 99 = .ok (.goto (-58), 3) := by decide +kernel
theorem dX7_apart_102 : decode cX7_apart 102 = .ok (.iload 4, 2) := by decide +kernel
theorem dX7_apart_104 : decode cX7_apart 104 = .ok (.ireturn, 1) := by decide +kernel
theorem dX7_areLooks_0 : decode cX7_areLooks 0 = .ok (.iconst 0, 1) := by decide +kernel
theorem dX7_areLooks_1 : decode cX7_areLooks 1 = .ok (.istore_n 3, 1) := by decide +kernel
theorem dX7_areLooks_2 : decode cX7_areLooks 2 = .ok (.iload_n 3, 1) := by decide +kernel
theorem dX7_areLooks_3 : decode cX7_areLooks 3 = .ok (.iload_n 2, 1) := by decide +kernel
theorem dX7_areLooks_4 : decode cX7_areLooks 4 = .ok (.if_icmp .ge 50, 3) := by decide +kernel
theorem dX7_areLooks_7 : decode cX7_areLooks 7 = .ok (.aload_n 1, 1) := by decide +kernel
theorem dX7_areLooks_8 : decode cX7_areLooks 8 = .ok (.iload_n 3, 1) := by decide +kernel
theorem dX7_areLooks_9 : decode cX7_areLooks 9 = .ok (.laload, 1) := by decide +kernel
theorem dX7_areLooks_10 : decode cX7_areLooks 10 = .ok (.lconst 0, 1) := by decide +kernel
theorem dX7_areLooks_11 : decode cX7_areLooks 11 = .ok (.lcmp, 1) := by decide +kernel
theorem dX7_areLooks_12 : decode cX7_areLooks 12 = .ok (.ifCond .lt 34, 3) := by decide +kernel
theorem dX7_areLooks_15 : decode cX7_areLooks 15 = .ok (.aload_n 0, 1) := by decide +kernel
theorem dX7_areLooks_16 : decode cX7_areLooks 16 = .ok (.aload_n 1, 1) := by decide +kernel
theorem dX7_areLooks_17 : decode cX7_areLooks 17 = .ok (.iload_n 3, 1) := by decide +kernel
theorem dX7_areLooks_18 : decode cX7_areLooks 18 = .ok (.laload, 1) := by decide +kernel
theorem dX7_areLooks_19 : decode cX7_areLooks 19 = .ok (.ldc2_w 142, 3) := by decide +kernel
theorem dX7_areLooks_22 : decode cX7_areLooks 22 = .ok (.ldiv, 1) := by decide +kernel
theorem dX7_areLooks_23 : decode cX7_areLooks 23 = .ok (.invokevirtual 118, 3) := by decide +kernel
theorem dX7_areLooks_26 : decode cX7_areLooks 26 = .ok (.ifCond .eq 20, 3) := by decide +kernel
theorem dX7_areLooks_29 : decode cX7_areLooks 29 = .ok (.aload_n 1, 1) := by decide +kernel
theorem dX7_areLooks_30 : decode cX7_areLooks 30 = .ok (.iload_n 3, 1) := by decide +kernel
theorem dX7_areLooks_31 : decode cX7_areLooks 31 = .ok (.laload, 1) := by decide +kernel
theorem dX7_areLooks_32 : decode cX7_areLooks 32 = .ok (.ldc2_w 142, 3) := by decide +kernel
theorem dX7_areLooks_35 : decode cX7_areLooks 35 = .ok (.lrem, 1) := by decide +kernel
theorem dX7_areLooks_36 : decode cX7_areLooks 36 = .ok (.lconst 1, 1) := by decide +kernel
theorem dX7_areLooks_37 : decode cX7_areLooks 37 = .ok (.ldc2_w 307, 3) := by decide +kernel
theorem dX7_areLooks_40 : decode cX7_areLooks 40 = .ok (.invokestatic 97, 3) := by decide +kernel
theorem dX7_areLooks_43 : decode cX7_areLooks 43 = .ok (.ifCond .ne 5, 3) := by decide +kernel
theorem dX7_areLooks_46 : decode cX7_areLooks 46 = .ok (.iconst 0, 1) := by decide +kernel
theorem dX7_areLooks_47 : decode cX7_areLooks 47 = .ok (.ireturn, 1) := by decide +kernel
theorem dX7_areLooks_48 : decode cX7_areLooks 48 = .ok (.iinc 3 1, 3) := by decide +kernel
theorem dX7_areLooks_51 : decode cX7_areLooks 51 = .ok (.goto (-49), 3) := by decide +kernel
theorem dX7_areLooks_54 : decode cX7_areLooks 54 = .ok (.iconst 1, 1) := by decide +kernel
theorem dX7_areLooks_55 : decode cX7_areLooks 55 = .ok (.ireturn, 1) := by decide +kernel
theorem dX7_search_0 : decode cX7_search 0 = .ok (.iload_n 1, 1) := by decide +kernel
theorem dX7_search_1 : decode cX7_search 1 = .ok (.i2l, 1) := by decide +kernel
theorem dX7_search_2 : decode cX7_search 2 = .ok (.lconst 0, 1) := by decide +kernel
theorem dX7_search_3 : decode cX7_search 3 = .ok (.ldc2_w 101, 3) := by decide +kernel
theorem dX7_search_6 : decode cX7_search 6 = .ok (.invokestatic 97, 3) := by decide +kernel
theorem dX7_search_9 : decode cX7_search 9 = .ok (.ifCond .eq 25, 3) := by decide +kernel
theorem dX7_search_12 : decode cX7_search 12 = .ok (.iload_n 2, 1) := by decide +kernel
theorem dX7_search_13 : decode cX7_search 13 = .ok (.i2l, 1) := by decide +kernel
theorem dX7_search_14 : decode cX7_search 14 = .ok (.lconst 0, 1) := by decide +kernel
theorem dX7_search_15 : decode cX7_search 15 = .ok (.ldc2_w 105, 3) := by decide +kernel
theorem dX7_search_18 : decode cX7_search 18 = .ok (.invokestatic 97, 3) := by decide +kernel
theorem dX7_search_21 : decode cX7_search 21 = .ok (.ifCond .eq 13, 3) := by decide +kernel
theorem dX7_search_24 : decode cX7_search 24 = .ok (.iload_n 3, 1) := by decide +kernel
theorem dX7_search_25 : decode cX7_search 25 = .ok (.i2l, 1) := by decide +kernel
theorem dX7_search_26 : decode cX7_search 26 = .ok (.lconst 0, 1) := by decide +kernel
theorem dX7_search_27 : decode cX7_search 27 = .ok (.lconst 1, 1) := by decide +kernel
theorem dX7_search_28 : decode cX7_search 28 = .ok (.invokestatic 97, 3) := by decide +kernel
theorem dX7_search_31 : decode cX7_search 31 = .ok (.ifCond .ne 10, 3) := by decide +kernel
theorem dX7_search_34 : decode cX7_search 34 = .ok (.aload_n 0, 1) := by decide +kernel
theorem dX7_search_35 : decode cX7_search 35 = .ok (.bipush (-2), 2) := by decide +kernel
theorem dX7_search_37 : decode cX7_search 37 = .ok (.invokevirtual 107, 3) := by decide +kernel
theorem dX7_search_40 : decode cX7_search 40 = .ok (.ireturn, 1) := by decide +kernel
theorem dX7_search_41 : decode cX7_search 41 = .ok (.aload_n 0, 1) := by decide +kernel
theorem dX7_search_42 : decode cX7_search 42 = .ok (.iload_n 1, 1) := by decide +kernel
theorem dX7_search_43 : decode cX7_search 43 = .ok (.iload_n 2, 1) := by decide +kernel
theorem dX7_search_44 : decode cX7_search 44 = .ok (.invokevirtual 353, 3) := by decide +kernel
theorem dX7_search_47 : decode cX7_search 47 = .ok (.istore 4, 2) := by decide +kernel
theorem dX7_search_49 : decode cX7_search 49 = .ok (.iload 4, 2) := by decide +kernel
theorem dX7_search_51 : decode cX7_search 51 = .ok (.ifCond .eq 6, 3) := by decide +kernel
theorem dX7_search_54 : decode cX7_search 54 = .ok (.iload 4, 2) := by decide +kernel
theorem dX7_search_56 : decode cX7_search 56 = .ok (.ireturn, 1) := by decide +kernel
theorem dX7_search_57 : decode cX7_search 57 = .ok (.aload_n 0, 1) := by decide +kernel
theorem dX7_search_58 : decode cX7_search 58 = .ok (.aload_n 0, 1) := by decide +kernel
theorem dX7_search_59 : decode cX7_search 59 = .ok (.getfield 21, 3) := by decide +kernel
theorem dX7_search_62 : decode cX7_search 62 = .ok (.iload_n 1, 1) := by decide +kernel
theorem dX7_search_63 : decode cX7_search 63 = .ok (.aaload, 1) := by decide +kernel
theorem dX7_search_64 : decode cX7_search 64 = .ok (.iload_n 2, 1) := by decide +kernel
theorem dX7_search_65 : decode cX7_search 65 = .ok (.invokevirtual 360, 3) := by decide +kernel
theorem dX7_search_68 : decode cX7_search 68 = .ok (.ifCond .ne 10, 3) := by decide +kernel
theorem dX7_search_71 : decode cX7_search 71 = .ok (.aload_n 0, 1) := by decide +kernel
theorem dX7_search_72 : decode cX7_search 72 = .ok (.bipush (-5), 2) := by decide +kernel
theorem dX7_search_74 : decode cX7_search 74 = .ok (.invokevirtual 107, 3) := by decide +kernel
theorem dX7_search_77 : decode cX7_search 77 = .ok (.ireturn, 1) := by decide +kernel
theorem dX7_search_78 : decode cX7_search 78 = .ok (.aload_n 0, 1) := by decide +kernel
theorem dX7_search_79 : decode cX7_search 79 = .ok (.invokevirtual 263, 3) := by decide +kernel
theorem dX7_search_82 : decode cX7_search 82 = .ok (.astore 5, 2) := by decide +kernel
theorem dX7_search_84 : decode cX7_search 84 = .ok (.iconst 0, 1) := by decide +kernel
theorem dX7_search_85 : decode cX7_search 85 = .ok (.istore 6, 2) := by decide +kernel
theorem dX7_search_87 : decode cX7_search 87 = .ok (.iconst 0, 1) := by decide +kernel
theorem dX7_search_88 : decode cX7_search 88 = .ok (.istore 7, 2) := by decide +kernel
theorem dX7_search_90 : decode cX7_search 90 = .ok (.iconst 0, 1) := by decide +kernel
theorem dX7_search_91 : decode cX7_search 91 = .ok (.istore 8, 2) := by decide +kernel
theorem dX7_search_93 : decode cX7_search 93 = .ok (.iload 8, 2) := by decide +kernel
theorem dX7_search_95 : decode cX7_search 95 = .ok (.iload_n 2, 1) := by decide +kernel
theorem dX7_search_96 : decode cX7_search 96 = .ok (.if_icmp .ge 80, 3) := by decide +kernel
theorem dX7_search_99 : decode cX7_search 99 = .ok (.aload_n 0, 1) := by decide +kernel
theorem dX7_search_100 : decode cX7_search 100 = .ok (.getfield 21, 3) := by decide +kernel
theorem dX7_search_103 : decode cX7_search 103 = .ok (.iload_n 1, 1) := by decide +kernel
theorem dX7_search_104 : decode cX7_search 104 = .ok (.aaload, 1) := by decide +kernel
theorem dX7_search_105 : decode cX7_search 105 = .ok (.iload 8, 2) := by decide +kernel
theorem dX7_search_107 : decode cX7_search 107 = .ok (.laload, 1) := by decide +kernel
theorem dX7_search_108 : decode cX7_search 108 = .ok (.l2i, 1) := by decide +kernel
theorem dX7_search_109 : decode cX7_search 109 = .ok (.bipush 10, 2) := by decide +kernel
theorem dX7_search_111 : decode cX7_search 111 = .ok (.idiv, 1) := by decide +kernel
theorem dX7_search_112 : decode cX7_search 112 = .ok (.istore 9, 2) := by decide +kernel
theorem dX7_search_114 : decode cX7_search 114 = .ok (.aload_n 0, 1) := by decide +kernel
theorem dX7_search_115 : decode cX7_search 115 = .ok (.getfield 21, 3) := by decide +kernel
theorem dX7_search_118 : decode cX7_search 118 = .ok (.iload_n 1, 1) := by decide +kernel
theorem dX7_search_119 : decode cX7_search 119 = .ok (.aaload, 1) := by decide +kernel
theorem dX7_search_120 : decode cX7_search 120 = .ok (.iload 8, 2) := by decide +kernel
theorem dX7_search_122 : decode cX7_search 122 = .ok (.laload, 1) := by decide +kernel
theorem dX7_search_123 : decode cX7_search 123 = .ok (.l2i, 1) := by decide +kernel
theorem dX7_search_124 : decode cX7_search 124 = .ok (.bipush 10, 2) := by decide +kernel
theorem dX7_search_126 : decode cX7_search 126 = .ok (.irem, 1) := by decide +kernel
theorem dX7_search_127 : decode cX7_search 127 = .ok (.istore 10, 2) := by decide +kernel
theorem dX7_search_129 : decode cX7_search 129 = .ok (.aload 5, 2) := by decide +kernel
theorem dX7_search_131 : decode cX7_search 131 = .ok (.invokevirtual 294, 3) := by decide +kernel
theorem dX7_search_134 : decode cX7_search 134 = .ok (.iload 6, 2) := by decide +kernel
theorem dX7_search_136 : decode cX7_search 136 = .ok (.aload_n 0, 1) := by decide +kernel
theorem dX7_search_137 : decode cX7_search 137 = .ok (.iload 9, 2) := by decide +kernel
theorem dX7_search_139 : decode cX7_search 139 = .ok (.iload 10, 2) := by decide +kernel
theorem dX7_search_141 : decode cX7_search 141 = .ok (.invokevirtual 312, 3) := by decide +kernel
theorem dX7_search_144 : decode cX7_search 144 = .ok (.iadd, 1) := by decide +kernel
theorem dX7_search_145 : decode cX7_search 145 = .ok (.istore 6, 2) := by decide +kernel
theorem dX7_search_147 : decode cX7_search 147 = .ok (.iload 7, 2) := by decide +kernel
theorem dX7_search_149 : decode cX7_search 149 = .ok (.aload 5, 2) := by decide +kernel
theorem dX7_search_151 : decode cX7_search 151 = .ok (.iload 9, 2) := by decide +kernel
theorem dX7_search_153 : decode cX7_search 153 = .ok (.iload 10, 2) := by decide +kernel
theorem dX7_search_155 : decode cX7_search 155 = .ok (.invokevirtual 315, 3) := by decide +kernel
theorem dX7_search_158 : decode cX7_search 158 = .ok (.iadd, 1) := by decide +kernel
theorem dX7_search_159 : decode cX7_search 159 = .ok (.istore 7, 2) := by decide +kernel
theorem dX7_search_161 : decode cX7_search 161 = .ok (.aload 5, 2) := by decide +kernel
theorem dX7_search_163 : decode cX7_search 163 = .ok (.iload 9, 2) := by decide +kernel
theorem dX7_search_165 : decode cX7_search 165 = .ok (.iload 10, 2) := by decide +kernel
theorem dX7_search_167 : decode cX7_search 167 = .ok (.invokevirtual 244, 3) := by decide +kernel
theorem dX7_search_170 : decode cX7_search 170 = .ok (.iinc 8 1, 3) := by decide +kernel
theorem dX7_search_173 : decode cX7_search 173 = .ok (.goto (-80), 3) := by decide +kernel
theorem dX7_search_176 : decode cX7_search 176 = .ok (.iload_n 3, 1) := by decide +kernel
theorem dX7_search_177 : decode cX7_search 177 = .ok (.ifCond .ne 8, 3) := by decide +kernel
theorem dX7_search_180 : decode cX7_search 180 = .ok (.iload 6, 2) := by decide +kernel
theorem dX7_search_182 : decode cX7_search 182 = .ok (.goto 5, 3) := by decide +kernel
theorem dX7_search_185 : decode cX7_search 185 = .ok (.iload 7, 2) := by decide +kernel
theorem dX7_search_187 : decode cX7_search 187 = .ok (.ireturn, 1) := by decide +kernel
theorem dX7_lies_0 : decode cX7_lies 0 = .ok (.iload_n 1, 1) := by decide +kernel
theorem dX7_lies_1 : decode cX7_lies 1 = .ok (.iconst (-1), 1) := by decide +kernel
theorem dX7_lies_2 : decode cX7_lies 2 = .ok (.if_icmp .eq 19, 3) := by decide +kernel
theorem dX7_lies_5 : decode cX7_lies 5 = .ok (.aload_n 0, 1) := by decide +kernel
theorem dX7_lies_6 : decode cX7_lies 6 = .ok (.iload_n 1, 1) := by decide +kernel
theorem dX7_lies_7 : decode cX7_lies 7 = .ok (.i2l, 1) := by decide +kernel
theorem dX7_lies_8 : decode cX7_lies 8 = .ok (.invokevirtual 118, 3) := by decide +kernel
theorem dX7_lies_11 : decode cX7_lies 11 = .ok (.ifCond .ne 10, 3) := by decide +kernel
theorem dX7_lies_14 : decode cX7_lies 14 = .ok (.aload_n 0, 1) := by decide +kernel
theorem dX7_lies_15 : decode cX7_lies 15 = .ok (.bipush (-2), 2) := by decide +kernel
theorem dX7_lies_17 : decode cX7_lies 17 = .ok (.invokevirtual 107, 3) := by decide +kernel
theorem dX7_lies_20 : decode cX7_lies 20 = .ok (.ireturn, 1) := by decide +kernel
theorem dX7_lies_21 : decode cX7_lies 21 = .ok (.aload_n 0, 1) := by decide +kernel
theorem dX7_lies_22 : decode cX7_lies 22 = .ok (.getfield 74, 3) := by decide +kernel
theorem dX7_lies_25 : decode cX7_lies 25 = .ok (.istore_n 2, 1) := by decide +kernel
theorem dX7_lies_26 : decode cX7_lies 26 = .ok (.aload_n 0, 1) := by decide +kernel
theorem dX7_lies_27 : decode cX7_lies 27 = .ok (.iload_n 1, 1) := by decide +kernel
theorem dX7_lies_28 : decode cX7_lies 28 = .ok (.putfield 74, 3) := by decide +kernel
theorem dX7_lies_31 : decode cX7_lies 31 = .ok (.iload_n 2, 1) := by decide +kernel
theorem dX7_lies_32 : decode cX7_lies 32 = .ok (.ireturn, 1) := by decide +kernel
theorem dX7_below_0 : decode cX7_below 0 = .ok (.aload_n 0, 1) := by decide +kernel
theorem dX7_below_1 : decode cX7_below 1 = .ok (.aload_n 0, 1) := by decide +kernel
theorem dX7_below_2 : decode cX7_below 2 = .ok (.getfield 77, 3) := by decide +kernel
theorem dX7_below_5 : decode cX7_below 5 = .ok (.ldc_w 364, 3) := by decide +kernel
theorem dX7_below_8 : decode cX7_below 8 = .ok (.imul, 1) := by decide +kernel
theorem dX7_below_9 : decode cX7_below 9 = .ok (.sipush 12345, 3) := by decide +kernel
theorem dX7_below_12 : decode cX7_below 12 = .ok (.iadd, 1) := by decide +kernel
theorem dX7_below_13 : decode cX7_below 13 = .ok (.putfield 77, 3) := by decide +kernel
theorem dX7_below_16 : decode cX7_below 16 = .ok (.aload_n 0, 1) := by decide +kernel
theorem dX7_below_17 : decode cX7_below 17 = .ok (.getfield 77, 3) := by decide +kernel
theorem dX7_below_20 : decode cX7_below 20 = .ok (.bipush 16, 2) := by decide +kernel
theorem dX7_below_22 : decode cX7_below 22 = .ok (.iushr, 1) := by decide +kernel
theorem dX7_below_23 : decode cX7_below 23 = .ok (.iload_n 1, 1) := by decide +kernel
theorem dX7_below_24 : decode cX7_below 24 = .ok (.irem, 1) := by decide +kernel
theorem dX7_below_25 : decode cX7_below 25 = .ok (.ireturn, 1) := by decide +kernel
theorem dX7_driven_0 : decode cX7_driven 0 = .ok (.aload_n 0, 1) := by decide +kernel
theorem dX7_driven_1 : decode cX7_driven 1 = .ok (.invokevirtual 159, 3) := by decide +kernel
theorem dX7_driven_4 : decode cX7_driven 4 = .ok (.pop, 1) := by decide +kernel
theorem dX7_driven_5 : decode cX7_driven 5 = .ok (.aload_n 0, 1) := by decide +kernel
theorem dX7_driven_6 : decode cX7_driven 6 = .ok (.iconst (-1), 1) := by decide +kernel
theorem dX7_driven_7 : decode cX7_driven 7 = .ok (.putfield 74, 3) := by decide +kernel
theorem dX7_driven_10 : decode cX7_driven 10 = .ok (.iconst 0, 1) := by decide +kernel
theorem dX7_driven_11 : decode cX7_driven 11 = .ok (.istore_n 1, 1) := by decide +kernel
theorem dX7_driven_12 : decode cX7_driven 12 = .ok (.iload_n 1, 1) := by decide +kernel
theorem dX7_driven_13 : decode cX7_driven 13 = .ok (.aload_n 0, 1) := by decide +kernel
theorem dX7_driven_14 : decode cX7_driven 14 = .ok (.getfield 94, 3) := by decide +kernel
theorem dX7_driven_17 : decode cX7_driven 17 = .ok (.if_icmp .ge 45, 3) := by decide +kernel
theorem dX7_driven_20 : decode cX7_driven 20 = .ok (.aload_n 0, 1) := by decide +kernel
theorem dX7_driven_21 : decode cX7_driven 21 = .ok (.getfield 74, 3) := by decide +kernel
theorem dX7_driven_24 : decode cX7_driven 24 = .ok (.iconst (-1), 1) := by decide +kernel
theorem dX7_driven_25 : decode cX7_driven 25 = .ok (.if_icmp .ne 37, 3) := by decide +kernel
theorem dX7_driven_28 : decode cX7_driven 28 = .ok (.aload_n 0, 1) := by decide +kernel
theorem dX7_driven_29 : decode cX7_driven 29 = .ok (.aload_n 0, 1) := by decide +kernel
theorem dX7_driven_30 : decode cX7_driven 30 = .ok (.sipush 1000, 3) := by decide +kernel
theorem dX7_driven_33 : decode cX7_driven 33 = .ok (.invokevirtual 365, 3) := by decide +kernel
theorem dX7_driven_36 : decode cX7_driven 36 = .ok (.aload_n 0, 1) := by decide +kernel
theorem dX7_driven_37 : decode cX7_driven 37 = .ok (.iload_n 1, 1) := by decide +kernel
theorem dX7_driven_38 : decode cX7_driven 38 = .ok (.aload_n 0, 1) := by decide +kernel
theorem dX7_driven_39 : decode cX7_driven 39 = .ok (.getfield 70, 3) := by decide +kernel
theorem dX7_driven_42 : decode cX7_driven 42 = .ok (.invokevirtual 128, 3) := by decide +kernel
theorem dX7_driven_45 : decode cX7_driven 45 = .ok (.if_icmp .ge 7, 3) := by decide +kernel
theorem dX7_driven_48 : decode cX7_driven 48 = .ok (.iload_n 1, 1) := by decide +kernel
theorem dX7_driven_49 : decode cX7_driven 49 = .ok (.goto 4, 3) := by decide +kernel
theorem dX7_driven_52 : decode cX7_driven 52 = .ok (.iconst (-1), 1) := by decide +kernel
theorem dX7_driven_53 : decode cX7_driven 53 = .ok (.putfield 74, 3) := by decide +kernel
theorem dX7_driven_56 : decode cX7_driven 56 = .ok (.iinc 1 1, 3) := by decide +kernel
theorem dX7_driven_59 : decode cX7_driven 59 = .ok (.goto (-47), 3) := by decide +kernel
theorem dX7_driven_62 : decode cX7_driven 62 = .ok (.aload_n 0, 1) := by decide +kernel
theorem dX7_driven_63 : decode cX7_driven 63 = .ok (.getfield 74, 3) := by decide +kernel
theorem dX7_driven_66 : decode cX7_driven 66 = .ok (.iconst (-1), 1) := by decide +kernel
theorem dX7_driven_67 : decode cX7_driven 67 = .ok (.if_icmp .ne 7, 3) := by decide +kernel
theorem dX7_driven_70 : decode cX7_driven 70 = .ok (.iconst 0, 1) := by decide +kernel
theorem dX7_driven_71 : decode cX7_driven 71 = .ok (.goto 4, 3) := by decide +kernel
theorem dX7_driven_74 : decode cX7_driven 74 = .ok (.iconst 1, 1) := by decide +kernel
theorem dX7_driven_75 : decode cX7_driven 75 = .ok (.ireturn, 1) := by decide +kernel
theorem dX7_drive_0 : decode cX7_drive 0 = .ok (.aload_n 0, 1) := by decide +kernel
theorem dX7_drive_1 : decode cX7_drive 1 = .ok (.invokevirtual 368, 3) := by decide +kernel
theorem dX7_drive_4 : decode cX7_drive 4 = .ok (.ireturn, 1) := by decide +kernel
theorem dX7_look_0 : decode cX7_look 0 = .ok (.aload_n 0, 1) := by decide +kernel
theorem dX7_look_1 : decode cX7_look 1 = .ok (.iload_n 1, 1) := by decide +kernel
theorem dX7_look_2 : decode cX7_look 2 = .ok (.i2l, 1) := by decide +kernel
theorem dX7_look_3 : decode cX7_look 3 = .ok (.invokevirtual 118, 3) := by decide +kernel
theorem dX7_look_6 : decode cX7_look 6 = .ok (.ifCond .eq 10, 3) := by decide +kernel
theorem dX7_look_9 : decode cX7_look 9 = .ok (.iload_n 2, 1) := by decide +kernel
theorem dX7_look_10 : decode cX7_look 10 = .ok (.invokestatic 309, 3) := by decide +kernel
theorem dX7_look_13 : decode cX7_look 13 = .ok (.ifCond .ne 10, 3) := by decide +kernel
theorem dX7_look_16 : decode cX7_look 16 = .ok (.aload_n 0, 1) := by decide +kernel
theorem dX7_look_17 : decode cX7_look 17 = .ok (.bipush (-2), 2) := by decide +kernel
theorem dX7_look_19 : decode cX7_look 19 = .ok (.invokevirtual 107, 3) := by decide +kernel
theorem dX7_look_22 : decode cX7_look 22 = .ok (.ireturn, 1) := by decide +kernel
theorem dX7_look_23 : decode cX7_look 23 = .ok (.aload_n 0, 1) := by decide +kernel
theorem dX7_look_24 : decode cX7_look 24 = .ok (.getfield 74, 3) := by decide +kernel
theorem dX7_look_27 : decode cX7_look 27 = .ok (.iload_n 1, 1) := by decide +kernel
theorem dX7_look_28 : decode cX7_look 28 = .ok (.if_icmp .ne 18, 3) := by decide +kernel
theorem dX7_look_31 : decode cX7_look 31 = .ok (.aload_n 0, 1) := by decide +kernel
theorem dX7_look_32 : decode cX7_look 32 = .ok (.bipush 100, 2) := by decide +kernel
theorem dX7_look_34 : decode cX7_look 34 = .ok (.invokevirtual 365, 3) := by decide +kernel
theorem dX7_look_37 : decode cX7_look 37 = .ok (.iload_n 2, 1) := by decide +kernel
theorem dX7_look_38 : decode cX7_look 38 = .ok (.invokestatic 304, 3) := by decide +kernel
theorem dX7_look_41 : decode cX7_look 41 = .ok (.if_icmp .ge 5, 3) := by decide +kernel
theorem dX7_look_44 : decode cX7_look 44 = .ok (.iconst 1, 1) := by decide +kernel
theorem dX7_look_45 : decode cX7_look 45 = .ok (.ireturn, 1) := by decide +kernel
theorem dX7_look_46 : decode cX7_look 46 = .ok (.aload_n 0, 1) := by decide +kernel
theorem dX7_look_47 : decode cX7_look 47 = .ok (.iload_n 1, 1) := by decide +kernel
theorem dX7_look_48 : decode cX7_look 48 = .ok (.iload_n 2, 1) := by decide +kernel
theorem dX7_look_49 : decode cX7_look 49 = .ok (.invokevirtual 244, 3) := by decide +kernel
theorem dX7_look_52 : decode cX7_look 52 = .ok (.iconst 0, 1) := by decide +kernel
theorem dX7_look_53 : decode cX7_look 53 = .ok (.ireturn, 1) := by decide +kernel
theorem dX7_trips_0 : decode cX7_trips 0 = .ok (.iload_n 1, 1) := by decide +kernel
theorem dX7_trips_1 : decode cX7_trips 1 = .ok (.i2l, 1) := by decide +kernel
theorem dX7_trips_2 : decode cX7_trips 2 = .ok (.lconst 1, 1) := by decide +kernel
theorem dX7_trips_3 : decode cX7_trips 3 = .ok (.ldc2_w 166, 3) := by decide +kernel
theorem dX7_trips_6 : decode cX7_trips 6 = .ok (.invokestatic 97, 3) := by decide +kernel
theorem dX7_trips_9 : decode cX7_trips 9 = .ok (.ifCond .ne 10, 3) := by decide +kernel
theorem dX7_trips_12 : decode cX7_trips 12 = .ok (.aload_n 0, 1) := by decide +kernel
theorem dX7_trips_13 : decode cX7_trips 13 = .ok (.bipush (-2), 2) := by decide +kernel
theorem dX7_trips_15 : decode cX7_trips 15 = .ok (.invokevirtual 107, 3) := by decide +kernel
theorem dX7_trips_18 : decode cX7_trips 18 = .ok (.ireturn, 1) := by decide +kernel
theorem dX7_trips_19 : decode cX7_trips 19 = .ok (.iconst 0, 1) := by decide +kernel
theorem dX7_trips_20 : decode cX7_trips 20 = .ok (.istore_n 2, 1) := by decide +kernel
theorem dX7_trips_21 : decode cX7_trips 21 = .ok (.iconst 0, 1) := by decide +kernel
theorem dX7_trips_22 : decode cX7_trips 22 = .ok (.istore_n 3, 1) := by decide +kernel
theorem dX7_trips_23 : decode cX7_trips 23 = .ok (.iload_n 3, 1) := by decide +kernel
theorem dX7_trips_24 : decode cX7_trips 24 = .ok (.iload_n 1, 1) := by decide +kernel
theorem dX7_trips_25 : decode cX7_trips 25 = .ok (.if_icmp .ge 16, 3) := by decide +kernel
theorem dX7_trips_28 : decode cX7_trips 28 = .ok (.iload_n 2, 1) := by decide +kernel
theorem dX7_trips_29 : decode cX7_trips 29 = .ok (.aload_n 0, 1) := by decide +kernel
theorem dX7_trips_30 : decode cX7_trips 30 = .ok (.invokevirtual 368, 3) := by decide +kernel
theorem dX7_trips_33 : decode cX7_trips 33 = .ok (.iadd, 1) := by decide +kernel
theorem dX7_trips_34 : decode cX7_trips 34 = .ok (.istore_n 2, 1) := by decide +kernel
theorem dX7_trips_35 : decode cX7_trips 35 = .ok (.iinc 3 1, 3) := by decide +kernel
theorem dX7_trips_38 : decode cX7_trips 38 = .ok (.goto (-15), 3) := by decide +kernel
theorem dX7_trips_41 : decode cX7_trips 41 = .ok (.iload_n 2, 1) := by decide +kernel
theorem dX7_trips_42 : decode cX7_trips 42 = .ok (.ireturn, 1) := by decide +kernel
theorem dX7_seed_0 : decode cX7_seed 0 = .ok (.aload_n 0, 1) := by decide +kernel
theorem dX7_seed_1 : decode cX7_seed 1 = .ok (.getfield 77, 3) := by decide +kernel
theorem dX7_seed_4 : decode cX7_seed 4 = .ok (.istore_n 2, 1) := by decide +kernel
theorem dX7_seed_5 : decode cX7_seed 5 = .ok (.aload_n 0, 1) := by decide +kernel
theorem dX7_seed_6 : decode cX7_seed 6 = .ok (.iload_n 1, 1) := by decide +kernel
theorem dX7_seed_7 : decode cX7_seed 7 = .ok (.putfield 77, 3) := by decide +kernel
theorem dX7_seed_10 : decode cX7_seed 10 = .ok (.iload_n 2, 1) := by decide +kernel
theorem dX7_seed_11 : decode cX7_seed 11 = .ok (.ireturn, 1) := by decide +kernel
theorem dX7_copied_0 : decode cX7_copied 0 = .ok (.iconst 0, 1) := by decide +kernel
theorem dX7_copied_1 : decode cX7_copied 1 = .ok (.istore_n 2, 1) := by decide +kernel
theorem dX7_copied_2 : decode cX7_copied 2 = .ok (.iload_n 2, 1) := by decide +kernel
theorem dX7_copied_3 : decode cX7_copied 3 = .ok (.aload_n 0, 1) := by decide +kernel
theorem dX7_copied_4 : decode cX7_copied 4 = .ok (.arraylength, 1) := by decide +kernel
theorem dX7_copied_5 : decode cX7_copied 5 = .ok (.if_icmp .ge 15, 3) := by decide +kernel
theorem dX7_copied_8 : decode cX7_copied 8 = .ok (.aload_n 1, 1) := by decide +kernel
theorem dX7_copied_9 : decode cX7_copied 9 = .ok (.iload_n 2, 1) := by decide +kernel
theorem dX7_copied_10 : decode cX7_copied 10 = .ok (.aload_n 0, 1) := by decide +kernel
theorem dX7_copied_11 : decode cX7_copied 11 = .ok (.iload_n 2, 1) := by decide +kernel
theorem dX7_copied_12 : decode cX7_copied 12 = .ok (.iaload, 1) := by decide +kernel
theorem dX7_copied_13 : decode cX7_copied 13 = .ok (.iastore, 1) := by decide +kernel
theorem dX7_copied_14 : decode cX7_copied 14 = .ok (.iinc 2 1, 3) := by decide +kernel
theorem dX7_copied_17 : decode cX7_copied 17 = .ok (.goto (-15), 3) := by decide +kernel
theorem dX7_copied_20 : decode cX7_copied 20 = .ok (.return_, 1) := by decide +kernel
theorem dX7_takeFrom_0 : decode cX7_takeFrom 0 = .ok (.aload_n 0, 1) := by decide +kernel
theorem dX7_takeFrom_1 : decode cX7_takeFrom 1 = .ok (.aload_n 1, 1) := by decide +kernel
theorem dX7_takeFrom_2 : decode cX7_takeFrom 2 = .ok (.getfield 94, 3) := by decide +kernel
theorem dX7_takeFrom_5 : decode cX7_takeFrom 5 = .ok (.putfield 94, 3) := by decide +kernel
theorem dX7_takeFrom_8 : decode cX7_takeFrom 8 = .ok (.aload_n 1, 1) := by decide +kernel
theorem dX7_takeFrom_9 : decode cX7_takeFrom 9 = .ok (.getfield 37, 3) := by decide +kernel
theorem dX7_takeFrom_12 : decode cX7_takeFrom 12 = .ok (.aload_n 0, 1) := by decide +kernel
theorem dX7_takeFrom_13 : decode cX7_takeFrom 13 = .ok (.getfield 37, 3) := by decide +kernel
theorem dX7_takeFrom_16 : decode cX7_takeFrom 16 = .ok (.invokestatic 371, 3) := by decide +kernel
theorem dX7_takeFrom_19 : decode cX7_takeFrom 19 = .ok (.aload_n 1, 1) := by decide +kernel
theorem dX7_takeFrom_20 : decode cX7_takeFrom 20 = .ok (.getfield 40, 3) := by decide +kernel
theorem dX7_takeFrom_23 : decode cX7_takeFrom 23 = .ok (.aload_n 0, 1) := by decide +kernel
theorem dX7_takeFrom_24 : decode cX7_takeFrom 24 = .ok (.getfield 40, 3) := by decide +kernel
theorem dX7_takeFrom_27 : decode cX7_takeFrom 27 = .ok (.invokestatic 371, 3) := by decide +kernel
theorem dX7_takeFrom_30 : decode cX7_takeFrom 30 = .ok (.aload_n 1, 1) := by decide +kernel
theorem dX7_takeFrom_31 : decode cX7_takeFrom 31 = .ok (.getfield 43, 3) := by decide +kernel
theorem dX7_takeFrom_34 : decode cX7_takeFrom 34 = .ok (.aload_n 0, 1) := by decide +kernel
theorem dX7_takeFrom_35 : decode cX7_takeFrom 35 = .ok (.getfield 43, 3) := by decide +kernel
theorem dX7_takeFrom_38 : decode cX7_takeFrom 38 = .ok (.invokestatic 371, 3) := by decide +kernel
theorem dX7_takeFrom_41 : decode cX7_takeFrom 41 = .ok (.aload_n 1, 1) := by decide +kernel
theorem dX7_takeFrom_42 : decode cX7_takeFrom 42 = .ok (.getfield 46, 3) := by decide +kernel
theorem dX7_takeFrom_45 : decode cX7_takeFrom 45 = .ok (.aload_n 0, 1) := by decide +kernel
theorem dX7_takeFrom_46 : decode cX7_takeFrom 46 = .ok (.getfield 46, 3) := by decide +kernel
theorem dX7_takeFrom_49 : decode cX7_takeFrom 49 = .ok (.invokestatic 371, 3) := by decide +kernel
theorem dX7_takeFrom_52 : decode cX7_takeFrom 52 = .ok (.aload_n 1, 1) := by decide +kernel
theorem dX7_takeFrom_53 : decode cX7_takeFrom 53 = .ok (.getfield 49, 3) := by decide +kernel
theorem dX7_takeFrom_56 : decode cX7_takeFrom 56 = .ok (.aload_n 0, 1) := by decide +kernel
theorem dX7_takeFrom_57 : decode cX7_takeFrom 57 = .ok (.getfield 49, 3) := by decide +kernel
theorem dX7_takeFrom_60 : decode cX7_takeFrom 60 = .ok (.invokestatic 371, 3) := by decide +kernel
theorem dX7_takeFrom_63 : decode cX7_takeFrom 63 = .ok (.aload_n 0, 1) := by decide +kernel
theorem dX7_takeFrom_64 : decode cX7_takeFrom 64 = .ok (.aload_n 1, 1) := by decide +kernel
theorem dX7_takeFrom_65 : decode cX7_takeFrom 65 = .ok (.getfield 150, 3) := by decide +kernel
theorem dX7_takeFrom_68 : decode cX7_takeFrom 68 = .ok (.putfield 150, 3) := by decide +kernel
theorem dX7_takeFrom_71 : decode cX7_takeFrom 71 = .ok (.aload_n 1, 1) := by decide +kernel
theorem dX7_takeFrom_72 : decode cX7_takeFrom 72 = .ok (.getfield 52, 3) := by decide +kernel
theorem dX7_takeFrom_75 : decode cX7_takeFrom 75 = .ok (.aload_n 0, 1) := by decide +kernel
theorem dX7_takeFrom_76 : decode cX7_takeFrom 76 = .ok (.getfield 52, 3) := by decide +kernel
theorem dX7_takeFrom_79 : decode cX7_takeFrom 79 = .ok (.invokestatic 371, 3) := by decide +kernel
theorem dX7_takeFrom_82 : decode cX7_takeFrom 82 = .ok (.aload_n 1, 1) := by decide +kernel
theorem dX7_takeFrom_83 : decode cX7_takeFrom 83 = .ok (.getfield 55, 3) := by decide +kernel
theorem dX7_takeFrom_86 : decode cX7_takeFrom 86 = .ok (.aload_n 0, 1) := by decide +kernel
theorem dX7_takeFrom_87 : decode cX7_takeFrom 87 = .ok (.getfield 55, 3) := by decide +kernel
theorem dX7_takeFrom_90 : decode cX7_takeFrom 90 = .ok (.invokestatic 371, 3) := by decide +kernel
theorem dX7_takeFrom_93 : decode cX7_takeFrom 93 = .ok (.aload_n 1, 1) := by decide +kernel
theorem dX7_takeFrom_94 : decode cX7_takeFrom 94 = .ok (.getfield 58, 3) := by decide +kernel
theorem dX7_takeFrom_97 : decode cX7_takeFrom 97 = .ok (.aload_n 0, 1) := by decide +kernel
theorem dX7_takeFrom_98 : decode cX7_takeFrom 98 = .ok (.getfield 58, 3) := by decide +kernel
theorem dX7_takeFrom_101 : decode cX7_takeFrom 101 = .ok (.invokestatic 371, 3) := by decide +kernel
theorem dX7_takeFrom_104 : decode cX7_takeFrom 104 = .ok (.aload_n 0, 1) := by decide +kernel
theorem dX7_takeFrom_105 : decode cX7_takeFrom 105 = .ok (.aload_n 1, 1) := by decide +kernel
theorem dX7_takeFrom_106 : decode cX7_takeFrom 106 = .ok (.getfield 163, 3) := by decide +kernel
theorem dX7_takeFrom_109 : decode cX7_takeFrom 109 = .ok (.putfield 163, 3) := by decide +kernel
theorem dX7_takeFrom_112 : decode cX7_takeFrom 112 = .ok (.aload_n 1, 1) := by decide +kernel
theorem dX7_takeFrom_113 : decode cX7_takeFrom 113 = .ok (.getfield 61, 3) := by decide +kernel
theorem dX7_takeFrom_116 : decode cX7_takeFrom 116 = .ok (.aload_n 0, 1) := by decide +kernel
theorem dX7_takeFrom_117 : decode cX7_takeFrom 117 = .ok (.getfield 61, 3) := by decide +kernel
theorem dX7_takeFrom_120 : decode cX7_takeFrom 120 = .ok (.invokestatic 371, 3) := by decide +kernel
theorem dX7_takeFrom_123 : decode cX7_takeFrom 123 = .ok (.aload_n 1, 1) := by decide +kernel
theorem dX7_takeFrom_124 : decode cX7_takeFrom 124 = .ok (.getfield 64, 3) := by decide +kernel
theorem dX7_takeFrom_127 : decode cX7_takeFrom 127 = .ok (.aload_n 0, 1) := by decide +kernel
theorem dX7_takeFrom_128 : decode cX7_takeFrom 128 = .ok (.getfield 64, 3) := by decide +kernel
theorem dX7_takeFrom_131 : decode cX7_takeFrom 131 = .ok (.invokestatic 371, 3) := by decide +kernel
theorem dX7_takeFrom_134 : decode cX7_takeFrom 134 = .ok (.aload_n 1, 1) := by decide +kernel
theorem dX7_takeFrom_135 : decode cX7_takeFrom 135 = .ok (.getfield 67, 3) := by decide +kernel
theorem dX7_takeFrom_138 : decode cX7_takeFrom 138 = .ok (.aload_n 0, 1) := by decide +kernel
theorem dX7_takeFrom_139 : decode cX7_takeFrom 139 = .ok (.getfield 67, 3) := by decide +kernel
theorem dX7_takeFrom_142 : decode cX7_takeFrom 142 = .ok (.invokestatic 371, 3) := by decide +kernel
theorem dX7_takeFrom_145 : decode cX7_takeFrom 145 = .ok (.aload_n 0, 1) := by decide +kernel
theorem dX7_takeFrom_146 : decode cX7_takeFrom 146 = .ok (.aload_n 1, 1) := by decide +kernel
theorem dX7_takeFrom_147 : decode cX7_takeFrom 147 = .ok (.getfield 70, 3) := by decide +kernel
theorem dX7_takeFrom_150 : decode cX7_takeFrom 150 = .ok (.putfield 70, 3) := by decide +kernel
theorem dX7_takeFrom_153 : decode cX7_takeFrom 153 = .ok (.aload_n 0, 1) := by decide +kernel
theorem dX7_takeFrom_154 : decode cX7_takeFrom 154 = .ok (.aload_n 1, 1) := by decide +kernel
theorem dX7_takeFrom_155 : decode cX7_takeFrom 155 = .ok (.getfield 144, 3) := by decide +kernel
theorem dX7_takeFrom_158 : decode cX7_takeFrom 158 = .ok (.putfield 144, 3) := by decide +kernel
theorem dX7_takeFrom_161 : decode cX7_takeFrom 161 = .ok (.aload_n 0, 1) := by decide +kernel
theorem dX7_takeFrom_162 : decode cX7_takeFrom 162 = .ok (.aload_n 1, 1) := by decide +kernel
theorem dX7_takeFrom_163 : decode cX7_takeFrom 163 = .ok (.getfield 147, 3) := by decide +kernel
theorem dX7_takeFrom_166 : decode cX7_takeFrom 166 = .ok (.putfield 147, 3) := by decide +kernel
theorem dX7_takeFrom_169 : decode cX7_takeFrom 169 = .ok (.aload_n 0, 1) := by decide +kernel
theorem dX7_takeFrom_170 : decode cX7_takeFrom 170 = .ok (.aload_n 1, 1) := by decide +kernel
theorem dX7_takeFrom_171 : decode cX7_takeFrom 171 = .ok (.getfield 74, 3) := by decide +kernel
theorem dX7_takeFrom_174 : decode cX7_takeFrom 174 = .ok (.putfield 74, 3) := by decide +kernel
theorem dX7_takeFrom_177 : decode cX7_takeFrom 177 = .ok (.aload_n 0, 1) := by decide +kernel
theorem dX7_takeFrom_178 : decode cX7_takeFrom 178 = .ok (.aload_n 1, 1) := by decide +kernel
theorem dX7_takeFrom_179 : decode cX7_takeFrom 179 = .ok (.getfield 77, 3) := by decide +kernel
theorem dX7_takeFrom_182 : decode cX7_takeFrom 182 = .ok (.putfield 77, 3) := by decide +kernel
theorem dX7_takeFrom_185 : decode cX7_takeFrom 185 = .ok (.return_, 1) := by decide +kernel
theorem dX7_image_0 : decode cX7_image 0 = .ok (.aload_n 0, 1) := by decide +kernel
theorem dX7_image_1 : decode cX7_image 1 = .ok (.getfield 375, 3) := by decide +kernel
theorem dX7_image_4 : decode cX7_image 4 = .ok (.ifnonnull 14, 3) := by decide +kernel
theorem dX7_image_7 : decode cX7_image 7 = .ok (.aload_n 0, 1) := by decide +kernel
theorem dX7_image_8 : decode cX7_image 8 = .ok (.new 8, 3) := by decide +kernel
theorem dX7_image_11 : decode cX7_image 11 = .ok (.dup, 1) := by decide +kernel
theorem dX7_image_12 : decode cX7_image 12 = .ok (.invokespecial 258, 3) := by decide +kernel
theorem dX7_image_15 : decode cX7_image 15 = .ok (.putfield 375, 3) := by decide +kernel
theorem dX7_image_18 : decode cX7_image 18 = .ok (.aload_n 0, 1) := by decide +kernel
theorem dX7_image_19 : decode cX7_image 19 = .ok (.getfield 375, 3) := by decide +kernel
theorem dX7_image_22 : decode cX7_image 22 = .ok (.aload_n 0, 1) := by decide +kernel
theorem dX7_image_23 : decode cX7_image 23 = .ok (.invokevirtual 259, 3) := by decide +kernel
theorem dX7_image_26 : decode cX7_image 26 = .ok (.iconst 1, 1) := by decide +kernel
theorem dX7_image_27 : decode cX7_image 27 = .ok (.ireturn, 1) := by decide +kernel
theorem dX7_back_0 : decode cX7_back 0 = .ok (.aload_n 0, 1) := by decide +kernel
theorem dX7_back_1 : decode cX7_back 1 = .ok (.getfield 375, 3) := by decide +kernel
theorem dX7_back_4 : decode cX7_back 4 = .ok (.ifnonnull 10, 3) := by decide +kernel
theorem dX7_back_7 : decode cX7_back 7 = .ok (.aload_n 0, 1) := by decide +kernel
theorem dX7_back_8 : decode cX7_back 8 = .ok (.bipush (-5), 2) := by decide +kernel
theorem dX7_back_10 : decode cX7_back 10 = .ok (.invokevirtual 107, 3) := by decide +kernel
theorem dX7_back_13 : decode cX7_back 13 = .ok (.ireturn, 1) := by decide +kernel
theorem dX7_back_14 : decode cX7_back 14 = .ok (.aload_n 0, 1) := by decide +kernel
theorem dX7_back_15 : decode cX7_back 15 = .ok (.aload_n 0, 1) := by decide +kernel
theorem dX7_back_16 : decode cX7_back 16 = .ok (.getfield 375, 3) := by decide +kernel
theorem dX7_back_19 : decode cX7_back 19 = .ok (.invokevirtual 259, 3) := by decide +kernel
theorem dX7_back_22 : decode cX7_back 22 = .ok (.iconst 0, 1) := by decide +kernel
theorem dX7_back_23 : decode cX7_back 23 = .ok (.istore_n 1, 1) := by decide +kernel
theorem dX7_back_24 : decode cX7_back 24 = .ok (.iload_n 1, 1) := by decide +kernel
theorem dX7_back_25 : decode cX7_back 25 = .ok (.bipush 8, 2) := by decide +kernel
theorem dX7_back_27 : decode cX7_back 27 = .ok (.if_icmp .ge 39, 3) := by decide +kernel
theorem dX7_back_30 : decode cX7_back 30 = .ok (.aload_n 0, 1) := by decide +kernel
theorem dX7_back_31 : decode cX7_back 31 = .ok (.getfield 7, 3) := by decide +kernel
theorem dX7_back_34 : decode cX7_back 34 = .ok (.iload_n 1, 1) := by decide +kernel
theorem dX7_back_35 : decode cX7_back 35 = .ok (.iaload, 1) := by decide +kernel
theorem dX7_back_36 : decode cX7_back 36 = .ok (.iconst 2, 1) := by decide +kernel
theorem dX7_back_37 : decode cX7_back 37 = .ok (.if_icmp .ne 23, 3) := by decide +kernel
theorem dX7_back_40 : decode cX7_back 40 = .ok (.aload_n 0, 1) := by decide +kernel
theorem dX7_back_41 : decode cX7_back 41 = .ok (.getfield 28, 3) := by decide +kernel
theorem dX7_back_44 : decode cX7_back 44 = .ok (.iload_n 1, 1) := by decide +kernel
theorem dX7_back_45 : decode cX7_back 45 = .ok (.iaload, 1) := by decide +kernel
theorem dX7_back_46 : decode cX7_back 46 = .ok (.aload_n 0, 1) := by decide +kernel
theorem dX7_back_47 : decode cX7_back 47 = .ok (.getfield 94, 3) := by decide +kernel
theorem dX7_back_50 : decode cX7_back 50 = .ok (.if_icmp .lt 10, 3) := by decide +kernel
theorem dX7_back_53 : decode cX7_back 53 = .ok (.aload_n 0, 1) := by decide +kernel
theorem dX7_back_54 : decode cX7_back 54 = .ok (.getfield 7, 3) := by decide +kernel
theorem dX7_back_57 : decode cX7_back 57 = .ok (.iload_n 1, 1) := by decide +kernel
theorem dX7_back_58 : decode cX7_back 58 = .ok (.iconst 0, 1) := by decide +kernel
theorem dX7_back_59 : decode cX7_back 59 = .ok (.iastore, 1) := by decide +kernel
theorem dX7_back_60 : decode cX7_back 60 = .ok (.iinc 1 1, 3) := by decide +kernel
theorem dX7_back_63 : decode cX7_back 63 = .ok (.goto (-39), 3) := by decide +kernel
theorem dX7_back_66 : decode cX7_back 66 = .ok (.iconst 1, 1) := by decide +kernel
theorem dX7_back_67 : decode cX7_back 67 = .ok (.ireturn, 1) := by decide +kernel
theorem dX7_looked_0 : decode cX7_looked 0 = .ok (.iconst 0, 1) := by decide +kernel
theorem dX7_looked_1 : decode cX7_looked 1 = .ok (.istore_n 1, 1) := by decide +kernel
theorem dX7_looked_2 : decode cX7_looked 2 = .ok (.iconst 0, 1) := by decide +kernel
theorem dX7_looked_3 : decode cX7_looked 3 = .ok (.istore_n 2, 1) := by decide +kernel
theorem dX7_looked_4 : decode cX7_looked 4 = .ok (.iload_n 2, 1) := by decide +kernel
theorem dX7_looked_5 : decode cX7_looked 5 = .ok (.aload_n 0, 1) := by decide +kernel
theorem dX7_looked_6 : decode cX7_looked 6 = .ok (.getfield 94, 3) := by decide +kernel
theorem dX7_looked_9 : decode cX7_looked 9 = .ok (.if_icmp .ge 28, 3) := by decide +kernel
theorem dX7_looked_12 : decode cX7_looked 12 = .ok (.iload_n 1, 1) := by decide +kernel
theorem dX7_looked_13 : decode cX7_looked 13 = .ok (.aload_n 0, 1) := by decide +kernel
theorem dX7_looked_14 : decode cX7_looked 14 = .ok (.getfield 49, 3) := by decide +kernel
theorem dX7_looked_17 : decode cX7_looked 17 = .ok (.iload_n 2, 1) := by decide +kernel
theorem dX7_looked_18 : decode cX7_looked 18 = .ok (.iaload, 1) := by decide +kernel
theorem dX7_looked_19 : decode cX7_looked 19 = .ok (.bipush 100, 2) := by decide +kernel
theorem dX7_looked_21 : decode cX7_looked 21 = .ok (.if_icmp .eq 7, 3) := by decide +kernel
theorem dX7_looked_24 : decode cX7_looked 24 = .ok (.iconst 1, 1) := by decide +kernel
theorem dX7_looked_25 : decode cX7_looked 25 = .ok (.goto 4, 3) := by decide +kernel
theorem dX7_looked_28 : decode cX7_looked 28 = .ok (.iconst 0, 1) := by decide +kernel
theorem dX7_looked_29 : decode cX7_looked 29 = .ok (.iadd, 1) := by decide +kernel
theorem dX7_looked_30 : decode cX7_looked 30 = .ok (.istore_n 1, 1) := by decide +kernel
theorem dX7_looked_31 : decode cX7_looked 31 = .ok (.iinc 2 1, 3) := by decide +kernel
theorem dX7_looked_34 : decode cX7_looked 34 = .ok (.goto (-30), 3) := by decide +kernel
theorem dX7_looked_37 : decode cX7_looked 37 = .ok (.iload_n 1, 1) := by decide +kernel
theorem dX7_looked_38 : decode cX7_looked 38 = .ok (.ireturn, 1) := by decide +kernel
theorem dX7_status_0 : decode cX7_status 0 = .ok (.iconst 0, 1) := by decide +kernel
theorem dX7_status_1 : decode cX7_status 1 = .ok (.istore_n 2, 1) := by decide +kernel
theorem dX7_status_2 : decode cX7_status 2 = .ok (.iload_n 1, 1) := by decide +kernel
theorem dX7_status_3 : decode cX7_status 3 = .ok (.tableswitch 188 0 17 #[85, 90, 95, 100, 105, 110, 121, 126, 135, 140, 145, 178, 188, 188, 188, 188, 188, 183], 85) := by decide +kernel
theorem dX7_status_88 : decode cX7_status 88 = .ok (.aload_n 0, 1) := by decide +kernel
theorem dX7_status_89 : decode cX7_status 89 = .ok (.getfield 94, 3) := by decide +kernel
theorem dX7_status_92 : decode cX7_status 92 = .ok (.ireturn, 1) := by decide +kernel
theorem dX7_status_93 : decode cX7_status 93 = .ok (.aload_n 0, 1) := by decide +kernel
theorem dX7_status_94 : decode cX7_status 94 = .ok (.getfield 150, 3) := by decide +kernel
theorem dX7_status_97 : decode cX7_status 97 = .ok (.ireturn, 1) := by decide +kernel
theorem dX7_status_98 : decode cX7_status 98 = .ok (.aload_n 0, 1) := by decide +kernel
theorem dX7_status_99 : decode cX7_status 99 = .ok (.getfield 70, 3) := by decide +kernel
theorem dX7_status_102 : decode cX7_status 102 = .ok (.ireturn, 1) := by decide +kernel
theorem dX7_status_103 : decode cX7_status 103 = .ok (.aload_n 0, 1) := by decide +kernel
theorem dX7_status_104 : decode cX7_status 104 = .ok (.getfield 144, 3) := by decide +kernel
theorem dX7_status_107 : decode cX7_status 107 = .ok (.ireturn, 1) := by decide +kernel
theorem dX7_status_108 : decode cX7_status 108 = .ok (.aload_n 0, 1) := by decide +kernel
theorem dX7_status_109 : decode cX7_status 109 = .ok (.getfield 147, 3) := by decide +kernel
theorem dX7_status_112 : decode cX7_status 112 = .ok (.ireturn, 1) := by decide +kernel
theorem dX7_status_113 : decode cX7_status 113 = .ok (.aload_n 0, 1) := by decide +kernel
theorem dX7_status_114 : decode cX7_status 114 = .ok (.aload_n 0, 1) := by decide +kernel
theorem dX7_status_115 : decode cX7_status 115 = .ok (.getfield 94, 3) := by decide +kernel
theorem dX7_status_118 : decode cX7_status 118 = .ok (.iconst 1, 1) := by decide +kernel
theorem dX7_status_119 : decode cX7_status 119 = .ok (.isub, 1) := by decide +kernel
theorem dX7_status_120 : decode cX7_status 120 = .ok (.invokevirtual 270, 3) := by decide +kernel
theorem dX7_status_123 : decode cX7_status 123 = .ok (.ireturn, 1) := by decide +kernel
theorem dX7_status_124 : decode cX7_status 124 = .ok (.aload_n 0, 1) := by decide +kernel
theorem dX7_status_125 : decode cX7_status 125 = .ok (.getfield 74, 3) := by decide +kernel
theorem dX7_status_128 : decode cX7_status 128 = .ok (.ireturn, 1) := by decide +kernel
theorem dX7_status_129 : decode cX7_status 129 = .ok (.aload_n 0, 1) := by decide +kernel
theorem dX7_status_130 : decode cX7_status 130 = .ok (.invokevirtual 294, 3) := by decide +kernel
theorem dX7_status_133 : decode cX7_status 133 = .ok (.aload_n 0, 1) := by decide +kernel
theorem dX7_status_134 : decode cX7_status 134 = .ok (.getfield 291, 3) := by decide +kernel
theorem dX7_status_137 : decode cX7_status 137 = .ok (.ireturn, 1) := by decide +kernel
theorem dX7_status_138 : decode cX7_status 138 = .ok (.aload_n 0, 1) := by decide +kernel
theorem dX7_status_139 : decode cX7_status 139 = .ok (.getfield 173, 3) := by decide +kernel
theorem dX7_status_142 : decode cX7_status 142 = .ok (.ireturn, 1) := by decide +kernel
theorem dX7_status_143 : decode cX7_status 143 = .ok (.aload_n 0, 1) := by decide +kernel
theorem dX7_status_144 : decode cX7_status 144 = .ok (.getfield 77, 3) := by decide +kernel
theorem dX7_status_147 : decode cX7_status 147 = .ok (.ireturn, 1) := by decide +kernel
theorem dX7_status_148 : decode cX7_status 148 = .ok (.iconst 0, 1) := by decide +kernel
theorem dX7_status_149 : decode cX7_status 149 = .ok (.istore_n 3, 1) := by decide +kernel
theorem dX7_status_150 : decode cX7_status 150 = .ok (.iload_n 3, 1) := by decide +kernel
theorem dX7_status_151 : decode cX7_status 151 = .ok (.bipush 8, 2) := by decide +kernel
theorem dX7_status_153 : decode cX7_status 153 = .ok (.if_icmp .ge 26, 3) := by decide +kernel
theorem dX7_status_156 : decode cX7_status 156 = .ok (.iload_n 2, 1) := by decide +kernel
theorem dX7_status_157 : decode cX7_status 157 = .ok (.aload_n 0, 1) := by decide +kernel
theorem dX7_status_158 : decode cX7_status 158 = .ok (.getfield 7, 3) := by decide +kernel
theorem dX7_status_161 : decode cX7_status 161 = .ok (.iload_n 3, 1) := by decide +kernel
theorem dX7_status_162 : decode cX7_status 162 = .ok (.iaload, 1) := by decide +kernel
theorem dX7_status_163 : decode cX7_status 163 = .ok (.ifCond .eq 7, 3) := by decide +kernel
theorem dX7_status_166 : decode cX7_status 166 = .ok (.iconst 1, 1) := by decide +kernel
theorem dX7_status_167 : decode cX7_status 167 = .ok (.goto 4, 3) := by decide +kernel
theorem dX7_status_170 : decode cX7_status 170 = .ok (.iconst 0, 1) := by decide +kernel
theorem dX7_status_171 : decode cX7_status 171 = .ok (.iadd, 1) := by decide +kernel
theorem dX7_status_172 : decode cX7_status 172 = .ok (.istore_n 2, 1) := by decide +kernel
theorem dX7_status_173 : decode cX7_status 173 = .ok (.iinc 3 1, 3) := by decide +kernel
theorem dX7_status_176 : decode cX7_status 176 = .ok (.goto (-26), 3) := by decide +kernel
theorem dX7_status_179 : decode cX7_status 179 = .ok (.iload_n 2, 1) := by decide +kernel
theorem dX7_status_180 : decode cX7_status 180 = .ok (.ireturn, 1) := by decide +kernel
theorem dX7_status_181 : decode cX7_status 181 = .ok (.aload_n 0, 1) := by decide +kernel
theorem dX7_status_182 : decode cX7_status 182 = .ok (.invokevirtual 378, 3) := by decide +kernel
theorem dX7_status_185 : decode cX7_status 185 = .ok (.ireturn, 1) := by decide +kernel
theorem dX7_status_186 : decode cX7_status 186 = .ok (.aload_n 0, 1) := by decide +kernel
theorem dX7_status_187 : decode cX7_status 187 = .ok (.getfield 163, 3) := by decide +kernel
theorem dX7_status_190 : decode cX7_status 190 = .ok (.ireturn, 1) := by decide +kernel
theorem dX7_status_191 : decode cX7_status 191 = .ok (.iload_n 1, 1) := by decide +kernel
theorem dX7_status_192 : decode cX7_status 192 = .ok (.i2l, 1) := by decide +kernel
theorem dX7_status_193 : decode cX7_status 193 = .ok (.ldc2_w 381, 3) := by decide +kernel
theorem dX7_status_196 : decode cX7_status 196 = .ok (.ldc2_w 383, 3) := by decide +kernel
theorem dX7_status_199 : decode cX7_status 199 = .ok (.invokestatic 97, 3) := by decide +kernel
theorem dX7_status_202 : decode cX7_status 202 = .ok (.ifCond .eq 15, 3) := by decide +kernel
theorem dX7_status_205 : decode cX7_status 205 = .ok (.aload_n 0, 1) := by decide +kernel
theorem dX7_status_206 : decode cX7_status 206 = .ok (.getfield 34, 3) := by decide +kernel
theorem dX7_status_209 : decode cX7_status 209 = .ok (.iload_n 1, 1) := by decide +kernel
theorem dX7_status_210 : decode cX7_status 210 = .ok (.bipush 10, 2) := by decide +kernel
theorem dX7_status_212 : decode cX7_status 212 = .ok (.isub, 1) := by decide +kernel
theorem dX7_status_213 : decode cX7_status 213 = .ok (.iaload, 1) := by decide +kernel
theorem dX7_status_214 : decode cX7_status 214 = .ok (.goto 4, 3) := by decide +kernel
theorem dX7_status_217 : decode cX7_status 217 = .ok (.iconst (-1), 1) := by decide +kernel
theorem dX7_status_218 : decode cX7_status 218 = .ok (.ireturn, 1) := by decide +kernel
