theorem dX0_init_0 : decode cX0_init 0 = .ok (.aload_n 0, 1) := by decide +kernel
theorem dX0_init_1 : decode cX0_init 1 = .ok (.invokespecial 3, 3) := by decide +kernel
theorem dX0_init_4 : decode cX0_init 4 = .ok (.aload_n 0, 1) := by decide +kernel
theorem dX0_init_5 : decode cX0_init 5 = .ok (.sipush 901, 3) := by decide +kernel
theorem dX0_init_8 : decode cX0_init 8 = .ok (.newarray .int, 2) := by decide +kernel
theorem dX0_init_10 : decode cX0_init 10 = .ok (.putfield 9, 3) := by decide +kernel
theorem dX0_init_13 : decode cX0_init 13 = .ok (.aload_n 0, 1) := by decide +kernel
theorem dX0_init_14 : decode cX0_init 14 = .ok (.sipush 901, 3) := by decide +kernel
theorem dX0_init_17 : decode cX0_init 17 = .ok (.newarray .int, 2) := by decide +kernel
theorem dX0_init_19 : decode cX0_init 19 = .ok (.putfield 15, 3) := by decide +kernel
theorem dX0_init_22 : decode cX0_init 22 = .ok (.aload_n 0, 1) := by decide +kernel
theorem dX0_init_23 : decode cX0_init 23 = .ok (.iconst 4, 1) := by decide +kernel
theorem dX0_init_24 : decode cX0_init 24 = .ok (.newarray .int, 2) := by decide +kernel
theorem dX0_init_26 : decode cX0_init 26 = .ok (.putfield 18, 3) := by decide +kernel
theorem dX0_init_29 : decode cX0_init 29 = .ok (.aload_n 0, 1) := by decide +kernel
theorem dX0_init_30 : decode cX0_init 30 = .ok (.iconst 4, 1) := by decide +kernel
theorem dX0_init_31 : decode cX0_init 31 = .ok (.newarray .int, 2) := by decide +kernel
theorem dX0_init_33 : decode cX0_init 33 = .ok (.putfield 21, 3) := by decide +kernel
theorem dX0_init_36 : decode cX0_init 36 = .ok (.return_, 1) := by decide +kernel
theorem dX0_make_0 : decode cX0_make 0 = .ok (.iload_n 3, 1) := by decide +kernel
theorem dX0_make_1 : decode cX0_make 1 = .ok (.sipush 900, 3) := by decide +kernel
theorem dX0_make_4 : decode cX0_make 4 = .ok (.invokestatic 24, 3) := by decide +kernel
theorem dX0_make_7 : decode cX0_make 7 = .ok (.istore 4, 2) := by decide +kernel
theorem dX0_make_9 : decode cX0_make 9 = .ok (.iconst 0, 1) := by decide +kernel
theorem dX0_make_10 : decode cX0_make 10 = .ok (.istore 5, 2) := by decide +kernel
theorem dX0_make_12 : decode cX0_make 12 = .ok (.iload 5, 2) := by decide +kernel
theorem dX0_make_14 : decode cX0_make 14 = .ok (.iload 4, 2) := by decide +kernel
theorem dX0_make_16 : decode cX0_make 16 = .ok (.if_icmp .gt 25, 3) := by decide +kernel
theorem dX0_make_19 : decode cX0_make 19 = .ok (.aload_n 0, 1) := by decide +kernel
theorem dX0_make_20 : decode cX0_make 20 = .ok (.getfield 9, 3) := by decide +kernel
theorem dX0_make_23 : decode cX0_make 23 = .ok (.iload 5, 2) := by decide +kernel
theorem dX0_make_25 : decode cX0_make 25 = .ok (.iconst 0, 1) := by decide +kernel
theorem dX0_make_26 : decode cX0_make 26 = .ok (.iastore, 1) := by decide +kernel
theorem dX0_make_27 : decode cX0_make 27 = .ok (.aload_n 0, 1) := by decide +kernel
theorem dX0_make_28 : decode cX0_make 28 = .ok (.getfield 15, 3) := by decide +kernel
theorem dX0_make_31 : decode cX0_make 31 = .ok (.iload 5, 2) := by decide +kernel
theorem dX0_make_33 : decode cX0_make 33 = .ok (.iconst 0, 1) := by decide +kernel
theorem dX0_make_34 : decode cX0_make 34 = .ok (.iastore, 1) := by decide +kernel
theorem dX0_make_35 : decode cX0_make 35 = .ok (.iinc 5 1, 3) := by decide +kernel
theorem dX0_make_38 : decode cX0_make 38 = .ok (.goto (-26), 3) := by decide +kernel
theorem dX0_make_41 : decode cX0_make 41 = .ok (.aload_n 1, 1) := by decide +kernel
theorem dX0_make_42 : decode cX0_make 42 = .ok (.getfield 30, 3) := by decide +kernel
theorem dX0_make_45 : decode cX0_make 45 = .ok (.iconst 1, 1) := by decide +kernel
theorem dX0_make_46 : decode cX0_make 46 = .ok (.isub, 1) := by decide +kernel
theorem dX0_make_47 : decode cX0_make 47 = .ok (.istore 5, 2) := by decide +kernel
theorem dX0_make_49 : decode cX0_make 49 = .ok (.iload 5, 2) := by decide +kernel
theorem dX0_make_51 : decode cX0_make 51 = .ok (.ifCond .lt 87, 3) := by decide +kernel
theorem dX0_make_54 : decode cX0_make 54 = .ok (.iconst 1, 1) := by decide +kernel
theorem dX0_make_55 : decode cX0_make 55 = .ok (.istore 6, 2) := by decide +kernel
theorem dX0_make_57 : decode cX0_make 57 = .ok (.iload 6, 2) := by decide +kernel
theorem dX0_make_59 : decode cX0_make 59 = .ok (.aload_n 0, 1) := by decide +kernel
theorem dX0_make_60 : decode cX0_make 60 = .ok (.getfield 18, 3) := by decide +kernel
theorem dX0_make_63 : decode cX0_make 63 = .ok (.arraylength, 1) := by decide +kernel
theorem dX0_make_64 : decode cX0_make 64 = .ok (.if_icmp .ge 45, 3) := by decide +kernel
theorem dX0_make_67 : decode cX0_make 67 = .ok (.aload_n 0, 1) := by decide +kernel
theorem dX0_make_68 : decode cX0_make 68 = .ok (.getfield 18, 3) := by decide +kernel
theorem dX0_make_71 : decode cX0_make 71 = .ok (.iload 6, 2) := by decide +kernel
theorem dX0_make_73 : decode cX0_make 73 = .ok (.aload_n 2, 1) := by decide +kernel
theorem dX0_make_74 : decode cX0_make 74 = .ok (.iload 5, 2) := by decide +kernel
theorem dX0_make_76 : decode cX0_make 76 = .ok (.iload 6, 2) := by decide +kernel
theorem dX0_make_78 : decode cX0_make 78 = .ok (.invokevirtual 36, 3) := by decide +kernel
theorem dX0_make_81 : decode cX0_make 81 = .ok (.bipush 9, 2) := by decide +kernel
theorem dX0_make_83 : decode cX0_make 83 = .ok (.iadd, 1) := by decide +kernel
theorem dX0_make_84 : decode cX0_make 84 = .ok (.bipush 10, 2) := by decide +kernel
theorem dX0_make_86 : decode cX0_make 86 = .ok (.idiv, 1) := by decide +kernel
theorem dX0_make_87 : decode cX0_make 87 = .ok (.iastore, 1) := by decide +kernel
theorem dX0_make_88 : decode cX0_make 88 = .ok (.aload_n 0, 1) := by decide +kernel
theorem dX0_make_89 : decode cX0_make 89 = .ok (.getfield 21, 3) := by decide +kernel
theorem dX0_make_92 : decode cX0_make 92 = .ok (.iload 6, 2) := by decide +kernel
theorem dX0_make_94 : decode cX0_make 94 = .ok (.aload_n 1, 1) := by decide +kernel
theorem dX0_make_95 : decode cX0_make 95 = .ok (.iload 5, 2) := by decide +kernel
theorem dX0_make_97 : decode cX0_make 97 = .ok (.iload 6, 2) := by decide +kernel
theorem dX0_make_99 : decode cX0_make 99 = .ok (.invokevirtual 41, 3) := by decide +kernel
theorem dX0_make_102 : decode cX0_make 102 = .ok (.iastore, 1) := by decide +kernel
theorem dX0_make_103 : decode cX0_make 103 = .ok (.iinc 6 1, 3) := by decide +kernel
theorem dX0_make_106 : decode cX0_make 106 = .ok (.goto (-49), 3) := by decide +kernel
theorem dX0_make_109 : decode cX0_make 109 = .ok (.iload 4, 2) := by decide +kernel
theorem dX0_make_111 : decode cX0_make 111 = .ok (.istore 6, 2) := by decide +kernel
theorem dX0_make_113 : decode cX0_make 113 = .ok (.iload 6, 2) := by decide +kernel
theorem dX0_make_115 : decode cX0_make 115 = .ok (.ifCond .lt 17, 3) := by decide +kernel
theorem dX0_make_118 : decode cX0_make 118 = .ok (.aload_n 0, 1) := by decide +kernel
theorem dX0_make_119 : decode cX0_make 119 = .ok (.iload 5, 2) := by decide +kernel
theorem dX0_make_121 : decode cX0_make 121 = .ok (.iload 6, 2) := by decide +kernel
theorem dX0_make_123 : decode cX0_make 123 = .ok (.invokevirtual 44, 3) := by decide +kernel
theorem dX0_make_126 : decode cX0_make 126 = .ok (.iinc 6 (-1), 3) := by decide +kernel
theorem dX0_make_129 : decode cX0_make 129 = .ok (.goto (-16), 3) := by decide +kernel
theorem dX0_make_132 : decode cX0_make 132 = .ok (.iinc 5 (-1), 3) := by decide +kernel
theorem dX0_make_135 : decode cX0_make 135 = .ok (.goto (-86), 3) := by decide +kernel
theorem dX0_make_138 : decode cX0_make 138 = .ok (.return_, 1) := by decide +kernel
theorem dX0_chooseLook_0 : decode cX0_chooseLook 0 = .ok (.aload_n 0, 1) := by decide +kernel
theorem dX0_chooseLook_1 : decode cX0_chooseLook 1 = .ok (.getfield 9, 3) := by decide +kernel
theorem dX0_chooseLook_4 : decode cX0_chooseLook 4 = .ok (.iload_n 2, 1) := by decide +kernel
theorem dX0_chooseLook_5 : decode cX0_chooseLook 5 = .ok (.iaload, 1) := by decide +kernel
theorem dX0_chooseLook_6 : decode cX0_chooseLook 6 = .ok (.istore_n 3, 1) := by decide +kernel
theorem dX0_chooseLook_7 : decode cX0_chooseLook 7 = .ok (.aload_n 0, 1) := by decide +kernel
theorem dX0_chooseLook_8 : decode cX0_chooseLook 8 = .ok (.getfield 15, 3) := by decide +kernel
theorem dX0_chooseLook_11 : decode cX0_chooseLook 11 = .ok (.iload_n 2, 1) := by decide +kernel
theorem dX0_chooseLook_12 : decode cX0_chooseLook 12 = .ok (.iaload, 1) := by decide +kernel
theorem dX0_chooseLook_13 : decode cX0_chooseLook 13 = .ok (.istore 4, 2) := by decide +kernel
theorem dX0_chooseLook_15 : decode cX0_chooseLook 15 = .ok (.iconst 1, 1) := by decide +kernel
theorem dX0_chooseLook_16 : decode cX0_chooseLook 16 = .ok (.istore 5, 2) := by decide +kernel
theorem dX0_chooseLook_18 : decode cX0_chooseLook 18 = .ok (.iload 5, 2) := by decide +kernel
theorem dX0_chooseLook_20 : decode cX0_chooseLook 20 = .ok (.aload_n 0, 1) := by decide +kernel
theorem dX0_chooseLook_21 : decode cX0_chooseLook 21 = .ok (.getfield 18, 3) := by decide +kernel
theorem dX0_chooseLook_24 : decode cX0_chooseLook 24 = .ok (.arraylength, 1) := by decide +kernel
theorem dX0_chooseLook_25 : decode cX0_chooseLook 25 = .ok (.if_icmp .ge 82, 3) := by decide +kernel
theorem dX0_chooseLook_28 : decode cX0_chooseLook 28 = .ok (.iload_n 2, 1) := by decide +kernel
theorem dX0_chooseLook_29 : decode cX0_chooseLook 29 = .ok (.aload_n 0, 1) := by decide +kernel
theorem dX0_chooseLook_30 : decode cX0_chooseLook 30 = .ok (.getfield 18, 3) := by decide +kernel
theorem dX0_chooseLook_33 : decode cX0_chooseLook 33 = .ok (.iload 5, 2) := by decide +kernel
theorem dX0_chooseLook_35 : decode cX0_chooseLook 35 = .ok (.iaload, 1) := by decide +kernel
theorem dX0_chooseLook_36 : decode cX0_chooseLook 36 = .ok (.isub, 1) := by decide +kernel
theorem dX0_chooseLook_37 : decode cX0_chooseLook 37 = .ok (.istore 6, 2) := by decide +kernel
theorem dX0_chooseLook_39 : decode cX0_chooseLook 39 = .ok (.iload 6, 2) := by decide +kernel
theorem dX0_chooseLook_41 : decode cX0_chooseLook 41 = .ok (.ifCond .lt 60, 3) := by decide +kernel
theorem dX0_chooseLook_44 : decode cX0_chooseLook 44 = .ok (.iload 6, 2) := by decide +kernel
theorem dX0_chooseLook_46 : decode cX0_chooseLook 46 = .ok (.iload_n 2, 1) := by decide +kernel
theorem dX0_chooseLook_47 : decode cX0_chooseLook 47 = .ok (.if_icmp .ge 54, 3) := by decide +kernel
theorem dX0_chooseLook_50 : decode cX0_chooseLook 50 = .ok (.aload_n 0, 1) := by decide +kernel
theorem dX0_chooseLook_51 : decode cX0_chooseLook 51 = .ok (.getfield 9, 3) := by decide +kernel
theorem dX0_chooseLook_54 : decode cX0_chooseLook 54 = .ok (.iload 6, 2) := by decide +kernel
theorem dX0_chooseLook_56 : decode cX0_chooseLook 56 = .ok (.iaload, 1) := by decide +kernel
theorem dX0_chooseLook_57 : decode cX0_chooseLook 57 = .ok (.aload_n 0, 1) := by decide +kernel
theorem dX0_chooseLook_58 : decode cX0_chooseLook 58 = .ok (.getfield 21, 3) := by decide +kernel
theorem dX0_chooseLook_61 : decode cX0_chooseLook 61 = .ok (.iload 5, 2) := by decide +kernel
theorem dX0_chooseLook_63 : decode cX0_chooseLook 63 = .ok (.iaload, 1) := by decide +kernel
theorem dX0_chooseLook_64 : decode cX0_chooseLook 64 = .ok (.iadd, 1) := by decide +kernel
theorem dX0_chooseLook_65 : decode cX0_chooseLook 65 = .ok (.iload_n 3, 1) := by decide +kernel
theorem dX0_chooseLook_66 : decode cX0_chooseLook 66 = .ok (.if_icmp .le 35, 3) := by decide +kernel
theorem dX0_chooseLook_69 : decode cX0_chooseLook 69 = .ok (.aload_n 0, 1) := by decide +kernel
theorem dX0_chooseLook_70 : decode cX0_chooseLook 70 = .ok (.getfield 9, 3) := by decide +kernel
theorem dX0_chooseLook_73 : decode cX0_chooseLook 73 = .ok (.iload 6, 2) := by decide +kernel
theorem dX0_chooseLook_75 : decode cX0_chooseLook 75 = .ok (.iaload, 1) := by decide +kernel
theorem dX0_chooseLook_76 : decode cX0_chooseLook 76 = .ok (.aload_n 0, 1) := by decide +kernel
theorem dX0_chooseLook_77 : decode cX0_chooseLook 77 = .ok (.getfield 21, 3) := by decide +kernel
theorem dX0_chooseLook_80 : decode cX0_chooseLook 80 = .ok (.iload 5, 2) := by decide +kernel
theorem dX0_chooseLook_82 : decode cX0_chooseLook 82 = .ok (.iaload, 1) := by decide +kernel
theorem dX0_chooseLook_83 : decode cX0_chooseLook 83 = .ok (.iadd, 1) := by decide +kernel
theorem dX0_chooseLook_84 : decode cX0_chooseLook 84 = .ok (.istore_n 3, 1) := by decide +kernel
theorem dX0_chooseLook_85 : decode cX0_chooseLook 85 = .ok (.aload_n 0, 1) := by decide +kernel
theorem dX0_chooseLook_86 : decode cX0_chooseLook 86 = .ok (.getfield 15, 3) := by decide +kernel
theorem dX0_chooseLook_89 : decode cX0_chooseLook 89 = .ok (.iload 6, 2) := by decide +kernel
theorem dX0_chooseLook_91 : decode cX0_chooseLook 91 = .ok (.iaload, 1) := by decide +kernel
theorem dX0_chooseLook_92 : decode cX0_chooseLook 92 = .ok (.iload 5, 2) := by decide +kernel
theorem dX0_chooseLook_94 : decode cX0_chooseLook 94 = .ok (.iconst 2, 1) := by decide +kernel
theorem dX0_chooseLook_95 : decode cX0_chooseLook 95 = .ok (.iload_n 1, 1) := by decide +kernel
theorem dX0_chooseLook_96 : decode cX0_chooseLook 96 = .ok (.imul, 1) := by decide +kernel
theorem dX0_chooseLook_97 : decode cX0_chooseLook 97 = .ok (.ishl, 1) := by decide +kernel
theorem dX0_chooseLook_98 : decode cX0_chooseLook 98 = .ok (.ior, 1) := by decide +kernel
theorem dX0_chooseLook_99 : decode cX0_chooseLook 99 = .ok (.istore 4, 2) := by decide +kernel
theorem dX0_chooseLook_101 : decode cX0_chooseLook 101 = .ok (.iinc 5 1, 3) := by decide +kernel
theorem dX0_chooseLook_104 : decode cX0_chooseLook 104 = .ok (.goto (-86), 3) := by decide +kernel
theorem dX0_chooseLook_107 : decode cX0_chooseLook 107 = .ok (.aload_n 0, 1) := by decide +kernel
theorem dX0_chooseLook_108 : decode cX0_chooseLook 108 = .ok (.getfield 9, 3) := by decide +kernel
theorem dX0_chooseLook_111 : decode cX0_chooseLook 111 = .ok (.iload_n 2, 1) := by decide +kernel
theorem dX0_chooseLook_112 : decode cX0_chooseLook 112 = .ok (.iload_n 3, 1) := by decide +kernel
theorem dX0_chooseLook_113 : decode cX0_chooseLook 113 = .ok (.iastore, 1) := by decide +kernel
theorem dX0_chooseLook_114 : decode cX0_chooseLook 114 = .ok (.aload_n 0, 1) := by decide +kernel
theorem dX0_chooseLook_115 : decode cX0_chooseLook 115 = .ok (.getfield 15, 3) := by decide +kernel
theorem dX0_chooseLook_118 : decode cX0_chooseLook 118 = .ok (.iload_n 2, 1) := by decide +kernel
theorem dX0_chooseLook_119 : decode cX0_chooseLook 119 = .ok (.iload 4, 2) := by decide +kernel
theorem dX0_chooseLook_121 : decode cX0_chooseLook 121 = .ok (.iastore, 1) := by decide +kernel
theorem dX0_chooseLook_122 : decode cX0_chooseLook 122 = .ok (.return_, 1) := by decide +kernel
theorem dX0_foundIn_0 : decode cX0_foundIn 0 = .ok (.iload_n 1, 1) := by decide +kernel
theorem dX0_foundIn_1 : decode cX0_foundIn 1 = .ok (.ifCond .lt 21, 3) := by decide +kernel
theorem dX0_foundIn_4 : decode cX0_foundIn 4 = .ok (.iload_n 1, 1) := by decide +kernel
theorem dX0_foundIn_5 : decode cX0_foundIn 5 = .ok (.aload_n 0, 1) := by decide +kernel
theorem dX0_foundIn_6 : decode cX0_foundIn 6 = .ok (.getfield 9, 3) := by decide +kernel
theorem dX0_foundIn_9 : decode cX0_foundIn 9 = .ok (.arraylength, 1) := by decide +kernel
theorem dX0_foundIn_10 : decode cX0_foundIn 10 = .ok (.if_icmp .ge 12, 3) := by decide +kernel
theorem dX0_foundIn_13 : decode cX0_foundIn 13 = .ok (.aload_n 0, 1) := by decide +kernel
theorem dX0_foundIn_14 : decode cX0_foundIn 14 = .ok (.getfield 9, 3) := by decide +kernel
theorem dX0_foundIn_17 : decode cX0_foundIn 17 = .ok (.iload_n 1, 1) := by decide +kernel
theorem dX0_foundIn_18 : decode cX0_foundIn 18 = .ok (.iaload, 1) := by decide +kernel
theorem dX0_foundIn_19 : decode cX0_foundIn 19 = .ok (.goto 4, 3) := by decide +kernel
theorem dX0_foundIn_22 : decode cX0_foundIn 22 = .ok (.iconst 0, 1) := by decide +kernel
theorem dX0_foundIn_23 : decode cX0_foundIn 23 = .ok (.ireturn, 1) := by decide +kernel
theorem dX0_lookIn_0 : decode cX0_lookIn 0 = .ok (.iload_n 1, 1) := by decide +kernel
theorem dX0_lookIn_1 : decode cX0_lookIn 1 = .ok (.ifCond .lt 27, 3) := by decide +kernel
theorem dX0_lookIn_4 : decode cX0_lookIn 4 = .ok (.iload_n 1, 1) := by decide +kernel
theorem dX0_lookIn_5 : decode cX0_lookIn 5 = .ok (.aload_n 0, 1) := by decide +kernel
theorem dX0_lookIn_6 : decode cX0_lookIn 6 = .ok (.getfield 15, 3) := by decide +kernel
theorem dX0_lookIn_9 : decode cX0_lookIn 9 = .ok (.arraylength, 1) := by decide +kernel
theorem dX0_lookIn_10 : decode cX0_lookIn 10 = .ok (.if_icmp .ge 18, 3) := by decide +kernel
theorem dX0_lookIn_13 : decode cX0_lookIn 13 = .ok (.aload_n 0, 1) := by decide +kernel
theorem dX0_lookIn_14 : decode cX0_lookIn 14 = .ok (.getfield 15, 3) := by decide +kernel
theorem dX0_lookIn_17 : decode cX0_lookIn 17 = .ok (.iload_n 1, 1) := by decide +kernel
theorem dX0_lookIn_18 : decode cX0_lookIn 18 = .ok (.iaload, 1) := by decide +kernel
theorem dX0_lookIn_19 : decode cX0_lookIn 19 = .ok (.iconst 2, 1) := by decide +kernel
theorem dX0_lookIn_20 : decode cX0_lookIn 20 = .ok (.iload_n 2, 1) := by decide +kernel
theorem dX0_lookIn_21 : decode cX0_lookIn 21 = .ok (.imul, 1) := by decide +kernel
theorem dX0_lookIn_22 : decode cX0_lookIn 22 = .ok (.ishr, 1) := by decide +kernel
theorem dX0_lookIn_23 : decode cX0_lookIn 23 = .ok (.iconst 3, 1) := by decide +kernel
theorem dX0_lookIn_24 : decode cX0_lookIn 24 = .ok (.iand, 1) := by decide +kernel
theorem dX0_lookIn_25 : decode cX0_lookIn 25 = .ok (.goto 4, 3) := by decide +kernel
theorem dX0_lookIn_28 : decode cX0_lookIn 28 = .ok (.iconst 0, 1) := by decide +kernel
theorem dX0_lookIn_29 : decode cX0_lookIn 29 = .ok (.ireturn, 1) := by decide +kernel
theorem dX1_init_0 : decode cX1_init 0 = .ok (.aload_n 0, 1) := by decide +kernel
theorem dX1_init_1 : decode cX1_init 1 = .ok (.invokespecial 3, 3) := by decide +kernel
theorem dX1_init_4 : decode cX1_init 4 = .ok (.aload_n 0, 1) := by decide +kernel
theorem dX1_init_5 : decode cX1_init 5 = .ok (.new 9, 3) := by decide +kernel
theorem dX1_init_8 : decode cX1_init 8 = .ok (.dup, 1) := by decide +kernel
theorem dX1_init_9 : decode cX1_init 9 = .ok (.bipush 14, 2) := by decide +kernel
theorem dX1_init_11 : decode cX1_init 11 = .ok (.iconst 5, 1) := by decide +kernel
theorem dX1_init_12 : decode cX1_init 12 = .ok (.invokespecial 11, 3) := by decide +kernel
theorem dX1_init_15 : decode cX1_init 15 = .ok (.putfield 14, 3) := by decide +kernel
theorem dX1_init_18 : decode cX1_init 18 = .ok (.aload_n 0, 1) := by decide +kernel
theorem dX1_init_19 : decode cX1_init 19 = .ok (.new 9, 3) := by decide +kernel
theorem dX1_init_22 : decode cX1_init 22 = .ok (.dup, 1) := by decide +kernel
theorem dX1_init_23 : decode cX1_init 23 = .ok (.bipush 8, 2) := by decide +kernel
theorem dX1_init_25 : decode cX1_init 25 = .ok (.iconst 3, 1) := by decide +kernel
theorem dX1_init_26 : decode cX1_init 26 = .ok (.invokespecial 11, 3) := by decide +kernel
theorem dX1_init_29 : decode cX1_init 29 = .ok (.putfield 20, 3) := by decide +kernel
theorem dX1_init_32 : decode cX1_init 32 = .ok (.aload_n 0, 1) := by decide +kernel
theorem dX1_init_33 : decode cX1_init 33 = .ok (.new 9, 3) := by decide +kernel
theorem dX1_init_36 : decode cX1_init 36 = .ok (.dup, 1) := by decide +kernel
theorem dX1_init_37 : decode cX1_init 37 = .ok (.bipush 6, 2) := by decide +kernel
theorem dX1_init_39 : decode cX1_init 39 = .ok (.iconst 3, 1) := by decide +kernel
theorem dX1_init_40 : decode cX1_init 40 = .ok (.invokespecial 11, 3) := by decide +kernel
theorem dX1_init_43 : decode cX1_init 43 = .ok (.putfield 23, 3) := by decide +kernel
theorem dX1_init_46 : decode cX1_init 46 = .ok (.aload_n 0, 1) := by decide +kernel
theorem dX1_init_47 : decode cX1_init 47 = .ok (.iconst 3, 1) := by decide +kernel
theorem dX1_init_48 : decode cX1_init 48 = .ok (.putfield 26, 3) := by decide +kernel
theorem dX1_init_51 : decode cX1_init 51 = .ok (.aload_n 0, 1) := by decide +kernel
theorem dX1_init_52 : decode cX1_init 52 = .ok (.iconst (-1), 1) := by decide +kernel
theorem dX1_init_53 : decode cX1_init 53 = .ok (.putfield 30, 3) := by decide +kernel
theorem dX1_init_56 : decode cX1_init 56 = .ok (.aload_n 0, 1) := by decide +kernel
theorem dX1_init_57 : decode cX1_init 57 = .ok (.iconst 1, 1) := by decide +kernel
theorem dX1_init_58 : decode cX1_init 58 = .ok (.putfield 33, 3) := by decide +kernel
theorem dX1_init_61 : decode cX1_init 61 = .ok (.return_, 1) := by decide +kernel
theorem dX1_takeFrom_0 : decode cX1_takeFrom 0 = .ok (.aload_n 0, 1) := by decide +kernel
theorem dX1_takeFrom_1 : decode cX1_takeFrom 1 = .ok (.getfield 14, 3) := by decide +kernel
theorem dX1_takeFrom_4 : decode cX1_takeFrom 4 = .ok (.aload_n 1, 1) := by decide +kernel
theorem dX1_takeFrom_5 : decode cX1_takeFrom 5 = .ok (.getfield 14, 3) := by decide +kernel
theorem dX1_takeFrom_8 : decode cX1_takeFrom 8 = .ok (.invokevirtual 36, 3) := by decide +kernel
theorem dX1_takeFrom_11 : decode cX1_takeFrom 11 = .ok (.aload_n 0, 1) := by decide +kernel
theorem dX1_takeFrom_12 : decode cX1_takeFrom 12 = .ok (.getfield 20, 3) := by decide +kernel
theorem dX1_takeFrom_15 : decode cX1_takeFrom 15 = .ok (.aload_n 1, 1) := by decide +kernel
theorem dX1_takeFrom_16 : decode cX1_takeFrom 16 = .ok (.getfield 20, 3) := by decide +kernel
theorem dX1_takeFrom_19 : decode cX1_takeFrom 19 = .ok (.invokevirtual 36, 3) := by decide +kernel
theorem dX1_takeFrom_22 : decode cX1_takeFrom 22 = .ok (.aload_n 0, 1) := by decide +kernel
theorem dX1_takeFrom_23 : decode cX1_takeFrom 23 = .ok (.getfield 23, 3) := by decide +kernel
theorem dX1_takeFrom_26 : decode cX1_takeFrom 26 = .ok (.aload_n 1, 1) := by decide +kernel
theorem dX1_takeFrom_27 : decode cX1_takeFrom 27 = .ok (.getfield 23, 3) := by decide +kernel
theorem dX1_takeFrom_30 : decode cX1_takeFrom 30 = .ok (.invokevirtual 36, 3) := by decide +kernel
theorem dX1_takeFrom_33 : decode cX1_takeFrom 33 = .ok (.aload_n 0, 1) := by decide +kernel
theorem dX1_takeFrom_34 : decode cX1_takeFrom 34 = .ok (.aload_n 1, 1) := by decide +kernel
theorem dX1_takeFrom_35 : decode cX1_takeFrom 35 = .ok (.getfield 26, 3) := by decide +kernel
theorem dX1_takeFrom_38 : decode cX1_takeFrom 38 = .ok (.putfield 26, 3) := by decide +kernel
theorem dX1_takeFrom_41 : decode cX1_takeFrom 41 = .ok (.aload_n 0, 1) := by decide +kernel
theorem dX1_takeFrom_42 : decode cX1_takeFrom 42 = .ok (.aload_n 1, 1) := by decide +kernel
theorem dX1_takeFrom_43 : decode cX1_takeFrom 43 = .ok (.getfield 40, 3) := by decide +kernel
theorem dX1_takeFrom_46 : decode cX1_takeFrom 46 = .ok (.putfield 40, 3) := by decide +kernel
theorem dX1_takeFrom_49 : decode cX1_takeFrom 49 = .ok (.aload_n 0, 1) := by decide +kernel
theorem dX1_takeFrom_50 : decode cX1_takeFrom 50 = .ok (.aload_n 1, 1) := by decide +kernel
theorem dX1_takeFrom_51 : decode cX1_takeFrom 51 = .ok (.getfield 43, 3) := by decide +kernel
theorem dX1_takeFrom_54 : decode cX1_takeFrom 54 = .ok (.putfield 43, 3) := by decide +kernel
theorem dX1_takeFrom_57 : decode cX1_takeFrom 57 = .ok (.aload_n 0, 1) := by decide +kernel
theorem dX1_takeFrom_58 : decode cX1_takeFrom 58 = .ok (.aload_n 1, 1) := by decide +kernel
theorem dX1_takeFrom_59 : decode cX1_takeFrom 59 = .ok (.getfield 30, 3) := by decide +kernel
theorem dX1_takeFrom_62 : decode cX1_takeFrom 62 = .ok (.putfield 30, 3) := by decide +kernel
theorem dX1_takeFrom_65 : decode cX1_takeFrom 65 = .ok (.aload_n 0, 1) := by decide +kernel
theorem dX1_takeFrom_66 : decode cX1_takeFrom 66 = .ok (.aload_n 1, 1) := by decide +kernel
theorem dX1_takeFrom_67 : decode cX1_takeFrom 67 = .ok (.getfield 33, 3) := by decide +kernel
theorem dX1_takeFrom_70 : decode cX1_takeFrom 70 = .ok (.putfield 33, 3) := by decide +kernel
theorem dX1_takeFrom_73 : decode cX1_takeFrom 73 = .ok (.return_, 1) := by decide +kernel
theorem dX1_numbersOf_0 : decode cX1_numbersOf 0 = .ok (.iload_n 0, 1) := by decide +kernel
theorem dX1_numbersOf_1 : decode cX1_numbersOf 1 = .ok (.ifCond .lt 19, 3) := by decide +kernel
theorem dX1_numbersOf_4 : decode cX1_numbersOf 4 = .ok (.iload_n 0, 1) := by decide +kernel
theorem dX1_numbersOf_5 : decode cX1_numbersOf 5 = .ok (.getstatic 46, 3) := by decide +kernel
theorem dX1_numbersOf_8 : decode cX1_numbersOf 8 = .ok (.arraylength, 1) := by decide +kernel
theorem dX1_numbersOf_9 : decode cX1_numbersOf 9 = .ok (.if_icmp .ge 11, 3) := by decide +kernel
theorem dX1_numbersOf_12 : decode cX1_numbersOf 12 = .ok (.getstatic 46, 3) := by decide +kernel
theorem dX1_numbersOf_15 : decode cX1_numbersOf 15 = .ok (.iload_n 0, 1) := by decide +kernel
theorem dX1_numbersOf_16 : decode cX1_numbersOf 16 = .ok (.iaload, 1) := by decide +kernel
theorem dX1_numbersOf_17 : decode cX1_numbersOf 17 = .ok (.goto 4, 3) := by decide +kernel
theorem dX1_numbersOf_20 : decode cX1_numbersOf 20 = .ok (.iconst 0, 1) := by decide +kernel
theorem dX1_numbersOf_21 : decode cX1_numbersOf 21 = .ok (.ireturn, 1) := by decide +kernel
theorem dX1_takes_0 : decode cX1_takes 0 = .ok (.iconst 4, 1) := by decide +kernel
theorem dX1_takes_1 : decode cX1_takes 1 = .ok (.iload_n 1, 1) := by decide +kernel
theorem dX1_takes_2 : decode cX1_takes 2 = .ok (.imul, 1) := by decide +kernel
theorem dX1_takes_3 : decode cX1_takes 3 = .ok (.iload_n 2, 1) := by decide +kernel
theorem dX1_takes_4 : decode cX1_takes 4 = .ok (.iadd, 1) := by decide +kernel
theorem dX1_takes_5 : decode cX1_takes 5 = .ok (.istore 4, 2) := by decide +kernel
theorem dX1_takes_7 : decode cX1_takes 7 = .ok (.iload 4, 2) := by decide +kernel
theorem dX1_takes_9 : decode cX1_takes 9 = .ok (.ifCond .lt 21, 3) := by decide +kernel
theorem dX1_takes_12 : decode cX1_takes 12 = .ok (.iload 4, 2) := by decide +kernel
theorem dX1_takes_14 : decode cX1_takes 14 = .ok (.getstatic 50, 3) := by decide +kernel
theorem dX1_takes_17 : decode cX1_takes 17 = .ok (.arraylength, 1) := by decide +kernel
theorem dX1_takes_18 : decode cX1_takes 18 = .ok (.if_icmp .ge 12, 3) := by decide +kernel
theorem dX1_takes_21 : decode cX1_takes 21 = .ok (.iload 4, 2) := by decide +kernel
theorem dX1_takes_23 : decode cX1_takes 23 = .ok (.getstatic 53, 3) := by decide +kernel
theorem dX1_takes_26 : decode cX1_takes 26 = .ok (.arraylength, 1) := by decide +kernel
theorem dX1_takes_27 : decode cX1_takes 27 = .ok (.if_icmp .lt 5, 3) := by decide +kernel
theorem dX1_takes_30 : decode cX1_takes 30 = .ok (.iconst 0, 1) := by decide +kernel
theorem dX1_takes_31 : decode cX1_takes 31 = .ok (.ireturn, 1) := by decide +kernel
theorem dX1_takes_32 : decode cX1_takes 32 = .ok (.getstatic 53, 3) := by decide +kernel
theorem dX1_takes_35 : decode cX1_takes 35 = .ok (.iload 4, 2) := by decide +kernel
theorem dX1_takes_37 : decode cX1_takes 37 = .ok (.iaload, 1) := by decide +kernel
theorem dX1_takes_38 : decode cX1_takes 38 = .ok (.iconst (-1), 1) := by decide +kernel
theorem dX1_takes_39 : decode cX1_takes 39 = .ok (.if_icmp .ne 15, 3) := by decide +kernel
theorem dX1_takes_42 : decode cX1_takes 42 = .ok (.aload_n 0, 1) := by decide +kernel
theorem dX1_takes_43 : decode cX1_takes 43 = .ok (.getfield 14, 3) := by decide +kernel
theorem dX1_takes_46 : decode cX1_takes 46 = .ok (.getfield 56, 3) := by decide +kernel
theorem dX1_takes_49 : decode cX1_takes 49 = .ok (.iconst 1, 1) := by decide +kernel
theorem dX1_takes_50 : decode cX1_takes 50 = .ok (.isub, 1) := by decide +kernel
theorem dX1_takes_51 : decode cX1_takes 51 = .ok (.goto 9, 3) := by decide +kernel
theorem dX1_takes_54 : decode cX1_takes 54 = .ok (.getstatic 53, 3) := by decide +kernel
theorem dX1_takes_57 : decode cX1_takes 57 = .ok (.iload 4, 2) := by decide +kernel
theorem dX1_takes_59 : decode cX1_takes 59 = .ok (.iaload, 1) := by decide +kernel
theorem dX1_takes_60 : decode cX1_takes 60 = .ok (.istore 5, 2) := by decide +kernel
theorem dX1_takes_62 : decode cX1_takes 62 = .ok (.iload_n 3, 1) := by decide +kernel
theorem dX1_takes_63 : decode cX1_takes 63 = .ok (.getstatic 50, 3) := by decide +kernel
theorem dX1_takes_66 : decode cX1_takes 66 = .ok (.iload 4, 2) := by decide +kernel
theorem dX1_takes_68 : decode cX1_takes 68 = .ok (.iaload, 1) := by decide +kernel
theorem dX1_takes_69 : decode cX1_takes 69 = .ok (.if_icmp .lt 13, 3) := by decide +kernel
theorem dX1_takes_72 : decode cX1_takes 72 = .ok (.iload_n 3, 1) := by decide +kernel
theorem dX1_takes_73 : decode cX1_takes 73 = .ok (.iload 5, 2) := by decide +kernel
theorem dX1_takes_75 : decode cX1_takes 75 = .ok (.if_icmp .gt 7, 3) := by decide +kernel
theorem dX1_takes_78 : decode cX1_takes 78 = .ok (.iconst 1, 1) := by decide +kernel
theorem dX1_takes_79 : decode cX1_takes 79 = .ok (.goto 4, 3) := by decide +kernel
theorem dX1_takes_82 : decode cX1_takes 82 = .ok (.iconst 0, 1) := by decide +kernel
theorem dX1_takes_83 : decode cX1_takes 83 = .ok (.ireturn, 1) := by decide +kernel
theorem dX1_hasRoomFor_0 : decode cX1_hasRoomFor 0 = .ok (.iload_n 1, 1) := by decide +kernel
theorem dX1_hasRoomFor_1 : decode cX1_hasRoomFor 1 = .ok (.tableswitch 91 0 6 #[43, 91, 91, 91, 59, 59, 75], 43) := by decide +kernel
theorem dX1_hasRoomFor_44 : decode cX1_hasRoomFor 44 = .ok (.aload_n 0, 1) := by decide +kernel
theorem dX1_hasRoomFor_45 : decode cX1_hasRoomFor 45 = .ok (.getfield 14, 3) := by decide +kernel
theorem dX1_hasRoomFor_48 : decode cX1_hasRoomFor 48 = .ok (.invokevirtual 59, 3) := by decide +kernel
theorem dX1_hasRoomFor_51 : decode cX1_hasRoomFor 51 = .ok (.ifCond .ne 7, 3) := by decide +kernel
theorem dX1_hasRoomFor_54 : decode cX1_hasRoomFor 54 = .ok (.iconst 1, 1) := by decide +kernel
theorem dX1_hasRoomFor_55 : decode cX1_hasRoomFor 55 = .ok (.goto 4, 3) := by decide +kernel
theorem dX1_hasRoomFor_58 : decode cX1_hasRoomFor 58 = .ok (.iconst 0, 1) := by decide +kernel
theorem dX1_hasRoomFor_59 : decode cX1_hasRoomFor 59 = .ok (.ireturn, 1) := by decide +kernel
theorem dX1_hasRoomFor_60 : decode cX1_hasRoomFor 60 = .ok (.aload_n 0, 1) := by decide +kernel
theorem dX1_hasRoomFor_61 : decode cX1_hasRoomFor 61 = .ok (.getfield 20, 3) := by decide +kernel
theorem dX1_hasRoomFor_64 : decode cX1_hasRoomFor 64 = .ok (.invokevirtual 59, 3) := by decide +kernel
theorem dX1_hasRoomFor_67 : decode cX1_hasRoomFor 67 = .ok (.ifCond .ne 7, 3) := by decide +kernel
theorem dX1_hasRoomFor_70 : decode cX1_hasRoomFor 70 = .ok (.iconst 1, 1) := by decide +kernel
theorem dX1_hasRoomFor_71 : decode cX1_hasRoomFor 71 = .ok (.goto 4, 3) := by decide +kernel
theorem dX1_hasRoomFor_74 : decode cX1_hasRoomFor 74 = .ok (.iconst 0, 1) := by decide +kernel
theorem dX1_hasRoomFor_75 : decode cX1_hasRoomFor 75 = .ok (.ireturn, 1) := by decide +kernel
theorem dX1_hasRoomFor_76 : decode cX1_hasRoomFor 76 = .ok (.aload_n 0, 1) := by decide +kernel
theorem dX1_hasRoomFor_77 : decode cX1_hasRoomFor 77 = .ok (.getfield 23, 3) := by decide +kernel
theorem dX1_hasRoomFor_80 : decode cX1_hasRoomFor 80 = .ok (.invokevirtual 59, 3) := by decide +kernel
theorem dX1_hasRoomFor_83 : decode cX1_hasRoomFor 83 = .ok (.ifCond .ne 7, 3) := by decide +kernel
theorem dX1_hasRoomFor_86 : decode cX1_hasRoomFor 86 = .ok (.iconst 1, 1) := by decide +kernel
theorem dX1_hasRoomFor_87 : decode cX1_hasRoomFor 87 = .ok (.goto 4, 3) := by decide +kernel
theorem dX1_hasRoomFor_90 : decode cX1_hasRoomFor 90 = .ok (.iconst 0, 1) := by decide +kernel
theorem dX1_hasRoomFor_91 : decode cX1_hasRoomFor 91 = .ok (.ireturn, 1) := by decide +kernel
theorem dX1_hasRoomFor_92 : decode cX1_hasRoomFor 92 = .ok (.iconst 1, 1) := by decide +kernel
theorem dX1_hasRoomFor_93 : decode cX1_hasRoomFor 93 = .ok (.ireturn, 1) := by decide +kernel
theorem dX1_addBend_0 : decode cX1_addBend 0 = .ok (.aload_n 0, 1) := by decide +kernel
theorem dX1_addBend_1 : decode cX1_addBend 1 = .ok (.getfield 14, 3) := by decide +kernel
theorem dX1_addBend_4 : decode cX1_addBend 4 = .ok (.invokevirtual 63, 3) := by decide +kernel
theorem dX1_addBend_7 : decode cX1_addBend 7 = .ok (.istore 5, 2) := by decide +kernel
theorem dX1_addBend_9 : decode cX1_addBend 9 = .ok (.aload_n 0, 1) := by decide +kernel
theorem dX1_addBend_10 : decode cX1_addBend 10 = .ok (.getfield 14, 3) := by decide +kernel
theorem dX1_addBend_13 : decode cX1_addBend 13 = .ok (.iload 5, 2) := by decide +kernel
theorem dX1_addBend_15 : decode cX1_addBend 15 = .ok (.iconst 0, 1) := by decide +kernel
theorem dX1_addBend_16 : decode cX1_addBend 16 = .ok (.iload_n 1, 1) := by decide +kernel
theorem dX1_addBend_17 : decode cX1_addBend 17 = .ok (.invokevirtual 67, 3) := by decide +kernel
theorem dX1_addBend_20 : decode cX1_addBend 20 = .ok (.aload_n 0, 1) := by decide +kernel
theorem dX1_addBend_21 : decode cX1_addBend 21 = .ok (.getfield 14, 3) := by decide +kernel
theorem dX1_addBend_24 : decode cX1_addBend 24 = .ok (.iload 5, 2) := by decide +kernel
theorem dX1_addBend_26 : decode cX1_addBend 26 = .ok (.iconst 1, 1) := by decide +kernel
theorem dX1_addBend_27 : decode cX1_addBend 27 = .ok (.iload_n 2, 1) := by decide +kernel
theorem dX1_addBend_28 : decode cX1_addBend 28 = .ok (.invokevirtual 67, 3) := by decide +kernel
theorem dX1_addBend_31 : decode cX1_addBend 31 = .ok (.aload_n 0, 1) := by decide +kernel
theorem dX1_addBend_32 : decode cX1_addBend 32 = .ok (.getfield 14, 3) := by decide +kernel
theorem dX1_addBend_35 : decode cX1_addBend 35 = .ok (.iload 5, 2) := by decide +kernel
theorem dX1_addBend_37 : decode cX1_addBend 37 = .ok (.iconst 2, 1) := by decide +kernel
theorem dX1_addBend_38 : decode cX1_addBend 38 = .ok (.iload_n 3, 1) := by decide +kernel
theorem dX1_addBend_39 : decode cX1_addBend 39 = .ok (.invokevirtual 67, 3) := by decide +kernel
theorem dX1_addBend_42 : decode cX1_addBend 42 = .ok (.aload_n 0, 1) := by decide +kernel
theorem dX1_addBend_43 : decode cX1_addBend 43 = .ok (.getfield 14, 3) := by decide +kernel
theorem dX1_addBend_46 : decode cX1_addBend 46 = .ok (.iload 5, 2) := by decide +kernel
theorem dX1_addBend_48 : decode cX1_addBend 48 = .ok (.iconst 3, 1) := by decide +kernel
theorem dX1_addBend_49 : decode cX1_addBend 49 = .ok (.iload 4, 2) := by decide +kernel
theorem dX1_addBend_51 : decode cX1_addBend 51 = .ok (.invokevirtual 67, 3) := by decide +kernel
theorem dX1_addBend_54 : decode cX1_addBend 54 = .ok (.aload_n 0, 1) := by decide +kernel
theorem dX1_addBend_55 : decode cX1_addBend 55 = .ok (.getfield 14, 3) := by decide +kernel
theorem dX1_addBend_58 : decode cX1_addBend 58 = .ok (.iload 5, 2) := by decide +kernel
theorem dX1_addBend_60 : decode cX1_addBend 60 = .ok (.iconst 4, 1) := by decide +kernel
theorem dX1_addBend_61 : decode cX1_addBend 61 = .ok (.bipush 100, 2) := by decide +kernel
theorem dX1_addBend_63 : decode cX1_addBend 63 = .ok (.invokevirtual 67, 3) := by decide +kernel
theorem dX1_addBend_66 : decode cX1_addBend 66 = .ok (.iload 5, 2) := by decide +kernel
theorem dX1_addBend_68 : decode cX1_addBend 68 = .ok (.ireturn, 1) := by decide +kernel
theorem dX1_addSign_0 : decode cX1_addSign 0 = .ok (.aload_n 0, 1) := by decide +kernel
theorem dX1_addSign_1 : decode cX1_addSign 1 = .ok (.getfield 20, 3) := by decide +kernel
theorem dX1_addSign_4 : decode cX1_addSign 4 = .ok (.invokevirtual 63, 3) := by decide +kernel
theorem dX1_addSign_7 : decode cX1_addSign 7 = .ok (.istore 4, 2) := by decide +kernel
theorem dX1_addSign_9 : decode cX1_addSign 9 = .ok (.aload_n 0, 1) := by decide +kernel
theorem dX1_addSign_10 : decode cX1_addSign 10 = .ok (.getfield 20, 3) := by decide +kernel
theorem dX1_addSign_13 : decode cX1_addSign 13 = .ok (.iload 4, 2) := by decide +kernel
theorem dX1_addSign_15 : decode cX1_addSign 15 = .ok (.iconst 0, 1) := by decide +kernel
theorem dX1_addSign_16 : decode cX1_addSign 16 = .ok (.iload_n 1, 1) := by decide +kernel
theorem dX1_addSign_17 : decode cX1_addSign 17 = .ok (.invokevirtual 67, 3) := by decide +kernel
theorem dX1_addSign_20 : decode cX1_addSign 20 = .ok (.aload_n 0, 1) := by decide +kernel
theorem dX1_addSign_21 : decode cX1_addSign 21 = .ok (.getfield 20, 3) := by decide +kernel
theorem dX1_addSign_24 : decode cX1_addSign 24 = .ok (.iload 4, 2) := by decide +kernel
theorem dX1_addSign_26 : decode cX1_addSign 26 = .ok (.iconst 1, 1) := by decide +kernel
theorem dX1_addSign_27 : decode cX1_addSign 27 = .ok (.iload_n 2, 1) := by decide +kernel
theorem dX1_addSign_28 : decode cX1_addSign 28 = .ok (.ifCond .eq 7, 3) := by decide +kernel
theorem dX1_addSign_31 : decode cX1_addSign 31 = .ok (.iconst 1, 1) := by decide +kernel
theorem dX1_addSign_32 : decode cX1_addSign 32 = .ok (.goto 4, 3) := by decide +kernel
theorem dX1_addSign_35 : decode cX1_addSign 35 = .ok (.iconst 0, 1) := by decide +kernel
theorem dX1_addSign_36 : decode cX1_addSign 36 = .ok (.invokevirtual 67, 3) := by decide +kernel
theorem dX1_addSign_39 : decode cX1_addSign 39 = .ok (.aload_n 0, 1) := by decide +kernel
theorem dX1_addSign_40 : decode cX1_addSign 40 = .ok (.getfield 20, 3) := by decide +kernel
theorem dX1_addSign_43 : decode cX1_addSign 43 = .ok (.iload 4, 2) := by decide +kernel
theorem dX1_addSign_45 : decode cX1_addSign 45 = .ok (.iconst 2, 1) := by decide +kernel
theorem dX1_addSign_46 : decode cX1_addSign 46 = .ok (.iload_n 3, 1) := by decide +kernel
theorem dX1_addSign_47 : decode cX1_addSign 47 = .ok (.invokevirtual 67, 3) := by decide +kernel
theorem dX1_addSign_50 : decode cX1_addSign 50 = .ok (.return_, 1) := by decide +kernel
theorem dX1_addCall_0 : decode cX1_addCall 0 = .ok (.aload_n 0, 1) := by decide +kernel
theorem dX1_addCall_1 : decode cX1_addCall 1 = .ok (.getfield 23, 3) := by decide +kernel
theorem dX1_addCall_4 : decode cX1_addCall 4 = .ok (.invokevirtual 63, 3) := by decide +kernel
theorem dX1_addCall_7 : decode cX1_addCall 7 = .ok (.istore 4, 2) := by decide +kernel
theorem dX1_addCall_9 : decode cX1_addCall 9 = .ok (.aload_n 0, 1) := by decide +kernel
theorem dX1_addCall_10 : decode cX1_addCall 10 = .ok (.getfield 23, 3) := by decide +kernel
theorem dX1_addCall_13 : decode cX1_addCall 13 = .ok (.iload 4, 2) := by decide +kernel
theorem dX1_addCall_15 : decode cX1_addCall 15 = .ok (.iconst 0, 1) := by decide +kernel
theorem dX1_addCall_16 : decode cX1_addCall 16 = .ok (.iload_n 1, 1) := by decide +kernel
theorem dX1_addCall_17 : decode cX1_addCall 17 = .ok (.invokevirtual 67, 3) := by decide +kernel
theorem dX1_addCall_20 : decode cX1_addCall 20 = .ok (.aload_n 0, 1) := by decide +kernel
theorem dX1_addCall_21 : decode cX1_addCall 21 = .ok (.getfield 23, 3) := by decide +kernel
theorem dX1_addCall_24 : decode cX1_addCall 24 = .ok (.iload 4, 2) := by decide +kernel
theorem dX1_addCall_26 : decode cX1_addCall 26 = .ok (.iconst 1, 1) := by decide +kernel
theorem dX1_addCall_27 : decode cX1_addCall 27 = .ok (.iload_n 2, 1) := by decide +kernel
theorem dX1_addCall_28 : decode cX1_addCall 28 = .ok (.invokevirtual 67, 3) := by decide +kernel
theorem dX1_addCall_31 : decode cX1_addCall 31 = .ok (.aload_n 0, 1) := by decide +kernel
theorem dX1_addCall_32 : decode cX1_addCall 32 = .ok (.getfield 23, 3) := by decide +kernel
theorem dX1_addCall_35 : decode cX1_addCall 35 = .ok (.iload 4, 2) := by decide +kernel
theorem dX1_addCall_37 : decode cX1_addCall 37 = .ok (.iconst 2, 1) := by decide +kernel
theorem dX1_addCall_38 : decode cX1_addCall 38 = .ok (.iload_n 3, 1) := by decide +kernel
theorem dX1_addCall_39 : decode cX1_addCall 39 = .ok (.invokevirtual 67, 3) := by decide +kernel
theorem dX1_addCall_42 : decode cX1_addCall 42 = .ok (.iload 4, 2) := by decide +kernel
theorem dX1_addCall_44 : decode cX1_addCall 44 = .ok (.ireturn, 1) := by decide +kernel
theorem dX1_settle_0 : decode cX1_settle 0 = .ok (.iload_n 1, 1) := by decide +kernel
theorem dX1_settle_1 : decode cX1_settle 1 = .ok (.lookupswitch 51 #[(0, 27), (1, 39)], 27) := by decide +kernel
theorem dX1_settle_28 : decode cX1_settle 28 = .ok (.aload_n 0, 1) := by decide +kernel
theorem dX1_settle_29 : decode cX1_settle 29 = .ok (.getfield 26, 3) := by decide +kernel
theorem dX1_settle_32 : decode cX1_settle 32 = .ok (.istore_n 3, 1) := by decide +kernel
theorem dX1_settle_33 : decode cX1_settle 33 = .ok (.aload_n 0, 1) := by decide +kernel
theorem dX1_settle_34 : decode cX1_settle 34 = .ok (.iload_n 2, 1) := by decide +kernel
theorem dX1_settle_35 : decode cX1_settle 35 = .ok (.putfield 26, 3) := by decide +kernel
theorem dX1_settle_38 : decode cX1_settle 38 = .ok (.iload_n 3, 1) := by decide +kernel
theorem dX1_settle_39 : decode cX1_settle 39 = .ok (.ireturn, 1) := by decide +kernel
theorem dX1_settle_40 : decode cX1_settle 40 = .ok (.aload_n 0, 1) := by decide +kernel
theorem dX1_settle_41 : decode cX1_settle 41 = .ok (.getfield 40, 3) := by decide +kernel
theorem dX1_settle_44 : decode cX1_settle 44 = .ok (.istore_n 3, 1) := by decide +kernel
theorem dX1_settle_45 : decode cX1_settle 45 = .ok (.aload_n 0, 1) := by decide +kernel
theorem dX1_settle_46 : decode cX1_settle 46 = .ok (.iload_n 2, 1) := by decide +kernel
theorem dX1_settle_47 : decode cX1_settle 47 = .ok (.putfield 40, 3) := by decide +kernel
theorem dX1_settle_50 : decode cX1_settle 50 = .ok (.iload_n 3, 1) := by decide +kernel
theorem dX1_settle_51 : decode cX1_settle 51 = .ok (.ireturn, 1) := by decide +kernel
theorem dX1_settle_52 : decode cX1_settle 52 = .ok (.aload_n 0, 1) := by decide +kernel
theorem dX1_settle_53 : decode cX1_settle 53 = .ok (.getfield 43, 3) := by decide +kernel
theorem dX1_settle_56 : decode cX1_settle 56 = .ok (.istore_n 3, 1) := by decide +kernel
theorem dX1_settle_57 : decode cX1_settle 57 = .ok (.aload_n 0, 1) := by decide +kernel
theorem dX1_settle_58 : decode cX1_settle 58 = .ok (.iload_n 2, 1) := by decide +kernel
theorem dX1_settle_59 : decode cX1_settle 59 = .ok (.putfield 43, 3) := by decide +kernel
theorem dX1_settle_62 : decode cX1_settle 62 = .ok (.iload_n 3, 1) := by decide +kernel
theorem dX1_settle_63 : decode cX1_settle 63 = .ok (.ireturn, 1) := by decide +kernel
theorem dX1_lookInVain_0 : decode cX1_lookInVain 0 = .ok (.aload_n 0, 1) := by decide +kernel
theorem dX1_lookInVain_1 : decode cX1_lookInVain 1 = .ok (.getfield 14, 3) := by decide +kernel
theorem dX1_lookInVain_4 : decode cX1_lookInVain 4 = .ok (.iload_n 1, 1) := by decide +kernel
theorem dX1_lookInVain_5 : decode cX1_lookInVain 5 = .ok (.iconst 4, 1) := by decide +kernel
theorem dX1_lookInVain_6 : decode cX1_lookInVain 6 = .ok (.aload_n 0, 1) := by decide +kernel
theorem dX1_lookInVain_7 : decode cX1_lookInVain 7 = .ok (.getfield 14, 3) := by decide +kernel
theorem dX1_lookInVain_10 : decode cX1_lookInVain 10 = .ok (.iload_n 1, 1) := by decide +kernel
theorem dX1_lookInVain_11 : decode cX1_lookInVain 11 = .ok (.iconst 4, 1) := by decide +kernel
theorem dX1_lookInVain_12 : decode cX1_lookInVain 12 = .ok (.invokevirtual 71, 3) := by decide +kernel
theorem dX1_lookInVain_15 : decode cX1_lookInVain 15 = .ok (.iload_n 2, 1) := by decide +kernel
theorem dX1_lookInVain_16 : decode cX1_lookInVain 16 = .ok (.invokestatic 75, 3) := by decide +kernel
theorem dX1_lookInVain_19 : decode cX1_lookInVain 19 = .ok (.invokevirtual 67, 3) := by decide +kernel
theorem dX1_lookInVain_22 : decode cX1_lookInVain 22 = .ok (.return_, 1) := by decide +kernel
theorem dX1_forget_0 : decode cX1_forget 0 = .ok (.aload_n 0, 1) := by decide +kernel
theorem dX1_forget_1 : decode cX1_forget 1 = .ok (.getfield 20, 3) := by decide +kernel
theorem dX1_forget_4 : decode cX1_forget 4 = .ok (.iconst 0, 1) := by decide +kernel
theorem dX1_forget_5 : decode cX1_forget 5 = .ok (.putfield 56, 3) := by decide +kernel
theorem dX1_forget_8 : decode cX1_forget 8 = .ok (.iconst 0, 1) := by decide +kernel
theorem dX1_forget_9 : decode cX1_forget 9 = .ok (.istore_n 1, 1) := by decide +kernel
theorem dX1_forget_10 : decode cX1_forget 10 = .ok (.iload_n 1, 1) := by decide +kernel
theorem dX1_forget_11 : decode cX1_forget 11 = .ok (.aload_n 0, 1) := by decide +kernel
theorem dX1_forget_12 : decode cX1_forget 12 = .ok (.getfield 14, 3) := by decide +kernel
theorem dX1_forget_15 : decode cX1_forget 15 = .ok (.getfield 56, 3) := by decide +kernel
theorem dX1_forget_18 : decode cX1_forget 18 = .ok (.if_icmp .ge 20, 3) := by decide +kernel
theorem dX1_forget_21 : decode cX1_forget 21 = .ok (.aload_n 0, 1) := by decide +kernel
theorem dX1_forget_22 : decode cX1_forget 22 = .ok (.getfield 14, 3) := by decide +kernel
theorem dX1_forget_25 : decode cX1_forget 25 = .ok (.iload_n 1, 1) := by decide +kernel
theorem dX1_forget_26 : decode cX1_forget 26 = .ok (.iconst 4, 1) := by decide +kernel
theorem dX1_forget_27 : decode cX1_forget 27 = .ok (.bipush 100, 2) := by decide +kernel
theorem dX1_forget_29 : decode cX1_forget 29 = .ok (.invokevirtual 67, 3) := by decide +kernel
theorem dX1_forget_32 : decode cX1_forget 32 = .ok (.iinc 1 1, 3) := by decide +kernel
theorem dX1_forget_35 : decode cX1_forget 35 = .ok (.goto (-25), 3) := by decide +kernel
theorem dX1_forget_38 : decode cX1_forget 38 = .ok (.return_, 1) := by decide +kernel
theorem dX1_bendsLookedAt_0 : decode cX1_bendsLookedAt 0 = .ok (.iconst 0, 1) := by decide +kernel
theorem dX1_bendsLookedAt_1 : decode cX1_bendsLookedAt 1 = .ok (.istore_n 1, 1) := by decide +kernel
theorem dX1_bendsLookedAt_2 : decode cX1_bendsLookedAt 2 = .ok (.iconst 0, 1) := by decide +kernel
theorem dX1_bendsLookedAt_3 : decode cX1_bendsLookedAt 3 = .ok (.istore_n 2, 1) := by decide +kernel
theorem dX1_bendsLookedAt_4 : decode cX1_bendsLookedAt 4 = .ok (.iload_n 2, 1) := by decide +kernel
theorem dX1_bendsLookedAt_5 : decode cX1_bendsLookedAt 5 = .ok (.aload_n 0, 1) := by decide +kernel
theorem dX1_bendsLookedAt_6 : decode cX1_bendsLookedAt 6 = .ok (.getfield 14, 3) := by decide +kernel
theorem dX1_bendsLookedAt_9 : decode cX1_bendsLookedAt 9 = .ok (.getfield 56, 3) := by decide +kernel
theorem dX1_bendsLookedAt_12 : decode cX1_bendsLookedAt 12 = .ok (.if_icmp .ge 26, 3) := by decide +kernel
theorem dX1_bendsLookedAt_15 : decode cX1_bendsLookedAt 15 = .ok (.aload_n 0, 1) := by decide +kernel
theorem dX1_bendsLookedAt_16 : decode cX1_bendsLookedAt 16 = .ok (.getfield 14, 3) := by decide +kernel
theorem dX1_bendsLookedAt_19 : decode cX1_bendsLookedAt 19 = .ok (.iload_n 2, 1) := by decide +kernel
theorem dX1_bendsLookedAt_20 : decode cX1_bendsLookedAt 20 = .ok (.iconst 4, 1) := by decide +kernel
theorem dX1_bendsLookedAt_21 : decode cX1_bendsLookedAt 21 = .ok (.invokevirtual 71, 3) := by decide +kernel
theorem dX1_bendsLookedAt_24 : decode cX1_bendsLookedAt 24 = .ok (.bipush 100, 2) := by decide +kernel
theorem dX1_bendsLookedAt_26 : decode cX1_bendsLookedAt 26 = .ok (.if_icmp .eq 6, 3) := by decide +kernel
theorem dX1_bendsLookedAt_29 : decode cX1_bendsLookedAt 29 = .ok (.iinc 1 1, 3) := by decide +kernel
theorem dX1_bendsLookedAt_32 : decode cX1_bendsLookedAt 32 = .ok (.iinc 2 1, 3) := by decide +kernel
theorem dX1_bendsLookedAt_35 : decode cX1_bendsLookedAt 35 = .ok (.goto (-31), 3) := by decide +kernel
theorem dX1_bendsLookedAt_38 : decode cX1_bendsLookedAt 38 = .ok (.iload_n 1, 1) := by decide +kernel
theorem dX1_bendsLookedAt_39 : decode cX1_bendsLookedAt 39 = .ok (.ireturn, 1) := by decide +kernel
theorem dX1_yardsTo_0 : decode cX1_yardsTo 0 = .ok (.iconst 0, 1) := by decide +kernel
theorem dX1_yardsTo_1 : decode cX1_yardsTo 1 = .ok (.istore_n 2, 1) := by decide +kernel
theorem dX1_yardsTo_2 : decode cX1_yardsTo 2 = .ok (.iconst 0, 1) := by decide +kernel
theorem dX1_yardsTo_3 : decode cX1_yardsTo 3 = .ok (.istore_n 3, 1) := by decide +kernel
theorem dX1_yardsTo_4 : decode cX1_yardsTo 4 = .ok (.iload_n 3, 1) := by decide +kernel
theorem dX1_yardsTo_5 : decode cX1_yardsTo 5 = .ok (.aload_n 0, 1) := by decide +kernel
theorem dX1_yardsTo_6 : decode cX1_yardsTo 6 = .ok (.getfield 14, 3) := by decide +kernel
theorem dX1_yardsTo_9 : decode cX1_yardsTo 9 = .ok (.getfield 56, 3) := by decide +kernel
theorem dX1_yardsTo_12 : decode cX1_yardsTo 12 = .ok (.if_icmp .ge 26, 3) := by decide +kernel
theorem dX1_yardsTo_15 : decode cX1_yardsTo 15 = .ok (.iload_n 3, 1) := by decide +kernel
theorem dX1_yardsTo_16 : decode cX1_yardsTo 16 = .ok (.iload_n 1, 1) := by decide +kernel
theorem dX1_yardsTo_17 : decode cX1_yardsTo 17 = .ok (.if_icmp .gt 21, 3) := by decide +kernel
theorem dX1_yardsTo_20 : decode cX1_yardsTo 20 = .ok (.iload_n 2, 1) := by decide +kernel
theorem dX1_yardsTo_21 : decode cX1_yardsTo 21 = .ok (.aload_n 0, 1) := by decide +kernel
theorem dX1_yardsTo_22 : decode cX1_yardsTo 22 = .ok (.getfield 14, 3) := by decide +kernel
theorem dX1_yardsTo_25 : decode cX1_yardsTo 25 = .ok (.iload_n 3, 1) := by decide +kernel
theorem dX1_yardsTo_26 : decode cX1_yardsTo 26 = .ok (.iconst 2, 1) := by decide +kernel
theorem dX1_yardsTo_27 : decode cX1_yardsTo 27 = .ok (.invokevirtual 71, 3) := by decide +kernel
theorem dX1_yardsTo_30 : decode cX1_yardsTo 30 = .ok (.iadd, 1) := by decide +kernel
theorem dX1_yardsTo_31 : decode cX1_yardsTo 31 = .ok (.istore_n 2, 1) := by decide +kernel
theorem dX1_yardsTo_32 : decode cX1_yardsTo 32 = .ok (.iinc 3 1, 3) := by decide +kernel
theorem dX1_yardsTo_35 : decode cX1_yardsTo 35 = .ok (.goto (-31), 3) := by decide +kernel
theorem dX1_yardsTo_38 : decode cX1_yardsTo 38 = .ok (.iload_n 2, 1) := by decide +kernel
theorem dX1_yardsTo_39 : decode cX1_yardsTo 39 = .ok (.ireturn, 1) := by decide +kernel
theorem dX1_secondsOf_0 : decode cX1_secondsOf 0 = .ok (.aload_n 0, 1) := by decide +kernel
theorem dX1_secondsOf_1 : decode cX1_secondsOf 1 = .ok (.getfield 14, 3) := by decide +kernel
theorem dX1_secondsOf_4 : decode cX1_secondsOf 4 = .ok (.iload_n 1, 1) := by decide +kernel
theorem dX1_secondsOf_5 : decode cX1_secondsOf 5 = .ok (.iconst 2, 1) := by decide +kernel
theorem dX1_secondsOf_6 : decode cX1_secondsOf 6 = .ok (.invokevirtual 71, 3) := by decide +kernel
theorem dX1_secondsOf_9 : decode cX1_secondsOf 9 = .ok (.istore_n 3, 1) := by decide +kernel
theorem dX1_secondsOf_10 : decode cX1_secondsOf 10 = .ok (.iload_n 2, 1) := by decide +kernel
theorem dX1_secondsOf_11 : decode cX1_secondsOf 11 = .ok (.lookupswitch 38 #[(1, 25), (2, 32)], 25) := by decide +kernel
theorem dX1_secondsOf_36 : decode cX1_secondsOf 36 = .ok (.iload_n 3, 1) := by decide +kernel
theorem dX1_secondsOf_37 : decode cX1_secondsOf 37 = .ok (.bipush 10, 2) := by decide +kernel
theorem dX1_secondsOf_39 : decode cX1_secondsOf 39 = .ok (.idiv, 1) := by decide +kernel
theorem dX1_secondsOf_40 : decode cX1_secondsOf 40 = .ok (.iconst 1, 1) := by decide +kernel
theorem dX1_secondsOf_41 : decode cX1_secondsOf 41 = .ok (.iadd, 1) := by decide +kernel
theorem dX1_secondsOf_42 : decode cX1_secondsOf 42 = .ok (.ireturn, 1) := by decide +kernel
theorem dX1_secondsOf_43 : decode cX1_secondsOf 43 = .ok (.iload_n 3, 1) := by decide +kernel
theorem dX1_secondsOf_44 : decode cX1_secondsOf 44 = .ok (.iconst 4, 1) := by decide +kernel
theorem dX1_secondsOf_45 : decode cX1_secondsOf 45 = .ok (.idiv, 1) := by decide +kernel
theorem dX1_secondsOf_46 : decode cX1_secondsOf 46 = .ok (.iconst 1, 1) := by decide +kernel
theorem dX1_secondsOf_47 : decode cX1_secondsOf 47 = .ok (.iadd, 1) := by decide +kernel
theorem dX1_secondsOf_48 : decode cX1_secondsOf 48 = .ok (.ireturn, 1) := by decide +kernel
theorem dX1_secondsOf_49 : decode cX1_secondsOf 49 = .ok (.iload_n 3, 1) := by decide +kernel
theorem dX1_secondsOf_50 : decode cX1_secondsOf 50 = .ok (.iconst 1, 1) := by decide +kernel
theorem dX1_secondsOf_51 : decode cX1_secondsOf 51 = .ok (.iadd, 1) := by decide +kernel
theorem dX1_secondsOf_52 : decode cX1_secondsOf 52 = .ok (.ireturn, 1) := by decide +kernel
theorem dX1_fallAt_0 : decode cX1_fallAt 0 = .ok (.aload_n 0, 1) := by decide +kernel
theorem dX1_fallAt_1 : decode cX1_fallAt 1 = .ok (.iload_n 1, 1) := by decide +kernel
theorem dX1_fallAt_2 : decode cX1_fallAt 2 = .ok (.iload_n 2, 1) := by decide +kernel
theorem dX1_fallAt_3 : decode cX1_fallAt 3 = .ok (.aload_n 0, 1) := by decide +kernel
theorem dX1_fallAt_4 : decode cX1_fallAt 4 = .ok (.getfield 40, 3) := by decide +kernel
theorem dX1_fallAt_7 : decode cX1_fallAt 7 = .ok (.aload_n 0, 1) := by decide +kernel
theorem dX1_fallAt_8 : decode cX1_fallAt 8 = .ok (.getfield 43, 3) := by decide +kernel
theorem dX1_fallAt_11 : decode cX1_fallAt 11 = .ok (.invokevirtual 78, 3) := by decide +kernel
theorem dX1_fallAt_14 : decode cX1_fallAt 14 = .ok (.ireturn, 1) := by decide +kernel
theorem dX1_fallBy_0 : decode cX1_fallBy 0 = .ok (.aload_n 0, 1) := by decide +kernel
theorem dX1_fallBy_1 : decode cX1_fallBy 1 = .ok (.getfield 14, 3) := by decide +kernel
theorem dX1_fallBy_4 : decode cX1_fallBy 4 = .ok (.iload_n 1, 1) := by decide +kernel
theorem dX1_fallBy_5 : decode cX1_fallBy 5 = .ok (.iconst 1, 1) := by decide +kernel
theorem dX1_fallBy_6 : decode cX1_fallBy 6 = .ok (.invokevirtual 71, 3) := by decide +kernel
theorem dX1_fallBy_9 : decode cX1_fallBy 9 = .ok (.istore 5, 2) := by decide +kernel
theorem dX1_fallBy_11 : decode cX1_fallBy 11 = .ok (.aload_n 0, 1) := by decide +kernel
theorem dX1_fallBy_12 : decode cX1_fallBy 12 = .ok (.getfield 14, 3) := by decide +kernel
theorem dX1_fallBy_15 : decode cX1_fallBy 15 = .ok (.iload_n 1, 1) := by decide +kernel
theorem dX1_fallBy_16 : decode cX1_fallBy 16 = .ok (.iconst 0, 1) := by decide +kernel
theorem dX1_fallBy_17 : decode cX1_fallBy 17 = .ok (.invokevirtual 71, 3) := by decide +kernel
theorem dX1_fallBy_20 : decode cX1_fallBy 20 = .ok (.iload 5, 2) := by decide +kernel
theorem dX1_fallBy_22 : decode cX1_fallBy 22 = .ok (.iload_n 2, 1) := by decide +kernel
theorem dX1_fallBy_23 : decode cX1_fallBy 23 = .ok (.invokestatic 82, 3) := by decide +kernel
theorem dX1_fallBy_26 : decode cX1_fallBy 26 = .ok (.bipush 20, 2) := by decide +kernel
theorem dX1_fallBy_28 : decode cX1_fallBy 28 = .ok (.iload_n 3, 1) := by decide +kernel
theorem dX1_fallBy_29 : decode cX1_fallBy 29 = .ok (.imul, 1) := by decide +kernel
theorem dX1_fallBy_30 : decode cX1_fallBy 30 = .ok (.iadd, 1) := by decide +kernel
theorem dX1_fallBy_31 : decode cX1_fallBy 31 = .ok (.istore 6, 2) := by decide +kernel
theorem dX1_fallBy_33 : decode cX1_fallBy 33 = .ok (.iconst 0, 1) := by decide +kernel
theorem dX1_fallBy_34 : decode cX1_fallBy 34 = .ok (.sipush 1000, 3) := by decide +kernel
theorem dX1_fallBy_37 : decode cX1_fallBy 37 = .ok (.iload 6, 2) := by decide +kernel
theorem dX1_fallBy_39 : decode cX1_fallBy 39 = .ok (.bipush 10, 2) := by decide +kernel
theorem dX1_fallBy_41 : decode cX1_fallBy 41 = .ok (.iload 4, 2) := by decide +kernel
theorem dX1_fallBy_43 : decode cX1_fallBy 43 = .ok (.isub, 1) := by decide +kernel
theorem dX1_fallBy_44 : decode cX1_fallBy 44 = .ok (.imul, 1) := by decide +kernel
theorem dX1_fallBy_45 : decode cX1_fallBy 45 = .ok (.bipush 10, 2) := by decide +kernel
theorem dX1_fallBy_47 : decode cX1_fallBy 47 = .ok (.idiv, 1) := by decide +kernel
theorem dX1_fallBy_48 : decode cX1_fallBy 48 = .ok (.invokestatic 86, 3) := by decide +kernel
theorem dX1_fallBy_51 : decode cX1_fallBy 51 = .ok (.invokestatic 91, 3) := by decide +kernel
theorem dX1_fallBy_54 : decode cX1_fallBy 54 = .ok (.ireturn, 1) := by decide +kernel
theorem dX1_dryFall_0 : decode cX1_dryFall 0 = .ok (.iload_n 0, 1) := by decide +kernel
theorem dX1_dryFall_1 : decode cX1_dryFall 1 = .ok (.tableswitch 69 1 5 #[35, 53, 43, 60, 67], 35) := by decide +kernel
theorem dX1_dryFall_36 : decode cX1_dryFall 36 = .ok (.iload_n 1, 1) := by decide +kernel
theorem dX1_dryFall_37 : decode cX1_dryFall 37 = .ok (.iload_n 2, 1) := by decide +kernel
theorem dX1_dryFall_38 : decode cX1_dryFall 38 = .ok (.imul, 1) := by decide +kernel
theorem dX1_dryFall_39 : decode cX1_dryFall 39 = .ok (.iload_n 2, 1) := by decide +kernel
theorem dX1_dryFall_40 : decode cX1_dryFall 40 = .ok (.iload_n 2, 1) := by decide +kernel
theorem dX1_dryFall_41 : decode cX1_dryFall 41 = .ok (.imul, 1) := by decide +kernel
theorem dX1_dryFall_42 : decode cX1_dryFall 42 = .ok (.iadd, 1) := by decide +kernel
theorem dX1_dryFall_43 : decode cX1_dryFall 43 = .ok (.ireturn, 1) := by decide +kernel
theorem dX1_dryFall_44 : decode cX1_dryFall 44 = .ok (.iconst 2, 1) := by decide +kernel
theorem dX1_dryFall_45 : decode cX1_dryFall 45 = .ok (.iload_n 1, 1) := by decide +kernel
theorem dX1_dryFall_46 : decode cX1_dryFall 46 = .ok (.iload_n 2, 1) := by decide +kernel
theorem dX1_dryFall_47 : decode cX1_dryFall 47 = .ok (.imul, 1) := by decide +kernel
theorem dX1_dryFall_48 : decode cX1_dryFall 48 = .ok (.iload_n 2, 1) := by decide +kernel
theorem dX1_dryFall_49 : decode cX1_dryFall 49 = .ok (.iload_n 2, 1) := by decide +kernel
theorem dX1_dryFall_50 : decode cX1_dryFall 50 = .ok (.imul, 1) := by decide +kernel
theorem dX1_dryFall_51 : decode cX1_dryFall 51 = .ok (.iadd, 1) := by decide +kernel
theorem dX1_dryFall_52 : decode cX1_dryFall 52 = .ok (.imul, 1) := by decide +kernel
theorem dX1_dryFall_53 : decode cX1_dryFall 53 = .ok (.ireturn, 1) := by decide +kernel
theorem dX1_dryFall_54 : decode cX1_dryFall 54 = .ok (.bipush 10, 2) := by decide +kernel
theorem dX1_dryFall_56 : decode cX1_dryFall 56 = .ok (.iload_n 1, 1) := by decide +kernel
theorem dX1_dryFall_57 : decode cX1_dryFall 57 = .ok (.iload_n 2, 1) := by decide +kernel
theorem dX1_dryFall_58 : decode cX1_dryFall 58 = .ok (.imul, 1) := by decide +kernel
theorem dX1_dryFall_59 : decode cX1_dryFall 59 = .ok (.iadd, 1) := by decide +kernel
theorem dX1_dryFall_60 : decode cX1_dryFall 60 = .ok (.ireturn, 1) := by decide +kernel
theorem dX1_dryFall_61 : decode cX1_dryFall 61 = .ok (.bipush 30, 2) := by decide +kernel
theorem dX1_dryFall_63 : decode cX1_dryFall 63 = .ok (.iload_n 1, 1) := by decide +kernel
theorem dX1_dryFall_64 : decode cX1_dryFall 64 = .ok (.iload_n 2, 1) := by decide +kernel
theorem dX1_dryFall_65 : decode cX1_dryFall 65 = .ok (.imul, 1) := by decide +kernel
theorem dX1_dryFall_66 : decode cX1_dryFall 66 = .ok (.iadd, 1) := by decide +kernel
theorem dX1_dryFall_67 : decode cX1_dryFall 67 = .ok (.ireturn, 1) := by decide +kernel
theorem dX1_dryFall_68 : decode cX1_dryFall 68 = .ok (.iload_n 1, 1) := by decide +kernel
theorem dX1_dryFall_69 : decode cX1_dryFall 69 = .ok (.ireturn, 1) := by decide +kernel
theorem dX1_dryFall_70 : decode cX1_dryFall 70 = .ok (.iload_n 1, 1) := by decide +kernel
theorem dX1_dryFall_71 : decode cX1_dryFall 71 = .ok (.iload_n 2, 1) := by decide +kernel
theorem dX1_dryFall_72 : decode cX1_dryFall 72 = .ok (.imul, 1) := by decide +kernel
theorem dX1_dryFall_73 : decode cX1_dryFall 73 = .ok (.ireturn, 1) := by decide +kernel
theorem dX1_fellAt_0 : decode cX1_fellAt 0 = .ok (.ldc 94, 2) := by decide +kernel
theorem dX1_fellAt_2 : decode cX1_fellAt 2 = .ok (.istore_n 3, 1) := by decide +kernel
theorem dX1_fellAt_3 : decode cX1_fellAt 3 = .ok (.iconst 0, 1) := by decide +kernel
theorem dX1_fellAt_4 : decode cX1_fellAt 4 = .ok (.istore 4, 2) := by decide +kernel
theorem dX1_fellAt_6 : decode cX1_fellAt 6 = .ok (.iload 4, 2) := by decide +kernel
theorem dX1_fellAt_8 : decode cX1_fellAt 8 = .ok (.aload_n 0, 1) := by decide +kernel
theorem dX1_fellAt_9 : decode cX1_fellAt 9 = .ok (.getfield 14, 3) := by decide +kernel
theorem dX1_fellAt_12 : decode cX1_fellAt 12 = .ok (.getfield 56, 3) := by decide +kernel
theorem dX1_fellAt_15 : decode cX1_fellAt 15 = .ok (.if_icmp .ge 38, 3) := by decide +kernel
theorem dX1_fellAt_18 : decode cX1_fellAt 18 = .ok (.iload_n 3, 1) := by decide +kernel
theorem dX1_fellAt_19 : decode cX1_fellAt 19 = .ok (.aload_n 0, 1) := by decide +kernel
theorem dX1_fellAt_20 : decode cX1_fellAt 20 = .ok (.iload 4, 2) := by decide +kernel
theorem dX1_fellAt_22 : decode cX1_fellAt 22 = .ok (.iload_n 2, 1) := by decide +kernel
theorem dX1_fellAt_23 : decode cX1_fellAt 23 = .ok (.invokevirtual 95, 3) := by decide +kernel
theorem dX1_fellAt_26 : decode cX1_fellAt 26 = .ok (.imul, 1) := by decide +kernel
theorem dX1_fellAt_27 : decode cX1_fellAt 27 = .ok (.sipush 1000, 3) := by decide +kernel
theorem dX1_fellAt_30 : decode cX1_fellAt 30 = .ok (.idiv, 1) := by decide +kernel
theorem dX1_fellAt_31 : decode cX1_fellAt 31 = .ok (.istore 5, 2) := by decide +kernel
theorem dX1_fellAt_33 : decode cX1_fellAt 33 = .ok (.iload 4, 2) := by decide +kernel
theorem dX1_fellAt_35 : decode cX1_fellAt 35 = .ok (.iload_n 1, 1) := by decide +kernel
theorem dX1_fellAt_36 : decode cX1_fellAt 36 = .ok (.if_icmp .ne 6, 3) := by decide +kernel
theorem dX1_fellAt_39 : decode cX1_fellAt 39 = .ok (.iload 5, 2) := by decide +kernel
theorem dX1_fellAt_41 : decode cX1_fellAt 41 = .ok (.ireturn, 1) := by decide +kernel
theorem dX1_fellAt_42 : decode cX1_fellAt 42 = .ok (.iload_n 3, 1) := by decide +kernel
theorem dX1_fellAt_43 : decode cX1_fellAt 43 = .ok (.iload 5, 2) := by decide +kernel
theorem dX1_fellAt_45 : decode cX1_fellAt 45 = .ok (.isub, 1) := by decide +kernel
theorem dX1_fellAt_46 : decode cX1_fellAt 46 = .ok (.istore_n 3, 1) := by decide +kernel
theorem dX1_fellAt_47 : decode cX1_fellAt 47 = .ok (.iinc 4 1, 3) := by decide +kernel
theorem dX1_fellAt_50 : decode cX1_fellAt 50 = .ok (.goto (-44), 3) := by decide +kernel
theorem dX1_fellAt_53 : decode cX1_fellAt 53 = .ok (.iload_n 3, 1) := by decide +kernel
theorem dX1_fellAt_54 : decode cX1_fellAt 54 = .ok (.ireturn, 1) := by decide +kernel
theorem dX1_heldBy_0 : decode cX1_heldBy 0 = .ok (.ldc 94, 2) := by decide +kernel
theorem dX1_heldBy_2 : decode cX1_heldBy 2 = .ok (.istore 4, 2) := by decide +kernel
theorem dX1_heldBy_4 : decode cX1_heldBy 4 = .ok (.iconst 0, 1) := by decide +kernel
theorem dX1_heldBy_5 : decode cX1_heldBy 5 = .ok (.istore 5, 2) := by decide +kernel
theorem dX1_heldBy_7 : decode cX1_heldBy 7 = .ok (.iload 5, 2) := by decide +kernel
theorem dX1_heldBy_9 : decode cX1_heldBy 9 = .ok (.aload_n 0, 1) := by decide +kernel
theorem dX1_heldBy_10 : decode cX1_heldBy 10 = .ok (.getfield 14, 3) := by decide +kernel
theorem dX1_heldBy_13 : decode cX1_heldBy 13 = .ok (.getfield 56, 3) := by decide +kernel
theorem dX1_heldBy_16 : decode cX1_heldBy 16 = .ok (.if_icmp .ge 30, 3) := by decide +kernel
theorem dX1_heldBy_19 : decode cX1_heldBy 19 = .ok (.iload 4, 2) := by decide +kernel
theorem dX1_heldBy_21 : decode cX1_heldBy 21 = .ok (.iload 4, 2) := by decide +kernel
theorem dX1_heldBy_23 : decode cX1_heldBy 23 = .ok (.aload_n 0, 1) := by decide +kernel
theorem dX1_heldBy_24 : decode cX1_heldBy 24 = .ok (.iload 5, 2) := by decide +kernel
theorem dX1_heldBy_26 : decode cX1_heldBy 26 = .ok (.iload_n 1, 1) := by decide +kernel
theorem dX1_heldBy_27 : decode cX1_heldBy 27 = .ok (.iload_n 2, 1) := by decide +kernel
theorem dX1_heldBy_28 : decode cX1_heldBy 28 = .ok (.iload_n 3, 1) := by decide +kernel
theorem dX1_heldBy_29 : decode cX1_heldBy 29 = .ok (.invokevirtual 78, 3) := by decide +kernel
theorem dX1_heldBy_32 : decode cX1_heldBy 32 = .ok (.imul, 1) := by decide +kernel
theorem dX1_heldBy_33 : decode cX1_heldBy 33 = .ok (.sipush 1000, 3) := by decide +kernel
theorem dX1_heldBy_36 : decode cX1_heldBy 36 = .ok (.idiv, 1) := by decide +kernel
theorem dX1_heldBy_37 : decode cX1_heldBy 37 = .ok (.isub, 1) := by decide +kernel
theorem dX1_heldBy_38 : decode cX1_heldBy 38 = .ok (.istore 4, 2) := by decide +kernel
theorem dX1_heldBy_40 : decode cX1_heldBy 40 = .ok (.iinc 5 1, 3) := by decide +kernel
theorem dX1_heldBy_43 : decode cX1_heldBy 43 = .ok (.goto (-36), 3) := by decide +kernel
theorem dX1_heldBy_46 : decode cX1_heldBy 46 = .ok (.iload 4, 2) := by decide +kernel
theorem dX1_heldBy_48 : decode cX1_heldBy 48 = .ok (.ireturn, 1) := by decide +kernel
theorem dX1_heldWith_0 : decode cX1_heldWith 0 = .ok (.ldc 94, 2) := by decide +kernel
theorem dX1_heldWith_2 : decode cX1_heldWith 2 = .ok (.istore_n 3, 1) := by decide +kernel
theorem dX1_heldWith_3 : decode cX1_heldWith 3 = .ok (.iconst 0, 1) := by decide +kernel
theorem dX1_heldWith_4 : decode cX1_heldWith 4 = .ok (.istore 4, 2) := by decide +kernel
theorem dX1_heldWith_6 : decode cX1_heldWith 6 = .ok (.iload 4, 2) := by decide +kernel
theorem dX1_heldWith_8 : decode cX1_heldWith 8 = .ok (.aload_n 0, 1) := by decide +kernel
theorem dX1_heldWith_9 : decode cX1_heldWith 9 = .ok (.getfield 14, 3) := by decide +kernel
theorem dX1_heldWith_12 : decode cX1_heldWith 12 = .ok (.getfield 56, 3) := by decide +kernel
theorem dX1_heldWith_15 : decode cX1_heldWith 15 = .ok (.if_icmp .ge 50, 3) := by decide +kernel
theorem dX1_heldWith_18 : decode cX1_heldWith 18 = .ok (.iload_n 2, 1) := by decide +kernel
theorem dX1_heldWith_19 : decode cX1_heldWith 19 = .ok (.iload 4, 2) := by decide +kernel
theorem dX1_heldWith_21 : decode cX1_heldWith 21 = .ok (.invokestatic 98, 3) := by decide +kernel
theorem dX1_heldWith_24 : decode cX1_heldWith 24 = .ok (.ifCond .ne 35, 3) := by decide +kernel
theorem dX1_heldWith_27 : decode cX1_heldWith 27 = .ok (.iload_n 3, 1) := by decide +kernel
theorem dX1_heldWith_28 : decode cX1_heldWith 28 = .ok (.iload_n 3, 1) := by decide +kernel
theorem dX1_heldWith_29 : decode cX1_heldWith 29 = .ok (.aload_n 0, 1) := by decide +kernel
theorem dX1_heldWith_30 : decode cX1_heldWith 30 = .ok (.iload 4, 2) := by decide +kernel
theorem dX1_heldWith_32 : decode cX1_heldWith 32 = .ok (.iload_n 1, 1) := by decide +kernel
theorem dX1_heldWith_33 : decode cX1_heldWith 33 = .ok (.iload 4, 2) := by decide +kernel
theorem dX1_heldWith_35 : decode cX1_heldWith 35 = .ok (.invokestatic 98, 3) := by decide +kernel
theorem dX1_heldWith_38 : decode cX1_heldWith 38 = .ok (.ifCond .eq 7, 3) := by decide +kernel
theorem dX1_heldWith_41 : decode cX1_heldWith 41 = .ok (.iconst 1, 1) := by decide +kernel
theorem dX1_heldWith_42 : decode cX1_heldWith 42 = .ok (.goto 7, 3) := by decide +kernel
theorem dX1_heldWith_45 : decode cX1_heldWith 45 = .ok (.aload_n 0, 1) := by decide +kernel
theorem dX1_heldWith_46 : decode cX1_heldWith 46 = .ok (.getfield 26, 3) := by decide +kernel
theorem dX1_heldWith_49 : decode cX1_heldWith 49 = .ok (.invokevirtual 95, 3) := by decide +kernel
theorem dX1_heldWith_52 : decode cX1_heldWith 52 = .ok (.imul, 1) := by decide +kernel
theorem dX1_heldWith_53 : decode cX1_heldWith 53 = .ok (.sipush 1000, 3) := by decide +kernel
theorem dX1_heldWith_56 : decode cX1_heldWith 56 = .ok (.idiv, 1) := by decide +kernel
theorem dX1_heldWith_57 : decode cX1_heldWith 57 = .ok (.isub, 1) := by decide +kernel
theorem dX1_heldWith_58 : decode cX1_heldWith 58 = .ok (.istore_n 3, 1) := by decide +kernel
theorem dX1_heldWith_59 : decode cX1_heldWith 59 = .ok (.iinc 4 1, 3) := by decide +kernel
theorem dX1_heldWith_62 : decode cX1_heldWith 62 = .ok (.goto (-56), 3) := by decide +kernel
theorem dX1_heldWith_65 : decode cX1_heldWith 65 = .ok (.iload_n 3, 1) := by decide +kernel
theorem dX1_heldWith_66 : decode cX1_heldWith 66 = .ok (.ireturn, 1) := by decide +kernel
theorem dX1_draw_0 : decode cX1_draw 0 = .ok (.aload_n 0, 1) := by decide +kernel
theorem dX1_draw_1 : decode cX1_draw 1 = .ok (.aload_n 0, 1) := by decide +kernel
theorem dX1_draw_2 : decode cX1_draw 2 = .ok (.getfield 33, 3) := by decide +kernel
theorem dX1_draw_5 : decode cX1_draw 5 = .ok (.ldc 102, 2) := by decide +kernel
theorem dX1_draw_7 : decode cX1_draw 7 = .ok (.imul, 1) := by decide +kernel
theorem dX1_draw_8 : decode cX1_draw 8 = .ok (.sipush 12345, 3) := by decide +kernel
theorem dX1_draw_11 : decode cX1_draw 11 = .ok (.iadd, 1) := by decide +kernel
theorem dX1_draw_12 : decode cX1_draw 12 = .ok (.putfield 33, 3) := by decide +kernel
theorem dX1_draw_15 : decode cX1_draw 15 = .ok (.iload_n 1, 1) := by decide +kernel
theorem dX1_draw_16 : decode cX1_draw 16 = .ok (.ifCond .le 15, 3) := by decide +kernel
theorem dX1_draw_19 : decode cX1_draw 19 = .ok (.aload_n 0, 1) := by decide +kernel
theorem dX1_draw_20 : decode cX1_draw 20 = .ok (.getfield 33, 3) := by decide +kernel
theorem dX1_draw_23 : decode cX1_draw 23 = .ok (.bipush 16, 2) := by decide +kernel
theorem dX1_draw_25 : decode cX1_draw 25 = .ok (.iushr, 1) := by decide +kernel
theorem dX1_draw_26 : decode cX1_draw 26 = .ok (.iload_n 1, 1) := by decide +kernel
theorem dX1_draw_27 : decode cX1_draw 27 = .ok (.irem, 1) := by decide +kernel
theorem dX1_draw_28 : decode cX1_draw 28 = .ok (.goto 4, 3) := by decide +kernel
theorem dX1_draw_31 : decode cX1_draw 31 = .ok (.iconst 0, 1) := by decide +kernel
theorem dX1_draw_32 : decode cX1_draw 32 = .ok (.ireturn, 1) := by decide +kernel
theorem dX1_driveInTruth_0 : decode cX1_driveInTruth 0 = .ok (.aload_n 0, 1) := by decide +kernel
theorem dX1_driveInTruth_1 : decode cX1_driveInTruth 1 = .ok (.invokevirtual 103, 3) := by decide +kernel
theorem dX1_driveInTruth_4 : decode cX1_driveInTruth 4 = .ok (.aload_n 0, 1) := by decide +kernel
theorem dX1_driveInTruth_5 : decode cX1_driveInTruth 5 = .ok (.iconst (-1), 1) := by decide +kernel
theorem dX1_driveInTruth_6 : decode cX1_driveInTruth 6 = .ok (.putfield 30, 3) := by decide +kernel
theorem dX1_driveInTruth_9 : decode cX1_driveInTruth 9 = .ok (.iconst 0, 1) := by decide +kernel
theorem dX1_driveInTruth_10 : decode cX1_driveInTruth 10 = .ok (.istore_n 1, 1) := by decide +kernel
theorem dX1_driveInTruth_11 : decode cX1_driveInTruth 11 = .ok (.iload_n 1, 1) := by decide +kernel
theorem dX1_driveInTruth_12 : decode cX1_driveInTruth 12 = .ok (.aload_n 0, 1) := by decide +kernel
theorem dX1_driveInTruth_13 : decode cX1_driveInTruth 13 = .ok (.getfield 14, 3) := by decide +kernel
theorem dX1_driveInTruth_16 : decode cX1_driveInTruth 16 = .ok (.getfield 56, 3) := by decide +kernel
theorem dX1_driveInTruth_19 : decode cX1_driveInTruth 19 = .ok (.if_icmp .ge 35, 3) := by decide +kernel
theorem dX1_driveInTruth_22 : decode cX1_driveInTruth 22 = .ok (.aload_n 0, 1) := by decide +kernel
theorem dX1_driveInTruth_23 : decode cX1_driveInTruth 23 = .ok (.sipush 1000, 3) := by decide +kernel
theorem dX1_driveInTruth_26 : decode cX1_driveInTruth 26 = .ok (.invokevirtual 106, 3) := by decide +kernel
theorem dX1_driveInTruth_29 : decode cX1_driveInTruth 29 = .ok (.aload_n 0, 1) := by decide +kernel
theorem dX1_driveInTruth_30 : decode cX1_driveInTruth 30 = .ok (.iload_n 1, 1) := by decide +kernel
theorem dX1_driveInTruth_31 : decode cX1_driveInTruth 31 = .ok (.aload_n 0, 1) := by decide +kernel
theorem dX1_driveInTruth_32 : decode cX1_driveInTruth 32 = .ok (.getfield 26, 3) := by decide +kernel
theorem dX1_driveInTruth_35 : decode cX1_driveInTruth 35 = .ok (.invokevirtual 95, 3) := by decide +kernel
theorem dX1_driveInTruth_38 : decode cX1_driveInTruth 38 = .ok (.if_icmp .ge 10, 3) := by decide +kernel
theorem dX1_driveInTruth_41 : decode cX1_driveInTruth 41 = .ok (.aload_n 0, 1) := by decide +kernel
theorem dX1_driveInTruth_42 : decode cX1_driveInTruth 42 = .ok (.iload_n 1, 1) := by decide +kernel
theorem dX1_driveInTruth_43 : decode cX1_driveInTruth 43 = .ok (.putfield 30, 3) := by decide +kernel
theorem dX1_driveInTruth_46 : decode cX1_driveInTruth 46 = .ok (.iconst 1, 1) := by decide +kernel
theorem dX1_driveInTruth_47 : decode cX1_driveInTruth 47 = .ok (.ireturn, 1) := by decide +kernel
theorem dX1_driveInTruth_48 : decode cX1_driveInTruth 48 = .ok (.iinc 1 1, 3) := by decide +kernel
theorem dX1_driveInTruth_51 : decode cX1_driveInTruth 51 = .ok (.goto (-40), 3) := by decide +kernel
theorem dX1_driveInTruth_54 : decode cX1_driveInTruth 54 = .ok (.iconst 0, 1) := by decide +kernel
theorem dX1_driveInTruth_55 : decode cX1_driveInTruth 55 = .ok (.ireturn, 1) := by decide +kernel
theorem dX1_lookInTruth_0 : decode cX1_lookInTruth 0 = .ok (.aload_n 0, 1) := by decide +kernel
theorem dX1_lookInTruth_1 : decode cX1_lookInTruth 1 = .ok (.getfield 30, 3) := by decide +kernel
theorem dX1_lookInTruth_4 : decode cX1_lookInTruth 4 = .ok (.iload_n 1, 1) := by decide +kernel
theorem dX1_lookInTruth_5 : decode cX1_lookInTruth 5 = .ok (.if_icmp .ne 18, 3) := by decide +kernel
theorem dX1_lookInTruth_8 : decode cX1_lookInTruth 8 = .ok (.aload_n 0, 1) := by decide +kernel
theorem dX1_lookInTruth_9 : decode cX1_lookInTruth 9 = .ok (.bipush 100, 2) := by decide +kernel
theorem dX1_lookInTruth_11 : decode cX1_lookInTruth 11 = .ok (.invokevirtual 106, 3) := by decide +kernel
theorem dX1_lookInTruth_14 : decode cX1_lookInTruth 14 = .ok (.iload_n 2, 1) := by decide +kernel
theorem dX1_lookInTruth_15 : decode cX1_lookInTruth 15 = .ok (.invokestatic 110, 3) := by decide +kernel
theorem dX1_lookInTruth_18 : decode cX1_lookInTruth 18 = .ok (.if_icmp .ge 5, 3) := by decide +kernel
theorem dX1_lookInTruth_21 : decode cX1_lookInTruth 21 = .ok (.iconst 1, 1) := by decide +kernel
theorem dX1_lookInTruth_22 : decode cX1_lookInTruth 22 = .ok (.ireturn, 1) := by decide +kernel
theorem dX1_lookInTruth_23 : decode cX1_lookInTruth 23 = .ok (.aload_n 0, 1) := by decide +kernel
theorem dX1_lookInTruth_24 : decode cX1_lookInTruth 24 = .ok (.iload_n 1, 1) := by decide +kernel
theorem dX1_lookInTruth_25 : decode cX1_lookInTruth 25 = .ok (.iload_n 2, 1) := by decide +kernel
theorem dX1_lookInTruth_26 : decode cX1_lookInTruth 26 = .ok (.invokevirtual 113, 3) := by decide +kernel
theorem dX1_lookInTruth_29 : decode cX1_lookInTruth 29 = .ok (.iconst 0, 1) := by decide +kernel
theorem dX1_lookInTruth_30 : decode cX1_lookInTruth 30 = .ok (.ireturn, 1) := by decide +kernel
theorem dX2_init_0 : decode cX2_init 0 = .ok (.aload_n 0, 1) := by decide +kernel
theorem dX2_init_1 : decode cX2_init 1 = .ok (.invokespecial 3, 3) := by decide +kernel
theorem dX2_init_4 : decode cX2_init 4 = .ok (.aload_n 0, 1) := by decide +kernel
theorem dX2_init_5 : decode cX2_init 5 = .ok (.iconst (-1), 1) := by decide +kernel
theorem dX2_init_6 : decode cX2_init 6 = .ok (.putfield 9, 3) := by decide +kernel
theorem dX2_init_9 : decode cX2_init 9 = .ok (.aload_n 0, 1) := by decide +kernel
theorem dX2_init_10 : decode cX2_init 10 = .ok (.bipush 40, 2) := by decide +kernel
theorem dX2_init_12 : decode cX2_init 12 = .ok (.newarray .long, 2) := by decide +kernel
theorem dX2_init_14 : decode cX2_init 14 = .ok (.putfield 15, 3) := by decide +kernel
theorem dX2_init_17 : decode cX2_init 17 = .ok (.return_, 1) := by decide +kernel
theorem dX2_isEmpty_0 : decode cX2_isEmpty 0 = .ok (.aload_n 0, 1) := by decide +kernel
theorem dX2_isEmpty_1 : decode cX2_isEmpty 1 = .ok (.getfield 9, 3) := by decide +kernel
theorem dX2_isEmpty_4 : decode cX2_isEmpty 4 = .ok (.iconst (-1), 1) := by decide +kernel
theorem dX2_isEmpty_5 : decode cX2_isEmpty 5 = .ok (.if_icmp .ne 7, 3) := by decide +kernel
theorem dX2_isEmpty_8 : decode cX2_isEmpty 8 = .ok (.iconst 1, 1) := by decide +kernel
theorem dX2_isEmpty_9 : decode cX2_isEmpty 9 = .ok (.goto 4, 3) := by decide +kernel
theorem dX2_isEmpty_12 : decode cX2_isEmpty 12 = .ok (.iconst 0, 1) := by decide +kernel
theorem dX2_isEmpty_13 : decode cX2_isEmpty 13 = .ok (.ireturn, 1) := by decide +kernel
theorem dX2_isRow_0 : decode cX2_isRow 0 = .ok (.aload_n 0, 1) := by decide +kernel
theorem dX2_isRow_1 : decode cX2_isRow 1 = .ok (.getfield 9, 3) := by decide +kernel
theorem dX2_isRow_4 : decode cX2_isRow 4 = .ok (.ifCond .lt 15, 3) := by decide +kernel
theorem dX2_isRow_7 : decode cX2_isRow 7 = .ok (.aload_n 0, 1) := by decide +kernel
theorem dX2_isRow_8 : decode cX2_isRow 8 = .ok (.getfield 9, 3) := by decide +kernel
theorem dX2_isRow_11 : decode cX2_isRow 11 = .ok (.iconst 4, 1) := by decide +kernel
theorem dX2_isRow_12 : decode cX2_isRow 12 = .ok (.if_icmp .gt 7, 3) := by decide +kernel
theorem dX2_isRow_15 : decode cX2_isRow 15 = .ok (.iconst 1, 1) := by decide +kernel
theorem dX2_isRow_16 : decode cX2_isRow 16 = .ok (.goto 4, 3) := by decide +kernel
theorem dX2_isRow_19 : decode cX2_isRow 19 = .ok (.iconst 0, 1) := by decide +kernel
theorem dX2_isRow_20 : decode cX2_isRow 20 = .ok (.ireturn, 1) := by decide +kernel
theorem dX2_isBend_0 : decode cX2_isBend 0 = .ok (.aload_n 0, 1) := by decide +kernel
theorem dX2_isBend_1 : decode cX2_isBend 1 = .ok (.getfield 9, 3) := by decide +kernel
theorem dX2_isBend_4 : decode cX2_isBend 4 = .ok (.bipush 10, 2) := by decide +kernel
theorem dX2_isBend_6 : decode cX2_isBend 6 = .ok (.if_icmp .lt 7, 3) := by decide +kernel
theorem dX2_isBend_9 : decode cX2_isBend 9 = .ok (.iconst 1, 1) := by decide +kernel
theorem dX2_isBend_10 : decode cX2_isBend 10 = .ok (.goto 4, 3) := by decide +kernel
theorem dX2_isBend_13 : decode cX2_isBend 13 = .ok (.iconst 0, 1) := by decide +kernel
theorem dX2_isBend_14 : decode cX2_isBend 14 = .ok (.ireturn, 1) := by decide +kernel
theorem dX2_bendNumber_0 : decode cX2_bendNumber 0 = .ok (.aload_n 0, 1) := by decide +kernel
theorem dX2_bendNumber_1 : decode cX2_bendNumber 1 = .ok (.invokevirtual 19, 3) := by decide +kernel
theorem dX2_bendNumber_4 : decode cX2_bendNumber 4 = .ok (.ifCond .eq 13, 3) := by decide +kernel
theorem dX2_bendNumber_7 : decode cX2_bendNumber 7 = .ok (.aload_n 0, 1) := by decide +kernel
theorem dX2_bendNumber_8 : decode cX2_bendNumber 8 = .ok (.getfield 9, 3) := by decide +kernel
theorem dX2_bendNumber_11 : decode cX2_bendNumber 11 = .ok (.bipush 10, 2) := by decide +kernel
theorem dX2_bendNumber_13 : decode cX2_bendNumber 13 = .ok (.isub, 1) := by decide +kernel
theorem dX2_bendNumber_14 : decode cX2_bendNumber 14 = .ok (.goto 4, 3) := by decide +kernel
theorem dX2_bendNumber_17 : decode cX2_bendNumber 17 = .ok (.iconst (-1), 1) := by decide +kernel
theorem dX2_bendNumber_18 : decode cX2_bendNumber 18 = .ok (.ireturn, 1) := by decide +kernel
theorem dX2_takeRow_0 : decode cX2_takeRow 0 = .ok (.aload_n 0, 1) := by decide +kernel
theorem dX2_takeRow_1 : decode cX2_takeRow 1 = .ok (.iload_n 1, 1) := by decide +kernel
theorem dX2_takeRow_2 : decode cX2_takeRow 2 = .ok (.putfield 9, 3) := by decide +kernel
theorem dX2_takeRow_5 : decode cX2_takeRow 5 = .ok (.aload_n 0, 1) := by decide +kernel
theorem dX2_takeRow_6 : decode cX2_takeRow 6 = .ok (.iload_n 2, 1) := by decide +kernel
theorem dX2_takeRow_7 : decode cX2_takeRow 7 = .ok (.putfield 23, 3) := by decide +kernel
theorem dX2_takeRow_10 : decode cX2_takeRow 10 = .ok (.iconst 0, 1) := by decide +kernel
theorem dX2_takeRow_11 : decode cX2_takeRow 11 = .ok (.istore_n 3, 1) := by decide +kernel
theorem dX2_takeRow_12 : decode cX2_takeRow 12 = .ok (.iload_n 3, 1) := by decide +kernel
theorem dX2_takeRow_13 : decode cX2_takeRow 13 = .ok (.aload_n 0, 1) := by decide +kernel
theorem dX2_takeRow_14 : decode cX2_takeRow 14 = .ok (.getfield 15, 3) := by decide +kernel
theorem dX2_takeRow_17 : decode cX2_takeRow 17 = .ok (.arraylength, 1) := by decide +kernel
theorem dX2_takeRow_18 : decode cX2_takeRow 18 = .ok (.if_icmp .ge 16, 3) := by decide +kernel
theorem dX2_takeRow_21 : decode cX2_takeRow 21 = .ok (.aload_n 0, 1) := by decide +kernel
theorem dX2_takeRow_22 : decode cX2_takeRow 22 = .ok (.getfield 15, 3) := by decide +kernel
theorem dX2_takeRow_25 : decode cX2_takeRow 25 = .ok (.iload_n 3, 1) := by decide +kernel
theorem dX2_takeRow_26 : decode cX2_takeRow 26 = .ok (.lconst 0, 1) := by decide +kernel
theorem dX2_takeRow_27 : decode cX2_takeRow 27 = .ok (.lastore, 1) := by decide +kernel
theorem dX2_takeRow_28 : decode cX2_takeRow 28 = .ok (.iinc 3 1, 3) := by decide +kernel
theorem dX2_takeRow_31 : decode cX2_takeRow 31 = .ok (.goto (-19), 3) := by decide +kernel
theorem dX2_takeRow_34 : decode cX2_takeRow 34 = .ok (.return_, 1) := by decide +kernel
theorem dX2_takeBend_0 : decode cX2_takeBend 0 = .ok (.aload_n 0, 1) := by decide +kernel
theorem dX2_takeBend_1 : decode cX2_takeBend 1 = .ok (.iload_n 1, 1) := by decide +kernel
theorem dX2_takeBend_2 : decode cX2_takeBend 2 = .ok (.iconst (-1), 1) := by decide +kernel
theorem dX2_takeBend_3 : decode cX2_takeBend 3 = .ok (.if_icmp .ne 7, 3) := by decide +kernel
theorem dX2_takeBend_6 : decode cX2_takeBend 6 = .ok (.iconst (-1), 1) := by decide +kernel
theorem dX2_takeBend_7 : decode cX2_takeBend 7 = .ok (.goto 7, 3) := by decide +kernel
theorem dX2_takeBend_10 : decode cX2_takeBend 10 = .ok (.bipush 10, 2) := by decide +kernel
theorem dX2_takeBend_12 : decode cX2_takeBend 12 = .ok (.iload_n 1, 1) := by decide +kernel
theorem dX2_takeBend_13 : decode cX2_takeBend 13 = .ok (.iadd, 1) := by decide +kernel
theorem dX2_takeBend_14 : decode cX2_takeBend 14 = .ok (.putfield 9, 3) := by decide +kernel
theorem dX2_takeBend_17 : decode cX2_takeBend 17 = .ok (.return_, 1) := by decide +kernel
theorem dX2_hasElement_0 : decode cX2_hasElement 0 = .ok (.aload_n 0, 1) := by decide +kernel
theorem dX2_hasElement_1 : decode cX2_hasElement 1 = .ok (.invokevirtual 26, 3) := by decide +kernel
theorem dX2_hasElement_4 : decode cX2_hasElement 4 = .ok (.ifCond .eq 19, 3) := by decide +kernel
theorem dX2_hasElement_7 : decode cX2_hasElement 7 = .ok (.iload_n 1, 1) := by decide +kernel
theorem dX2_hasElement_8 : decode cX2_hasElement 8 = .ok (.ifCond .lt 15, 3) := by decide +kernel
theorem dX2_hasElement_11 : decode cX2_hasElement 11 = .ok (.iload_n 1, 1) := by decide +kernel
theorem dX2_hasElement_12 : decode cX2_hasElement 12 = .ok (.aload_n 0, 1) := by decide +kernel
theorem dX2_hasElement_13 : decode cX2_hasElement 13 = .ok (.getfield 23, 3) := by decide +kernel
theorem dX2_hasElement_16 : decode cX2_hasElement 16 = .ok (.if_icmp .ge 7, 3) := by decide +kernel
theorem dX2_hasElement_19 : decode cX2_hasElement 19 = .ok (.iconst 1, 1) := by decide +kernel
theorem dX2_hasElement_20 : decode cX2_hasElement 20 = .ok (.goto 4, 3) := by decide +kernel
theorem dX2_hasElement_23 : decode cX2_hasElement 23 = .ok (.iconst 0, 1) := by decide +kernel
theorem dX2_hasElement_24 : decode cX2_hasElement 24 = .ok (.ireturn, 1) := by decide +kernel
theorem dX2_hasElements_0 : decode cX2_hasElements 0 = .ok (.aload_n 0, 1) := by decide +kernel
theorem dX2_hasElements_1 : decode cX2_hasElements 1 = .ok (.invokevirtual 26, 3) := by decide +kernel
theorem dX2_hasElements_4 : decode cX2_hasElements 4 = .ok (.ifCond .eq 33, 3) := by decide +kernel
theorem dX2_hasElements_7 : decode cX2_hasElements 7 = .ok (.iload_n 1, 1) := by decide +kernel
theorem dX2_hasElements_8 : decode cX2_hasElements 8 = .ok (.ifCond .lt 29, 3) := by decide +kernel
theorem dX2_hasElements_11 : decode cX2_hasElements 11 = .ok (.iload_n 2, 1) := by decide +kernel
theorem dX2_hasElements_12 : decode cX2_hasElements 12 = .ok (.ifCond .lt 25, 3) := by decide +kernel
theorem dX2_hasElements_15 : decode cX2_hasElements 15 = .ok (.iload_n 1, 1) := by decide +kernel
theorem dX2_hasElements_16 : decode cX2_hasElements 16 = .ok (.aload_n 0, 1) := by decide +kernel
theorem dX2_hasElements_17 : decode cX2_hasElements 17 = .ok (.getfield 23, 3) := by decide +kernel
theorem dX2_hasElements_20 : decode cX2_hasElements 20 = .ok (.if_icmp .gt 17, 3) := by decide +kernel
theorem dX2_hasElements_23 : decode cX2_hasElements 23 = .ok (.iload_n 2, 1) := by decide +kernel
theorem dX2_hasElements_24 : decode cX2_hasElements 24 = .ok (.aload_n 0, 1) := by decide +kernel
theorem dX2_hasElements_25 : decode cX2_hasElements 25 = .ok (.getfield 23, 3) := by decide +kernel
theorem dX2_hasElements_28 : decode cX2_hasElements 28 = .ok (.iload_n 1, 1) := by decide +kernel
theorem dX2_hasElements_29 : decode cX2_hasElements 29 = .ok (.isub, 1) := by decide +kernel
theorem dX2_hasElements_30 : decode cX2_hasElements 30 = .ok (.if_icmp .gt 7, 3) := by decide +kernel
theorem dX2_hasElements_33 : decode cX2_hasElements 33 = .ok (.iconst 1, 1) := by decide +kernel
theorem dX2_hasElements_34 : decode cX2_hasElements 34 = .ok (.goto 4, 3) := by decide +kernel
theorem dX2_hasElements_37 : decode cX2_hasElements 37 = .ok (.iconst 0, 1) := by decide +kernel
theorem dX2_hasElements_38 : decode cX2_hasElements 38 = .ok (.ireturn, 1) := by decide +kernel
theorem dX2_elementAt_0 : decode cX2_elementAt 0 = .ok (.aload_n 0, 1) := by decide +kernel
theorem dX2_elementAt_1 : decode cX2_elementAt 1 = .ok (.iload_n 1, 1) := by decide +kernel
theorem dX2_elementAt_2 : decode cX2_elementAt 2 = .ok (.invokevirtual 29, 3) := by decide +kernel
theorem dX2_elementAt_5 : decode cX2_elementAt 5 = .ok (.ifCond .eq 21, 3) := by decide +kernel
theorem dX2_elementAt_8 : decode cX2_elementAt 8 = .ok (.iload_n 1, 1) := by decide +kernel
theorem dX2_elementAt_9 : decode cX2_elementAt 9 = .ok (.aload_n 0, 1) := by decide +kernel
theorem dX2_elementAt_10 : decode cX2_elementAt 10 = .ok (.getfield 15, 3) := by decide +kernel
theorem dX2_elementAt_13 : decode cX2_elementAt 13 = .ok (.arraylength, 1) := by decide +kernel
theorem dX2_elementAt_14 : decode cX2_elementAt 14 = .ok (.if_icmp .ge 12, 3) := by decide +kernel
theorem dX2_elementAt_17 : decode cX2_elementAt 17 = .ok (.aload_n 0, 1) := by decide +kernel
theorem dX2_elementAt_18 : decode cX2_elementAt 18 = .ok (.getfield 15, 3) := by decide +kernel
theorem dX2_elementAt_21 : decode cX2_elementAt 21 = .ok (.iload_n 1, 1) := by decide +kernel
theorem dX2_elementAt_22 : decode cX2_elementAt 22 = .ok (.laload, 1) := by decide +kernel
theorem dX2_elementAt_23 : decode cX2_elementAt 23 = .ok (.goto 4, 3) := by decide +kernel
theorem dX2_elementAt_26 : decode cX2_elementAt 26 = .ok (.lconst 0, 1) := by decide +kernel
theorem dX2_elementAt_27 : decode cX2_elementAt 27 = .ok (.lreturn, 1) := by decide +kernel
theorem dX2_putElement_0 : decode cX2_putElement 0 = .ok (.aload_n 0, 1) := by decide +kernel
theorem dX2_putElement_1 : decode cX2_putElement 1 = .ok (.iload_n 1, 1) := by decide +kernel
theorem dX2_putElement_2 : decode cX2_putElement 2 = .ok (.invokevirtual 29, 3) := by decide +kernel
theorem dX2_putElement_5 : decode cX2_putElement 5 = .ok (.ifCond .eq 23, 3) := by decide +kernel
theorem dX2_putElement_8 : decode cX2_putElement 8 = .ok (.iload_n 1, 1) := by decide +kernel
theorem dX2_putElement_9 : decode cX2_putElement 9 = .ok (.aload_n 0, 1) := by decide +kernel
theorem dX2_putElement_10 : decode cX2_putElement 10 = .ok (.getfield 15, 3) := by decide +kernel
theorem dX2_putElement_13 : decode cX2_putElement 13 = .ok (.arraylength, 1) := by decide +kernel
theorem dX2_putElement_14 : decode cX2_putElement 14 = .ok (.if_icmp .ge 14, 3) := by decide +kernel
theorem dX2_putElement_17 : decode cX2_putElement 17 = .ok (.aload_n 0, 1) := by decide +kernel
theorem dX2_putElement_18 : decode cX2_putElement 18 = .ok (.getfield 15, 3) := by decide +kernel
theorem dX2_putElement_21 : decode cX2_putElement 21 = .ok (.iload_n 1, 1) := by decide +kernel
theorem dX2_putElement_22 : decode cX2_putElement 22 = .ok (.aload_n 0, 1) := by decide +kernel
theorem dX2_putElement_23 : decode cX2_putElement 23 = .ok (.lload_n 2, 1) := by decide +kernel
theorem dX2_putElement_24 : decode cX2_putElement 24 = .ok (.invokevirtual 33, 3) := by decide +kernel
theorem dX2_putElement_27 : decode cX2_putElement 27 = .ok (.lastore, 1) := by decide +kernel
theorem dX2_putElement_28 : decode cX2_putElement 28 = .ok (.return_, 1) := by decide +kernel
theorem dX2_takeElements_0 : decode cX2_takeElements 0 = .ok (.aload_n 1, 1) := by decide +kernel
theorem dX2_takeElements_1 : decode cX2_takeElements 1 = .ok (.iload_n 2, 1) := by decide +kernel
theorem dX2_takeElements_2 : decode cX2_takeElements 2 = .ok (.iload 4, 2) := by decide +kernel
theorem dX2_takeElements_4 : decode cX2_takeElements 4 = .ok (.invokevirtual 37, 3) := by decide +kernel
theorem dX2_takeElements_7 : decode cX2_takeElements 7 = .ok (.ifCond .eq 28, 3) := by decide +kernel
theorem dX2_takeElements_10 : decode cX2_takeElements 10 = .ok (.aload_n 0, 1) := by decide +kernel
theorem dX2_takeElements_11 : decode cX2_takeElements 11 = .ok (.iload_n 3, 1) := by decide +kernel
theorem dX2_takeElements_12 : decode cX2_takeElements 12 = .ok (.iload 4, 2) := by decide +kernel
theorem dX2_takeElements_14 : decode cX2_takeElements 14 = .ok (.invokevirtual 37, 3) := by decide +kernel
theorem dX2_takeElements_17 : decode cX2_takeElements 17 = .ok (.ifCond .eq 18, 3) := by decide +kernel
theorem dX2_takeElements_20 : decode cX2_takeElements 20 = .ok (.aload_n 1, 1) := by decide +kernel
theorem dX2_takeElements_21 : decode cX2_takeElements 21 = .ok (.getfield 15, 3) := by decide +kernel
theorem dX2_takeElements_24 : decode cX2_takeElements 24 = .ok (.iload_n 2, 1) := by decide +kernel
theorem dX2_takeElements_25 : decode cX2_takeElements 25 = .ok (.aload_n 0, 1) := by decide +kernel
theorem dX2_takeElements_26 : decode cX2_takeElements 26 = .ok (.getfield 15, 3) := by decide +kernel
theorem dX2_takeElements_29 : decode cX2_takeElements 29 = .ok (.iload_n 3, 1) := by decide +kernel
theorem dX2_takeElements_30 : decode cX2_takeElements 30 = .ok (.iload 4, 2) := by decide +kernel
theorem dX2_takeElements_32 : decode cX2_takeElements 32 = .ok (.invokestatic 41, 3) := by decide +kernel
theorem dX2_takeElements_35 : decode cX2_takeElements 35 = .ok (.return_, 1) := by decide +kernel
theorem dX2_refusalOfTold_0 : decode cX2_refusalOfTold 0 = .ok (.iload_n 1, 1) := by decide +kernel
theorem dX2_refusalOfTold_1 : decode cX2_refusalOfTold 1 = .ok (.iconst 0, 1) := by decide +kernel
theorem dX2_refusalOfTold_2 : decode cX2_refusalOfTold 2 = .ok (.bipush 40, 2) := by decide +kernel
theorem dX2_refusalOfTold_4 : decode cX2_refusalOfTold 4 = .ok (.invokestatic 47, 3) := by decide +kernel
theorem dX2_refusalOfTold_7 : decode cX2_refusalOfTold 7 = .ok (.ifCond .ne 6, 3) := by decide +kernel
theorem dX2_refusalOfTold_10 : decode cX2_refusalOfTold 10 = .ok (.bipush (-2), 2) := by decide +kernel
theorem dX2_refusalOfTold_12 : decode cX2_refusalOfTold 12 = .ok (.ireturn, 1) := by decide +kernel
theorem dX2_refusalOfTold_13 : decode cX2_refusalOfTold 13 = .ok (.aload_n 0, 1) := by decide +kernel
theorem dX2_refusalOfTold_14 : decode cX2_refusalOfTold 14 = .ok (.invokevirtual 26, 3) := by decide +kernel
theorem dX2_refusalOfTold_17 : decode cX2_refusalOfTold 17 = .ok (.ifCond .ne 18, 3) := by decide +kernel
theorem dX2_refusalOfTold_20 : decode cX2_refusalOfTold 20 = .ok (.aload_n 0, 1) := by decide +kernel
theorem dX2_refusalOfTold_21 : decode cX2_refusalOfTold 21 = .ok (.invokevirtual 51, 3) := by decide +kernel
theorem dX2_refusalOfTold_24 : decode cX2_refusalOfTold 24 = .ok (.ifCond .eq 8, 3) := by decide +kernel
theorem dX2_refusalOfTold_27 : decode cX2_refusalOfTold 27 = .ok (.bipush (-4), 2) := by decide +kernel
theorem dX2_refusalOfTold_29 : decode cX2_refusalOfTold 29 = .ok (.goto 5, 3) := by decide +kernel
theorem dX2_refusalOfTold_32 : decode cX2_refusalOfTold 32 = .ok (.bipush (-3), 2) := by decide +kernel
theorem dX2_refusalOfTold_34 : decode cX2_refusalOfTold 34 = .ok (.ireturn, 1) := by decide +kernel
theorem dX2_refusalOfTold_35 : decode cX2_refusalOfTold 35 = .ok (.iload_n 1, 1) := by decide +kernel
theorem dX2_refusalOfTold_36 : decode cX2_refusalOfTold 36 = .ok (.aload_n 0, 1) := by decide +kernel
theorem dX2_refusalOfTold_37 : decode cX2_refusalOfTold 37 = .ok (.getfield 23, 3) := by decide +kernel
theorem dX2_refusalOfTold_40 : decode cX2_refusalOfTold 40 = .ok (.if_icmp .le 8, 3) := by decide +kernel
theorem dX2_refusalOfTold_43 : decode cX2_refusalOfTold 43 = .ok (.bipush (-2), 2) := by decide +kernel
theorem dX2_refusalOfTold_45 : decode cX2_refusalOfTold 45 = .ok (.goto 4, 3) := by decide +kernel
theorem dX2_refusalOfTold_48 : decode cX2_refusalOfTold 48 = .ok (.iconst 0, 1) := by decide +kernel
theorem dX2_refusalOfTold_49 : decode cX2_refusalOfTold 49 = .ok (.ireturn, 1) := by decide +kernel
theorem dX2_keptOf_0 : decode cX2_keptOf 0 = .ok (.aload_n 0, 1) := by decide +kernel
theorem dX2_keptOf_1 : decode cX2_keptOf 1 = .ok (.getfield 9, 3) := by decide +kernel
theorem dX2_keptOf_4 : decode cX2_keptOf 4 = .ok (.tableswitch 62 0 4 #[36, 41, 46, 62, 50], 36) := by decide +kernel
theorem dX2_keptOf_40 : decode cX2_keptOf 40 = .ok (.lload_n 1, 1) := by decide +kernel
theorem dX2_keptOf_41 : decode cX2_keptOf 41 = .ok (.l2i, 1) := by decide +kernel
theorem dX2_keptOf_42 : decode cX2_keptOf 42 = .ok (.i2b, 1) := by decide +kernel
theorem dX2_keptOf_43 : decode cX2_keptOf 43 = .ok (.i2l, 1) := by decide +kernel
theorem dX2_keptOf_44 : decode cX2_keptOf 44 = .ok (.lreturn, 1) := by decide +kernel
theorem dX2_keptOf_45 : decode cX2_keptOf 45 = .ok (.lload_n 1, 1) := by decide +kernel
theorem dX2_keptOf_46 : decode cX2_keptOf 46 = .ok (.l2i, 1) := by decide +kernel
theorem dX2_keptOf_47 : decode cX2_keptOf 47 = .ok (.i2s, 1) := by decide +kernel
theorem dX2_keptOf_48 : decode cX2_keptOf 48 = .ok (.i2l, 1) := by decide +kernel
theorem dX2_keptOf_49 : decode cX2_keptOf 49 = .ok (.lreturn, 1) := by decide +kernel
theorem dX2_keptOf_50 : decode cX2_keptOf 50 = .ok (.lload_n 1, 1) := by decide +kernel
theorem dX2_keptOf_51 : decode cX2_keptOf 51 = .ok (.l2i, 1) := by decide +kernel
theorem dX2_keptOf_52 : decode cX2_keptOf 52 = .ok (.i2l, 1) := by decide +kernel
theorem dX2_keptOf_53 : decode cX2_keptOf 53 = .ok (.lreturn, 1) := by decide +kernel
theorem dX2_keptOf_54 : decode cX2_keptOf 54 = .ok (.lload_n 1, 1) := by decide +kernel
theorem dX2_keptOf_55 : decode cX2_keptOf 55 = .ok (.lconst 0, 1) := by decide +kernel
theorem dX2_keptOf_56 : decode cX2_keptOf 56 = .ok (.lcmp, 1) := by decide +kernel
theorem dX2_keptOf_57 : decode cX2_keptOf 57 = .ok (.ifCond .ne 7, 3) := by decide +kernel
theorem dX2_keptOf_60 : decode cX2_keptOf 60 = .ok (.lconst 0, 1) := by decide +kernel
theorem dX2_keptOf_61 : decode cX2_keptOf 61 = .ok (.goto 4, 3) := by decide +kernel
theorem dX2_keptOf_64 : decode cX2_keptOf 64 = .ok (.lconst 1, 1) := by decide +kernel
theorem dX2_keptOf_65 : decode cX2_keptOf 65 = .ok (.lreturn, 1) := by decide +kernel
theorem dX2_keptOf_66 : decode cX2_keptOf 66 = .ok (.lload_n 1, 1) := by decide +kernel
theorem dX2_keptOf_67 : decode cX2_keptOf 67 = .ok (.lreturn, 1) := by decide +kernel
theorem dX3_init_0 : decode cX3_init 0 = .ok (.aload_n 0, 1) := by decide +kernel
theorem dX3_init_1 : decode cX3_init 1 = .ok (.invokespecial 3, 3) := by decide +kernel
theorem dX3_init_4 : decode cX3_init 4 = .ok (.aload_n 0, 1) := by decide +kernel
theorem dX3_init_5 : decode cX3_init 5 = .ok (.iconst 0, 1) := by decide +kernel
theorem dX3_init_6 : decode cX3_init 6 = .ok (.iload_n 1, 1) := by decide +kernel
theorem dX3_init_7 : decode cX3_init 7 = .ok (.iload_n 2, 1) := by decide +kernel
theorem dX3_init_8 : decode cX3_init 8 = .ok (.imul, 1) := by decide +kernel
theorem dX3_init_9 : decode cX3_init 9 = .ok (.invokestatic 9, 3) := by decide +kernel
theorem dX3_init_12 : decode cX3_init 12 = .ok (.newarray .int, 2) := by decide +kernel
theorem dX3_init_14 : decode cX3_init 14 = .ok (.putfield 15, 3) := by decide +kernel
theorem dX3_init_17 : decode cX3_init 17 = .ok (.aload_n 0, 1) := by decide +kernel
theorem dX3_init_18 : decode cX3_init 18 = .ok (.iload_n 2, 1) := by decide +kernel
theorem dX3_init_19 : decode cX3_init 19 = .ok (.putfield 21, 3) := by decide +kernel
theorem dX3_init_22 : decode cX3_init 22 = .ok (.return_, 1) := by decide +kernel
theorem dX3_has_0 : decode cX3_has 0 = .ok (.iload_n 1, 1) := by decide +kernel
theorem dX3_has_1 : decode cX3_has 1 = .ok (.ifCond .lt 15, 3) := by decide +kernel
theorem dX3_has_4 : decode cX3_has 4 = .ok (.iload_n 1, 1) := by decide +kernel
theorem dX3_has_5 : decode cX3_has 5 = .ok (.aload_n 0, 1) := by decide +kernel
theorem dX3_has_6 : decode cX3_has 6 = .ok (.getfield 25, 3) := by decide +kernel
theorem dX3_has_9 : decode cX3_has 9 = .ok (.if_icmp .ge 7, 3) := by decide +kernel
theorem dX3_has_12 : decode cX3_has 12 = .ok (.iconst 1, 1) := by decide +kernel
theorem dX3_has_13 : decode cX3_has 13 = .ok (.goto 4, 3) := by decide +kernel
theorem dX3_has_16 : decode cX3_has 16 = .ok (.iconst 0, 1) := by decide +kernel
theorem dX3_has_17 : decode cX3_has 17 = .ok (.ireturn, 1) := by decide +kernel
theorem dX3_isFull_0 : decode cX3_isFull 0 = .ok (.aload_n 0, 1) := by decide +kernel
theorem dX3_isFull_1 : decode cX3_isFull 1 = .ok (.getfield 25, 3) := by decide +kernel
theorem dX3_isFull_4 : decode cX3_isFull 4 = .ok (.iconst 1, 1) := by decide +kernel
theorem dX3_isFull_5 : decode cX3_isFull 5 = .ok (.iadd, 1) := by decide +kernel
theorem dX3_isFull_6 : decode cX3_isFull 6 = .ok (.aload_n 0, 1) := by decide +kernel
theorem dX3_isFull_7 : decode cX3_isFull 7 = .ok (.getfield 21, 3) := by decide +kernel
theorem dX3_isFull_10 : decode cX3_isFull 10 = .ok (.imul, 1) := by decide +kernel
theorem dX3_isFull_11 : decode cX3_isFull 11 = .ok (.aload_n 0, 1) := by decide +kernel
theorem dX3_isFull_12 : decode cX3_isFull 12 = .ok (.getfield 15, 3) := by decide +kernel
theorem dX3_isFull_15 : decode cX3_isFull 15 = .ok (.arraylength, 1) := by decide +kernel
theorem dX3_isFull_16 : decode cX3_isFull 16 = .ok (.if_icmp .le 7, 3) := by decide +kernel
theorem dX3_isFull_19 : decode cX3_isFull 19 = .ok (.iconst 1, 1) := by decide +kernel
theorem dX3_isFull_20 : decode cX3_isFull 20 = .ok (.goto 4, 3) := by decide +kernel
theorem dX3_isFull_23 : decode cX3_isFull 23 = .ok (.iconst 0, 1) := by decide +kernel
theorem dX3_isFull_24 : decode cX3_isFull 24 = .ok (.ireturn, 1) := by decide +kernel
theorem dX3_at_0 : decode cX3_at 0 = .ok (.aload_n 0, 1) := by decide +kernel
theorem dX3_at_1 : decode cX3_at 1 = .ok (.iload_n 1, 1) := by decide +kernel
theorem dX3_at_2 : decode cX3_at 2 = .ok (.iload_n 2, 1) := by decide +kernel
theorem dX3_at_3 : decode cX3_at 3 = .ok (.invokevirtual 28, 3) := by decide +kernel
theorem dX3_at_6 : decode cX3_at 6 = .ok (.istore_n 3, 1) := by decide +kernel
theorem dX3_at_7 : decode cX3_at 7 = .ok (.iload_n 3, 1) := by decide +kernel
theorem dX3_at_8 : decode cX3_at 8 = .ok (.ifCond .lt 21, 3) := by decide +kernel
theorem dX3_at_11 : decode cX3_at 11 = .ok (.iload_n 3, 1) := by decide +kernel
theorem dX3_at_12 : decode cX3_at 12 = .ok (.aload_n 0, 1) := by decide +kernel
theorem dX3_at_13 : decode cX3_at 13 = .ok (.getfield 15, 3) := by decide +kernel
theorem dX3_at_16 : decode cX3_at 16 = .ok (.arraylength, 1) := by decide +kernel
theorem dX3_at_17 : decode cX3_at 17 = .ok (.if_icmp .ge 12, 3) := by decide +kernel
theorem dX3_at_20 : decode cX3_at 20 = .ok (.aload_n 0, 1) := by decide +kernel
theorem dX3_at_21 : decode cX3_at 21 = .ok (.getfield 15, 3) := by decide +kernel
theorem dX3_at_24 : decode cX3_at 24 = .ok (.iload_n 3, 1) := by decide +kernel
theorem dX3_at_25 : decode cX3_at 25 = .ok (.iaload, 1) := by decide +kernel
theorem dX3_at_26 : decode cX3_at 26 = .ok (.goto 4, 3) := by decide +kernel
theorem dX3_at_29 : decode cX3_at 29 = .ok (.iconst 0, 1) := by decide +kernel
theorem dX3_at_30 : decode cX3_at 30 = .ok (.ireturn, 1) := by decide +kernel
theorem dX3_put_0 : decode cX3_put 0 = .ok (.aload_n 0, 1) := by decide +kernel
theorem dX3_put_1 : decode cX3_put 1 = .ok (.iload_n 1, 1) := by decide +kernel
theorem dX3_put_2 : decode cX3_put 2 = .ok (.iload_n 2, 1) := by decide +kernel
theorem dX3_put_3 : decode cX3_put 3 = .ok (.invokevirtual 28, 3) := by decide +kernel
theorem dX3_put_6 : decode cX3_put 6 = .ok (.istore 4, 2) := by decide +kernel
theorem dX3_put_8 : decode cX3_put 8 = .ok (.iload 4, 2) := by decide +kernel
theorem dX3_put_10 : decode cX3_put 10 = .ok (.ifCond .lt 21, 3) := by decide +kernel
theorem dX3_put_13 : decode cX3_put 13 = .ok (.iload 4, 2) := by decide +kernel
theorem dX3_put_15 : decode cX3_put 15 = .ok (.aload_n 0, 1) := by decide +kernel
theorem dX3_put_16 : decode cX3_put 16 = .ok (.getfield 15, 3) := by decide +kernel
theorem dX3_put_19 : decode cX3_put 19 = .ok (.arraylength, 1) := by decide +kernel
theorem dX3_put_20 : decode cX3_put 20 = .ok (.if_icmp .ge 11, 3) := by decide +kernel
theorem dX3_put_23 : decode cX3_put 23 = .ok (.aload_n 0, 1) := by decide +kernel
theorem dX3_put_24 : decode cX3_put 24 = .ok (.getfield 15, 3) := by decide +kernel
theorem dX3_put_27 : decode cX3_put 27 = .ok (.iload 4, 2) := by decide +kernel
theorem dX3_put_29 : decode cX3_put 29 = .ok (.iload_n 3, 1) := by decide +kernel
theorem dX3_put_30 : decode cX3_put 30 = .ok (.iastore, 1) := by decide +kernel
theorem dX3_put_31 : decode cX3_put 31 = .ok (.return_, 1) := by decide +kernel
theorem dX3_grow_0 : decode cX3_grow 0 = .ok (.aload_n 0, 1) := by decide +kernel
theorem dX3_grow_1 : decode cX3_grow 1 = .ok (.invokevirtual 31, 3) := by decide +kernel
theorem dX3_grow_4 : decode cX3_grow 4 = .ok (.ifCond .eq 5, 3) := by decide +kernel
theorem dX3_grow_7 : decode cX3_grow 7 = .ok (.iconst (-1), 1) := by decide +kernel
theorem dX3_grow_8 : decode cX3_grow 8 = .ok (.ireturn, 1) := by decide +kernel
theorem dX3_grow_9 : decode cX3_grow 9 = .ok (.aload_n 0, 1) := by decide +kernel
theorem dX3_grow_10 : decode cX3_grow 10 = .ok (.dup, 1) := by decide +kernel
theorem dX3_grow_11 : decode cX3_grow 11 = .ok (.getfield 25, 3) := by decide +kernel
theorem dX3_grow_14 : decode cX3_grow 14 = .ok (.iconst 1, 1) := by decide +kernel
theorem dX3_grow_15 : decode cX3_grow 15 = .ok (.iadd, 1) := by decide +kernel
theorem dX3_grow_16 : decode cX3_grow 16 = .ok (.putfield 25, 3) := by decide +kernel
theorem dX3_grow_19 : decode cX3_grow 19 = .ok (.aload_n 0, 1) := by decide +kernel
theorem dX3_grow_20 : decode cX3_grow 20 = .ok (.getfield 25, 3) := by decide +kernel
theorem dX3_grow_23 : decode cX3_grow 23 = .ok (.iconst 1, 1) := by decide +kernel
theorem dX3_grow_24 : decode cX3_grow 24 = .ok (.isub, 1) := by decide +kernel
theorem dX3_grow_25 : decode cX3_grow 25 = .ok (.ireturn, 1) := by decide +kernel
theorem dX3_takeFrom_0 : decode cX3_takeFrom 0 = .ok (.aload_n 1, 1) := by decide +kernel
theorem dX3_takeFrom_1 : decode cX3_takeFrom 1 = .ok (.getfield 15, 3) := by decide +kernel
theorem dX3_takeFrom_4 : decode cX3_takeFrom 4 = .ok (.iconst 0, 1) := by decide +kernel
theorem dX3_takeFrom_5 : decode cX3_takeFrom 5 = .ok (.aload_n 0, 1) := by decide +kernel
theorem dX3_takeFrom_6 : decode cX3_takeFrom 6 = .ok (.getfield 15, 3) := by decide +kernel
theorem dX3_takeFrom_9 : decode cX3_takeFrom 9 = .ok (.iconst 0, 1) := by decide +kernel
theorem dX3_takeFrom_10 : decode cX3_takeFrom 10 = .ok (.aload_n 1, 1) := by decide +kernel
theorem dX3_takeFrom_11 : decode cX3_takeFrom 11 = .ok (.getfield 15, 3) := by decide +kernel
theorem dX3_takeFrom_14 : decode cX3_takeFrom 14 = .ok (.arraylength, 1) := by decide +kernel
theorem dX3_takeFrom_15 : decode cX3_takeFrom 15 = .ok (.aload_n 0, 1) := by decide +kernel
theorem dX3_takeFrom_16 : decode cX3_takeFrom 16 = .ok (.getfield 15, 3) := by decide +kernel
theorem dX3_takeFrom_19 : decode cX3_takeFrom 19 = .ok (.arraylength, 1) := by decide +kernel
theorem dX3_takeFrom_20 : decode cX3_takeFrom 20 = .ok (.invokestatic 35, 3) := by decide +kernel
theorem dX3_takeFrom_23 : decode cX3_takeFrom 23 = .ok (.invokestatic 38, 3) := by decide +kernel
theorem dX3_takeFrom_26 : decode cX3_takeFrom 26 = .ok (.aload_n 0, 1) := by decide +kernel
theorem dX3_takeFrom_27 : decode cX3_takeFrom 27 = .ok (.aload_n 1, 1) := by decide +kernel
theorem dX3_takeFrom_28 : decode cX3_takeFrom 28 = .ok (.getfield 25, 3) := by decide +kernel
theorem dX3_takeFrom_31 : decode cX3_takeFrom 31 = .ok (.putfield 25, 3) := by decide +kernel
theorem dX3_takeFrom_34 : decode cX3_takeFrom 34 = .ok (.return_, 1) := by decide +kernel
theorem dX3_cellOf_0 : decode cX3_cellOf 0 = .ok (.iload_n 1, 1) := by decide +kernel
theorem dX3_cellOf_1 : decode cX3_cellOf 1 = .ok (.ifCond .lt 34, 3) := by decide +kernel
theorem dX3_cellOf_4 : decode cX3_cellOf 4 = .ok (.iload_n 1, 1) := by decide +kernel
theorem dX3_cellOf_5 : decode cX3_cellOf 5 = .ok (.aload_n 0, 1) := by decide +kernel
theorem dX3_cellOf_6 : decode cX3_cellOf 6 = .ok (.getfield 25, 3) := by decide +kernel
theorem dX3_cellOf_9 : decode cX3_cellOf 9 = .ok (.if_icmp .ge 26, 3) := by decide +kernel
theorem dX3_cellOf_12 : decode cX3_cellOf 12 = .ok (.iload_n 2, 1) := by decide +kernel
theorem dX3_cellOf_13 : decode cX3_cellOf 13 = .ok (.ifCond .lt 22, 3) := by decide +kernel
theorem dX3_cellOf_16 : decode cX3_cellOf 16 = .ok (.iload_n 2, 1) := by decide +kernel
theorem dX3_cellOf_17 : decode cX3_cellOf 17 = .ok (.aload_n 0, 1) := by decide +kernel
theorem dX3_cellOf_18 : decode cX3_cellOf 18 = .ok (.getfield 21, 3) := by decide +kernel
theorem dX3_cellOf_21 : decode cX3_cellOf 21 = .ok (.if_icmp .ge 14, 3) := by decide +kernel
theorem dX3_cellOf_24 : decode cX3_cellOf 24 = .ok (.iload_n 1, 1) := by decide +kernel
theorem dX3_cellOf_25 : decode cX3_cellOf 25 = .ok (.aload_n 0, 1) := by decide +kernel
theorem dX3_cellOf_26 : decode cX3_cellOf 26 = .ok (.getfield 21, 3) := by decide +kernel
theorem dX3_cellOf_29 : decode cX3_cellOf 29 = .ok (.imul, 1) := by decide +kernel
theorem dX3_cellOf_30 : decode cX3_cellOf 30 = .ok (.iload_n 2, 1) := by decide +kernel
theorem dX3_cellOf_31 : decode cX3_cellOf 31 = .ok (.iadd, 1) := by decide +kernel
theorem dX3_cellOf_32 : decode cX3_cellOf 32 = .ok (.goto 4, 3) := by decide +kernel
theorem dX3_cellOf_35 : decode cX3_cellOf 35 = .ok (.iconst (-1), 1) := by decide +kernel
theorem dX3_cellOf_36 : decode cX3_cellOf 36 = .ok (.ireturn, 1) := by decide +kernel
theorem dX4_init_0 : decode cX4_init 0 = .ok (.aload_n 0, 1) := by decide +kernel
theorem dX4_init_1 : decode cX4_init 1 = .ok (.invokespecial 3, 3) := by decide +kernel
theorem dX4_init_4 : decode cX4_init 4 = .ok (.aload_n 0, 1) := by decide +kernel
theorem dX4_init_5 : decode cX4_init 5 = .ok (.sipush 250, 3) := by decide +kernel
theorem dX4_init_8 : decode cX4_init 8 = .ok (.newarray .int, 2) := by decide +kernel
theorem dX4_init_10 : decode cX4_init 10 = .ok (.putfield 9, 3) := by decide +kernel
theorem dX4_init_13 : decode cX4_init 13 = .ok (.aload_n 0, 1) := by decide +kernel
theorem dX4_init_14 : decode cX4_init 14 = .ok (.iconst 4, 1) := by decide +kernel
theorem dX4_init_15 : decode cX4_init 15 = .ok (.newarray .int, 2) := by decide +kernel
theorem dX4_init_17 : decode cX4_init 17 = .ok (.putfield 15, 3) := by decide +kernel
theorem dX4_init_20 : decode cX4_init 20 = .ok (.return_, 1) := by decide +kernel
theorem dX4_isFull_0 : decode cX4_isFull 0 = .ok (.aload_n 0, 1) := by decide +kernel
theorem dX4_isFull_1 : decode cX4_isFull 1 = .ok (.getfield 18, 3) := by decide +kernel
theorem dX4_isFull_4 : decode cX4_isFull 4 = .ok (.aload_n 0, 1) := by decide +kernel
theorem dX4_isFull_5 : decode cX4_isFull 5 = .ok (.getfield 9, 3) := by decide +kernel
theorem dX4_isFull_8 : decode cX4_isFull 8 = .ok (.arraylength, 1) := by decide +kernel
theorem dX4_isFull_9 : decode cX4_isFull 9 = .ok (.if_icmp .lt 7, 3) := by decide +kernel
theorem dX4_isFull_12 : decode cX4_isFull 12 = .ok (.iconst 1, 1) := by decide +kernel
theorem dX4_isFull_13 : decode cX4_isFull 13 = .ok (.goto 4, 3) := by decide +kernel
theorem dX4_isFull_16 : decode cX4_isFull 16 = .ok (.iconst 0, 1) := by decide +kernel
theorem dX4_isFull_17 : decode cX4_isFull 17 = .ok (.ireturn, 1) := by decide +kernel
theorem dX4_write_0 : decode cX4_write 0 = .ok (.aload_n 0, 1) := by decide +kernel
theorem dX4_write_1 : decode cX4_write 1 = .ok (.getfield 18, 3) := by decide +kernel
theorem dX4_write_4 : decode cX4_write 4 = .ok (.ifCond .lt 35, 3) := by decide +kernel
theorem dX4_write_7 : decode cX4_write 7 = .ok (.aload_n 0, 1) := by decide +kernel
theorem dX4_write_8 : decode cX4_write 8 = .ok (.getfield 18, 3) := by decide +kernel
theorem dX4_write_11 : decode cX4_write 11 = .ok (.aload_n 0, 1) := by decide +kernel
theorem dX4_write_12 : decode cX4_write 12 = .ok (.getfield 9, 3) := by decide +kernel
theorem dX4_write_15 : decode cX4_write 15 = .ok (.arraylength, 1) := by decide +kernel
theorem dX4_write_16 : decode cX4_write 16 = .ok (.if_icmp .ge 23, 3) := by decide +kernel
theorem dX4_write_19 : decode cX4_write 19 = .ok (.aload_n 0, 1) := by decide +kernel
theorem dX4_write_20 : decode cX4_write 20 = .ok (.getfield 9, 3) := by decide +kernel
theorem dX4_write_23 : decode cX4_write 23 = .ok (.aload_n 0, 1) := by decide +kernel
theorem dX4_write_24 : decode cX4_write 24 = .ok (.getfield 18, 3) := by decide +kernel
theorem dX4_write_27 : decode cX4_write 27 = .ok (.iload_n 1, 1) := by decide +kernel
theorem dX4_write_28 : decode cX4_write 28 = .ok (.iastore, 1) := by decide +kernel
theorem dX4_write_29 : decode cX4_write 29 = .ok (.aload_n 0, 1) := by decide +kernel
theorem dX4_write_30 : decode cX4_write 30 = .ok (.dup, 1) := by decide +kernel
theorem dX4_write_31 : decode cX4_write 31 = .ok (.getfield 18, 3) := by decide +kernel
theorem dX4_write_34 : decode cX4_write 34 = .ok (.iconst 1, 1) := by decide +kernel
theorem dX4_write_35 : decode cX4_write 35 = .ok (.iadd, 1) := by decide +kernel
theorem dX4_write_36 : decode cX4_write 36 = .ok (.putfield 18, 3) := by decide +kernel
theorem dX4_write_39 : decode cX4_write 39 = .ok (.return_, 1) := by decide +kernel
theorem dX4_readInto_0 : decode cX4_readInto 0 = .ok (.aload_n 0, 1) := by decide +kernel
theorem dX4_readInto_1 : decode cX4_readInto 1 = .ok (.iconst 0, 1) := by decide +kernel
theorem dX4_readInto_2 : decode cX4_readInto 2 = .ok (.putfield 22, 3) := by decide +kernel
theorem dX4_readInto_5 : decode cX4_readInto 5 = .ok (.aload_n 0, 1) := by decide +kernel
theorem dX4_readInto_6 : decode cX4_readInto 6 = .ok (.invokevirtual 25, 3) := by decide +kernel
theorem dX4_readInto_9 : decode cX4_readInto 9 = .ok (.iconst 1, 1) := by decide +kernel
theorem dX4_readInto_10 : decode cX4_readInto 10 = .ok (.istore_n 2, 1) := by decide +kernel
theorem dX4_readInto_11 : decode cX4_readInto 11 = .ok (.iload_n 2, 1) := by decide +kernel
theorem dX4_readInto_12 : decode cX4_readInto 12 = .ok (.sipush 250, 3) := by decide +kernel
theorem dX4_readInto_15 : decode cX4_readInto 15 = .ok (.if_icmp .gt 58, 3) := by decide +kernel
theorem dX4_readInto_18 : decode cX4_readInto 18 = .ok (.aload_n 0, 1) := by decide +kernel
theorem dX4_readInto_19 : decode cX4_readInto 19 = .ok (.aload_n 1, 1) := by decide +kernel
theorem dX4_readInto_20 : decode cX4_readInto 20 = .ok (.invokevirtual 28, 3) := by decide +kernel
theorem dX4_readInto_23 : decode cX4_readInto 23 = .ok (.ifCond .ne 11, 3) := by decide +kernel
theorem dX4_readInto_26 : decode cX4_readInto 26 = .ok (.bipush (-20), 2) := by decide +kernel
theorem dX4_readInto_28 : decode cX4_readInto 28 = .ok (.aload_n 0, 1) := by decide +kernel
theorem dX4_readInto_29 : decode cX4_readInto 29 = .ok (.getfield 32, 3) := by decide +kernel
theorem dX4_readInto_32 : decode cX4_readInto 32 = .ok (.isub, 1) := by decide +kernel
theorem dX4_readInto_33 : decode cX4_readInto 33 = .ok (.ireturn, 1) := by decide +kernel
theorem dX4_readInto_34 : decode cX4_readInto 34 = .ok (.aload_n 0, 1) := by decide +kernel
theorem dX4_readInto_35 : decode cX4_readInto 35 = .ok (.invokevirtual 25, 3) := by decide +kernel
theorem dX4_readInto_38 : decode cX4_readInto 38 = .ok (.aload_n 0, 1) := by decide +kernel
theorem dX4_readInto_39 : decode cX4_readInto 39 = .ok (.getfield 35, 3) := by decide +kernel
theorem dX4_readInto_42 : decode cX4_readInto 42 = .ok (.ifCond .ne 5, 3) := by decide +kernel
theorem dX4_readInto_45 : decode cX4_readInto 45 = .ok (.iload_n 2, 1) := by decide +kernel
theorem dX4_readInto_46 : decode cX4_readInto 46 = .ok (.ireturn, 1) := by decide +kernel
theorem dX4_readInto_47 : decode cX4_readInto 47 = .ok (.aload_n 0, 1) := by decide +kernel
theorem dX4_readInto_48 : decode cX4_readInto 48 = .ok (.getfield 35, 3) := by decide +kernel
theorem dX4_readInto_51 : decode cX4_readInto 51 = .ok (.iconst 3, 1) := by decide +kernel
theorem dX4_readInto_52 : decode cX4_readInto 52 = .ok (.if_icmp .eq 11, 3) := by decide +kernel
theorem dX4_readInto_55 : decode cX4_readInto 55 = .ok (.bipush (-20), 2) := by decide +kernel
theorem dX4_readInto_57 : decode cX4_readInto 57 = .ok (.aload_n 0, 1) := by decide +kernel
theorem dX4_readInto_58 : decode cX4_readInto 58 = .ok (.getfield 32, 3) := by decide +kernel
theorem dX4_readInto_61 : decode cX4_readInto 61 = .ok (.isub, 1) := by decide +kernel
theorem dX4_readInto_62 : decode cX4_readInto 62 = .ok (.ireturn, 1) := by decide +kernel
theorem dX4_readInto_63 : decode cX4_readInto 63 = .ok (.aload_n 0, 1) := by decide +kernel
theorem dX4_readInto_64 : decode cX4_readInto 64 = .ok (.invokevirtual 25, 3) := by decide +kernel
theorem dX4_readInto_67 : decode cX4_readInto 67 = .ok (.iinc 2 1, 3) := by decide +kernel
theorem dX4_readInto_70 : decode cX4_readInto 70 = .ok (.goto (-59), 3) := by decide +kernel
theorem dX4_readInto_73 : decode cX4_readInto 73 = .ok (.bipush (-20), 2) := by decide +kernel
theorem dX4_readInto_75 : decode cX4_readInto 75 = .ok (.aload_n 0, 1) := by decide +kernel
theorem dX4_readInto_76 : decode cX4_readInto 76 = .ok (.getfield 32, 3) := by decide +kernel
theorem dX4_readInto_79 : decode cX4_readInto 79 = .ok (.isub, 1) := by decide +kernel
theorem dX4_readInto_80 : decode cX4_readInto 80 = .ok (.ireturn, 1) := by decide +kernel
theorem dX4_readStatement_0 : decode cX4_readStatement 0 = .ok (.aload_n 0, 1) := by decide +kernel
theorem dX4_readStatement_1 : decode cX4_readStatement 1 = .ok (.getfield 35, 3) := by decide +kernel
theorem dX4_readStatement_4 : decode cX4_readStatement 4 = .ok (.iconst 1, 1) := by decide +kernel
theorem dX4_readStatement_5 : decode cX4_readStatement 5 = .ok (.if_icmp .ne 10, 3) := by decide +kernel
theorem dX4_readStatement_8 : decode cX4_readStatement 8 = .ok (.aload_n 0, 1) := by decide +kernel
theorem dX4_readStatement_9 : decode cX4_readStatement 9 = .ok (.invokevirtual 38, 3) := by decide +kernel
theorem dX4_readStatement_12 : decode cX4_readStatement 12 = .ok (.goto 4, 3) := by decide +kernel
theorem dX4_readStatement_15 : decode cX4_readStatement 15 = .ok (.iconst (-1), 1) := by decide +kernel
theorem dX4_readStatement_16 : decode cX4_readStatement 16 = .ok (.istore_n 2, 1) := by decide +kernel
theorem dX4_readStatement_17 : decode cX4_readStatement 17 = .ok (.iload_n 2, 1) := by decide +kernel
theorem dX4_readStatement_18 : decode cX4_readStatement 18 = .ok (.iconst (-1), 1) := by decide +kernel
theorem dX4_readStatement_19 : decode cX4_readStatement 19 = .ok (.if_icmp .eq 11, 3) := by decide +kernel
theorem dX4_readStatement_22 : decode cX4_readStatement 22 = .ok (.aload_n 1, 1) := by decide +kernel
theorem dX4_readStatement_23 : decode cX4_readStatement 23 = .ok (.iload_n 2, 1) := by decide +kernel
theorem dX4_readStatement_24 : decode cX4_readStatement 24 = .ok (.invokevirtual 42, 3) := by decide +kernel
theorem dX4_readStatement_27 : decode cX4_readStatement 27 = .ok (.ifCond .ne 5, 3) := by decide +kernel
theorem dX4_readStatement_30 : decode cX4_readStatement 30 = .ok (.iconst 0, 1) := by decide +kernel
theorem dX4_readStatement_31 : decode cX4_readStatement 31 = .ok (.ireturn, 1) := by decide +kernel
theorem dX4_readStatement_32 : decode cX4_readStatement 32 = .ok (.iconst 0, 1) := by decide +kernel
theorem dX4_readStatement_33 : decode cX4_readStatement 33 = .ok (.istore_n 3, 1) := by decide +kernel
theorem dX4_readStatement_34 : decode cX4_readStatement 34 = .ok (.iload_n 3, 1) := by decide +kernel
theorem dX4_readStatement_35 : decode cX4_readStatement 35 = .ok (.iload_n 2, 1) := by decide +kernel
theorem dX4_readStatement_36 : decode cX4_readStatement 36 = .ok (.invokestatic 48, 3) := by decide +kernel
theorem dX4_readStatement_39 : decode cX4_readStatement 39 = .ok (.if_icmp .ge 68, 3) := by decide +kernel
theorem dX4_readStatement_42 : decode cX4_readStatement 42 = .ok (.iload_n 3, 1) := by decide +kernel
theorem dX4_readStatement_43 : decode cX4_readStatement 43 = .ok (.aload_n 0, 1) := by decide +kernel
theorem dX4_readStatement_44 : decode cX4_readStatement 44 = .ok (.getfield 15, 3) := by decide +kernel
theorem dX4_readStatement_47 : decode cX4_readStatement 47 = .ok (.arraylength, 1) := by decide +kernel
theorem dX4_readStatement_48 : decode cX4_readStatement 48 = .ok (.if_icmp .ge 59, 3) := by decide +kernel
theorem dX4_readStatement_51 : decode cX4_readStatement 51 = .ok (.aload_n 0, 1) := by decide +kernel
theorem dX4_readStatement_52 : decode cX4_readStatement 52 = .ok (.invokevirtual 25, 3) := by decide +kernel
theorem dX4_readStatement_55 : decode cX4_readStatement 55 = .ok (.aload_n 0, 1) := by decide +kernel
theorem dX4_readStatement_56 : decode cX4_readStatement 56 = .ok (.getfield 35, 3) := by decide +kernel
theorem dX4_readStatement_59 : decode cX4_readStatement 59 = .ok (.iconst 2, 1) := by decide +kernel
theorem dX4_readStatement_60 : decode cX4_readStatement 60 = .ok (.if_icmp .ne 29, 3) := by decide +kernel
theorem dX4_readStatement_63 : decode cX4_readStatement 63 = .ok (.aload_n 0, 1) := by decide +kernel
theorem dX4_readStatement_64 : decode cX4_readStatement 64 = .ok (.getfield 22, 3) := by decide +kernel
theorem dX4_readStatement_67 : decode cX4_readStatement 67 = .ok (.aload_n 0, 1) := by decide +kernel
theorem dX4_readStatement_68 : decode cX4_readStatement 68 = .ok (.getfield 32, 3) := by decide +kernel
theorem dX4_readStatement_71 : decode cX4_readStatement 71 = .ok (.isub, 1) := by decide +kernel
theorem dX4_readStatement_72 : decode cX4_readStatement 72 = .ok (.iconst 4, 1) := by decide +kernel
theorem dX4_readStatement_73 : decode cX4_readStatement 73 = .ok (.if_icmp .gt 16, 3) := by decide +kernel
theorem dX4_readStatement_76 : decode cX4_readStatement 76 = .ok (.aload_n 1, 1) := by decide +kernel
theorem dX4_readStatement_77 : decode cX4_readStatement 77 = .ok (.iload_n 2, 1) := by decide +kernel
theorem dX4_readStatement_78 : decode cX4_readStatement 78 = .ok (.iload_n 3, 1) := by decide +kernel
theorem dX4_readStatement_79 : decode cX4_readStatement 79 = .ok (.aload_n 0, 1) := by decide +kernel
theorem dX4_readStatement_80 : decode cX4_readStatement 80 = .ok (.invokevirtual 52, 3) := by decide +kernel
theorem dX4_readStatement_83 : decode cX4_readStatement 83 = .ok (.invokevirtual 55, 3) := by decide +kernel
theorem dX4_readStatement_86 : decode cX4_readStatement 86 = .ok (.ifCond .ne 5, 3) := by decide +kernel
theorem dX4_readStatement_89 : decode cX4_readStatement 89 = .ok (.iconst 0, 1) := by decide +kernel
theorem dX4_readStatement_90 : decode cX4_readStatement 90 = .ok (.ireturn, 1) := by decide +kernel
theorem dX4_readStatement_91 : decode cX4_readStatement 91 = .ok (.aload_n 0, 1) := by decide +kernel
theorem dX4_readStatement_92 : decode cX4_readStatement 92 = .ok (.getfield 15, 3) := by decide +kernel
theorem dX4_readStatement_95 : decode cX4_readStatement 95 = .ok (.iload_n 3, 1) := by decide +kernel
theorem dX4_readStatement_96 : decode cX4_readStatement 96 = .ok (.aload_n 0, 1) := by decide +kernel
theorem dX4_readStatement_97 : decode cX4_readStatement 97 = .ok (.invokevirtual 52, 3) := by decide +kernel
theorem dX4_readStatement_100 : decode cX4_readStatement 100 = .ok (.iastore, 1) := by decide +kernel
theorem dX4_readStatement_101 : decode cX4_readStatement 101 = .ok (.iinc 3 1, 3) := by decide +kernel
theorem dX4_readStatement_104 : decode cX4_readStatement 104 = .ok (.goto (-70), 3) := by decide +kernel
theorem dX4_readStatement_107 : decode cX4_readStatement 107 = .ok (.aload_n 0, 1) := by decide +kernel
theorem dX4_readStatement_108 : decode cX4_readStatement 108 = .ok (.aload_n 1, 1) := by decide +kernel
theorem dX4_readStatement_109 : decode cX4_readStatement 109 = .ok (.iload_n 2, 1) := by decide +kernel
theorem dX4_readStatement_110 : decode cX4_readStatement 110 = .ok (.invokevirtual 59, 3) := by decide +kernel
theorem dX4_readStatement_113 : decode cX4_readStatement 113 = .ok (.iconst 1, 1) := by decide +kernel
theorem dX4_readStatement_114 : decode cX4_readStatement 114 = .ok (.ireturn, 1) := by decide +kernel
theorem dX4_carryOut_0 : decode cX4_carryOut 0 = .ok (.iload_n 2, 1) := by decide +kernel
theorem dX4_carryOut_1 : decode cX4_carryOut 1 = .ok (.tableswitch 166 0 7 #[47, 166, 166, 166, 79, 99, 119, 145], 47) := by decide +kernel
theorem dX4_carryOut_48 : decode cX4_carryOut 48 = .ok (.aload_n 1, 1) := by decide +kernel
theorem dX4_carryOut_49 : decode cX4_carryOut 49 = .ok (.aload_n 0, 1) := by decide +kernel
theorem dX4_carryOut_50 : decode cX4_carryOut 50 = .ok (.getfield 15, 3) := by decide +kernel
theorem dX4_carryOut_53 : decode cX4_carryOut 53 = .ok (.iconst 0, 1) := by decide +kernel
theorem dX4_carryOut_54 : decode cX4_carryOut 54 = .ok (.iaload, 1) := by decide +kernel
theorem dX4_carryOut_55 : decode cX4_carryOut 55 = .ok (.aload_n 0, 1) := by decide +kernel
theorem dX4_carryOut_56 : decode cX4_carryOut 56 = .ok (.getfield 15, 3) := by decide +kernel
theorem dX4_carryOut_59 : decode cX4_carryOut 59 = .ok (.iconst 1, 1) := by decide +kernel
theorem dX4_carryOut_60 : decode cX4_carryOut 60 = .ok (.iaload, 1) := by decide +kernel
theorem dX4_carryOut_61 : decode cX4_carryOut 61 = .ok (.aload_n 0, 1) := by decide +kernel
theorem dX4_carryOut_62 : decode cX4_carryOut 62 = .ok (.getfield 15, 3) := by decide +kernel
theorem dX4_carryOut_65 : decode cX4_carryOut 65 = .ok (.iconst 2, 1) := by decide +kernel
theorem dX4_carryOut_66 : decode cX4_carryOut 66 = .ok (.iaload, 1) := by decide +kernel
theorem dX4_carryOut_67 : decode cX4_carryOut 67 = .ok (.aload_n 0, 1) := by decide +kernel
theorem dX4_carryOut_68 : decode cX4_carryOut 68 = .ok (.getfield 15, 3) := by decide +kernel
theorem dX4_carryOut_71 : decode cX4_carryOut 71 = .ok (.iconst 3, 1) := by decide +kernel
theorem dX4_carryOut_72 : decode cX4_carryOut 72 = .ok (.iaload, 1) := by decide +kernel
theorem dX4_carryOut_73 : decode cX4_carryOut 73 = .ok (.invokevirtual 63, 3) := by decide +kernel
theorem dX4_carryOut_76 : decode cX4_carryOut 76 = .ok (.pop, 1) := by decide +kernel
theorem dX4_carryOut_77 : decode cX4_carryOut 77 = .ok (.goto 104, 3) := by decide +kernel
theorem dX4_carryOut_80 : decode cX4_carryOut 80 = .ok (.aload_n 1, 1) := by decide +kernel
theorem dX4_carryOut_81 : decode cX4_carryOut 81 = .ok (.aload_n 0, 1) := by decide +kernel
theorem dX4_carryOut_82 : decode cX4_carryOut 82 = .ok (.getfield 15, 3) := by decide +kernel
theorem dX4_carryOut_85 : decode cX4_carryOut 85 = .ok (.iconst 0, 1) := by decide +kernel
theorem dX4_carryOut_86 : decode cX4_carryOut 86 = .ok (.iaload, 1) := by decide +kernel
theorem dX4_carryOut_87 : decode cX4_carryOut 87 = .ok (.iconst 1, 1) := by decide +kernel
theorem dX4_carryOut_88 : decode cX4_carryOut 88 = .ok (.aload_n 0, 1) := by decide +kernel
theorem dX4_carryOut_89 : decode cX4_carryOut 89 = .ok (.getfield 15, 3) := by decide +kernel
theorem dX4_carryOut_92 : decode cX4_carryOut 92 = .ok (.iconst 1, 1) := by decide +kernel
theorem dX4_carryOut_93 : decode cX4_carryOut 93 = .ok (.iaload, 1) := by decide +kernel
theorem dX4_carryOut_94 : decode cX4_carryOut 94 = .ok (.invokevirtual 67, 3) := by decide +kernel
theorem dX4_carryOut_97 : decode cX4_carryOut 97 = .ok (.goto 84, 3) := by decide +kernel
theorem dX4_carryOut_100 : decode cX4_carryOut 100 = .ok (.aload_n 1, 1) := by decide +kernel
theorem dX4_carryOut_101 : decode cX4_carryOut 101 = .ok (.aload_n 0, 1) := by decide +kernel
theorem dX4_carryOut_102 : decode cX4_carryOut 102 = .ok (.getfield 15, 3) := by decide +kernel
theorem dX4_carryOut_105 : decode cX4_carryOut 105 = .ok (.iconst 0, 1) := by decide +kernel
theorem dX4_carryOut_106 : decode cX4_carryOut 106 = .ok (.iaload, 1) := by decide +kernel
theorem dX4_carryOut_107 : decode cX4_carryOut 107 = .ok (.iconst 0, 1) := by decide +kernel
theorem dX4_carryOut_108 : decode cX4_carryOut 108 = .ok (.aload_n 0, 1) := by decide +kernel
theorem dX4_carryOut_109 : decode cX4_carryOut 109 = .ok (.getfield 15, 3) := by decide +kernel
theorem dX4_carryOut_112 : decode cX4_carryOut 112 = .ok (.iconst 1, 1) := by decide +kernel
theorem dX4_carryOut_113 : decode cX4_carryOut 113 = .ok (.iaload, 1) := by decide +kernel
theorem dX4_carryOut_114 : decode cX4_carryOut 114 = .ok (.invokevirtual 67, 3) := by decide +kernel
theorem dX4_carryOut_117 : decode cX4_carryOut 117 = .ok (.goto 64, 3) := by decide +kernel
theorem dX4_carryOut_120 : decode cX4_carryOut 120 = .ok (.aload_n 1, 1) := by decide +kernel
theorem dX4_carryOut_121 : decode cX4_carryOut 121 = .ok (.aload_n 0, 1) := by decide +kernel
theorem dX4_carryOut_122 : decode cX4_carryOut 122 = .ok (.getfield 15, 3) := by decide +kernel
theorem dX4_carryOut_125 : decode cX4_carryOut 125 = .ok (.iconst 0, 1) := by decide +kernel
theorem dX4_carryOut_126 : decode cX4_carryOut 126 = .ok (.iaload, 1) := by decide +kernel
theorem dX4_carryOut_127 : decode cX4_carryOut 127 = .ok (.aload_n 0, 1) := by decide +kernel
theorem dX4_carryOut_128 : decode cX4_carryOut 128 = .ok (.getfield 15, 3) := by decide +kernel
theorem dX4_carryOut_131 : decode cX4_carryOut 131 = .ok (.iconst 1, 1) := by decide +kernel
theorem dX4_carryOut_132 : decode cX4_carryOut 132 = .ok (.iaload, 1) := by decide +kernel
theorem dX4_carryOut_133 : decode cX4_carryOut 133 = .ok (.aload_n 0, 1) := by decide +kernel
theorem dX4_carryOut_134 : decode cX4_carryOut 134 = .ok (.getfield 15, 3) := by decide +kernel
theorem dX4_carryOut_137 : decode cX4_carryOut 137 = .ok (.iconst 2, 1) := by decide +kernel
theorem dX4_carryOut_138 : decode cX4_carryOut 138 = .ok (.iaload, 1) := by decide +kernel
theorem dX4_carryOut_139 : decode cX4_carryOut 139 = .ok (.invokevirtual 71, 3) := by decide +kernel
theorem dX4_carryOut_142 : decode cX4_carryOut 142 = .ok (.pop, 1) := by decide +kernel
theorem dX4_carryOut_143 : decode cX4_carryOut 143 = .ok (.goto 38, 3) := by decide +kernel
theorem dX4_carryOut_146 : decode cX4_carryOut 146 = .ok (.aload_n 1, 1) := by decide +kernel
theorem dX4_carryOut_147 : decode cX4_carryOut 147 = .ok (.aload_n 0, 1) := by decide +kernel
theorem dX4_carryOut_148 : decode cX4_carryOut 148 = .ok (.getfield 15, 3) := by decide +kernel
theorem dX4_carryOut_151 : decode cX4_carryOut 151 = .ok (.iconst 0, 1) := by decide +kernel
theorem dX4_carryOut_152 : decode cX4_carryOut 152 = .ok (.iaload, 1) := by decide +kernel
theorem dX4_carryOut_153 : decode cX4_carryOut 153 = .ok (.aload_n 0, 1) := by decide +kernel
theorem dX4_carryOut_154 : decode cX4_carryOut 154 = .ok (.getfield 15, 3) := by decide +kernel
theorem dX4_carryOut_157 : decode cX4_carryOut 157 = .ok (.iconst 1, 1) := by decide +kernel
theorem dX4_carryOut_158 : decode cX4_carryOut 158 = .ok (.iaload, 1) := by decide +kernel
theorem dX4_carryOut_159 : decode cX4_carryOut 159 = .ok (.iconst 1, 1) := by decide +kernel
theorem dX4_carryOut_160 : decode cX4_carryOut 160 = .ok (.iadd, 1) := by decide +kernel
theorem dX4_carryOut_161 : decode cX4_carryOut 161 = .ok (.invokevirtual 75, 3) := by decide +kernel
theorem dX4_carryOut_164 : decode cX4_carryOut 164 = .ok (.goto 17, 3) := by decide +kernel
theorem dX4_carryOut_167 : decode cX4_carryOut 167 = .ok (.aload_n 1, 1) := by decide +kernel
theorem dX4_carryOut_168 : decode cX4_carryOut 168 = .ok (.iload_n 2, 1) := by decide +kernel
theorem dX4_carryOut_169 : decode cX4_carryOut 169 = .ok (.iconst 1, 1) := by decide +kernel
theorem dX4_carryOut_170 : decode cX4_carryOut 170 = .ok (.isub, 1) := by decide +kernel
theorem dX4_carryOut_171 : decode cX4_carryOut 171 = .ok (.aload_n 0, 1) := by decide +kernel
theorem dX4_carryOut_172 : decode cX4_carryOut 172 = .ok (.getfield 15, 3) := by decide +kernel
theorem dX4_carryOut_175 : decode cX4_carryOut 175 = .ok (.iconst 0, 1) := by decide +kernel
theorem dX4_carryOut_176 : decode cX4_carryOut 176 = .ok (.iaload, 1) := by decide +kernel
theorem dX4_carryOut_177 : decode cX4_carryOut 177 = .ok (.invokevirtual 79, 3) := by decide +kernel
theorem dX4_carryOut_180 : decode cX4_carryOut 180 = .ok (.pop, 1) := by decide +kernel
theorem dX4_carryOut_181 : decode cX4_carryOut 181 = .ok (.return_, 1) := by decide +kernel
theorem dX4_step_0 : decode cX4_step 0 = .ok (.aload_n 0, 1) := by decide +kernel
theorem dX4_step_1 : decode cX4_step 1 = .ok (.aload_n 0, 1) := by decide +kernel
theorem dX4_step_2 : decode cX4_step 2 = .ok (.getfield 22, 3) := by decide +kernel
theorem dX4_step_5 : decode cX4_step 5 = .ok (.putfield 32, 3) := by decide +kernel
theorem dX4_step_8 : decode cX4_step 8 = .ok (.aload_n 0, 1) := by decide +kernel
theorem dX4_step_9 : decode cX4_step 9 = .ok (.getfield 32, 3) := by decide +kernel
theorem dX4_step_12 : decode cX4_step 12 = .ok (.aload_n 0, 1) := by decide +kernel
theorem dX4_step_13 : decode cX4_step 13 = .ok (.getfield 18, 3) := by decide +kernel
theorem dX4_step_16 : decode cX4_step 16 = .ok (.if_icmp .ge 29, 3) := by decide +kernel
theorem dX4_step_19 : decode cX4_step 19 = .ok (.aload_n 0, 1) := by decide +kernel
theorem dX4_step_20 : decode cX4_step 20 = .ok (.aload_n 0, 1) := by decide +kernel
theorem dX4_step_21 : decode cX4_step 21 = .ok (.getfield 32, 3) := by decide +kernel
theorem dX4_step_24 : decode cX4_step 24 = .ok (.invokevirtual 83, 3) := by decide +kernel
theorem dX4_step_27 : decode cX4_step 27 = .ok (.bipush 32, 2) := by decide +kernel
theorem dX4_step_29 : decode cX4_step 29 = .ok (.if_icmp .ne 16, 3) := by decide +kernel
theorem dX4_step_32 : decode cX4_step 32 = .ok (.aload_n 0, 1) := by decide +kernel
theorem dX4_step_33 : decode cX4_step 33 = .ok (.dup, 1) := by decide +kernel
theorem dX4_step_34 : decode cX4_step 34 = .ok (.getfield 32, 3) := by decide +kernel
theorem dX4_step_37 : decode cX4_step 37 = .ok (.iconst 1, 1) := by decide +kernel
theorem dX4_step_38 : decode cX4_step 38 = .ok (.iadd, 1) := by decide +kernel
theorem dX4_step_39 : decode cX4_step 39 = .ok (.putfield 32, 3) := by decide +kernel
theorem dX4_step_42 : decode cX4_step 42 = .ok (.goto (-34), 3) := by decide +kernel
theorem dX4_step_45 : decode cX4_step 45 = .ok (.aload_n 0, 1) := by decide +kernel
theorem dX4_step_46 : decode cX4_step 46 = .ok (.aload_n 0, 1) := by decide +kernel
theorem dX4_step_47 : decode cX4_step 47 = .ok (.aload_n 0, 1) := by decide +kernel
theorem dX4_step_48 : decode cX4_step 48 = .ok (.getfield 32, 3) := by decide +kernel
theorem dX4_step_51 : decode cX4_step 51 = .ok (.invokevirtual 83, 3) := by decide +kernel
theorem dX4_step_54 : decode cX4_step 54 = .ok (.invokestatic 86, 3) := by decide +kernel
theorem dX4_step_57 : decode cX4_step 57 = .ok (.putfield 35, 3) := by decide +kernel
theorem dX4_step_60 : decode cX4_step 60 = .ok (.aload_n 0, 1) := by decide +kernel
theorem dX4_step_61 : decode cX4_step 61 = .ok (.aload_n 0, 1) := by decide +kernel
theorem dX4_step_62 : decode cX4_step 62 = .ok (.getfield 32, 3) := by decide +kernel
theorem dX4_step_65 : decode cX4_step 65 = .ok (.putfield 22, 3) := by decide +kernel
theorem dX4_step_68 : decode cX4_step 68 = .ok (.aload_n 0, 1) := by decide +kernel
theorem dX4_step_69 : decode cX4_step 69 = .ok (.getfield 35, 3) := by decide +kernel
theorem dX4_step_72 : decode cX4_step 72 = .ok (.iconst 1, 1) := by decide +kernel
theorem dX4_step_73 : decode cX4_step 73 = .ok (.if_icmp .eq 11, 3) := by decide +kernel
theorem dX4_step_76 : decode cX4_step 76 = .ok (.aload_n 0, 1) := by decide +kernel
theorem dX4_step_77 : decode cX4_step 77 = .ok (.getfield 35, 3) := by decide +kernel
theorem dX4_step_80 : decode cX4_step 80 = .ok (.iconst 2, 1) := by decide +kernel
theorem dX4_step_81 : decode cX4_step 81 = .ok (.if_icmp .ne 45, 3) := by decide +kernel
theorem dX4_step_84 : decode cX4_step 84 = .ok (.aload_n 0, 1) := by decide +kernel
theorem dX4_step_85 : decode cX4_step 85 = .ok (.getfield 22, 3) := by decide +kernel
theorem dX4_step_88 : decode cX4_step 88 = .ok (.aload_n 0, 1) := by decide +kernel
theorem dX4_step_89 : decode cX4_step 89 = .ok (.getfield 18, 3) := by decide +kernel
theorem dX4_step_92 : decode cX4_step 92 = .ok (.if_icmp .ge 51, 3) := by decide +kernel
theorem dX4_step_95 : decode cX4_step 95 = .ok (.aload_n 0, 1) := by decide +kernel
theorem dX4_step_96 : decode cX4_step 96 = .ok (.aload_n 0, 1) := by decide +kernel
theorem dX4_step_97 : decode cX4_step 97 = .ok (.getfield 22, 3) := by decide +kernel
theorem dX4_step_100 : decode cX4_step 100 = .ok (.invokevirtual 83, 3) := by decide +kernel
theorem dX4_step_103 : decode cX4_step 103 = .ok (.invokestatic 86, 3) := by decide +kernel
theorem dX4_step_106 : decode cX4_step 106 = .ok (.aload_n 0, 1) := by decide +kernel
theorem dX4_step_107 : decode cX4_step 107 = .ok (.getfield 35, 3) := by decide +kernel
theorem dX4_step_110 : decode cX4_step 110 = .ok (.if_icmp .ne 33, 3) := by decide +kernel
theorem dX4_step_113 : decode cX4_step 113 = .ok (.aload_n 0, 1) := by decide +kernel
theorem dX4_step_114 : decode cX4_step 114 = .ok (.dup, 1) := by decide +kernel
theorem dX4_step_115 : decode cX4_step 115 = .ok (.getfield 22, 3) := by decide +kernel
theorem dX4_step_118 : decode cX4_step 118 = .ok (.iconst 1, 1) := by decide +kernel
theorem dX4_step_119 : decode cX4_step 119 = .ok (.iadd, 1) := by decide +kernel
theorem dX4_step_120 : decode cX4_step 120 = .ok (.putfield 22, 3) := by decide +kernel
theorem dX4_step_123 : decode cX4_step 123 = .ok (.goto (-39), 3) := by decide +kernel
theorem dX4_step_126 : decode cX4_step 126 = .ok (.aload_n 0, 1) := by decide +kernel
theorem dX4_step_127 : decode cX4_step 127 = .ok (.getfield 35, 3) := by decide +kernel
theorem dX4_step_130 : decode cX4_step 130 = .ok (.ifCond .eq 13, 3) := by decide +kernel
theorem dX4_step_133 : decode cX4_step 133 = .ok (.aload_n 0, 1) := by decide +kernel
theorem dX4_step_134 : decode cX4_step 134 = .ok (.dup, 1) := by decide +kernel
theorem dX4_step_135 : decode cX4_step 135 = .ok (.getfield 22, 3) := by decide +kernel
theorem dX4_step_138 : decode cX4_step 138 = .ok (.iconst 1, 1) := by decide +kernel
theorem dX4_step_139 : decode cX4_step 139 = .ok (.iadd, 1) := by decide +kernel
theorem dX4_step_140 : decode cX4_step 140 = .ok (.putfield 22, 3) := by decide +kernel
theorem dX4_step_143 : decode cX4_step 143 = .ok (.return_, 1) := by decide +kernel
theorem dX4_byteAt_0 : decode cX4_byteAt 0 = .ok (.iload_n 1, 1) := by decide +kernel
theorem dX4_byteAt_1 : decode cX4_byteAt 1 = .ok (.ifCond .lt 29, 3) := by decide +kernel
theorem dX4_byteAt_4 : decode cX4_byteAt 4 = .ok (.iload_n 1, 1) := by decide +kernel
theorem dX4_byteAt_5 : decode cX4_byteAt 5 = .ok (.aload_n 0, 1) := by decide +kernel
theorem dX4_byteAt_6 : decode cX4_byteAt 6 = .ok (.getfield 18, 3) := by decide +kernel
theorem dX4_byteAt_9 : decode cX4_byteAt 9 = .ok (.if_icmp .ge 21, 3) := by decide +kernel
theorem dX4_byteAt_12 : decode cX4_byteAt 12 = .ok (.iload_n 1, 1) := by decide +kernel
theorem dX4_byteAt_13 : decode cX4_byteAt 13 = .ok (.aload_n 0, 1) := by decide +kernel
theorem dX4_byteAt_14 : decode cX4_byteAt 14 = .ok (.getfield 9, 3) := by decide +kernel
theorem dX4_byteAt_17 : decode cX4_byteAt 17 = .ok (.arraylength, 1) := by decide +kernel
theorem dX4_byteAt_18 : decode cX4_byteAt 18 = .ok (.if_icmp .ge 12, 3) := by decide +kernel
theorem dX4_byteAt_21 : decode cX4_byteAt 21 = .ok (.aload_n 0, 1) := by decide +kernel
theorem dX4_byteAt_22 : decode cX4_byteAt 22 = .ok (.getfield 9, 3) := by decide +kernel
theorem dX4_byteAt_25 : decode cX4_byteAt 25 = .ok (.iload_n 1, 1) := by decide +kernel
theorem dX4_byteAt_26 : decode cX4_byteAt 26 = .ok (.iaload, 1) := by decide +kernel
theorem dX4_byteAt_27 : decode cX4_byteAt 27 = .ok (.goto 4, 3) := by decide +kernel
theorem dX4_byteAt_30 : decode cX4_byteAt 30 = .ok (.iconst (-1), 1) := by decide +kernel
theorem dX4_byteAt_31 : decode cX4_byteAt 31 = .ok (.ireturn, 1) := by decide +kernel
theorem dX4_sortOf_0 : decode cX4_sortOf 0 = .ok (.iload_n 0, 1) := by decide +kernel
theorem dX4_sortOf_1 : decode cX4_sortOf 1 = .ok (.iconst (-1), 1) := by decide +kernel
theorem dX4_sortOf_2 : decode cX4_sortOf 2 = .ok (.if_icmp .ne 5, 3) := by decide +kernel
theorem dX4_sortOf_5 : decode cX4_sortOf 5 = .ok (.iconst 0, 1) := by decide +kernel
theorem dX4_sortOf_6 : decode cX4_sortOf 6 = .ok (.ireturn, 1) := by decide +kernel
theorem dX4_sortOf_7 : decode cX4_sortOf 7 = .ok (.iload_n 0, 1) := by decide +kernel
theorem dX4_sortOf_8 : decode cX4_sortOf 8 = .ok (.bipush 97, 2) := by decide +kernel
theorem dX4_sortOf_10 : decode cX4_sortOf 10 = .ok (.if_icmp .lt 11, 3) := by decide +kernel
theorem dX4_sortOf_13 : decode cX4_sortOf 13 = .ok (.iload_n 0, 1) := by decide +kernel
theorem dX4_sortOf_14 : decode cX4_sortOf 14 = .ok (.bipush 122, 2) := by decide +kernel
theorem dX4_sortOf_16 : decode cX4_sortOf 16 = .ok (.if_icmp .gt 5, 3) := by decide +kernel
theorem dX4_sortOf_19 : decode cX4_sortOf 19 = .ok (.iconst 1, 1) := by decide +kernel
theorem dX4_sortOf_20 : decode cX4_sortOf 20 = .ok (.ireturn, 1) := by decide +kernel
theorem dX4_sortOf_21 : decode cX4_sortOf 21 = .ok (.iload_n 0, 1) := by decide +kernel
theorem dX4_sortOf_22 : decode cX4_sortOf 22 = .ok (.bipush 48, 2) := by decide +kernel
theorem dX4_sortOf_24 : decode cX4_sortOf 24 = .ok (.if_icmp .lt 11, 3) := by decide +kernel
theorem dX4_sortOf_27 : decode cX4_sortOf 27 = .ok (.iload_n 0, 1) := by decide +kernel
theorem dX4_sortOf_28 : decode cX4_sortOf 28 = .ok (.bipush 57, 2) := by decide +kernel
theorem dX4_sortOf_30 : decode cX4_sortOf 30 = .ok (.if_icmp .gt 5, 3) := by decide +kernel
theorem dX4_sortOf_33 : decode cX4_sortOf 33 = .ok (.iconst 2, 1) := by decide +kernel
theorem dX4_sortOf_34 : decode cX4_sortOf 34 = .ok (.ireturn, 1) := by decide +kernel
theorem dX4_sortOf_35 : decode cX4_sortOf 35 = .ok (.iload_n 0, 1) := by decide +kernel
theorem dX4_sortOf_36 : decode cX4_sortOf 36 = .ok (.bipush 59, 2) := by decide +kernel
theorem dX4_sortOf_38 : decode cX4_sortOf 38 = .ok (.if_icmp .ne 7, 3) := by decide +kernel
theorem dX4_sortOf_41 : decode cX4_sortOf 41 = .ok (.iconst 3, 1) := by decide +kernel
theorem dX4_sortOf_42 : decode cX4_sortOf 42 = .ok (.goto 4, 3) := by decide +kernel
theorem dX4_sortOf_45 : decode cX4_sortOf 45 = .ok (.iconst 4, 1) := by decide +kernel
theorem dX4_sortOf_46 : decode cX4_sortOf 46 = .ok (.ireturn, 1) := by decide +kernel
theorem dX4_valueOf_0 : decode cX4_valueOf 0 = .ok (.iconst 0, 1) := by decide +kernel
theorem dX4_valueOf_1 : decode cX4_valueOf 1 = .ok (.istore_n 1, 1) := by decide +kernel
theorem dX4_valueOf_2 : decode cX4_valueOf 2 = .ok (.aload_n 0, 1) := by decide +kernel
theorem dX4_valueOf_3 : decode cX4_valueOf 3 = .ok (.getfield 32, 3) := by decide +kernel
theorem dX4_valueOf_6 : decode cX4_valueOf 6 = .ok (.istore_n 2, 1) := by decide +kernel
theorem dX4_valueOf_7 : decode cX4_valueOf 7 = .ok (.iload_n 2, 1) := by decide +kernel
theorem dX4_valueOf_8 : decode cX4_valueOf 8 = .ok (.aload_n 0, 1) := by decide +kernel
theorem dX4_valueOf_9 : decode cX4_valueOf 9 = .ok (.getfield 22, 3) := by decide +kernel
theorem dX4_valueOf_12 : decode cX4_valueOf 12 = .ok (.if_icmp .ge 23, 3) := by decide +kernel
theorem dX4_valueOf_15 : decode cX4_valueOf 15 = .ok (.bipush 10, 2) := by decide +kernel
theorem dX4_valueOf_17 : decode cX4_valueOf 17 = .ok (.iload_n 1, 1) := by decide +kernel
theorem dX4_valueOf_18 : decode cX4_valueOf 18 = .ok (.imul, 1) := by decide +kernel
theorem dX4_valueOf_19 : decode cX4_valueOf 19 = .ok (.aload_n 0, 1) := by decide +kernel
theorem dX4_valueOf_20 : decode cX4_valueOf 20 = .ok (.iload_n 2, 1) := by decide +kernel
theorem dX4_valueOf_21 : decode cX4_valueOf 21 = .ok (.invokevirtual 83, 3) := by decide +kernel
theorem dX4_valueOf_24 : decode cX4_valueOf 24 = .ok (.iadd, 1) := by decide +kernel
theorem dX4_valueOf_25 : decode cX4_valueOf 25 = .ok (.bipush 48, 2) := by decide +kernel
theorem dX4_valueOf_27 : decode cX4_valueOf 27 = .ok (.isub, 1) := by decide +kernel
theorem dX4_valueOf_28 : decode cX4_valueOf 28 = .ok (.istore_n 1, 1) := by decide +kernel
theorem dX4_valueOf_29 : decode cX4_valueOf 29 = .ok (.iinc 2 1, 3) := by decide +kernel
theorem dX4_valueOf_32 : decode cX4_valueOf 32 = .ok (.goto (-25), 3) := by decide +kernel
theorem dX4_valueOf_35 : decode cX4_valueOf 35 = .ok (.iload_n 1, 1) := by decide +kernel
theorem dX4_valueOf_36 : decode cX4_valueOf 36 = .ok (.ireturn, 1) := by decide +kernel
theorem dX4_statementOf_0 : decode cX4_statementOf 0 = .ok (.aload_n 0, 1) := by decide +kernel
theorem dX4_statementOf_1 : decode cX4_statementOf 1 = .ok (.ldc 89, 2) := by decide +kernel
theorem dX4_statementOf_3 : decode cX4_statementOf 3 = .ok (.invokevirtual 91, 3) := by decide +kernel
theorem dX4_statementOf_6 : decode cX4_statementOf 6 = .ok (.ifCond .eq 5, 3) := by decide +kernel
theorem dX4_statementOf_9 : decode cX4_statementOf 9 = .ok (.iconst 0, 1) := by decide +kernel
theorem dX4_statementOf_10 : decode cX4_statementOf 10 = .ok (.ireturn, 1) := by decide +kernel
theorem dX4_statementOf_11 : decode cX4_statementOf 11 = .ok (.aload_n 0, 1) := by decide +kernel
theorem dX4_statementOf_12 : decode cX4_statementOf 12 = .ok (.ldc 95, 2) := by decide +kernel
theorem dX4_statementOf_14 : decode cX4_statementOf 14 = .ok (.invokevirtual 91, 3) := by decide +kernel
theorem dX4_statementOf_17 : decode cX4_statementOf 17 = .ok (.ifCond .eq 5, 3) := by decide +kernel
theorem dX4_statementOf_20 : decode cX4_statementOf 20 = .ok (.iconst 1, 1) := by decide +kernel
theorem dX4_statementOf_21 : decode cX4_statementOf 21 = .ok (.ireturn, 1) := by decide +kernel
theorem dX4_statementOf_22 : decode cX4_statementOf 22 = .ok (.aload_n 0, 1) := by decide +kernel
theorem dX4_statementOf_23 : decode cX4_statementOf 23 = .ok (.ldc 97, 2) := by decide +kernel
theorem dX4_statementOf_25 : decode cX4_statementOf 25 = .ok (.invokevirtual 91, 3) := by decide +kernel
theorem dX4_statementOf_28 : decode cX4_statementOf 28 = .ok (.ifCond .eq 5, 3) := by decide +kernel
theorem dX4_statementOf_31 : decode cX4_statementOf 31 = .ok (.iconst 2, 1) := by decide +kernel
theorem dX4_statementOf_32 : decode cX4_statementOf 32 = .ok (.ireturn, 1) := by decide +kernel
theorem dX4_statementOf_33 : decode cX4_statementOf 33 = .ok (.aload_n 0, 1) := by decide +kernel
theorem dX4_statementOf_34 : decode cX4_statementOf 34 = .ok (.ldc 99, 2) := by decide +kernel
theorem dX4_statementOf_36 : decode cX4_statementOf 36 = .ok (.invokevirtual 91, 3) := by decide +kernel
theorem dX4_statementOf_39 : decode cX4_statementOf 39 = .ok (.ifCond .eq 5, 3) := by decide +kernel
theorem dX4_statementOf_42 : decode cX4_statementOf 42 = .ok (.iconst 3, 1) := by decide +kernel
theorem dX4_statementOf_43 : decode cX4_statementOf 43 = .ok (.ireturn, 1) := by decide +kernel
theorem dX4_statementOf_44 : decode cX4_statementOf 44 = .ok (.aload_n 0, 1) := by decide +kernel
theorem dX4_statementOf_45 : decode cX4_statementOf 45 = .ok (.ldc 101, 2) := by decide +kernel
theorem dX4_statementOf_47 : decode cX4_statementOf 47 = .ok (.invokevirtual 91, 3) := by decide +kernel
theorem dX4_statementOf_50 : decode cX4_statementOf 50 = .ok (.ifCond .eq 5, 3) := by decide +kernel
theorem dX4_statementOf_53 : decode cX4_statementOf 53 = .ok (.iconst 4, 1) := by decide +kernel
theorem dX4_statementOf_54 : decode cX4_statementOf 54 = .ok (.ireturn, 1) := by decide +kernel
theorem dX4_statementOf_55 : decode cX4_statementOf 55 = .ok (.aload_n 0, 1) := by decide +kernel
theorem dX4_statementOf_56 : decode cX4_statementOf 56 = .ok (.ldc 103, 2) := by decide +kernel
theorem dX4_statementOf_58 : decode cX4_statementOf 58 = .ok (.invokevirtual 91, 3) := by decide +kernel
theorem dX4_statementOf_61 : decode cX4_statementOf 61 = .ok (.ifCond .eq 5, 3) := by decide +kernel
theorem dX4_statementOf_64 : decode cX4_statementOf 64 = .ok (.iconst 5, 1) := by decide +kernel
theorem dX4_statementOf_65 : decode cX4_statementOf 65 = .ok (.ireturn, 1) := by decide +kernel
theorem dX4_statementOf_66 : decode cX4_statementOf 66 = .ok (.aload_n 0, 1) := by decide +kernel
theorem dX4_statementOf_67 : decode cX4_statementOf 67 = .ok (.ldc 105, 2) := by decide +kernel
theorem dX4_statementOf_69 : decode cX4_statementOf 69 = .ok (.invokevirtual 91, 3) := by decide +kernel
theorem dX4_statementOf_72 : decode cX4_statementOf 72 = .ok (.ifCond .eq 6, 3) := by decide +kernel
theorem dX4_statementOf_75 : decode cX4_statementOf 75 = .ok (.bipush 6, 2) := by decide +kernel
theorem dX4_statementOf_77 : decode cX4_statementOf 77 = .ok (.ireturn, 1) := by decide +kernel
theorem dX4_statementOf_78 : decode cX4_statementOf 78 = .ok (.aload_n 0, 1) := by decide +kernel
theorem dX4_statementOf_79 : decode cX4_statementOf 79 = .ok (.ldc 107, 2) := by decide +kernel
theorem dX4_statementOf_81 : decode cX4_statementOf 81 = .ok (.invokevirtual 91, 3) := by decide +kernel
theorem dX4_statementOf_84 : decode cX4_statementOf 84 = .ok (.ifCond .eq 8, 3) := by decide +kernel
theorem dX4_statementOf_87 : decode cX4_statementOf 87 = .ok (.bipush 7, 2) := by decide +kernel
theorem dX4_statementOf_89 : decode cX4_statementOf 89 = .ok (.goto 4, 3) := by decide +kernel
theorem dX4_statementOf_92 : decode cX4_statementOf 92 = .ok (.iconst (-1), 1) := by decide +kernel
theorem dX4_statementOf_93 : decode cX4_statementOf 93 = .ok (.ireturn, 1) := by decide +kernel
theorem dX4_isWord_0 : decode cX4_isWord 0 = .ok (.aload_n 0, 1) := by decide +kernel
theorem dX4_isWord_1 : decode cX4_isWord 1 = .ok (.getfield 22, 3) := by decide +kernel
theorem dX4_isWord_4 : decode cX4_isWord 4 = .ok (.aload_n 0, 1) := by decide +kernel
theorem dX4_isWord_5 : decode cX4_isWord 5 = .ok (.getfield 32, 3) := by decide +kernel
theorem dX4_isWord_8 : decode cX4_isWord 8 = .ok (.isub, 1) := by decide +kernel
theorem dX4_isWord_9 : decode cX4_isWord 9 = .ok (.aload_n 1, 1) := by decide +kernel
theorem dX4_isWord_10 : decode cX4_isWord 10 = .ok (.invokevirtual 109, 3) := by decide +kernel
theorem dX4_isWord_13 : decode cX4_isWord 13 = .ok (.if_icmp .eq 5, 3) := by decide +kernel
theorem dX4_isWord_16 : decode cX4_isWord 16 = .ok (.iconst 0, 1) := by decide +kernel
theorem dX4_isWord_17 : decode cX4_isWord 17 = .ok (.ireturn, 1) := by decide +kernel
theorem dX4_isWord_18 : decode cX4_isWord 18 = .ok (.iconst 0, 1) := by decide +kernel
theorem dX4_isWord_19 : decode cX4_isWord 19 = .ok (.istore_n 2, 1) := by decide +kernel
theorem dX4_isWord_20 : decode cX4_isWord 20 = .ok (.iload_n 2, 1) := by decide +kernel
theorem dX4_isWord_21 : decode cX4_isWord 21 = .ok (.aload_n 1, 1) := by decide +kernel
theorem dX4_isWord_22 : decode cX4_isWord 22 = .ok (.invokevirtual 109, 3) := by decide +kernel
theorem dX4_isWord_25 : decode cX4_isWord 25 = .ok (.if_icmp .ge 29, 3) := by decide +kernel
theorem dX4_isWord_28 : decode cX4_isWord 28 = .ok (.aload_n 0, 1) := by decide +kernel
theorem dX4_isWord_29 : decode cX4_isWord 29 = .ok (.aload_n 0, 1) := by decide +kernel
theorem dX4_isWord_30 : decode cX4_isWord 30 = .ok (.getfield 32, 3) := by decide +kernel
theorem dX4_isWord_33 : decode cX4_isWord 33 = .ok (.iload_n 2, 1) := by decide +kernel
theorem dX4_isWord_34 : decode cX4_isWord 34 = .ok (.iadd, 1) := by decide +kernel
theorem dX4_isWord_35 : decode cX4_isWord 35 = .ok (.invokevirtual 83, 3) := by decide +kernel
theorem dX4_isWord_38 : decode cX4_isWord 38 = .ok (.aload_n 1, 1) := by decide +kernel
theorem dX4_isWord_39 : decode cX4_isWord 39 = .ok (.iload_n 2, 1) := by decide +kernel
theorem dX4_isWord_40 : decode cX4_isWord 40 = .ok (.invokevirtual 114, 3) := by decide +kernel
theorem dX4_isWord_43 : decode cX4_isWord 43 = .ok (.if_icmp .eq 5, 3) := by decide +kernel
theorem dX4_isWord_46 : decode cX4_isWord 46 = .ok (.iconst 0, 1) := by decide +kernel
theorem dX4_isWord_47 : decode cX4_isWord 47 = .ok (.ireturn, 1) := by decide +kernel
theorem dX4_isWord_48 : decode cX4_isWord 48 = .ok (.iinc 2 1, 3) := by decide +kernel
theorem dX4_isWord_51 : decode cX4_isWord 51 = .ok (.goto (-31), 3) := by decide +kernel
theorem dX4_isWord_54 : decode cX4_isWord 54 = .ok (.iconst 1, 1) := by decide +kernel
theorem dX4_isWord_55 : decode cX4_isWord 55 = .ok (.ireturn, 1) := by decide +kernel
theorem dX5_init_0 : decode cX5_init 0 = .ok (.aload_n 0, 1) := by decide +kernel
theorem dX5_init_1 : decode cX5_init 1 = .ok (.invokespecial 3, 3) := by decide +kernel
theorem dX5_init_4 : decode cX5_init 4 = .ok (.aload_n 0, 1) := by decide +kernel
theorem dX5_init_5 : decode cX5_init 5 = .ok (.bipush 14, 2) := by decide +kernel
theorem dX5_init_7 : decode cX5_init 7 = .ok (.newarray .int, 2) := by decide +kernel
theorem dX5_init_9 : decode cX5_init 9 = .ok (.putfield 9, 3) := by decide +kernel
theorem dX5_init_12 : decode cX5_init 12 = .ok (.aload_n 0, 1) := by decide +kernel
theorem dX5_init_13 : decode cX5_init 13 = .ok (.bipush 14, 2) := by decide +kernel
theorem dX5_init_15 : decode cX5_init 15 = .ok (.newarray .int, 2) := by decide +kernel
theorem dX5_init_17 : decode cX5_init 17 = .ok (.putfield 15, 3) := by decide +kernel
theorem dX5_init_20 : decode cX5_init 20 = .ok (.return_, 1) := by decide +kernel
theorem dX5_weigh_0 : decode cX5_weigh 0 = .ok (.aload_n 0, 1) := by decide +kernel
theorem dX5_weigh_1 : decode cX5_weigh 1 = .ok (.aload_n 1, 1) := by decide +kernel
theorem dX5_weigh_2 : decode cX5_weigh 2 = .ok (.getfield 18, 3) := by decide +kernel
theorem dX5_weigh_5 : decode cX5_weigh 5 = .ok (.getfield 24, 3) := by decide +kernel
theorem dX5_weigh_8 : decode cX5_weigh 8 = .ok (.bipush 14, 2) := by decide +kernel
theorem dX5_weigh_10 : decode cX5_weigh 10 = .ok (.invokestatic 30, 3) := by decide +kernel
theorem dX5_weigh_13 : decode cX5_weigh 13 = .ok (.putfield 36, 3) := by decide +kernel
theorem dX5_weigh_16 : decode cX5_weigh 16 = .ok (.iconst 0, 1) := by decide +kernel
theorem dX5_weigh_17 : decode cX5_weigh 17 = .ok (.istore_n 2, 1) := by decide +kernel
theorem dX5_weigh_18 : decode cX5_weigh 18 = .ok (.iload_n 2, 1) := by decide +kernel
theorem dX5_weigh_19 : decode cX5_weigh 19 = .ok (.aload_n 0, 1) := by decide +kernel
theorem dX5_weigh_20 : decode cX5_weigh 20 = .ok (.getfield 36, 3) := by decide +kernel
theorem dX5_weigh_23 : decode cX5_weigh 23 = .ok (.if_icmp .ge 39, 3) := by decide +kernel
theorem dX5_weigh_26 : decode cX5_weigh 26 = .ok (.aload_n 0, 1) := by decide +kernel
theorem dX5_weigh_27 : decode cX5_weigh 27 = .ok (.getfield 9, 3) := by decide +kernel
theorem dX5_weigh_30 : decode cX5_weigh 30 = .ok (.iload_n 2, 1) := by decide +kernel
theorem dX5_weigh_31 : decode cX5_weigh 31 = .ok (.aload_n 1, 1) := by decide +kernel
theorem dX5_weigh_32 : decode cX5_weigh 32 = .ok (.iload_n 2, 1) := by decide +kernel
theorem dX5_weigh_33 : decode cX5_weigh 33 = .ok (.aload_n 1, 1) := by decide +kernel
theorem dX5_weigh_34 : decode cX5_weigh 34 = .ok (.getfield 38, 3) := by decide +kernel
theorem dX5_weigh_37 : decode cX5_weigh 37 = .ok (.invokevirtual 41, 3) := by decide +kernel
theorem dX5_weigh_40 : decode cX5_weigh 40 = .ok (.iastore, 1) := by decide +kernel
theorem dX5_weigh_41 : decode cX5_weigh 41 = .ok (.aload_n 0, 1) := by decide +kernel
theorem dX5_weigh_42 : decode cX5_weigh 42 = .ok (.getfield 15, 3) := by decide +kernel
theorem dX5_weigh_45 : decode cX5_weigh 45 = .ok (.iload_n 2, 1) := by decide +kernel
theorem dX5_weigh_46 : decode cX5_weigh 46 = .ok (.aload_n 1, 1) := by decide +kernel
theorem dX5_weigh_47 : decode cX5_weigh 47 = .ok (.getfield 18, 3) := by decide +kernel
theorem dX5_weigh_50 : decode cX5_weigh 50 = .ok (.iload_n 2, 1) := by decide +kernel
theorem dX5_weigh_51 : decode cX5_weigh 51 = .ok (.iconst 4, 1) := by decide +kernel
theorem dX5_weigh_52 : decode cX5_weigh 52 = .ok (.invokevirtual 44, 3) := by decide +kernel
theorem dX5_weigh_55 : decode cX5_weigh 55 = .ok (.iastore, 1) := by decide +kernel
theorem dX5_weigh_56 : decode cX5_weigh 56 = .ok (.iinc 2 1, 3) := by decide +kernel
theorem dX5_weigh_59 : decode cX5_weigh 59 = .ok (.goto (-41), 3) := by decide +kernel
theorem dX5_weigh_62 : decode cX5_weigh 62 = .ok (.aload_n 0, 1) := by decide +kernel
theorem dX5_weigh_63 : decode cX5_weigh 63 = .ok (.aload_n 1, 1) := by decide +kernel
theorem dX5_weigh_64 : decode cX5_weigh 64 = .ok (.iconst (-1), 1) := by decide +kernel
theorem dX5_weigh_65 : decode cX5_weigh 65 = .ok (.aload_n 1, 1) := by decide +kernel
theorem dX5_weigh_66 : decode cX5_weigh 66 = .ok (.getfield 38, 3) := by decide +kernel
theorem dX5_weigh_69 : decode cX5_weigh 69 = .ok (.invokevirtual 41, 3) := by decide +kernel
theorem dX5_weigh_72 : decode cX5_weigh 72 = .ok (.putfield 47, 3) := by decide +kernel
theorem dX5_weigh_75 : decode cX5_weigh 75 = .ok (.iconst 0, 1) := by decide +kernel
theorem dX5_weigh_76 : decode cX5_weigh 76 = .ok (.istore_n 2, 1) := by decide +kernel
theorem dX5_weigh_77 : decode cX5_weigh 77 = .ok (.iload_n 2, 1) := by decide +kernel
theorem dX5_weigh_78 : decode cX5_weigh 78 = .ok (.aload_n 1, 1) := by decide +kernel
theorem dX5_weigh_79 : decode cX5_weigh 79 = .ok (.getfield 50, 3) := by decide +kernel
theorem dX5_weigh_82 : decode cX5_weigh 82 = .ok (.getfield 24, 3) := by decide +kernel
theorem dX5_weigh_85 : decode cX5_weigh 85 = .ok (.if_icmp .ge 49, 3) := by decide +kernel
theorem dX5_weigh_88 : decode cX5_weigh 88 = .ok (.aload_n 0, 1) := by decide +kernel
theorem dX5_weigh_89 : decode cX5_weigh 89 = .ok (.aload_n 1, 1) := by decide +kernel
theorem dX5_weigh_90 : decode cX5_weigh 90 = .ok (.getfield 50, 3) := by decide +kernel
theorem dX5_weigh_93 : decode cX5_weigh 93 = .ok (.iload_n 2, 1) := by decide +kernel
theorem dX5_weigh_94 : decode cX5_weigh 94 = .ok (.iconst 0, 1) := by decide +kernel
theorem dX5_weigh_95 : decode cX5_weigh 95 = .ok (.invokevirtual 44, 3) := by decide +kernel
theorem dX5_weigh_98 : decode cX5_weigh 98 = .ok (.aload_n 1, 1) := by decide +kernel
theorem dX5_weigh_99 : decode cX5_weigh 99 = .ok (.getfield 50, 3) := by decide +kernel
theorem dX5_weigh_102 : decode cX5_weigh 102 = .ok (.iload_n 2, 1) := by decide +kernel
theorem dX5_weigh_103 : decode cX5_weigh 103 = .ok (.iconst 1, 1) := by decide +kernel
theorem dX5_weigh_104 : decode cX5_weigh 104 = .ok (.invokevirtual 44, 3) := by decide +kernel
theorem dX5_weigh_107 : decode cX5_weigh 107 = .ok (.iconst 1, 1) := by decide +kernel
theorem dX5_weigh_108 : decode cX5_weigh 108 = .ok (.if_icmp .ne 7, 3) := by decide +kernel
theorem dX5_weigh_111 : decode cX5_weigh 111 = .ok (.iconst 1, 1) := by decide +kernel
theorem dX5_weigh_112 : decode cX5_weigh 112 = .ok (.goto 4, 3) := by decide +kernel
theorem dX5_weigh_115 : decode cX5_weigh 115 = .ok (.iconst 0, 1) := by decide +kernel
theorem dX5_weigh_116 : decode cX5_weigh 116 = .ok (.aload_n 1, 1) := by decide +kernel
theorem dX5_weigh_117 : decode cX5_weigh 117 = .ok (.getfield 50, 3) := by decide +kernel
theorem dX5_weigh_120 : decode cX5_weigh 120 = .ok (.iload_n 2, 1) := by decide +kernel
theorem dX5_weigh_121 : decode cX5_weigh 121 = .ok (.iconst 2, 1) := by decide +kernel
theorem dX5_weigh_122 : decode cX5_weigh 122 = .ok (.invokevirtual 44, 3) := by decide +kernel
theorem dX5_weigh_125 : decode cX5_weigh 125 = .ok (.invokevirtual 53, 3) := by decide +kernel
theorem dX5_weigh_128 : decode cX5_weigh 128 = .ok (.iinc 2 1, 3) := by decide +kernel
theorem dX5_weigh_131 : decode cX5_weigh 131 = .ok (.goto (-54), 3) := by decide +kernel
theorem dX5_weigh_134 : decode cX5_weigh 134 = .ok (.return_, 1) := by decide +kernel
theorem dX5_heed_0 : decode cX5_heed 0 = .ok (.bipush 100, 2) := by decide +kernel
theorem dX5_heed_2 : decode cX5_heed 2 = .ok (.iload_n 3, 1) := by decide +kernel
theorem dX5_heed_3 : decode cX5_heed 3 = .ok (.isub, 1) := by decide +kernel
theorem dX5_heed_4 : decode cX5_heed 4 = .ok (.istore 4, 2) := by decide +kernel
theorem dX5_heed_6 : decode cX5_heed 6 = .ok (.iconst 0, 1) := by decide +kernel
theorem dX5_heed_7 : decode cX5_heed 7 = .ok (.istore 5, 2) := by decide +kernel
theorem dX5_heed_9 : decode cX5_heed 9 = .ok (.iload 5, 2) := by decide +kernel
theorem dX5_heed_11 : decode cX5_heed 11 = .ok (.aload_n 0, 1) := by decide +kernel
theorem dX5_heed_12 : decode cX5_heed 12 = .ok (.getfield 36, 3) := by decide +kernel
theorem dX5_heed_15 : decode cX5_heed 15 = .ok (.if_icmp .ge 44, 3) := by decide +kernel
theorem dX5_heed_18 : decode cX5_heed 18 = .ok (.iload_n 2, 1) := by decide +kernel
theorem dX5_heed_19 : decode cX5_heed 19 = .ok (.iload 5, 2) := by decide +kernel
theorem dX5_heed_21 : decode cX5_heed 21 = .ok (.iload_n 1, 1) := by decide +kernel
theorem dX5_heed_22 : decode cX5_heed 22 = .ok (.if_icmp .gt 7, 3) := by decide +kernel
theorem dX5_heed_25 : decode cX5_heed 25 = .ok (.iconst 1, 1) := by decide +kernel
theorem dX5_heed_26 : decode cX5_heed 26 = .ok (.goto 4, 3) := by decide +kernel
theorem dX5_heed_29 : decode cX5_heed 29 = .ok (.iconst 0, 1) := by decide +kernel
theorem dX5_heed_30 : decode cX5_heed 30 = .ok (.if_icmp .ne 23, 3) := by decide +kernel
theorem dX5_heed_33 : decode cX5_heed 33 = .ok (.aload_n 0, 1) := by decide +kernel
theorem dX5_heed_34 : decode cX5_heed 34 = .ok (.getfield 9, 3) := by decide +kernel
theorem dX5_heed_37 : decode cX5_heed 37 = .ok (.iload 5, 2) := by decide +kernel
theorem dX5_heed_39 : decode cX5_heed 39 = .ok (.aload_n 0, 1) := by decide +kernel
theorem dX5_heed_40 : decode cX5_heed 40 = .ok (.getfield 9, 3) := by decide +kernel
theorem dX5_heed_43 : decode cX5_heed 43 = .ok (.iload 5, 2) := by decide +kernel
theorem dX5_heed_45 : decode cX5_heed 45 = .ok (.iaload, 1) := by decide +kernel
theorem dX5_heed_46 : decode cX5_heed 46 = .ok (.iload 4, 2) := by decide +kernel
theorem dX5_heed_48 : decode cX5_heed 48 = .ok (.imul, 1) := by decide +kernel
theorem dX5_heed_49 : decode cX5_heed 49 = .ok (.bipush 100, 2) := by decide +kernel
theorem dX5_heed_51 : decode cX5_heed 51 = .ok (.idiv, 1) := by decide +kernel
theorem dX5_heed_52 : decode cX5_heed 52 = .ok (.iastore, 1) := by decide +kernel
theorem dX5_heed_53 : decode cX5_heed 53 = .ok (.iinc 5 1, 3) := by decide +kernel
theorem dX5_heed_56 : decode cX5_heed 56 = .ok (.goto (-47), 3) := by decide +kernel
theorem dX5_heed_59 : decode cX5_heed 59 = .ok (.iload_n 2, 1) := by decide +kernel
theorem dX5_heed_60 : decode cX5_heed 60 = .ok (.ifCond .ne 17, 3) := by decide +kernel
theorem dX5_heed_63 : decode cX5_heed 63 = .ok (.aload_n 0, 1) := by decide +kernel
theorem dX5_heed_64 : decode cX5_heed 64 = .ok (.aload_n 0, 1) := by decide +kernel
theorem dX5_heed_65 : decode cX5_heed 65 = .ok (.getfield 47, 3) := by decide +kernel
theorem dX5_heed_68 : decode cX5_heed 68 = .ok (.iload 4, 2) := by decide +kernel
theorem dX5_heed_70 : decode cX5_heed 70 = .ok (.imul, 1) := by decide +kernel
theorem dX5_heed_71 : decode cX5_heed 71 = .ok (.bipush 100, 2) := by decide +kernel
theorem dX5_heed_73 : decode cX5_heed 73 = .ok (.idiv, 1) := by decide +kernel
theorem dX5_heed_74 : decode cX5_heed 74 = .ok (.putfield 47, 3) := by decide +kernel
theorem dX5_heed_77 : decode cX5_heed 77 = .ok (.return_, 1) := by decide +kernel
theorem dX5_at_0 : decode cX5_at 0 = .ok (.iload_n 1, 1) := by decide +kernel
theorem dX5_at_1 : decode cX5_at 1 = .ok (.iconst (-1), 1) := by decide +kernel
theorem dX5_at_2 : decode cX5_at 2 = .ok (.if_icmp .ne 8, 3) := by decide +kernel
theorem dX5_at_5 : decode cX5_at 5 = .ok (.aload_n 0, 1) := by decide +kernel
theorem dX5_at_6 : decode cX5_at 6 = .ok (.getfield 47, 3) := by decide +kernel
theorem dX5_at_9 : decode cX5_at 9 = .ok (.ireturn, 1) := by decide +kernel
theorem dX5_at_10 : decode cX5_at 10 = .ok (.iload_n 1, 1) := by decide +kernel
theorem dX5_at_11 : decode cX5_at 11 = .ok (.ifCond .lt 30, 3) := by decide +kernel
theorem dX5_at_14 : decode cX5_at 14 = .ok (.iload_n 1, 1) := by decide +kernel
theorem dX5_at_15 : decode cX5_at 15 = .ok (.aload_n 0, 1) := by decide +kernel
theorem dX5_at_16 : decode cX5_at 16 = .ok (.getfield 36, 3) := by decide +kernel
theorem dX5_at_19 : decode cX5_at 19 = .ok (.if_icmp .ge 22, 3) := by decide +kernel
theorem dX5_at_22 : decode cX5_at 22 = .ok (.aload_n 0, 1) := by decide +kernel
theorem dX5_at_23 : decode cX5_at 23 = .ok (.getfield 9, 3) := by decide +kernel
theorem dX5_at_26 : decode cX5_at 26 = .ok (.iload_n 1, 1) := by decide +kernel
theorem dX5_at_27 : decode cX5_at 27 = .ok (.iaload, 1) := by decide +kernel
theorem dX5_at_28 : decode cX5_at 28 = .ok (.aload_n 0, 1) := by decide +kernel
theorem dX5_at_29 : decode cX5_at 29 = .ok (.getfield 15, 3) := by decide +kernel
theorem dX5_at_32 : decode cX5_at 32 = .ok (.iload_n 1, 1) := by decide +kernel
theorem dX5_at_33 : decode cX5_at 33 = .ok (.iaload, 1) := by decide +kernel
theorem dX5_at_34 : decode cX5_at 34 = .ok (.imul, 1) := by decide +kernel
theorem dX5_at_35 : decode cX5_at 35 = .ok (.bipush 100, 2) := by decide +kernel
theorem dX5_at_37 : decode cX5_at 37 = .ok (.idiv, 1) := by decide +kernel
theorem dX5_at_38 : decode cX5_at 38 = .ok (.goto 4, 3) := by decide +kernel
theorem dX5_at_41 : decode cX5_at 41 = .ok (.iconst 0, 1) := by decide +kernel
theorem dX5_at_42 : decode cX5_at 42 = .ok (.ireturn, 1) := by decide +kernel
theorem dX5_sum_0 : decode cX5_sum 0 = .ok (.iconst 0, 1) := by decide +kernel
theorem dX5_sum_1 : decode cX5_sum 1 = .ok (.istore_n 3, 1) := by decide +kernel
theorem dX5_sum_2 : decode cX5_sum 2 = .ok (.iconst 0, 1) := by decide +kernel
theorem dX5_sum_3 : decode cX5_sum 3 = .ok (.iload_n 1, 1) := by decide +kernel
theorem dX5_sum_4 : decode cX5_sum 4 = .ok (.invokestatic 57, 3) := by decide +kernel
theorem dX5_sum_7 : decode cX5_sum 7 = .ok (.istore 4, 2) := by decide +kernel
theorem dX5_sum_9 : decode cX5_sum 9 = .ok (.iload 4, 2) := by decide +kernel
theorem dX5_sum_11 : decode cX5_sum 11 = .ok (.iload_n 2, 1) := by decide +kernel
theorem dX5_sum_12 : decode cX5_sum 12 = .ok (.if_icmp .gt 27, 3) := by decide +kernel
theorem dX5_sum_15 : decode cX5_sum 15 = .ok (.iload 4, 2) := by decide +kernel
theorem dX5_sum_17 : decode cX5_sum 17 = .ok (.aload_n 0, 1) := by decide +kernel
theorem dX5_sum_18 : decode cX5_sum 18 = .ok (.getfield 36, 3) := by decide +kernel
theorem dX5_sum_21 : decode cX5_sum 21 = .ok (.if_icmp .ge 18, 3) := by decide +kernel
theorem dX5_sum_24 : decode cX5_sum 24 = .ok (.iload_n 3, 1) := by decide +kernel
theorem dX5_sum_25 : decode cX5_sum 25 = .ok (.aload_n 0, 1) := by decide +kernel
theorem dX5_sum_26 : decode cX5_sum 26 = .ok (.iload 4, 2) := by decide +kernel
theorem dX5_sum_28 : decode cX5_sum 28 = .ok (.invokevirtual 60, 3) := by decide +kernel
theorem dX5_sum_31 : decode cX5_sum 31 = .ok (.iadd, 1) := by decide +kernel
theorem dX5_sum_32 : decode cX5_sum 32 = .ok (.istore_n 3, 1) := by decide +kernel
theorem dX5_sum_33 : decode cX5_sum 33 = .ok (.iinc 4 1, 3) := by decide +kernel
theorem dX5_sum_36 : decode cX5_sum 36 = .ok (.goto (-27), 3) := by decide +kernel
theorem dX5_sum_39 : decode cX5_sum 39 = .ok (.iload_n 3, 1) := by decide +kernel
theorem dX5_sum_40 : decode cX5_sum 40 = .ok (.ireturn, 1) := by decide +kernel
theorem dX5_all_0 : decode cX5_all 0 = .ok (.aload_n 0, 1) := by decide +kernel
theorem dX5_all_1 : decode cX5_all 1 = .ok (.iconst 0, 1) := by decide +kernel
theorem dX5_all_2 : decode cX5_all 2 = .ok (.aload_n 0, 1) := by decide +kernel
theorem dX5_all_3 : decode cX5_all 3 = .ok (.getfield 36, 3) := by decide +kernel
theorem dX5_all_6 : decode cX5_all 6 = .ok (.iconst 1, 1) := by decide +kernel
theorem dX5_all_7 : decode cX5_all 7 = .ok (.isub, 1) := by decide +kernel
theorem dX5_all_8 : decode cX5_all 8 = .ok (.invokevirtual 63, 3) := by decide +kernel
theorem dX5_all_11 : decode cX5_all 11 = .ok (.aload_n 0, 1) := by decide +kernel
theorem dX5_all_12 : decode cX5_all 12 = .ok (.getfield 47, 3) := by decide +kernel
theorem dX5_all_15 : decode cX5_all 15 = .ok (.iadd, 1) := by decide +kernel
theorem dX5_all_16 : decode cX5_all 16 = .ok (.ireturn, 1) := by decide +kernel
theorem dX5_greatestBut_0 : decode cX5_greatestBut 0 = .ok (.iconst (-1), 1) := by decide +kernel
theorem dX5_greatestBut_1 : decode cX5_greatestBut 1 = .ok (.istore_n 2, 1) := by decide +kernel
theorem dX5_greatestBut_2 : decode cX5_greatestBut 2 = .ok (.iconst 0, 1) := by decide +kernel
theorem dX5_greatestBut_3 : decode cX5_greatestBut 3 = .ok (.istore_n 3, 1) := by decide +kernel
theorem dX5_greatestBut_4 : decode cX5_greatestBut 4 = .ok (.iload_n 3, 1) := by decide +kernel
theorem dX5_greatestBut_5 : decode cX5_greatestBut 5 = .ok (.aload_n 0, 1) := by decide +kernel
theorem dX5_greatestBut_6 : decode cX5_greatestBut 6 = .ok (.getfield 36, 3) := by decide +kernel
theorem dX5_greatestBut_9 : decode cX5_greatestBut 9 = .ok (.if_icmp .ge 37, 3) := by decide +kernel
theorem dX5_greatestBut_12 : decode cX5_greatestBut 12 = .ok (.iload_n 1, 1) := by decide +kernel
theorem dX5_greatestBut_13 : decode cX5_greatestBut 13 = .ok (.iload_n 3, 1) := by decide +kernel
theorem dX5_greatestBut_14 : decode cX5_greatestBut 14 = .ok (.invokestatic 66, 3) := by decide +kernel
theorem dX5_greatestBut_17 : decode cX5_greatestBut 17 = .ok (.ifCond .ne 23, 3) := by decide +kernel
theorem dX5_greatestBut_20 : decode cX5_greatestBut 20 = .ok (.iload_n 2, 1) := by decide +kernel
theorem dX5_greatestBut_21 : decode cX5_greatestBut 21 = .ok (.iconst (-1), 1) := by decide +kernel
theorem dX5_greatestBut_22 : decode cX5_greatestBut 22 = .ok (.if_icmp .eq 16, 3) := by decide +kernel
theorem dX5_greatestBut_25 : decode cX5_greatestBut 25 = .ok (.aload_n 0, 1) := by decide +kernel
theorem dX5_greatestBut_26 : decode cX5_greatestBut 26 = .ok (.iload_n 3, 1) := by decide +kernel
theorem dX5_greatestBut_27 : decode cX5_greatestBut 27 = .ok (.invokevirtual 60, 3) := by decide +kernel
theorem dX5_greatestBut_30 : decode cX5_greatestBut 30 = .ok (.aload_n 0, 1) := by decide +kernel
theorem dX5_greatestBut_31 : decode cX5_greatestBut 31 = .ok (.iload_n 2, 1) := by decide +kernel
theorem dX5_greatestBut_32 : decode cX5_greatestBut 32 = .ok (.invokevirtual 60, 3) := by decide +kernel
theorem dX5_greatestBut_35 : decode cX5_greatestBut 35 = .ok (.if_icmp .le 5, 3) := by decide +kernel
theorem dX5_greatestBut_38 : decode cX5_greatestBut 38 = .ok (.iload_n 3, 1) := by decide +kernel
theorem dX5_greatestBut_39 : decode cX5_greatestBut 39 = .ok (.istore_n 2, 1) := by decide +kernel
theorem dX5_greatestBut_40 : decode cX5_greatestBut 40 = .ok (.iinc 3 1, 3) := by decide +kernel
theorem dX5_greatestBut_43 : decode cX5_greatestBut 43 = .ok (.goto (-39), 3) := by decide +kernel
theorem dX5_greatestBut_46 : decode cX5_greatestBut 46 = .ok (.iload_n 2, 1) := by decide +kernel
theorem dX5_greatestBut_47 : decode cX5_greatestBut 47 = .ok (.ireturn, 1) := by decide +kernel
theorem dX5_fewestFor_0 : decode cX5_fewestFor 0 = .ok (.iload_n 1, 1) := by decide +kernel
theorem dX5_fewestFor_1 : decode cX5_fewestFor 1 = .ok (.i2l, 1) := by decide +kernel
theorem dX5_fewestFor_2 : decode cX5_fewestFor 2 = .ok (.aload_n 0, 1) := by decide +kernel
theorem dX5_fewestFor_3 : decode cX5_fewestFor 3 = .ok (.iconst 0, 1) := by decide +kernel
theorem dX5_fewestFor_4 : decode cX5_fewestFor 4 = .ok (.aload_n 0, 1) := by decide +kernel
theorem dX5_fewestFor_5 : decode cX5_fewestFor 5 = .ok (.getfield 36, 3) := by decide +kernel
theorem dX5_fewestFor_8 : decode cX5_fewestFor 8 = .ok (.iconst 1, 1) := by decide +kernel
theorem dX5_fewestFor_9 : decode cX5_fewestFor 9 = .ok (.isub, 1) := by decide +kernel
theorem dX5_fewestFor_10 : decode cX5_fewestFor 10 = .ok (.invokevirtual 63, 3) := by decide +kernel
theorem dX5_fewestFor_13 : decode cX5_fewestFor 13 = .ok (.i2l, 1) := by decide +kernel
theorem dX5_fewestFor_14 : decode cX5_fewestFor 14 = .ok (.lmul, 1) := by decide +kernel
theorem dX5_fewestFor_15 : decode cX5_fewestFor 15 = .ok (.lstore_n 2, 1) := by decide +kernel
theorem dX5_fewestFor_16 : decode cX5_fewestFor 16 = .ok (.lconst 0, 1) := by decide +kernel
theorem dX5_fewestFor_17 : decode cX5_fewestFor 17 = .ok (.lstore 4, 2) := by decide +kernel
theorem dX5_fewestFor_19 : decode cX5_fewestFor 19 = .ok (.iconst 0, 1) := by decide +kernel
theorem dX5_fewestFor_20 : decode cX5_fewestFor 20 = .ok (.istore 6, 2) := by decide +kernel
theorem dX5_fewestFor_22 : decode cX5_fewestFor 22 = .ok (.iconst 0, 1) := by decide +kernel
theorem dX5_fewestFor_23 : decode cX5_fewestFor 23 = .ok (.istore 7, 2) := by decide +kernel
theorem dX5_fewestFor_25 : decode cX5_fewestFor 25 = .ok (.iload 7, 2) := by decide +kernel
theorem dX5_fewestFor_27 : decode cX5_fewestFor 27 = .ok (.aload_n 0, 1) := by decide +kernel
theorem dX5_fewestFor_28 : decode cX5_fewestFor 28 = .ok (.getfield 36, 3) := by decide +kernel
theorem dX5_fewestFor_31 : decode cX5_fewestFor 31 = .ok (.if_icmp .ge 52, 3) := by decide +kernel
theorem dX5_fewestFor_34 : decode cX5_fewestFor 34 = .ok (.ldc2_w 70, 3) := by decide +kernel
theorem dX5_fewestFor_37 : decode cX5_fewestFor 37 = .ok (.lload 4, 2) := by decide +kernel
theorem dX5_fewestFor_39 : decode cX5_fewestFor 39 = .ok (.lmul, 1) := by decide +kernel
theorem dX5_fewestFor_40 : decode cX5_fewestFor 40 = .ok (.lload_n 2, 1) := by decide +kernel
theorem dX5_fewestFor_41 : decode cX5_fewestFor 41 = .ok (.lcmp, 1) := by decide +kernel
theorem dX5_fewestFor_42 : decode cX5_fewestFor 42 = .ok (.ifCond .lt 6, 3) := by decide +kernel
theorem dX5_fewestFor_45 : decode cX5_fewestFor 45 = .ok (.iload 7, 2) := by decide +kernel
theorem dX5_fewestFor_47 : decode cX5_fewestFor 47 = .ok (.ireturn, 1) := by decide +kernel
theorem dX5_fewestFor_48 : decode cX5_fewestFor 48 = .ok (.aload_n 0, 1) := by decide +kernel
theorem dX5_fewestFor_49 : decode cX5_fewestFor 49 = .ok (.iload 6, 2) := by decide +kernel
theorem dX5_fewestFor_51 : decode cX5_fewestFor 51 = .ok (.invokevirtual 72, 3) := by decide +kernel
theorem dX5_fewestFor_54 : decode cX5_fewestFor 54 = .ok (.istore 8, 2) := by decide +kernel
theorem dX5_fewestFor_56 : decode cX5_fewestFor 56 = .ok (.lload 4, 2) := by decide +kernel
theorem dX5_fewestFor_58 : decode cX5_fewestFor 58 = .ok (.aload_n 0, 1) := by decide +kernel
theorem dX5_fewestFor_59 : decode cX5_fewestFor 59 = .ok (.iload 8, 2) := by decide +kernel
theorem dX5_fewestFor_61 : decode cX5_fewestFor 61 = .ok (.invokevirtual 60, 3) := by decide +kernel
theorem dX5_fewestFor_64 : decode cX5_fewestFor 64 = .ok (.i2l, 1) := by decide +kernel
theorem dX5_fewestFor_65 : decode cX5_fewestFor 65 = .ok (.ladd, 1) := by decide +kernel
theorem dX5_fewestFor_66 : decode cX5_fewestFor 66 = .ok (.lstore 4, 2) := by decide +kernel
theorem dX5_fewestFor_68 : decode cX5_fewestFor 68 = .ok (.iload 6, 2) := by decide +kernel
theorem dX5_fewestFor_70 : decode cX5_fewestFor 70 = .ok (.iconst 1, 1) := by decide +kernel
theorem dX5_fewestFor_71 : decode cX5_fewestFor 71 = .ok (.iload 8, 2) := by decide +kernel
theorem dX5_fewestFor_73 : decode cX5_fewestFor 73 = .ok (.ishl, 1) := by decide +kernel
theorem dX5_fewestFor_74 : decode cX5_fewestFor 74 = .ok (.ior, 1) := by decide +kernel
theorem dX5_fewestFor_75 : decode cX5_fewestFor 75 = .ok (.istore 6, 2) := by decide +kernel
theorem dX5_fewestFor_77 : decode cX5_fewestFor 77 = .ok (.iinc 7 1, 3) := by decide +kernel
theorem dX5_fewestFor_80 : decode cX5_fewestFor 80 = .ok (.goto (-55), 3) := by decide +kernel
theorem dX5_fewestFor_83 : decode cX5_fewestFor 83 = .ok (.aload_n 0, 1) := by decide +kernel
theorem dX5_fewestFor_84 : decode cX5_fewestFor 84 = .ok (.getfield 36, 3) := by decide +kernel
theorem dX5_fewestFor_87 : decode cX5_fewestFor 87 = .ok (.ireturn, 1) := by decide +kernel
theorem dX5_evenestBend_0 : decode cX5_evenestBend 0 = .ok (.aload_n 0, 1) := by decide +kernel
theorem dX5_evenestBend_1 : decode cX5_evenestBend 1 = .ok (.invokevirtual 75, 3) := by decide +kernel
theorem dX5_evenestBend_4 : decode cX5_evenestBend 4 = .ok (.istore_n 1, 1) := by decide +kernel
theorem dX5_evenestBend_5 : decode cX5_evenestBend 5 = .ok (.iconst 0, 1) := by decide +kernel
theorem dX5_evenestBend_6 : decode cX5_evenestBend 6 = .ok (.istore_n 2, 1) := by decide +kernel
theorem dX5_evenestBend_7 : decode cX5_evenestBend 7 = .ok (.iconst 1, 1) := by decide +kernel
theorem dX5_evenestBend_8 : decode cX5_evenestBend 8 = .ok (.istore_n 3, 1) := by decide +kernel
theorem dX5_evenestBend_9 : decode cX5_evenestBend 9 = .ok (.iload_n 3, 1) := by decide +kernel
theorem dX5_evenestBend_10 : decode cX5_evenestBend 10 = .ok (.aload_n 0, 1) := by decide +kernel
theorem dX5_evenestBend_11 : decode cX5_evenestBend 11 = .ok (.getfield 36, 3) := by decide +kernel
theorem dX5_evenestBend_14 : decode cX5_evenestBend 14 = .ok (.if_icmp .ge 40, 3) := by decide +kernel
theorem dX5_evenestBend_17 : decode cX5_evenestBend 17 = .ok (.iload_n 1, 1) := by decide +kernel
theorem dX5_evenestBend_18 : decode cX5_evenestBend 18 = .ok (.iconst 2, 1) := by decide +kernel
theorem dX5_evenestBend_19 : decode cX5_evenestBend 19 = .ok (.aload_n 0, 1) := by decide +kernel
theorem dX5_evenestBend_20 : decode cX5_evenestBend 20 = .ok (.iconst 0, 1) := by decide +kernel
theorem dX5_evenestBend_21 : decode cX5_evenestBend 21 = .ok (.iload_n 3, 1) := by decide +kernel
theorem dX5_evenestBend_22 : decode cX5_evenestBend 22 = .ok (.invokevirtual 63, 3) := by decide +kernel
theorem dX5_evenestBend_25 : decode cX5_evenestBend 25 = .ok (.imul, 1) := by decide +kernel
theorem dX5_evenestBend_26 : decode cX5_evenestBend 26 = .ok (.isub, 1) := by decide +kernel
theorem dX5_evenestBend_27 : decode cX5_evenestBend 27 = .ok (.invokestatic 79, 3) := by decide +kernel
theorem dX5_evenestBend_30 : decode cX5_evenestBend 30 = .ok (.iload_n 1, 1) := by decide +kernel
theorem dX5_evenestBend_31 : decode cX5_evenestBend 31 = .ok (.iconst 2, 1) := by decide +kernel
theorem dX5_evenestBend_32 : decode cX5_evenestBend 32 = .ok (.aload_n 0, 1) := by decide +kernel
theorem dX5_evenestBend_33 : decode cX5_evenestBend 33 = .ok (.iconst 0, 1) := by decide +kernel
theorem dX5_evenestBend_34 : decode cX5_evenestBend 34 = .ok (.iload_n 2, 1) := by decide +kernel
theorem dX5_evenestBend_35 : decode cX5_evenestBend 35 = .ok (.invokevirtual 63, 3) := by decide +kernel
theorem dX5_evenestBend_38 : decode cX5_evenestBend 38 = .ok (.imul, 1) := by decide +kernel
theorem dX5_evenestBend_39 : decode cX5_evenestBend 39 = .ok (.isub, 1) := by decide +kernel
theorem dX5_evenestBend_40 : decode cX5_evenestBend 40 = .ok (.invokestatic 79, 3) := by decide +kernel
theorem dX5_evenestBend_43 : decode cX5_evenestBend 43 = .ok (.if_icmp .ge 5, 3) := by decide +kernel
theorem dX5_evenestBend_46 : decode cX5_evenestBend 46 = .ok (.iload_n 3, 1) := by decide +kernel
theorem dX5_evenestBend_47 : decode cX5_evenestBend 47 = .ok (.istore_n 2, 1) := by decide +kernel
theorem dX5_evenestBend_48 : decode cX5_evenestBend 48 = .ok (.iinc 3 1, 3) := by decide +kernel
theorem dX5_evenestBend_51 : decode cX5_evenestBend 51 = .ok (.goto (-42), 3) := by decide +kernel
theorem dX5_evenestBend_54 : decode cX5_evenestBend 54 = .ok (.iload_n 2, 1) := by decide +kernel
theorem dX5_evenestBend_55 : decode cX5_evenestBend 55 = .ok (.ireturn, 1) := by decide +kernel
theorem dX5_foundBy_0 : decode cX5_foundBy 0 = .ok (.aload_n 0, 1) := by decide +kernel
theorem dX5_foundBy_1 : decode cX5_foundBy 1 = .ok (.iload_n 1, 1) := by decide +kernel
theorem dX5_foundBy_2 : decode cX5_foundBy 2 = .ok (.invokevirtual 60, 3) := by decide +kernel
theorem dX5_foundBy_5 : decode cX5_foundBy 5 = .ok (.iload_n 2, 1) := by decide +kernel
theorem dX5_foundBy_6 : decode cX5_foundBy 6 = .ok (.invokestatic 82, 3) := by decide +kernel
theorem dX5_foundBy_9 : decode cX5_foundBy 9 = .ok (.imul, 1) := by decide +kernel
theorem dX5_foundBy_10 : decode cX5_foundBy 10 = .ok (.bipush 100, 2) := by decide +kernel
theorem dX5_foundBy_12 : decode cX5_foundBy 12 = .ok (.idiv, 1) := by decide +kernel
theorem dX5_foundBy_13 : decode cX5_foundBy 13 = .ok (.ireturn, 1) := by decide +kernel
theorem dX5_lookInVain_0 : decode cX5_lookInVain 0 = .ok (.iload_n 1, 1) := by decide +kernel
theorem dX5_lookInVain_1 : decode cX5_lookInVain 1 = .ok (.ifCond .lt 27, 3) := by decide +kernel
theorem dX5_lookInVain_4 : decode cX5_lookInVain 4 = .ok (.iload_n 1, 1) := by decide +kernel
theorem dX5_lookInVain_5 : decode cX5_lookInVain 5 = .ok (.aload_n 0, 1) := by decide +kernel
theorem dX5_lookInVain_6 : decode cX5_lookInVain 6 = .ok (.getfield 36, 3) := by decide +kernel
theorem dX5_lookInVain_9 : decode cX5_lookInVain 9 = .ok (.if_icmp .ge 19, 3) := by decide +kernel
theorem dX5_lookInVain_12 : decode cX5_lookInVain 12 = .ok (.aload_n 0, 1) := by decide +kernel
theorem dX5_lookInVain_13 : decode cX5_lookInVain 13 = .ok (.getfield 15, 3) := by decide +kernel
theorem dX5_lookInVain_16 : decode cX5_lookInVain 16 = .ok (.iload_n 1, 1) := by decide +kernel
theorem dX5_lookInVain_17 : decode cX5_lookInVain 17 = .ok (.aload_n 0, 1) := by decide +kernel
theorem dX5_lookInVain_18 : decode cX5_lookInVain 18 = .ok (.getfield 15, 3) := by decide +kernel
theorem dX5_lookInVain_21 : decode cX5_lookInVain 21 = .ok (.iload_n 1, 1) := by decide +kernel
theorem dX5_lookInVain_22 : decode cX5_lookInVain 22 = .ok (.iaload, 1) := by decide +kernel
theorem dX5_lookInVain_23 : decode cX5_lookInVain 23 = .ok (.iload_n 2, 1) := by decide +kernel
theorem dX5_lookInVain_24 : decode cX5_lookInVain 24 = .ok (.invokestatic 85, 3) := by decide +kernel
theorem dX5_lookInVain_27 : decode cX5_lookInVain 27 = .ok (.iastore, 1) := by decide +kernel
theorem dX5_lookInVain_28 : decode cX5_lookInVain 28 = .ok (.return_, 1) := by decide +kernel
theorem dX5_nextLook_0 : decode cX5_nextLook 0 = .ok (.iconst (-1), 1) := by decide +kernel
theorem dX5_nextLook_1 : decode cX5_nextLook 1 = .ok (.istore_n 2, 1) := by decide +kernel
theorem dX5_nextLook_2 : decode cX5_nextLook 2 = .ok (.lconst 0, 1) := by decide +kernel
theorem dX5_nextLook_3 : decode cX5_nextLook 3 = .ok (.lstore_n 3, 1) := by decide +kernel
theorem dX5_nextLook_4 : decode cX5_nextLook 4 = .ok (.iconst 0, 1) := by decide +kernel
theorem dX5_nextLook_5 : decode cX5_nextLook 5 = .ok (.istore 5, 2) := by decide +kernel
theorem dX5_nextLook_7 : decode cX5_nextLook 7 = .ok (.iload 5, 2) := by decide +kernel
theorem dX5_nextLook_9 : decode cX5_nextLook 9 = .ok (.aload_n 0, 1) := by decide +kernel
theorem dX5_nextLook_10 : decode cX5_nextLook 10 = .ok (.getfield 36, 3) := by decide +kernel
theorem dX5_nextLook_13 : decode cX5_nextLook 13 = .ok (.if_icmp .ge 54, 3) := by decide +kernel
theorem dX5_nextLook_16 : decode cX5_nextLook 16 = .ok (.iconst 1, 1) := by decide +kernel
theorem dX5_nextLook_17 : decode cX5_nextLook 17 = .ok (.istore 6, 2) := by decide +kernel
theorem dX5_nextLook_19 : decode cX5_nextLook 19 = .ok (.iload 6, 2) := by decide +kernel
theorem dX5_nextLook_21 : decode cX5_nextLook 21 = .ok (.iconst 3, 1) := by decide +kernel
theorem dX5_nextLook_22 : decode cX5_nextLook 22 = .ok (.if_icmp .gt 39, 3) := by decide +kernel
theorem dX5_nextLook_25 : decode cX5_nextLook 25 = .ok (.aload_n 0, 1) := by decide +kernel
theorem dX5_nextLook_26 : decode cX5_nextLook 26 = .ok (.aload_n 1, 1) := by decide +kernel
theorem dX5_nextLook_27 : decode cX5_nextLook 27 = .ok (.iload 5, 2) := by decide +kernel
theorem dX5_nextLook_29 : decode cX5_nextLook 29 = .ok (.iload 6, 2) := by decide +kernel
theorem dX5_nextLook_31 : decode cX5_nextLook 31 = .ok (.invokevirtual 88, 3) := by decide +kernel
theorem dX5_nextLook_34 : decode cX5_nextLook 34 = .ok (.lstore 7, 2) := by decide +kernel
theorem dX5_nextLook_36 : decode cX5_nextLook 36 = .ok (.lload 7, 2) := by decide +kernel
theorem dX5_nextLook_38 : decode cX5_nextLook 38 = .ok (.lload_n 3, 1) := by decide +kernel
theorem dX5_nextLook_39 : decode cX5_nextLook 39 = .ok (.lcmp, 1) := by decide +kernel
theorem dX5_nextLook_40 : decode cX5_nextLook 40 = .ok (.ifCond .le 15, 3) := by decide +kernel
theorem dX5_nextLook_43 : decode cX5_nextLook 43 = .ok (.lload 7, 2) := by decide +kernel
theorem dX5_nextLook_45 : decode cX5_nextLook 45 = .ok (.lstore_n 3, 1) := by decide +kernel
theorem dX5_nextLook_46 : decode cX5_nextLook 46 = .ok (.bipush 10, 2) := by decide +kernel
theorem dX5_nextLook_48 : decode cX5_nextLook 48 = .ok (.iload 5, 2) := by decide +kernel
theorem dX5_nextLook_50 : decode cX5_nextLook 50 = .ok (.imul, 1) := by decide +kernel
theorem dX5_nextLook_51 : decode cX5_nextLook 51 = .ok (.iload 6, 2) := by decide +kernel
theorem dX5_nextLook_53 : decode cX5_nextLook 53 = .ok (.iadd, 1) := by decide +kernel
theorem dX5_nextLook_54 : decode cX5_nextLook 54 = .ok (.istore_n 2, 1) := by decide +kernel
theorem dX5_nextLook_55 : decode cX5_nextLook 55 = .ok (.iinc 6 1, 3) := by decide +kernel
theorem dX5_nextLook_58 : decode cX5_nextLook 58 = .ok (.goto (-39), 3) := by decide +kernel
theorem dX5_nextLook_61 : decode cX5_nextLook 61 = .ok (.iinc 5 1, 3) := by decide +kernel
theorem dX5_nextLook_64 : decode cX5_nextLook 64 = .ok (.goto (-57), 3) := by decide +kernel
theorem dX5_nextLook_67 : decode cX5_nextLook 67 = .ok (.iload_n 2, 1) := by decide +kernel
theorem dX5_nextLook_68 : decode cX5_nextLook 68 = .ok (.ireturn, 1) := by decide +kernel
theorem dX5_rateOf_0 : decode cX5_rateOf 0 = .ok (.aload_n 1, 1) := by decide +kernel
theorem dX5_rateOf_1 : decode cX5_rateOf 1 = .ok (.iload_n 2, 1) := by decide +kernel
theorem dX5_rateOf_2 : decode cX5_rateOf 2 = .ok (.iload_n 3, 1) := by decide +kernel
theorem dX5_rateOf_3 : decode cX5_rateOf 3 = .ok (.invokevirtual 92, 3) := by decide +kernel
theorem dX5_rateOf_6 : decode cX5_rateOf 6 = .ok (.istore 4, 2) := by decide +kernel
theorem dX5_rateOf_8 : decode cX5_rateOf 8 = .ok (.iload 4, 2) := by decide +kernel
theorem dX5_rateOf_10 : decode cX5_rateOf 10 = .ok (.ifCond .le 21, 3) := by decide +kernel
theorem dX5_rateOf_13 : decode cX5_rateOf 13 = .ok (.ldc2_w 70, 3) := by decide +kernel
theorem dX5_rateOf_16 : decode cX5_rateOf 16 = .ok (.aload_n 0, 1) := by decide +kernel
theorem dX5_rateOf_17 : decode cX5_rateOf 17 = .ok (.iload_n 2, 1) := by decide +kernel
theorem dX5_rateOf_18 : decode cX5_rateOf 18 = .ok (.iload_n 3, 1) := by decide +kernel
theorem dX5_rateOf_19 : decode cX5_rateOf 19 = .ok (.invokevirtual 95, 3) := by decide +kernel
theorem dX5_rateOf_22 : decode cX5_rateOf 22 = .ok (.i2l, 1) := by decide +kernel
theorem dX5_rateOf_23 : decode cX5_rateOf 23 = .ok (.lmul, 1) := by decide +kernel
theorem dX5_rateOf_24 : decode cX5_rateOf 24 = .ok (.iload 4, 2) := by decide +kernel
theorem dX5_rateOf_26 : decode cX5_rateOf 26 = .ok (.i2l, 1) := by decide +kernel
theorem dX5_rateOf_27 : decode cX5_rateOf 27 = .ok (.ldiv, 1) := by decide +kernel
theorem dX5_rateOf_28 : decode cX5_rateOf 28 = .ok (.goto 4, 3) := by decide +kernel
theorem dX5_rateOf_31 : decode cX5_rateOf 31 = .ok (.lconst 0, 1) := by decide +kernel
theorem dX5_rateOf_32 : decode cX5_rateOf 32 = .ok (.lreturn, 1) := by decide +kernel
theorem dX5_lookOnInVain_0 : decode cX5_lookOnInVain 0 = .ok (.iconst 0, 1) := by decide +kernel
theorem dX5_lookOnInVain_1 : decode cX5_lookOnInVain 1 = .ok (.istore_n 3, 1) := by decide +kernel
theorem dX5_lookOnInVain_2 : decode cX5_lookOnInVain 2 = .ok (.iload_n 3, 1) := by decide +kernel
theorem dX5_lookOnInVain_3 : decode cX5_lookOnInVain 3 = .ok (.iload_n 2, 1) := by decide +kernel
theorem dX5_lookOnInVain_4 : decode cX5_lookOnInVain 4 = .ok (.if_icmp .ge 37, 3) := by decide +kernel
theorem dX5_lookOnInVain_7 : decode cX5_lookOnInVain 7 = .ok (.aload_n 0, 1) := by decide +kernel
theorem dX5_lookOnInVain_8 : decode cX5_lookOnInVain 8 = .ok (.aload_n 1, 1) := by decide +kernel
theorem dX5_lookOnInVain_9 : decode cX5_lookOnInVain 9 = .ok (.invokevirtual 98, 3) := by decide +kernel
theorem dX5_lookOnInVain_12 : decode cX5_lookOnInVain 12 = .ok (.istore 4, 2) := by decide +kernel
theorem dX5_lookOnInVain_14 : decode cX5_lookOnInVain 14 = .ok (.iload 4, 2) := by decide +kernel
theorem dX5_lookOnInVain_16 : decode cX5_lookOnInVain 16 = .ok (.iconst (-1), 1) := by decide +kernel
theorem dX5_lookOnInVain_17 : decode cX5_lookOnInVain 17 = .ok (.if_icmp .ne 4, 3) := by decide +kernel
theorem dX5_lookOnInVain_20 : decode cX5_lookOnInVain 20 = .ok (.return_, 1) := by decide +kernel
theorem dX5_lookOnInVain_21 : decode cX5_lookOnInVain 21 = .ok (.aload_n 0, 1) := by decide +kernel
theorem dX5_lookOnInVain_22 : decode cX5_lookOnInVain 22 = .ok (.iload 4, 2) := by decide +kernel
theorem dX5_lookOnInVain_24 : decode cX5_lookOnInVain 24 = .ok (.bipush 10, 2) := by decide +kernel
theorem dX5_lookOnInVain_26 : decode cX5_lookOnInVain 26 = .ok (.idiv, 1) := by decide +kernel
theorem dX5_lookOnInVain_27 : decode cX5_lookOnInVain 27 = .ok (.iload 4, 2) := by decide +kernel
theorem dX5_lookOnInVain_29 : decode cX5_lookOnInVain 29 = .ok (.bipush 10, 2) := by decide +kernel
theorem dX5_lookOnInVain_31 : decode cX5_lookOnInVain 31 = .ok (.irem, 1) := by decide +kernel
theorem dX5_lookOnInVain_32 : decode cX5_lookOnInVain 32 = .ok (.invokevirtual 102, 3) := by decide +kernel
theorem dX5_lookOnInVain_35 : decode cX5_lookOnInVain 35 = .ok (.iinc 3 1, 3) := by decide +kernel
theorem dX5_lookOnInVain_38 : decode cX5_lookOnInVain 38 = .ok (.goto (-36), 3) := by decide +kernel
theorem dX5_lookOnInVain_41 : decode cX5_lookOnInVain 41 = .ok (.return_, 1) := by decide +kernel
