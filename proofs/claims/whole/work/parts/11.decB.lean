theorem dX6_init_0 : decode cX6_init 0 = .ok (.aload_n 0, 1) := by decide +kernel
theorem dX6_init_1 : decode cX6_init 1 = .ok (.invokespecial 1, 3) := by decide +kernel
theorem dX6_init_4 : decode cX6_init 4 = .ok (.aload_n 0, 1) := by decide +kernel
theorem dX6_init_5 : decode cX6_init 5 = .ok (.new 7, 3) := by decide +kernel
theorem dX6_init_8 : decode cX6_init 8 = .ok (.dup, 1) := by decide +kernel
theorem dX6_init_9 : decode cX6_init 9 = .ok (.invokespecial 9, 3) := by decide +kernel
theorem dX6_init_12 : decode cX6_init 12 = .ok (.putfield 10, 3) := by decide +kernel
theorem dX6_init_15 : decode cX6_init 15 = .ok (.aload_n 0, 1) := by decide +kernel
theorem dX6_init_16 : decode cX6_init 16 = .ok (.new 7, 3) := by decide +kernel
theorem dX6_init_19 : decode cX6_init 19 = .ok (.dup, 1) := by decide +kernel
theorem dX6_init_20 : decode cX6_init 20 = .ok (.invokespecial 9, 3) := by decide +kernel
theorem dX6_init_23 : decode cX6_init 23 = .ok (.putfield 16, 3) := by decide +kernel
theorem dX6_init_26 : decode cX6_init 26 = .ok (.aload_n 0, 1) := by decide +kernel
theorem dX6_init_27 : decode cX6_init 27 = .ok (.new 7, 3) := by decide +kernel
theorem dX6_init_30 : decode cX6_init 30 = .ok (.dup, 1) := by decide +kernel
theorem dX6_init_31 : decode cX6_init 31 = .ok (.invokespecial 9, 3) := by decide +kernel
theorem dX6_init_34 : decode cX6_init 34 = .ok (.putfield 19, 3) := by decide +kernel
theorem dX6_init_37 : decode cX6_init 37 = .ok (.aload_n 0, 1) := by decide +kernel
theorem dX6_init_38 : decode cX6_init 38 = .ok (.new 22, 3) := by decide +kernel
theorem dX6_init_41 : decode cX6_init 41 = .ok (.dup, 1) := by decide +kernel
theorem dX6_init_42 : decode cX6_init 42 = .ok (.invokespecial 24, 3) := by decide +kernel
theorem dX6_init_45 : decode cX6_init 45 = .ok (.putfield 25, 3) := by decide +kernel
theorem dX6_init_48 : decode cX6_init 48 = .ok (.aload_n 0, 1) := by decide +kernel
theorem dX6_init_49 : decode cX6_init 49 = .ok (.new 29, 3) := by decide +kernel
theorem dX6_init_52 : decode cX6_init 52 = .ok (.dup, 1) := by decide +kernel
theorem dX6_init_53 : decode cX6_init 53 = .ok (.invokespecial 31, 3) := by decide +kernel
theorem dX6_init_56 : decode cX6_init 56 = .ok (.putfield 32, 3) := by decide +kernel
theorem dX6_init_59 : decode cX6_init 59 = .ok (.aload_n 0, 1) := by decide +kernel
theorem dX6_init_60 : decode cX6_init 60 = .ok (.new 36, 3) := by decide +kernel
theorem dX6_init_63 : decode cX6_init 63 = .ok (.dup, 1) := by decide +kernel
theorem dX6_init_64 : decode cX6_init 64 = .ok (.invokespecial 38, 3) := by decide +kernel
theorem dX6_init_67 : decode cX6_init 67 = .ok (.putfield 39, 3) := by decide +kernel
theorem dX6_init_70 : decode cX6_init 70 = .ok (.aload_n 0, 1) := by decide +kernel
theorem dX6_init_71 : decode cX6_init 71 = .ok (.iconst 5, 1) := by decide +kernel
theorem dX6_init_72 : decode cX6_init 72 = .ok (.newarray .int, 2) := by decide +kernel
theorem dX6_init_74 : decode cX6_init 74 = .ok (.putfield 43, 3) := by decide +kernel
theorem dX6_init_77 : decode cX6_init 77 = .ok (.aload_n 0, 1) := by decide +kernel
theorem dX6_init_78 : decode cX6_init 78 = .ok (.bipush 8, 2) := by decide +kernel
theorem dX6_init_80 : decode cX6_init 80 = .ok (.anewarray 47, 3) := by decide +kernel
theorem dX6_init_83 : decode cX6_init 83 = .ok (.putfield 49, 3) := by decide +kernel
theorem dX6_init_86 : decode cX6_init 86 = .ok (.iconst 0, 1) := by decide +kernel
theorem dX6_init_87 : decode cX6_init 87 = .ok (.istore_n 1, 1) := by decide +kernel
theorem dX6_init_88 : decode cX6_init 88 = .ok (.iload_n 1, 1) := by decide +kernel
theorem dX6_init_89 : decode cX6_init 89 = .ok (.aload_n 0, 1) := by decide +kernel
theorem dX6_init_90 : decode cX6_init 90 = .ok (.getfield 49, 3) := by decide +kernel
theorem dX6_init_93 : decode cX6_init 93 = .ok (.arraylength, 1) := by decide +kernel
theorem dX6_init_94 : decode cX6_init 94 = .ok (.if_icmp .ge 22, 3) := by decide +kernel
theorem dX6_init_97 : decode cX6_init 97 = .ok (.aload_n 0, 1) := by decide +kernel
theorem dX6_init_98 : decode cX6_init 98 = .ok (.getfield 49, 3) := by decide +kernel
theorem dX6_init_101 : decode cX6_init 101 = .ok (.iload_n 1, 1) := by decide +kernel
theorem dX6_init_102 : decode cX6_init 102 = .ok (.new 47, 3) := by decide +kernel
theorem dX6_init_105 : decode cX6_init 105 = .ok (.dup, 1) := by decide +kernel
theorem dX6_init_106 : decode cX6_init 106 = .ok (.invokespecial 53, 3) := by decide +kernel
theorem dX6_init_109 : decode cX6_init 109 = .ok (.aastore, 1) := by decide +kernel
theorem dX6_init_110 : decode cX6_init 110 = .ok (.iinc 1 1, 3) := by decide +kernel
theorem dX6_init_113 : decode cX6_init 113 = .ok (.goto (-25), 3) := by decide +kernel
theorem dX6_init_116 : decode cX6_init 116 = .ok (.return_, 1) := by decide +kernel
theorem dX6_row_0 : decode cX6_row 0 = .ok (.aload_n 0, 1) := by decide +kernel
theorem dX6_row_1 : decode cX6_row 1 = .ok (.iload_n 1, 1) := by decide +kernel
theorem dX6_row_2 : decode cX6_row 2 = .ok (.invokevirtual 54, 3) := by decide +kernel
theorem dX6_row_5 : decode cX6_row 5 = .ok (.astore 4, 2) := by decide +kernel
theorem dX6_row_7 : decode cX6_row 7 = .ok (.aload 4, 2) := by decide +kernel
theorem dX6_row_9 : decode cX6_row 9 = .ok (.ifnull 22, 3) := by decide +kernel
theorem dX6_row_12 : decode cX6_row 12 = .ok (.iload_n 2, 1) := by decide +kernel
theorem dX6_row_13 : decode cX6_row 13 = .ok (.iconst 0, 1) := by decide +kernel
theorem dX6_row_14 : decode cX6_row 14 = .ok (.iconst 4, 1) := by decide +kernel
theorem dX6_row_15 : decode cX6_row 15 = .ok (.invokestatic 58, 3) := by decide +kernel
theorem dX6_row_18 : decode cX6_row 18 = .ok (.ifCond .eq 13, 3) := by decide +kernel
theorem dX6_row_21 : decode cX6_row 21 = .ok (.iload_n 3, 1) := by decide +kernel
theorem dX6_row_22 : decode cX6_row 22 = .ok (.iconst 0, 1) := by decide +kernel
theorem dX6_row_23 : decode cX6_row 23 = .ok (.bipush 40, 2) := by decide +kernel
theorem dX6_row_25 : decode cX6_row 25 = .ok (.invokestatic 58, 3) := by decide +kernel
theorem dX6_row_28 : decode cX6_row 28 = .ok (.ifCond .ne 10, 3) := by decide +kernel
theorem dX6_row_31 : decode cX6_row 31 = .ok (.aload_n 0, 1) := by decide +kernel
theorem dX6_row_32 : decode cX6_row 32 = .ok (.bipush (-2), 2) := by decide +kernel
theorem dX6_row_34 : decode cX6_row 34 = .ok (.invokevirtual 62, 3) := by decide +kernel
theorem dX6_row_37 : decode cX6_row 37 = .ok (.ireturn, 1) := by decide +kernel
theorem dX6_row_38 : decode cX6_row 38 = .ok (.aload 4, 2) := by decide +kernel
theorem dX6_row_40 : decode cX6_row 40 = .ok (.iload_n 2, 1) := by decide +kernel
theorem dX6_row_41 : decode cX6_row 41 = .ok (.iload_n 3, 1) := by decide +kernel
theorem dX6_row_42 : decode cX6_row 42 = .ok (.invokevirtual 66, 3) := by decide +kernel
theorem dX6_row_45 : decode cX6_row 45 = .ok (.iconst 1, 1) := by decide +kernel
theorem dX6_row_46 : decode cX6_row 46 = .ok (.ireturn, 1) := by decide +kernel
theorem dX6_set_0 : decode cX6_set 0 = .ok (.aload_n 0, 1) := by decide +kernel
theorem dX6_set_1 : decode cX6_set 1 = .ok (.iload_n 1, 1) := by decide +kernel
theorem dX6_set_2 : decode cX6_set 2 = .ok (.invokevirtual 54, 3) := by decide +kernel
theorem dX6_set_5 : decode cX6_set 5 = .ok (.astore 5, 2) := by decide +kernel
theorem dX6_set_7 : decode cX6_set 7 = .ok (.aload 5, 2) := by decide +kernel
theorem dX6_set_9 : decode cX6_set 9 = .ok (.ifnonnull 10, 3) := by decide +kernel
theorem dX6_set_12 : decode cX6_set 12 = .ok (.aload_n 0, 1) := by decide +kernel
theorem dX6_set_13 : decode cX6_set 13 = .ok (.bipush (-2), 2) := by decide +kernel
theorem dX6_set_15 : decode cX6_set 15 = .ok (.invokevirtual 62, 3) := by decide +kernel
theorem dX6_set_18 : decode cX6_set 18 = .ok (.ireturn, 1) := by decide +kernel
theorem dX6_set_19 : decode cX6_set 19 = .ok (.aload 5, 2) := by decide +kernel
theorem dX6_set_21 : decode cX6_set 21 = .ok (.invokevirtual 70, 3) := by decide +kernel
theorem dX6_set_24 : decode cX6_set 24 = .ok (.ifCond .ne 23, 3) := by decide +kernel
theorem dX6_set_27 : decode cX6_set 27 = .ok (.aload_n 0, 1) := by decide +kernel
theorem dX6_set_28 : decode cX6_set 28 = .ok (.aload 5, 2) := by decide +kernel
theorem dX6_set_30 : decode cX6_set 30 = .ok (.invokevirtual 74, 3) := by decide +kernel
theorem dX6_set_33 : decode cX6_set 33 = .ok (.ifCond .eq 8, 3) := by decide +kernel
theorem dX6_set_36 : decode cX6_set 36 = .ok (.bipush (-4), 2) := by decide +kernel
theorem dX6_set_38 : decode cX6_set 38 = .ok (.goto 5, 3) := by decide +kernel
theorem dX6_set_41 : decode cX6_set 41 = .ok (.bipush (-3), 2) := by decide +kernel
theorem dX6_set_43 : decode cX6_set 43 = .ok (.invokevirtual 62, 3) := by decide +kernel
theorem dX6_set_46 : decode cX6_set 46 = .ok (.ireturn, 1) := by decide +kernel
theorem dX6_set_47 : decode cX6_set 47 = .ok (.aload 5, 2) := by decide +kernel
theorem dX6_set_49 : decode cX6_set 49 = .ok (.iload_n 2, 1) := by decide +kernel
theorem dX6_set_50 : decode cX6_set 50 = .ok (.invokevirtual 77, 3) := by decide +kernel
theorem dX6_set_53 : decode cX6_set 53 = .ok (.ifCond .ne 10, 3) := by decide +kernel
theorem dX6_set_56 : decode cX6_set 56 = .ok (.aload_n 0, 1) := by decide +kernel
theorem dX6_set_57 : decode cX6_set 57 = .ok (.bipush (-2), 2) := by decide +kernel
theorem dX6_set_59 : decode cX6_set 59 = .ok (.invokevirtual 62, 3) := by decide +kernel
theorem dX6_set_62 : decode cX6_set 62 = .ok (.ireturn, 1) := by decide +kernel
theorem dX6_set_63 : decode cX6_set 63 = .ok (.aload 5, 2) := by decide +kernel
theorem dX6_set_65 : decode cX6_set 65 = .ok (.iload_n 2, 1) := by decide +kernel
theorem dX6_set_66 : decode cX6_set 66 = .ok (.lload_n 3, 1) := by decide +kernel
theorem dX6_set_67 : decode cX6_set 67 = .ok (.invokevirtual 81, 3) := by decide +kernel
theorem dX6_set_70 : decode cX6_set 70 = .ok (.iconst 1, 1) := by decide +kernel
theorem dX6_set_71 : decode cX6_set 71 = .ok (.ireturn, 1) := by decide +kernel
theorem dX6_copy_0 : decode cX6_copy 0 = .ok (.aload_n 0, 1) := by decide +kernel
theorem dX6_copy_1 : decode cX6_copy 1 = .ok (.iload_n 1, 1) := by decide +kernel
theorem dX6_copy_2 : decode cX6_copy 2 = .ok (.invokevirtual 54, 3) := by decide +kernel
theorem dX6_copy_5 : decode cX6_copy 5 = .ok (.astore 6, 2) := by decide +kernel
theorem dX6_copy_7 : decode cX6_copy 7 = .ok (.aload_n 0, 1) := by decide +kernel
theorem dX6_copy_8 : decode cX6_copy 8 = .ok (.iload_n 2, 1) := by decide +kernel
theorem dX6_copy_9 : decode cX6_copy 9 = .ok (.invokevirtual 54, 3) := by decide +kernel
theorem dX6_copy_12 : decode cX6_copy 12 = .ok (.astore 7, 2) := by decide +kernel
theorem dX6_copy_14 : decode cX6_copy 14 = .ok (.aload 6, 2) := by decide +kernel
theorem dX6_copy_16 : decode cX6_copy 16 = .ok (.ifnull 8, 3) := by decide +kernel
theorem dX6_copy_19 : decode cX6_copy 19 = .ok (.aload 7, 2) := by decide +kernel
theorem dX6_copy_21 : decode cX6_copy 21 = .ok (.ifnonnull 10, 3) := by decide +kernel
theorem dX6_copy_24 : decode cX6_copy 24 = .ok (.aload_n 0, 1) := by decide +kernel
theorem dX6_copy_25 : decode cX6_copy 25 = .ok (.bipush (-2), 2) := by decide +kernel
theorem dX6_copy_27 : decode cX6_copy 27 = .ok (.invokevirtual 62, 3) := by decide +kernel
theorem dX6_copy_30 : decode cX6_copy 30 = .ok (.ireturn, 1) := by decide +kernel
theorem dX6_copy_31 : decode cX6_copy 31 = .ok (.aload 6, 2) := by decide +kernel
theorem dX6_copy_33 : decode cX6_copy 33 = .ok (.invokevirtual 85, 3) := by decide +kernel
theorem dX6_copy_36 : decode cX6_copy 36 = .ok (.ifCond .ne 11, 3) := by decide +kernel
theorem dX6_copy_39 : decode cX6_copy 39 = .ok (.aload 7, 2) := by decide +kernel
theorem dX6_copy_41 : decode cX6_copy 41 = .ok (.invokevirtual 85, 3) := by decide +kernel
theorem dX6_copy_44 : decode cX6_copy 44 = .ok (.ifCond .eq 10, 3) := by decide +kernel
theorem dX6_copy_47 : decode cX6_copy 47 = .ok (.aload_n 0, 1) := by decide +kernel
theorem dX6_copy_48 : decode cX6_copy 48 = .ok (.bipush (-3), 2) := by decide +kernel
theorem dX6_copy_50 : decode cX6_copy 50 = .ok (.invokevirtual 62, 3) := by decide +kernel
theorem dX6_copy_53 : decode cX6_copy 53 = .ok (.ireturn, 1) := by decide +kernel
theorem dX6_copy_54 : decode cX6_copy 54 = .ok (.aload 6, 2) := by decide +kernel
theorem dX6_copy_56 : decode cX6_copy 56 = .ok (.invokevirtual 74, 3) := by decide +kernel
theorem dX6_copy_59 : decode cX6_copy 59 = .ok (.ifCond .ne 11, 3) := by decide +kernel
theorem dX6_copy_62 : decode cX6_copy 62 = .ok (.aload 7, 2) := by decide +kernel
theorem dX6_copy_64 : decode cX6_copy 64 = .ok (.invokevirtual 74, 3) := by decide +kernel
theorem dX6_copy_67 : decode cX6_copy 67 = .ok (.ifCond .eq 10, 3) := by decide +kernel
theorem dX6_copy_70 : decode cX6_copy 70 = .ok (.aload_n 0, 1) := by decide +kernel
theorem dX6_copy_71 : decode cX6_copy 71 = .ok (.bipush (-4), 2) := by decide +kernel
theorem dX6_copy_73 : decode cX6_copy 73 = .ok (.invokevirtual 62, 3) := by decide +kernel
theorem dX6_copy_76 : decode cX6_copy 76 = .ok (.ireturn, 1) := by decide +kernel
theorem dX6_copy_77 : decode cX6_copy 77 = .ok (.aload 6, 2) := by decide +kernel
theorem dX6_copy_79 : decode cX6_copy 79 = .ok (.getfield 88, 3) := by decide +kernel
theorem dX6_copy_82 : decode cX6_copy 82 = .ok (.aload 7, 2) := by decide +kernel
theorem dX6_copy_84 : decode cX6_copy 84 = .ok (.getfield 88, 3) := by decide +kernel
theorem dX6_copy_87 : decode cX6_copy 87 = .ok (.if_icmp .eq 10, 3) := by decide +kernel
theorem dX6_copy_90 : decode cX6_copy 90 = .ok (.aload_n 0, 1) := by decide +kernel
theorem dX6_copy_91 : decode cX6_copy 91 = .ok (.bipush (-3), 2) := by decide +kernel
theorem dX6_copy_93 : decode cX6_copy 93 = .ok (.invokevirtual 62, 3) := by decide +kernel
theorem dX6_copy_96 : decode cX6_copy 96 = .ok (.ireturn, 1) := by decide +kernel
theorem dX6_copy_97 : decode cX6_copy 97 = .ok (.aload 6, 2) := by decide +kernel
theorem dX6_copy_99 : decode cX6_copy 99 = .ok (.iload_n 3, 1) := by decide +kernel
theorem dX6_copy_100 : decode cX6_copy 100 = .ok (.iload 5, 2) := by decide +kernel
theorem dX6_copy_102 : decode cX6_copy 102 = .ok (.invokevirtual 92, 3) := by decide +kernel
theorem dX6_copy_105 : decode cX6_copy 105 = .ok (.ifCond .eq 15, 3) := by decide +kernel
theorem dX6_copy_108 : decode cX6_copy 108 = .ok (.aload 7, 2) := by decide +kernel
theorem dX6_copy_110 : decode cX6_copy 110 = .ok (.iload 4, 2) := by decide +kernel
theorem dX6_copy_112 : decode cX6_copy 112 = .ok (.iload 5, 2) := by decide +kernel
theorem dX6_copy_114 : decode cX6_copy 114 = .ok (.invokevirtual 92, 3) := by decide +kernel
theorem dX6_copy_117 : decode cX6_copy 117 = .ok (.ifCond .ne 10, 3) := by decide +kernel
theorem dX6_copy_120 : decode cX6_copy 120 = .ok (.aload_n 0, 1) := by decide +kernel
theorem dX6_copy_121 : decode cX6_copy 121 = .ok (.bipush (-2), 2) := by decide +kernel
theorem dX6_copy_123 : decode cX6_copy 123 = .ok (.invokevirtual 62, 3) := by decide +kernel
theorem dX6_copy_126 : decode cX6_copy 126 = .ok (.ireturn, 1) := by decide +kernel
theorem dX6_copy_127 : decode cX6_copy 127 = .ok (.aload 7, 2) := by decide +kernel
theorem dX6_copy_129 : decode cX6_copy 129 = .ok (.aload 6, 2) := by decide +kernel
theorem dX6_copy_131 : decode cX6_copy 131 = .ok (.iload_n 3, 1) := by decide +kernel
theorem dX6_copy_132 : decode cX6_copy 132 = .ok (.iload 4, 2) := by decide +kernel
theorem dX6_copy_134 : decode cX6_copy 134 = .ok (.iload 5, 2) := by decide +kernel
theorem dX6_copy_136 : decode cX6_copy 136 = .ok (.invokevirtual 96, 3) := by decide +kernel
theorem dX6_copy_139 : decode cX6_copy 139 = .ok (.iload 5, 2) := by decide +kernel
theorem dX6_copy_141 : decode cX6_copy 141 = .ok (.ireturn, 1) := by decide +kernel
theorem dX6_element_0 : decode cX6_element 0 = .ok (.aload_n 0, 1) := by decide +kernel
theorem dX6_element_1 : decode cX6_element 1 = .ok (.iload_n 1, 1) := by decide +kernel
theorem dX6_element_2 : decode cX6_element 2 = .ok (.invokevirtual 54, 3) := by decide +kernel
theorem dX6_element_5 : decode cX6_element 5 = .ok (.astore_n 3, 1) := by decide +kernel
theorem dX6_element_6 : decode cX6_element 6 = .ok (.aload_n 3, 1) := by decide +kernel
theorem dX6_element_7 : decode cX6_element 7 = .ok (.ifnonnull 7, 3) := by decide +kernel
theorem dX6_element_10 : decode cX6_element 10 = .ok (.lconst 0, 1) := by decide +kernel
theorem dX6_element_11 : decode cX6_element 11 = .ok (.goto 8, 3) := by decide +kernel
theorem dX6_element_14 : decode cX6_element 14 = .ok (.aload_n 3, 1) := by decide +kernel
theorem dX6_element_15 : decode cX6_element 15 = .ok (.iload_n 2, 1) := by decide +kernel
theorem dX6_element_16 : decode cX6_element 16 = .ok (.invokevirtual 100, 3) := by decide +kernel
theorem dX6_element_19 : decode cX6_element 19 = .ok (.lreturn, 1) := by decide +kernel
theorem dX6_holds_0 : decode cX6_holds 0 = .ok (.aload_n 0, 1) := by decide +kernel
theorem dX6_holds_1 : decode cX6_holds 1 = .ok (.iload_n 1, 1) := by decide +kernel
theorem dX6_holds_2 : decode cX6_holds 2 = .ok (.invokevirtual 54, 3) := by decide +kernel
theorem dX6_holds_5 : decode cX6_holds 5 = .ok (.astore_n 2, 1) := by decide +kernel
theorem dX6_holds_6 : decode cX6_holds 6 = .ok (.aload_n 2, 1) := by decide +kernel
theorem dX6_holds_7 : decode cX6_holds 7 = .ok (.ifnonnull 7, 3) := by decide +kernel
theorem dX6_holds_10 : decode cX6_holds 10 = .ok (.iconst (-1), 1) := by decide +kernel
theorem dX6_holds_11 : decode cX6_holds 11 = .ok (.goto 7, 3) := by decide +kernel
theorem dX6_holds_14 : decode cX6_holds 14 = .ok (.aload_n 2, 1) := by decide +kernel
theorem dX6_holds_15 : decode cX6_holds 15 = .ok (.getfield 88, 3) := by decide +kernel
theorem dX6_holds_18 : decode cX6_holds 18 = .ok (.ireturn, 1) := by decide +kernel
theorem dX6_show_0 : decode cX6_show 0 = .ok (.aload_n 0, 1) := by decide +kernel
theorem dX6_show_1 : decode cX6_show 1 = .ok (.iload_n 1, 1) := by decide +kernel
theorem dX6_show_2 : decode cX6_show 2 = .ok (.invokevirtual 54, 3) := by decide +kernel
theorem dX6_show_5 : decode cX6_show 5 = .ok (.astore_n 3, 1) := by decide +kernel
theorem dX6_show_6 : decode cX6_show 6 = .ok (.aload_n 3, 1) := by decide +kernel
theorem dX6_show_7 : decode cX6_show 7 = .ok (.ifnull 11, 3) := by decide +kernel
theorem dX6_show_10 : decode cX6_show 10 = .ok (.aload_n 0, 1) := by decide +kernel
theorem dX6_show_11 : decode cX6_show 11 = .ok (.iload_n 2, 1) := by decide +kernel
theorem dX6_show_12 : decode cX6_show 12 = .ok (.invokevirtual 104, 3) := by decide +kernel
theorem dX6_show_15 : decode cX6_show 15 = .ok (.ifCond .ne 10, 3) := by decide +kernel
theorem dX6_show_18 : decode cX6_show 18 = .ok (.aload_n 0, 1) := by decide +kernel
theorem dX6_show_19 : decode cX6_show 19 = .ok (.bipush (-2), 2) := by decide +kernel
theorem dX6_show_21 : decode cX6_show 21 = .ok (.invokevirtual 62, 3) := by decide +kernel
theorem dX6_show_24 : decode cX6_show 24 = .ok (.ireturn, 1) := by decide +kernel
theorem dX6_show_25 : decode cX6_show 25 = .ok (.aload_n 3, 1) := by decide +kernel
theorem dX6_show_26 : decode cX6_show 26 = .ok (.iload_n 2, 1) := by decide +kernel
theorem dX6_show_27 : decode cX6_show 27 = .ok (.invokevirtual 107, 3) := by decide +kernel
theorem dX6_show_30 : decode cX6_show 30 = .ok (.iconst 1, 1) := by decide +kernel
theorem dX6_show_31 : decode cX6_show 31 = .ok (.ireturn, 1) := by decide +kernel
theorem dX6_says_0 : decode cX6_says 0 = .ok (.aload_n 0, 1) := by decide +kernel
theorem dX6_says_1 : decode cX6_says 1 = .ok (.iload_n 1, 1) := by decide +kernel
theorem dX6_says_2 : decode cX6_says 2 = .ok (.invokevirtual 54, 3) := by decide +kernel
theorem dX6_says_5 : decode cX6_says 5 = .ok (.astore_n 3, 1) := by decide +kernel
theorem dX6_says_6 : decode cX6_says 6 = .ok (.aload_n 3, 1) := by decide +kernel
theorem dX6_says_7 : decode cX6_says 7 = .ok (.ifnull 12, 3) := by decide +kernel
theorem dX6_says_10 : decode cX6_says 10 = .ok (.iload_n 2, 1) := by decide +kernel
theorem dX6_says_11 : decode cX6_says 11 = .ok (.iconst 0, 1) := by decide +kernel
theorem dX6_says_12 : decode cX6_says 12 = .ok (.iconst 5, 1) := by decide +kernel
theorem dX6_says_13 : decode cX6_says 13 = .ok (.invokestatic 58, 3) := by decide +kernel
theorem dX6_says_16 : decode cX6_says 16 = .ok (.ifCond .ne 10, 3) := by decide +kernel
theorem dX6_says_19 : decode cX6_says 19 = .ok (.aload_n 0, 1) := by decide +kernel
theorem dX6_says_20 : decode cX6_says 20 = .ok (.bipush (-2), 2) := by decide +kernel
theorem dX6_says_22 : decode cX6_says 22 = .ok (.invokevirtual 62, 3) := by decide +kernel
theorem dX6_says_25 : decode cX6_says 25 = .ok (.ireturn, 1) := by decide +kernel
theorem dX6_says_26 : decode cX6_says 26 = .ok (.aload_n 3, 1) := by decide +kernel
theorem dX6_says_27 : decode cX6_says 27 = .ok (.invokevirtual 74, 3) := by decide +kernel
theorem dX6_says_30 : decode cX6_says 30 = .ok (.ifCond .eq 10, 3) := by decide +kernel
theorem dX6_says_33 : decode cX6_says 33 = .ok (.aload_n 0, 1) := by decide +kernel
theorem dX6_says_34 : decode cX6_says 34 = .ok (.bipush (-4), 2) := by decide +kernel
theorem dX6_says_36 : decode cX6_says 36 = .ok (.invokevirtual 62, 3) := by decide +kernel
theorem dX6_says_39 : decode cX6_says 39 = .ok (.ireturn, 1) := by decide +kernel
theorem dX6_says_40 : decode cX6_says 40 = .ok (.aload_n 3, 1) := by decide +kernel
theorem dX6_says_41 : decode cX6_says 41 = .ok (.invokevirtual 111, 3) := by decide +kernel
theorem dX6_says_44 : decode cX6_says 44 = .ok (.istore 4, 2) := by decide +kernel
theorem dX6_says_46 : decode cX6_says 46 = .ok (.aload_n 0, 1) := by decide +kernel
theorem dX6_says_47 : decode cX6_says 47 = .ok (.getfield 10, 3) := by decide +kernel
theorem dX6_says_50 : decode cX6_says 50 = .ok (.getfield 115, 3) := by decide +kernel
theorem dX6_says_53 : decode cX6_says 53 = .ok (.iload 4, 2) := by decide +kernel
theorem dX6_says_55 : decode cX6_says 55 = .ok (.invokevirtual 119, 3) := by decide +kernel
theorem dX6_says_58 : decode cX6_says 58 = .ok (.ifCond .eq 23, 3) := by decide +kernel
theorem dX6_says_61 : decode cX6_says 61 = .ok (.aload_n 0, 1) := by decide +kernel
theorem dX6_says_62 : decode cX6_says 62 = .ok (.getfield 10, 3) := by decide +kernel
theorem dX6_says_65 : decode cX6_says 65 = .ok (.getfield 115, 3) := by decide +kernel
theorem dX6_says_68 : decode cX6_says 68 = .ok (.iload 4, 2) := by decide +kernel
theorem dX6_says_70 : decode cX6_says 70 = .ok (.iconst 0, 1) := by decide +kernel
theorem dX6_says_71 : decode cX6_says 71 = .ok (.invokevirtual 124, 3) := by decide +kernel
theorem dX6_says_74 : decode cX6_says 74 = .ok (.iload_n 2, 1) := by decide +kernel
theorem dX6_says_75 : decode cX6_says 75 = .ok (.invokestatic 128, 3) := by decide +kernel
theorem dX6_says_78 : decode cX6_says 78 = .ok (.ifCond .ne 10, 3) := by decide +kernel
theorem dX6_says_81 : decode cX6_says 81 = .ok (.aload_n 0, 1) := by decide +kernel
theorem dX6_says_82 : decode cX6_says 82 = .ok (.bipush (-3), 2) := by decide +kernel
theorem dX6_says_84 : decode cX6_says 84 = .ok (.invokevirtual 62, 3) := by decide +kernel
theorem dX6_says_87 : decode cX6_says 87 = .ok (.ireturn, 1) := by decide +kernel
theorem dX6_says_88 : decode cX6_says 88 = .ok (.iload_n 2, 1) := by decide +kernel
theorem dX6_says_89 : decode cX6_says 89 = .ok (.lookupswitch 74 #[(0, 35), (2, 49), (5, 60)], 35) := by decide +kernel
theorem dX6_says_124 : decode cX6_says 124 = .ok (.aload_n 0, 1) := by decide +kernel
theorem dX6_says_125 : decode cX6_says 125 = .ok (.getfield 10, 3) := by decide +kernel
theorem dX6_says_128 : decode cX6_says 128 = .ok (.getfield 115, 3) := by decide +kernel
theorem dX6_says_131 : decode cX6_says 131 = .ok (.iload 4, 2) := by decide +kernel
theorem dX6_says_133 : decode cX6_says 133 = .ok (.iconst 2, 1) := by decide +kernel
theorem dX6_says_134 : decode cX6_says 134 = .ok (.invokevirtual 124, 3) := by decide +kernel
theorem dX6_says_137 : decode cX6_says 137 = .ok (.ireturn, 1) := by decide +kernel
theorem dX6_says_138 : decode cX6_says 138 = .ok (.aload_n 0, 1) := by decide +kernel
theorem dX6_says_139 : decode cX6_says 139 = .ok (.getfield 10, 3) := by decide +kernel
theorem dX6_says_142 : decode cX6_says 142 = .ok (.iload 4, 2) := by decide +kernel
theorem dX6_says_144 : decode cX6_says 144 = .ok (.iconst 1, 1) := by decide +kernel
theorem dX6_says_145 : decode cX6_says 145 = .ok (.invokevirtual 131, 3) := by decide +kernel
theorem dX6_says_148 : decode cX6_says 148 = .ok (.ireturn, 1) := by decide +kernel
theorem dX6_says_149 : decode cX6_says 149 = .ok (.aload_n 0, 1) := by decide +kernel
theorem dX6_says_150 : decode cX6_says 150 = .ok (.getfield 10, 3) := by decide +kernel
theorem dX6_says_153 : decode cX6_says 153 = .ok (.getfield 115, 3) := by decide +kernel
theorem dX6_says_156 : decode cX6_says 156 = .ok (.iload 4, 2) := by decide +kernel
theorem dX6_says_158 : decode cX6_says 158 = .ok (.iconst 3, 1) := by decide +kernel
theorem dX6_says_159 : decode cX6_says 159 = .ok (.invokevirtual 124, 3) := by decide +kernel
theorem dX6_says_162 : decode cX6_says 162 = .ok (.ireturn, 1) := by decide +kernel
theorem dX6_says_163 : decode cX6_says 163 = .ok (.aload_n 0, 1) := by decide +kernel
theorem dX6_says_164 : decode cX6_says 164 = .ok (.getfield 10, 3) := by decide +kernel
theorem dX6_says_167 : decode cX6_says 167 = .ok (.iload 4, 2) := by decide +kernel
theorem dX6_says_169 : decode cX6_says 169 = .ok (.aload_n 0, 1) := by decide +kernel
theorem dX6_says_170 : decode cX6_says 170 = .ok (.getfield 10, 3) := by decide +kernel
theorem dX6_says_173 : decode cX6_says 173 = .ok (.getfield 134, 3) := by decide +kernel
theorem dX6_says_176 : decode cX6_says 176 = .ok (.invokevirtual 131, 3) := by decide +kernel
theorem dX6_says_179 : decode cX6_says 179 = .ok (.ireturn, 1) := by decide +kernel
theorem dX6_bend_0 : decode cX6_bend 0 = .ok (.aload_n 0, 1) := by decide +kernel
theorem dX6_bend_1 : decode cX6_bend 1 = .ok (.getfield 10, 3) := by decide +kernel
theorem dX6_bend_4 : decode cX6_bend 4 = .ok (.iconst 0, 1) := by decide +kernel
theorem dX6_bend_5 : decode cX6_bend 5 = .ok (.iconst 0, 1) := by decide +kernel
theorem dX6_bend_6 : decode cX6_bend 6 = .ok (.iload_n 1, 1) := by decide +kernel
theorem dX6_bend_7 : decode cX6_bend 7 = .ok (.invokevirtual 137, 3) := by decide +kernel
theorem dX6_bend_10 : decode cX6_bend 10 = .ok (.ifCond .eq 43, 3) := by decide +kernel
theorem dX6_bend_13 : decode cX6_bend 13 = .ok (.aload_n 0, 1) := by decide +kernel
theorem dX6_bend_14 : decode cX6_bend 14 = .ok (.getfield 10, 3) := by decide +kernel
theorem dX6_bend_17 : decode cX6_bend 17 = .ok (.iconst 0, 1) := by decide +kernel
theorem dX6_bend_18 : decode cX6_bend 18 = .ok (.iconst 1, 1) := by decide +kernel
theorem dX6_bend_19 : decode cX6_bend 19 = .ok (.iload_n 2, 1) := by decide +kernel
theorem dX6_bend_20 : decode cX6_bend 20 = .ok (.invokevirtual 137, 3) := by decide +kernel
theorem dX6_bend_23 : decode cX6_bend 23 = .ok (.ifCond .eq 30, 3) := by decide +kernel
theorem dX6_bend_26 : decode cX6_bend 26 = .ok (.aload_n 0, 1) := by decide +kernel
theorem dX6_bend_27 : decode cX6_bend 27 = .ok (.getfield 10, 3) := by decide +kernel
theorem dX6_bend_30 : decode cX6_bend 30 = .ok (.iconst 0, 1) := by decide +kernel
theorem dX6_bend_31 : decode cX6_bend 31 = .ok (.iconst 2, 1) := by decide +kernel
theorem dX6_bend_32 : decode cX6_bend 32 = .ok (.iload_n 3, 1) := by decide +kernel
theorem dX6_bend_33 : decode cX6_bend 33 = .ok (.invokevirtual 137, 3) := by decide +kernel
theorem dX6_bend_36 : decode cX6_bend 36 = .ok (.ifCond .eq 17, 3) := by decide +kernel
theorem dX6_bend_39 : decode cX6_bend 39 = .ok (.aload_n 0, 1) := by decide +kernel
theorem dX6_bend_40 : decode cX6_bend 40 = .ok (.getfield 10, 3) := by decide +kernel
theorem dX6_bend_43 : decode cX6_bend 43 = .ok (.iconst 0, 1) := by decide +kernel
theorem dX6_bend_44 : decode cX6_bend 44 = .ok (.iconst 3, 1) := by decide +kernel
theorem dX6_bend_45 : decode cX6_bend 45 = .ok (.iload 4, 2) := by decide +kernel
theorem dX6_bend_47 : decode cX6_bend 47 = .ok (.invokevirtual 137, 3) := by decide +kernel
theorem dX6_bend_50 : decode cX6_bend 50 = .ok (.ifCond .ne 10, 3) := by decide +kernel
theorem dX6_bend_53 : decode cX6_bend 53 = .ok (.aload_n 0, 1) := by decide +kernel
theorem dX6_bend_54 : decode cX6_bend 54 = .ok (.bipush (-2), 2) := by decide +kernel
theorem dX6_bend_56 : decode cX6_bend 56 = .ok (.invokevirtual 62, 3) := by decide +kernel
theorem dX6_bend_59 : decode cX6_bend 59 = .ok (.ireturn, 1) := by decide +kernel
theorem dX6_bend_60 : decode cX6_bend 60 = .ok (.aload_n 0, 1) := by decide +kernel
theorem dX6_bend_61 : decode cX6_bend 61 = .ok (.getfield 10, 3) := by decide +kernel
theorem dX6_bend_64 : decode cX6_bend 64 = .ok (.getfield 115, 3) := by decide +kernel
theorem dX6_bend_67 : decode cX6_bend 67 = .ok (.invokevirtual 140, 3) := by decide +kernel
theorem dX6_bend_70 : decode cX6_bend 70 = .ok (.ifCond .eq 10, 3) := by decide +kernel
theorem dX6_bend_73 : decode cX6_bend 73 = .ok (.aload_n 0, 1) := by decide +kernel
theorem dX6_bend_74 : decode cX6_bend 74 = .ok (.bipush (-6), 2) := by decide +kernel
theorem dX6_bend_76 : decode cX6_bend 76 = .ok (.invokevirtual 62, 3) := by decide +kernel
theorem dX6_bend_79 : decode cX6_bend 79 = .ok (.ireturn, 1) := by decide +kernel
theorem dX6_bend_80 : decode cX6_bend 80 = .ok (.aload_n 0, 1) := by decide +kernel
theorem dX6_bend_81 : decode cX6_bend 81 = .ok (.getfield 10, 3) := by decide +kernel
theorem dX6_bend_84 : decode cX6_bend 84 = .ok (.iload_n 1, 1) := by decide +kernel
theorem dX6_bend_85 : decode cX6_bend 85 = .ok (.iload_n 2, 1) := by decide +kernel
theorem dX6_bend_86 : decode cX6_bend 86 = .ok (.iload_n 3, 1) := by decide +kernel
theorem dX6_bend_87 : decode cX6_bend 87 = .ok (.iload 4, 2) := by decide +kernel
theorem dX6_bend_89 : decode cX6_bend 89 = .ok (.invokevirtual 143, 3) := by decide +kernel
theorem dX6_bend_92 : decode cX6_bend 92 = .ok (.ireturn, 1) := by decide +kernel
theorem dX6_ask_0 : decode cX6_ask 0 = .ok (.iload_n 1, 1) := by decide +kernel
theorem dX6_ask_1 : decode cX6_ask 1 = .ok (.iconst 0, 1) := by decide +kernel
theorem dX6_ask_2 : decode cX6_ask 2 = .ok (.iconst 2, 1) := by decide +kernel
theorem dX6_ask_3 : decode cX6_ask 3 = .ok (.invokestatic 58, 3) := by decide +kernel
theorem dX6_ask_6 : decode cX6_ask 6 = .ok (.ifCond .eq 18, 3) := by decide +kernel
theorem dX6_ask_9 : decode cX6_ask 9 = .ok (.aload_n 0, 1) := by decide +kernel
theorem dX6_ask_10 : decode cX6_ask 10 = .ok (.getfield 10, 3) := by decide +kernel
theorem dX6_ask_13 : decode cX6_ask 13 = .ok (.iconst 1, 1) := by decide +kernel
theorem dX6_ask_14 : decode cX6_ask 14 = .ok (.iload_n 1, 1) := by decide +kernel
theorem dX6_ask_15 : decode cX6_ask 15 = .ok (.iadd, 1) := by decide +kernel
theorem dX6_ask_16 : decode cX6_ask 16 = .ok (.iconst 0, 1) := by decide +kernel
theorem dX6_ask_17 : decode cX6_ask 17 = .ok (.iload_n 2, 1) := by decide +kernel
theorem dX6_ask_18 : decode cX6_ask 18 = .ok (.invokevirtual 137, 3) := by decide +kernel
theorem dX6_ask_21 : decode cX6_ask 21 = .ok (.ifCond .ne 10, 3) := by decide +kernel
theorem dX6_ask_24 : decode cX6_ask 24 = .ok (.aload_n 0, 1) := by decide +kernel
theorem dX6_ask_25 : decode cX6_ask 25 = .ok (.bipush (-2), 2) := by decide +kernel
theorem dX6_ask_27 : decode cX6_ask 27 = .ok (.invokevirtual 62, 3) := by decide +kernel
theorem dX6_ask_30 : decode cX6_ask 30 = .ok (.ireturn, 1) := by decide +kernel
theorem dX6_ask_31 : decode cX6_ask 31 = .ok (.aload_n 0, 1) := by decide +kernel
theorem dX6_ask_32 : decode cX6_ask 32 = .ok (.getfield 10, 3) := by decide +kernel
theorem dX6_ask_35 : decode cX6_ask 35 = .ok (.iload_n 1, 1) := by decide +kernel
theorem dX6_ask_36 : decode cX6_ask 36 = .ok (.iload_n 2, 1) := by decide +kernel
theorem dX6_ask_37 : decode cX6_ask 37 = .ok (.invokevirtual 147, 3) := by decide +kernel
theorem dX6_ask_40 : decode cX6_ask 40 = .ok (.ireturn, 1) := by decide +kernel
theorem dX6_sign_0 : decode cX6_sign 0 = .ok (.aload_n 0, 1) := by decide +kernel
theorem dX6_sign_1 : decode cX6_sign 1 = .ok (.iload_n 1, 1) := by decide +kernel
theorem dX6_sign_2 : decode cX6_sign 2 = .ok (.iload_n 3, 1) := by decide +kernel
theorem dX6_sign_3 : decode cX6_sign 3 = .ok (.invokevirtual 150, 3) := by decide +kernel
theorem dX6_sign_6 : decode cX6_sign 6 = .ok (.ifCond .ne 10, 3) := by decide +kernel
theorem dX6_sign_9 : decode cX6_sign 9 = .ok (.aload_n 0, 1) := by decide +kernel
theorem dX6_sign_10 : decode cX6_sign 10 = .ok (.bipush (-2), 2) := by decide +kernel
theorem dX6_sign_12 : decode cX6_sign 12 = .ok (.invokevirtual 62, 3) := by decide +kernel
theorem dX6_sign_15 : decode cX6_sign 15 = .ok (.ireturn, 1) := by decide +kernel
theorem dX6_sign_16 : decode cX6_sign 16 = .ok (.aload_n 0, 1) := by decide +kernel
theorem dX6_sign_17 : decode cX6_sign 17 = .ok (.getfield 10, 3) := by decide +kernel
theorem dX6_sign_20 : decode cX6_sign 20 = .ok (.getfield 153, 3) := by decide +kernel
theorem dX6_sign_23 : decode cX6_sign 23 = .ok (.invokevirtual 140, 3) := by decide +kernel
theorem dX6_sign_26 : decode cX6_sign 26 = .ok (.ifCond .eq 10, 3) := by decide +kernel
theorem dX6_sign_29 : decode cX6_sign 29 = .ok (.aload_n 0, 1) := by decide +kernel
theorem dX6_sign_30 : decode cX6_sign 30 = .ok (.bipush (-6), 2) := by decide +kernel
theorem dX6_sign_32 : decode cX6_sign 32 = .ok (.invokevirtual 62, 3) := by decide +kernel
theorem dX6_sign_35 : decode cX6_sign 35 = .ok (.ireturn, 1) := by decide +kernel
theorem dX6_sign_36 : decode cX6_sign 36 = .ok (.aload_n 0, 1) := by decide +kernel
theorem dX6_sign_37 : decode cX6_sign 37 = .ok (.getfield 10, 3) := by decide +kernel
theorem dX6_sign_40 : decode cX6_sign 40 = .ok (.iload_n 1, 1) := by decide +kernel
theorem dX6_sign_41 : decode cX6_sign 41 = .ok (.iload_n 2, 1) := by decide +kernel
theorem dX6_sign_42 : decode cX6_sign 42 = .ok (.iload_n 3, 1) := by decide +kernel
theorem dX6_sign_43 : decode cX6_sign 43 = .ok (.invokevirtual 156, 3) := by decide +kernel
theorem dX6_sign_46 : decode cX6_sign 46 = .ok (.aload_n 0, 1) := by decide +kernel
theorem dX6_sign_47 : decode cX6_sign 47 = .ok (.getfield 10, 3) := by decide +kernel
theorem dX6_sign_50 : decode cX6_sign 50 = .ok (.getfield 153, 3) := by decide +kernel
theorem dX6_sign_53 : decode cX6_sign 53 = .ok (.getfield 160, 3) := by decide +kernel
theorem dX6_sign_56 : decode cX6_sign 56 = .ok (.ireturn, 1) := by decide +kernel
theorem dX6_anew_0 : decode cX6_anew 0 = .ok (.aload_n 0, 1) := by decide +kernel
theorem dX6_anew_1 : decode cX6_anew 1 = .ok (.getfield 10, 3) := by decide +kernel
theorem dX6_anew_4 : decode cX6_anew 4 = .ok (.getfield 153, 3) := by decide +kernel
theorem dX6_anew_7 : decode cX6_anew 7 = .ok (.getfield 160, 3) := by decide +kernel
theorem dX6_anew_10 : decode cX6_anew 10 = .ok (.istore_n 1, 1) := by decide +kernel
theorem dX6_anew_11 : decode cX6_anew 11 = .ok (.aload_n 0, 1) := by decide +kernel
theorem dX6_anew_12 : decode cX6_anew 12 = .ok (.getfield 10, 3) := by decide +kernel
theorem dX6_anew_15 : decode cX6_anew 15 = .ok (.invokevirtual 163, 3) := by decide +kernel
theorem dX6_anew_18 : decode cX6_anew 18 = .ok (.iload_n 1, 1) := by decide +kernel
theorem dX6_anew_19 : decode cX6_anew 19 = .ok (.ireturn, 1) := by decide +kernel
theorem dX6_feed_0 : decode cX6_feed 0 = .ok (.iload_n 1, 1) := by decide +kernel
theorem dX6_feed_1 : decode cX6_feed 1 = .ok (.iconst 0, 1) := by decide +kernel
theorem dX6_feed_2 : decode cX6_feed 2 = .ok (.sipush 255, 3) := by decide +kernel
theorem dX6_feed_5 : decode cX6_feed 5 = .ok (.invokestatic 58, 3) := by decide +kernel
theorem dX6_feed_8 : decode cX6_feed 8 = .ok (.ifCond .ne 10, 3) := by decide +kernel
theorem dX6_feed_11 : decode cX6_feed 11 = .ok (.aload_n 0, 1) := by decide +kernel
theorem dX6_feed_12 : decode cX6_feed 12 = .ok (.bipush (-2), 2) := by decide +kernel
theorem dX6_feed_14 : decode cX6_feed 14 = .ok (.invokevirtual 62, 3) := by decide +kernel
theorem dX6_feed_17 : decode cX6_feed 17 = .ok (.ireturn, 1) := by decide +kernel
theorem dX6_feed_18 : decode cX6_feed 18 = .ok (.aload_n 0, 1) := by decide +kernel
theorem dX6_feed_19 : decode cX6_feed 19 = .ok (.getfield 39, 3) := by decide +kernel
theorem dX6_feed_22 : decode cX6_feed 22 = .ok (.invokevirtual 166, 3) := by decide +kernel
theorem dX6_feed_25 : decode cX6_feed 25 = .ok (.ifCond .eq 10, 3) := by decide +kernel
theorem dX6_feed_28 : decode cX6_feed 28 = .ok (.aload_n 0, 1) := by decide +kernel
theorem dX6_feed_29 : decode cX6_feed 29 = .ok (.bipush (-6), 2) := by decide +kernel
theorem dX6_feed_31 : decode cX6_feed 31 = .ok (.invokevirtual 62, 3) := by decide +kernel
theorem dX6_feed_34 : decode cX6_feed 34 = .ok (.ireturn, 1) := by decide +kernel
theorem dX6_feed_35 : decode cX6_feed 35 = .ok (.aload_n 0, 1) := by decide +kernel
theorem dX6_feed_36 : decode cX6_feed 36 = .ok (.getfield 39, 3) := by decide +kernel
theorem dX6_feed_39 : decode cX6_feed 39 = .ok (.iload_n 1, 1) := by decide +kernel
theorem dX6_feed_40 : decode cX6_feed 40 = .ok (.invokevirtual 167, 3) := by decide +kernel
theorem dX6_feed_43 : decode cX6_feed 43 = .ok (.aload_n 0, 1) := by decide +kernel
theorem dX6_feed_44 : decode cX6_feed 44 = .ok (.getfield 39, 3) := by decide +kernel
theorem dX6_feed_47 : decode cX6_feed 47 = .ok (.getfield 170, 3) := by decide +kernel
theorem dX6_feed_50 : decode cX6_feed 50 = .ok (.ireturn, 1) := by decide +kernel
theorem dX6_wipe_0 : decode cX6_wipe 0 = .ok (.aload_n 0, 1) := by decide +kernel
theorem dX6_wipe_1 : decode cX6_wipe 1 = .ok (.getfield 39, 3) := by decide +kernel
theorem dX6_wipe_4 : decode cX6_wipe 4 = .ok (.getfield 170, 3) := by decide +kernel
theorem dX6_wipe_7 : decode cX6_wipe 7 = .ok (.istore_n 1, 1) := by decide +kernel
theorem dX6_wipe_8 : decode cX6_wipe 8 = .ok (.aload_n 0, 1) := by decide +kernel
theorem dX6_wipe_9 : decode cX6_wipe 9 = .ok (.getfield 39, 3) := by decide +kernel
theorem dX6_wipe_12 : decode cX6_wipe 12 = .ok (.iconst 0, 1) := by decide +kernel
theorem dX6_wipe_13 : decode cX6_wipe 13 = .ok (.putfield 170, 3) := by decide +kernel
theorem dX6_wipe_16 : decode cX6_wipe 16 = .ok (.iload_n 1, 1) := by decide +kernel
theorem dX6_wipe_17 : decode cX6_wipe 17 = .ok (.ireturn, 1) := by decide +kernel
theorem dX6_way_0 : decode cX6_way 0 = .ok (.aload_n 0, 1) := by decide +kernel
theorem dX6_way_1 : decode cX6_way 1 = .ok (.getfield 19, 3) := by decide +kernel
theorem dX6_way_4 : decode cX6_way 4 = .ok (.aload_n 0, 1) := by decide +kernel
theorem dX6_way_5 : decode cX6_way 5 = .ok (.getfield 10, 3) := by decide +kernel
theorem dX6_way_8 : decode cX6_way 8 = .ok (.invokevirtual 173, 3) := by decide +kernel
theorem dX6_way_11 : decode cX6_way 11 = .ok (.aload_n 0, 1) := by decide +kernel
theorem dX6_way_12 : decode cX6_way 12 = .ok (.getfield 39, 3) := by decide +kernel
theorem dX6_way_15 : decode cX6_way 15 = .ok (.aload_n 0, 1) := by decide +kernel
theorem dX6_way_16 : decode cX6_way 16 = .ok (.getfield 19, 3) := by decide +kernel
theorem dX6_way_19 : decode cX6_way 19 = .ok (.invokevirtual 177, 3) := by decide +kernel
theorem dX6_way_22 : decode cX6_way 22 = .ok (.istore_n 1, 1) := by decide +kernel
theorem dX6_way_23 : decode cX6_way 23 = .ok (.aload_n 0, 1) := by decide +kernel
theorem dX6_way_24 : decode cX6_way 24 = .ok (.getfield 39, 3) := by decide +kernel
theorem dX6_way_27 : decode cX6_way 27 = .ok (.iconst 0, 1) := by decide +kernel
theorem dX6_way_28 : decode cX6_way 28 = .ok (.putfield 170, 3) := by decide +kernel
theorem dX6_way_31 : decode cX6_way 31 = .ok (.iload_n 1, 1) := by decide +kernel
theorem dX6_way_32 : decode cX6_way 32 = .ok (.ifCond .ge 12, 3) := by decide +kernel
theorem dX6_way_35 : decode cX6_way 35 = .ok (.aload_n 0, 1) := by decide +kernel
theorem dX6_way_36 : decode cX6_way 36 = .ok (.bipush (-2), 2) := by decide +kernel
theorem dX6_way_38 : decode cX6_way 38 = .ok (.invokevirtual 62, 3) := by decide +kernel
theorem dX6_way_41 : decode cX6_way 41 = .ok (.pop, 1) := by decide +kernel
theorem dX6_way_42 : decode cX6_way 42 = .ok (.iload_n 1, 1) := by decide +kernel
theorem dX6_way_43 : decode cX6_way 43 = .ok (.ireturn, 1) := by decide +kernel
theorem dX6_way_44 : decode cX6_way 44 = .ok (.aload_n 0, 1) := by decide +kernel
theorem dX6_way_45 : decode cX6_way 45 = .ok (.getfield 10, 3) := by decide +kernel
theorem dX6_way_48 : decode cX6_way 48 = .ok (.aload_n 0, 1) := by decide +kernel
theorem dX6_way_49 : decode cX6_way 49 = .ok (.getfield 19, 3) := by decide +kernel
theorem dX6_way_52 : decode cX6_way 52 = .ok (.invokevirtual 173, 3) := by decide +kernel
theorem dX6_way_55 : decode cX6_way 55 = .ok (.iload_n 1, 1) := by decide +kernel
theorem dX6_way_56 : decode cX6_way 56 = .ok (.ireturn, 1) := by decide +kernel
theorem dX6_bendOf_0 : decode cX6_bendOf 0 = .ok (.aload_n 0, 1) := by decide +kernel
theorem dX6_bendOf_1 : decode cX6_bendOf 1 = .ok (.getfield 10, 3) := by decide +kernel
theorem dX6_bendOf_4 : decode cX6_bendOf 4 = .ok (.getfield 115, 3) := by decide +kernel
theorem dX6_bendOf_7 : decode cX6_bendOf 7 = .ok (.iload_n 1, 1) := by decide +kernel
theorem dX6_bendOf_8 : decode cX6_bendOf 8 = .ok (.invokevirtual 119, 3) := by decide +kernel
theorem dX6_bendOf_11 : decode cX6_bendOf 11 = .ok (.ifCond .eq 13, 3) := by decide +kernel
theorem dX6_bendOf_14 : decode cX6_bendOf 14 = .ok (.iload_n 2, 1) := by decide +kernel
theorem dX6_bendOf_15 : decode cX6_bendOf 15 = .ok (.iconst 0, 1) := by decide +kernel
theorem dX6_bendOf_16 : decode cX6_bendOf 16 = .ok (.bipush 6, 2) := by decide +kernel
theorem dX6_bendOf_18 : decode cX6_bendOf 18 = .ok (.invokestatic 58, 3) := by decide +kernel
theorem dX6_bendOf_21 : decode cX6_bendOf 21 = .ok (.ifCond .ne 10, 3) := by decide +kernel
theorem dX6_bendOf_24 : decode cX6_bendOf 24 = .ok (.aload_n 0, 1) := by decide +kernel
theorem dX6_bendOf_25 : decode cX6_bendOf 25 = .ok (.bipush (-2), 2) := by decide +kernel
theorem dX6_bendOf_27 : decode cX6_bendOf 27 = .ok (.invokevirtual 62, 3) := by decide +kernel
theorem dX6_bendOf_30 : decode cX6_bendOf 30 = .ok (.ireturn, 1) := by decide +kernel
theorem dX6_bendOf_31 : decode cX6_bendOf 31 = .ok (.iload_n 2, 1) := by decide +kernel
theorem dX6_bendOf_32 : decode cX6_bendOf 32 = .ok (.lookupswitch 53 #[(5, 28), (6, 44)], 28) := by decide +kernel
theorem dX6_bendOf_60 : decode cX6_bendOf 60 = .ok (.aload_n 0, 1) := by decide +kernel
theorem dX6_bendOf_61 : decode cX6_bendOf 61 = .ok (.getfield 10, 3) := by decide +kernel
theorem dX6_bendOf_64 : decode cX6_bendOf 64 = .ok (.iload_n 1, 1) := by decide +kernel
theorem dX6_bendOf_65 : decode cX6_bendOf 65 = .ok (.aload_n 0, 1) := by decide +kernel
theorem dX6_bendOf_66 : decode cX6_bendOf 66 = .ok (.getfield 10, 3) := by decide +kernel
theorem dX6_bendOf_69 : decode cX6_bendOf 69 = .ok (.getfield 134, 3) := by decide +kernel
theorem dX6_bendOf_72 : decode cX6_bendOf 72 = .ok (.invokevirtual 131, 3) := by decide +kernel
theorem dX6_bendOf_75 : decode cX6_bendOf 75 = .ok (.ireturn, 1) := by decide +kernel
theorem dX6_bendOf_76 : decode cX6_bendOf 76 = .ok (.aload_n 0, 1) := by decide +kernel
theorem dX6_bendOf_77 : decode cX6_bendOf 77 = .ok (.getfield 10, 3) := by decide +kernel
theorem dX6_bendOf_80 : decode cX6_bendOf 80 = .ok (.iload_n 1, 1) := by decide +kernel
theorem dX6_bendOf_81 : decode cX6_bendOf 81 = .ok (.invokevirtual 181, 3) := by decide +kernel
theorem dX6_bendOf_84 : decode cX6_bendOf 84 = .ok (.ireturn, 1) := by decide +kernel
theorem dX6_bendOf_85 : decode cX6_bendOf 85 = .ok (.aload_n 0, 1) := by decide +kernel
theorem dX6_bendOf_86 : decode cX6_bendOf 86 = .ok (.getfield 10, 3) := by decide +kernel
theorem dX6_bendOf_89 : decode cX6_bendOf 89 = .ok (.getfield 115, 3) := by decide +kernel
theorem dX6_bendOf_92 : decode cX6_bendOf 92 = .ok (.iload_n 1, 1) := by decide +kernel
theorem dX6_bendOf_93 : decode cX6_bendOf 93 = .ok (.iload_n 2, 1) := by decide +kernel
theorem dX6_bendOf_94 : decode cX6_bendOf 94 = .ok (.invokevirtual 124, 3) := by decide +kernel
theorem dX6_bendOf_97 : decode cX6_bendOf 97 = .ok (.ireturn, 1) := by decide +kernel
theorem dX6_signOf_0 : decode cX6_signOf 0 = .ok (.aload_n 0, 1) := by decide +kernel
theorem dX6_signOf_1 : decode cX6_signOf 1 = .ok (.getfield 10, 3) := by decide +kernel
theorem dX6_signOf_4 : decode cX6_signOf 4 = .ok (.getfield 153, 3) := by decide +kernel
theorem dX6_signOf_7 : decode cX6_signOf 7 = .ok (.iload_n 1, 1) := by decide +kernel
theorem dX6_signOf_8 : decode cX6_signOf 8 = .ok (.invokevirtual 119, 3) := by decide +kernel
theorem dX6_signOf_11 : decode cX6_signOf 11 = .ok (.ifCond .eq 12, 3) := by decide +kernel
theorem dX6_signOf_14 : decode cX6_signOf 14 = .ok (.iload_n 2, 1) := by decide +kernel
theorem dX6_signOf_15 : decode cX6_signOf 15 = .ok (.iconst 0, 1) := by decide +kernel
theorem dX6_signOf_16 : decode cX6_signOf 16 = .ok (.iconst 2, 1) := by decide +kernel
theorem dX6_signOf_17 : decode cX6_signOf 17 = .ok (.invokestatic 58, 3) := by decide +kernel
theorem dX6_signOf_20 : decode cX6_signOf 20 = .ok (.ifCond .ne 10, 3) := by decide +kernel
theorem dX6_signOf_23 : decode cX6_signOf 23 = .ok (.aload_n 0, 1) := by decide +kernel
theorem dX6_signOf_24 : decode cX6_signOf 24 = .ok (.bipush (-2), 2) := by decide +kernel
theorem dX6_signOf_26 : decode cX6_signOf 26 = .ok (.invokevirtual 62, 3) := by decide +kernel
theorem dX6_signOf_29 : decode cX6_signOf 29 = .ok (.ireturn, 1) := by decide +kernel
theorem dX6_signOf_30 : decode cX6_signOf 30 = .ok (.aload_n 0, 1) := by decide +kernel
theorem dX6_signOf_31 : decode cX6_signOf 31 = .ok (.getfield 10, 3) := by decide +kernel
theorem dX6_signOf_34 : decode cX6_signOf 34 = .ok (.getfield 153, 3) := by decide +kernel
theorem dX6_signOf_37 : decode cX6_signOf 37 = .ok (.iload_n 1, 1) := by decide +kernel
theorem dX6_signOf_38 : decode cX6_signOf 38 = .ok (.iload_n 2, 1) := by decide +kernel
theorem dX6_signOf_39 : decode cX6_signOf 39 = .ok (.invokevirtual 124, 3) := by decide +kernel
theorem dX6_signOf_42 : decode cX6_signOf 42 = .ok (.ireturn, 1) := by decide +kernel
theorem dX6_call_0 : decode cX6_call 0 = .ok (.aload_n 0, 1) := by decide +kernel
theorem dX6_call_1 : decode cX6_call 1 = .ok (.getfield 10, 3) := by decide +kernel
theorem dX6_call_4 : decode cX6_call 4 = .ok (.bipush 6, 2) := by decide +kernel
theorem dX6_call_6 : decode cX6_call 6 = .ok (.iconst 0, 1) := by decide +kernel
theorem dX6_call_7 : decode cX6_call 7 = .ok (.iload_n 1, 1) := by decide +kernel
theorem dX6_call_8 : decode cX6_call 8 = .ok (.invokevirtual 137, 3) := by decide +kernel
theorem dX6_call_11 : decode cX6_call 11 = .ok (.ifCond .eq 31, 3) := by decide +kernel
theorem dX6_call_14 : decode cX6_call 14 = .ok (.aload_n 0, 1) := by decide +kernel
theorem dX6_call_15 : decode cX6_call 15 = .ok (.getfield 10, 3) := by decide +kernel
theorem dX6_call_18 : decode cX6_call 18 = .ok (.bipush 6, 2) := by decide +kernel
theorem dX6_call_20 : decode cX6_call 20 = .ok (.iconst 1, 1) := by decide +kernel
theorem dX6_call_21 : decode cX6_call 21 = .ok (.iload_n 2, 1) := by decide +kernel
theorem dX6_call_22 : decode cX6_call 22 = .ok (.invokevirtual 137, 3) := by decide +kernel
theorem dX6_call_25 : decode cX6_call 25 = .ok (.ifCond .eq 17, 3) := by decide +kernel
theorem dX6_call_28 : decode cX6_call 28 = .ok (.aload_n 0, 1) := by decide +kernel
theorem dX6_call_29 : decode cX6_call 29 = .ok (.getfield 10, 3) := by decide +kernel
theorem dX6_call_32 : decode cX6_call 32 = .ok (.bipush 6, 2) := by decide +kernel
theorem dX6_call_34 : decode cX6_call 34 = .ok (.iconst 2, 1) := by decide +kernel
theorem dX6_call_35 : decode cX6_call 35 = .ok (.iload_n 3, 1) := by decide +kernel
theorem dX6_call_36 : decode cX6_call 36 = .ok (.invokevirtual 137, 3) := by decide +kernel
theorem dX6_call_39 : decode cX6_call 39 = .ok (.ifCond .ne 10, 3) := by decide +kernel
theorem dX6_call_42 : decode cX6_call 42 = .ok (.aload_n 0, 1) := by decide +kernel
theorem dX6_call_43 : decode cX6_call 43 = .ok (.bipush (-2), 2) := by decide +kernel
theorem dX6_call_45 : decode cX6_call 45 = .ok (.invokevirtual 62, 3) := by decide +kernel
theorem dX6_call_48 : decode cX6_call 48 = .ok (.ireturn, 1) := by decide +kernel
theorem dX6_call_49 : decode cX6_call 49 = .ok (.aload_n 0, 1) := by decide +kernel
theorem dX6_call_50 : decode cX6_call 50 = .ok (.getfield 10, 3) := by decide +kernel
theorem dX6_call_53 : decode cX6_call 53 = .ok (.getfield 184, 3) := by decide +kernel
theorem dX6_call_56 : decode cX6_call 56 = .ok (.invokevirtual 140, 3) := by decide +kernel
theorem dX6_call_59 : decode cX6_call 59 = .ok (.ifCond .eq 10, 3) := by decide +kernel
theorem dX6_call_62 : decode cX6_call 62 = .ok (.aload_n 0, 1) := by decide +kernel
theorem dX6_call_63 : decode cX6_call 63 = .ok (.bipush (-6), 2) := by decide +kernel
theorem dX6_call_65 : decode cX6_call 65 = .ok (.invokevirtual 62, 3) := by decide +kernel
theorem dX6_call_68 : decode cX6_call 68 = .ok (.ireturn, 1) := by decide +kernel
theorem dX6_call_69 : decode cX6_call 69 = .ok (.aload_n 0, 1) := by decide +kernel
theorem dX6_call_70 : decode cX6_call 70 = .ok (.getfield 10, 3) := by decide +kernel
theorem dX6_call_73 : decode cX6_call 73 = .ok (.iload_n 1, 1) := by decide +kernel
theorem dX6_call_74 : decode cX6_call 74 = .ok (.iload_n 2, 1) := by decide +kernel
theorem dX6_call_75 : decode cX6_call 75 = .ok (.iload_n 3, 1) := by decide +kernel
theorem dX6_call_76 : decode cX6_call 76 = .ok (.invokevirtual 187, 3) := by decide +kernel
theorem dX6_call_79 : decode cX6_call 79 = .ok (.ireturn, 1) := by decide +kernel
theorem dX6_callOf_0 : decode cX6_callOf 0 = .ok (.aload_n 0, 1) := by decide +kernel
theorem dX6_callOf_1 : decode cX6_callOf 1 = .ok (.getfield 10, 3) := by decide +kernel
theorem dX6_callOf_4 : decode cX6_callOf 4 = .ok (.getfield 184, 3) := by decide +kernel
theorem dX6_callOf_7 : decode cX6_callOf 7 = .ok (.iload_n 1, 1) := by decide +kernel
theorem dX6_callOf_8 : decode cX6_callOf 8 = .ok (.invokevirtual 119, 3) := by decide +kernel
theorem dX6_callOf_11 : decode cX6_callOf 11 = .ok (.ifCond .eq 12, 3) := by decide +kernel
theorem dX6_callOf_14 : decode cX6_callOf 14 = .ok (.iload_n 2, 1) := by decide +kernel
theorem dX6_callOf_15 : decode cX6_callOf 15 = .ok (.iconst 0, 1) := by decide +kernel
theorem dX6_callOf_16 : decode cX6_callOf 16 = .ok (.iconst 2, 1) := by decide +kernel
theorem dX6_callOf_17 : decode cX6_callOf 17 = .ok (.invokestatic 58, 3) := by decide +kernel
theorem dX6_callOf_20 : decode cX6_callOf 20 = .ok (.ifCond .ne 10, 3) := by decide +kernel
theorem dX6_callOf_23 : decode cX6_callOf 23 = .ok (.aload_n 0, 1) := by decide +kernel
theorem dX6_callOf_24 : decode cX6_callOf 24 = .ok (.bipush (-2), 2) := by decide +kernel
theorem dX6_callOf_26 : decode cX6_callOf 26 = .ok (.invokevirtual 62, 3) := by decide +kernel
theorem dX6_callOf_29 : decode cX6_callOf 29 = .ok (.ireturn, 1) := by decide +kernel
theorem dX6_callOf_30 : decode cX6_callOf 30 = .ok (.aload_n 0, 1) := by decide +kernel
theorem dX6_callOf_31 : decode cX6_callOf 31 = .ok (.getfield 10, 3) := by decide +kernel
theorem dX6_callOf_34 : decode cX6_callOf 34 = .ok (.getfield 184, 3) := by decide +kernel
theorem dX6_callOf_37 : decode cX6_callOf 37 = .ok (.iload_n 1, 1) := by decide +kernel
theorem dX6_callOf_38 : decode cX6_callOf 38 = .ok (.iload_n 2, 1) := by decide +kernel
theorem dX6_callOf_39 : decode cX6_callOf 39 = .ok (.invokevirtual 124, 3) := by decide +kernel
theorem dX6_callOf_42 : decode cX6_callOf 42 = .ok (.ireturn, 1) := by decide +kernel
theorem dX6_fall_0 : decode cX6_fall 0 = .ok (.aload_n 0, 1) := by decide +kernel
theorem dX6_fall_1 : decode cX6_fall 1 = .ok (.getfield 10, 3) := by decide +kernel
theorem dX6_fall_4 : decode cX6_fall 4 = .ok (.getfield 115, 3) := by decide +kernel
theorem dX6_fall_7 : decode cX6_fall 7 = .ok (.iload_n 1, 1) := by decide +kernel
theorem dX6_fall_8 : decode cX6_fall 8 = .ok (.invokevirtual 119, 3) := by decide +kernel
theorem dX6_fall_11 : decode cX6_fall 11 = .ok (.ifCond .eq 13, 3) := by decide +kernel
theorem dX6_fall_14 : decode cX6_fall 14 = .ok (.iload_n 2, 1) := by decide +kernel
theorem dX6_fall_15 : decode cX6_fall 15 = .ok (.iconst 1, 1) := by decide +kernel
theorem dX6_fall_16 : decode cX6_fall 16 = .ok (.bipush 9, 2) := by decide +kernel
theorem dX6_fall_18 : decode cX6_fall 18 = .ok (.invokestatic 58, 3) := by decide +kernel
theorem dX6_fall_21 : decode cX6_fall 21 = .ok (.ifCond .ne 10, 3) := by decide +kernel
theorem dX6_fall_24 : decode cX6_fall 24 = .ok (.aload_n 0, 1) := by decide +kernel
theorem dX6_fall_25 : decode cX6_fall 25 = .ok (.bipush (-2), 2) := by decide +kernel
theorem dX6_fall_27 : decode cX6_fall 27 = .ok (.invokevirtual 62, 3) := by decide +kernel
theorem dX6_fall_30 : decode cX6_fall 30 = .ok (.ireturn, 1) := by decide +kernel
theorem dX6_fall_31 : decode cX6_fall 31 = .ok (.aload_n 0, 1) := by decide +kernel
theorem dX6_fall_32 : decode cX6_fall 32 = .ok (.getfield 10, 3) := by decide +kernel
theorem dX6_fall_35 : decode cX6_fall 35 = .ok (.iload_n 1, 1) := by decide +kernel
theorem dX6_fall_36 : decode cX6_fall 36 = .ok (.iload_n 2, 1) := by decide +kernel
theorem dX6_fall_37 : decode cX6_fall 37 = .ok (.invokevirtual 131, 3) := by decide +kernel
theorem dX6_fall_40 : decode cX6_fall 40 = .ok (.ireturn, 1) := by decide +kernel
theorem dX6_fell_0 : decode cX6_fell 0 = .ok (.aload_n 0, 1) := by decide +kernel
theorem dX6_fell_1 : decode cX6_fell 1 = .ok (.iload_n 1, 1) := by decide +kernel
theorem dX6_fell_2 : decode cX6_fell 2 = .ok (.invokevirtual 104, 3) := by decide +kernel
theorem dX6_fell_5 : decode cX6_fell 5 = .ok (.ifCond .eq 13, 3) := by decide +kernel
theorem dX6_fell_8 : decode cX6_fell 8 = .ok (.iload_n 2, 1) := by decide +kernel
theorem dX6_fell_9 : decode cX6_fell 9 = .ok (.iconst 1, 1) := by decide +kernel
theorem dX6_fell_10 : decode cX6_fell 10 = .ok (.bipush 9, 2) := by decide +kernel
theorem dX6_fell_12 : decode cX6_fell 12 = .ok (.invokestatic 58, 3) := by decide +kernel
theorem dX6_fell_15 : decode cX6_fell 15 = .ok (.ifCond .ne 10, 3) := by decide +kernel
theorem dX6_fell_18 : decode cX6_fell 18 = .ok (.aload_n 0, 1) := by decide +kernel
theorem dX6_fell_19 : decode cX6_fell 19 = .ok (.bipush (-2), 2) := by decide +kernel
theorem dX6_fell_21 : decode cX6_fell 21 = .ok (.invokevirtual 62, 3) := by decide +kernel
theorem dX6_fell_24 : decode cX6_fell 24 = .ok (.ireturn, 1) := by decide +kernel
theorem dX6_fell_25 : decode cX6_fell 25 = .ok (.aload_n 0, 1) := by decide +kernel
theorem dX6_fell_26 : decode cX6_fell 26 = .ok (.getfield 10, 3) := by decide +kernel
theorem dX6_fell_29 : decode cX6_fell 29 = .ok (.iload_n 1, 1) := by decide +kernel
theorem dX6_fell_30 : decode cX6_fell 30 = .ok (.iload_n 2, 1) := by decide +kernel
theorem dX6_fell_31 : decode cX6_fell 31 = .ok (.invokevirtual 191, 3) := by decide +kernel
theorem dX6_fell_34 : decode cX6_fell 34 = .ok (.ireturn, 1) := by decide +kernel
theorem dX6_weight_0 : decode cX6_weight 0 = .ok (.aload_n 0, 1) := by decide +kernel
theorem dX6_weight_1 : decode cX6_weight 1 = .ok (.iload_n 1, 1) := by decide +kernel
theorem dX6_weight_2 : decode cX6_weight 2 = .ok (.invokevirtual 104, 3) := by decide +kernel
theorem dX6_weight_5 : decode cX6_weight 5 = .ok (.ifCond .ne 10, 3) := by decide +kernel
theorem dX6_weight_8 : decode cX6_weight 8 = .ok (.aload_n 0, 1) := by decide +kernel
theorem dX6_weight_9 : decode cX6_weight 9 = .ok (.bipush (-2), 2) := by decide +kernel
theorem dX6_weight_11 : decode cX6_weight 11 = .ok (.invokevirtual 62, 3) := by decide +kernel
theorem dX6_weight_14 : decode cX6_weight 14 = .ok (.ireturn, 1) := by decide +kernel
theorem dX6_weight_15 : decode cX6_weight 15 = .ok (.aload_n 0, 1) := by decide +kernel
theorem dX6_weight_16 : decode cX6_weight 16 = .ok (.getfield 25, 3) := by decide +kernel
theorem dX6_weight_19 : decode cX6_weight 19 = .ok (.aload_n 0, 1) := by decide +kernel
theorem dX6_weight_20 : decode cX6_weight 20 = .ok (.getfield 10, 3) := by decide +kernel
theorem dX6_weight_23 : decode cX6_weight 23 = .ok (.invokevirtual 194, 3) := by decide +kernel
theorem dX6_weight_26 : decode cX6_weight 26 = .ok (.aload_n 0, 1) := by decide +kernel
theorem dX6_weight_27 : decode cX6_weight 27 = .ok (.getfield 25, 3) := by decide +kernel
theorem dX6_weight_30 : decode cX6_weight 30 = .ok (.iload_n 1, 1) := by decide +kernel
theorem dX6_weight_31 : decode cX6_weight 31 = .ok (.invokevirtual 197, 3) := by decide +kernel
theorem dX6_weight_34 : decode cX6_weight 34 = .ok (.ireturn, 1) := by decide +kernel
theorem dX6_likely_0 : decode cX6_likely 0 = .ok (.aload_n 0, 1) := by decide +kernel
theorem dX6_likely_1 : decode cX6_likely 1 = .ok (.iload_n 1, 1) := by decide +kernel
theorem dX6_likely_2 : decode cX6_likely 2 = .ok (.invokevirtual 104, 3) := by decide +kernel
theorem dX6_likely_5 : decode cX6_likely 5 = .ok (.ifCond .ne 10, 3) := by decide +kernel
theorem dX6_likely_8 : decode cX6_likely 8 = .ok (.aload_n 0, 1) := by decide +kernel
theorem dX6_likely_9 : decode cX6_likely 9 = .ok (.bipush (-2), 2) := by decide +kernel
theorem dX6_likely_11 : decode cX6_likely 11 = .ok (.invokevirtual 62, 3) := by decide +kernel
theorem dX6_likely_14 : decode cX6_likely 14 = .ok (.ireturn, 1) := by decide +kernel
theorem dX6_likely_15 : decode cX6_likely 15 = .ok (.aload_n 0, 1) := by decide +kernel
theorem dX6_likely_16 : decode cX6_likely 16 = .ok (.getfield 25, 3) := by decide +kernel
theorem dX6_likely_19 : decode cX6_likely 19 = .ok (.aload_n 0, 1) := by decide +kernel
theorem dX6_likely_20 : decode cX6_likely 20 = .ok (.getfield 10, 3) := by decide +kernel
theorem dX6_likely_23 : decode cX6_likely 23 = .ok (.invokevirtual 194, 3) := by decide +kernel
theorem dX6_likely_26 : decode cX6_likely 26 = .ok (.aload_n 0, 1) := by decide +kernel
theorem dX6_likely_27 : decode cX6_likely 27 = .ok (.aload_n 0, 1) := by decide +kernel
theorem dX6_likely_28 : decode cX6_likely 28 = .ok (.getfield 25, 3) := by decide +kernel
theorem dX6_likely_31 : decode cX6_likely 31 = .ok (.iload_n 1, 1) := by decide +kernel
theorem dX6_likely_32 : decode cX6_likely 32 = .ok (.invokevirtual 197, 3) := by decide +kernel
theorem dX6_likely_35 : decode cX6_likely 35 = .ok (.invokevirtual 199, 3) := by decide +kernel
theorem dX6_likely_38 : decode cX6_likely 38 = .ok (.ireturn, 1) := by decide +kernel
theorem dX6_between_0 : decode cX6_between 0 = .ok (.aload_n 0, 1) := by decide +kernel
theorem dX6_between_1 : decode cX6_between 1 = .ok (.getfield 10, 3) := by decide +kernel
theorem dX6_between_4 : decode cX6_between 4 = .ok (.getfield 115, 3) := by decide +kernel
theorem dX6_between_7 : decode cX6_between 7 = .ok (.iload_n 1, 1) := by decide +kernel
theorem dX6_between_8 : decode cX6_between 8 = .ok (.invokevirtual 119, 3) := by decide +kernel
theorem dX6_between_11 : decode cX6_between 11 = .ok (.ifCond .eq 22, 3) := by decide +kernel
theorem dX6_between_14 : decode cX6_between 14 = .ok (.aload_n 0, 1) := by decide +kernel
theorem dX6_between_15 : decode cX6_between 15 = .ok (.getfield 10, 3) := by decide +kernel
theorem dX6_between_18 : decode cX6_between 18 = .ok (.getfield 115, 3) := by decide +kernel
theorem dX6_between_21 : decode cX6_between 21 = .ok (.iload_n 2, 1) := by decide +kernel
theorem dX6_between_22 : decode cX6_between 22 = .ok (.invokevirtual 119, 3) := by decide +kernel
theorem dX6_between_25 : decode cX6_between 25 = .ok (.ifCond .eq 8, 3) := by decide +kernel
theorem dX6_between_28 : decode cX6_between 28 = .ok (.iload_n 2, 1) := by decide +kernel
theorem dX6_between_29 : decode cX6_between 29 = .ok (.iload_n 1, 1) := by decide +kernel
theorem dX6_between_30 : decode cX6_between 30 = .ok (.if_icmp .ge 10, 3) := by decide +kernel
theorem dX6_between_33 : decode cX6_between 33 = .ok (.aload_n 0, 1) := by decide +kernel
theorem dX6_between_34 : decode cX6_between 34 = .ok (.bipush (-2), 2) := by decide +kernel
theorem dX6_between_36 : decode cX6_between 36 = .ok (.invokevirtual 62, 3) := by decide +kernel
theorem dX6_between_39 : decode cX6_between 39 = .ok (.ireturn, 1) := by decide +kernel
theorem dX6_between_40 : decode cX6_between 40 = .ok (.aload_n 0, 1) := by decide +kernel
theorem dX6_between_41 : decode cX6_between 41 = .ok (.getfield 25, 3) := by decide +kernel
theorem dX6_between_44 : decode cX6_between 44 = .ok (.aload_n 0, 1) := by decide +kernel
theorem dX6_between_45 : decode cX6_between 45 = .ok (.getfield 10, 3) := by decide +kernel
theorem dX6_between_48 : decode cX6_between 48 = .ok (.invokevirtual 194, 3) := by decide +kernel
theorem dX6_between_51 : decode cX6_between 51 = .ok (.aload_n 0, 1) := by decide +kernel
theorem dX6_between_52 : decode cX6_between 52 = .ok (.aload_n 0, 1) := by decide +kernel
theorem dX6_between_53 : decode cX6_between 53 = .ok (.getfield 25, 3) := by decide +kernel
theorem dX6_between_56 : decode cX6_between 56 = .ok (.iload_n 1, 1) := by decide +kernel
theorem dX6_between_57 : decode cX6_between 57 = .ok (.iload_n 2, 1) := by decide +kernel
theorem dX6_between_58 : decode cX6_between 58 = .ok (.invokevirtual 202, 3) := by decide +kernel
theorem dX6_between_61 : decode cX6_between 61 = .ok (.invokevirtual 199, 3) := by decide +kernel
theorem dX6_between_64 : decode cX6_between 64 = .ok (.ireturn, 1) := by decide +kernel
theorem dX6_half_0 : decode cX6_half 0 = .ok (.aload_n 0, 1) := by decide +kernel
theorem dX6_half_1 : decode cX6_half 1 = .ok (.getfield 25, 3) := by decide +kernel
theorem dX6_half_4 : decode cX6_half 4 = .ok (.aload_n 0, 1) := by decide +kernel
theorem dX6_half_5 : decode cX6_half 5 = .ok (.getfield 10, 3) := by decide +kernel
theorem dX6_half_8 : decode cX6_half 8 = .ok (.invokevirtual 194, 3) := by decide +kernel
theorem dX6_half_11 : decode cX6_half 11 = .ok (.aload_n 0, 1) := by decide +kernel
theorem dX6_half_12 : decode cX6_half 12 = .ok (.getfield 25, 3) := by decide +kernel
theorem dX6_half_15 : decode cX6_half 15 = .ok (.invokevirtual 205, 3) := by decide +kernel
theorem dX6_half_18 : decode cX6_half 18 = .ok (.istore_n 1, 1) := by decide +kernel
theorem dX6_half_19 : decode cX6_half 19 = .ok (.iconst 0, 1) := by decide +kernel
theorem dX6_half_20 : decode cX6_half 20 = .ok (.istore_n 2, 1) := by decide +kernel
theorem dX6_half_21 : decode cX6_half 21 = .ok (.iload_n 2, 1) := by decide +kernel
theorem dX6_half_22 : decode cX6_half 22 = .ok (.aload_n 0, 1) := by decide +kernel
theorem dX6_half_23 : decode cX6_half 23 = .ok (.getfield 10, 3) := by decide +kernel
theorem dX6_half_26 : decode cX6_half 26 = .ok (.getfield 115, 3) := by decide +kernel
theorem dX6_half_29 : decode cX6_half 29 = .ok (.getfield 160, 3) := by decide +kernel
theorem dX6_half_32 : decode cX6_half 32 = .ok (.if_icmp .ge 26, 3) := by decide +kernel
theorem dX6_half_35 : decode cX6_half 35 = .ok (.iconst 2, 1) := by decide +kernel
theorem dX6_half_36 : decode cX6_half 36 = .ok (.aload_n 0, 1) := by decide +kernel
theorem dX6_half_37 : decode cX6_half 37 = .ok (.getfield 25, 3) := by decide +kernel
theorem dX6_half_40 : decode cX6_half 40 = .ok (.iconst 0, 1) := by decide +kernel
theorem dX6_half_41 : decode cX6_half 41 = .ok (.iload_n 2, 1) := by decide +kernel
theorem dX6_half_42 : decode cX6_half 42 = .ok (.invokevirtual 202, 3) := by decide +kernel
theorem dX6_half_45 : decode cX6_half 45 = .ok (.imul, 1) := by decide +kernel
theorem dX6_half_46 : decode cX6_half 46 = .ok (.iload_n 1, 1) := by decide +kernel
theorem dX6_half_47 : decode cX6_half 47 = .ok (.if_icmp .lt 5, 3) := by decide +kernel
theorem dX6_half_50 : decode cX6_half 50 = .ok (.iload_n 2, 1) := by decide +kernel
theorem dX6_half_51 : decode cX6_half 51 = .ok (.ireturn, 1) := by decide +kernel
theorem dX6_half_52 : decode cX6_half 52 = .ok (.iinc 2 1, 3) := by decide +kernel
theorem dX6_half_55 : decode cX6_half 55 = .ok (.goto (-34), 3) := by decide +kernel
theorem dX6_half_58 : decode cX6_half 58 = .ok (.iconst (-1), 1) := by decide +kernel
theorem dX6_half_59 : decode cX6_half 59 = .ok (.ireturn, 1) := by decide +kernel
theorem dX6_few_0 : decode cX6_few 0 = .ok (.iload_n 1, 1) := by decide +kernel
theorem dX6_few_1 : decode cX6_few 1 = .ok (.iconst 0, 1) := by decide +kernel
theorem dX6_few_2 : decode cX6_few 2 = .ok (.sipush 1000, 3) := by decide +kernel
theorem dX6_few_5 : decode cX6_few 5 = .ok (.invokestatic 58, 3) := by decide +kernel
theorem dX6_few_8 : decode cX6_few 8 = .ok (.ifCond .ne 10, 3) := by decide +kernel
theorem dX6_few_11 : decode cX6_few 11 = .ok (.aload_n 0, 1) := by decide +kernel
theorem dX6_few_12 : decode cX6_few 12 = .ok (.bipush (-2), 2) := by decide +kernel
theorem dX6_few_14 : decode cX6_few 14 = .ok (.invokevirtual 62, 3) := by decide +kernel
theorem dX6_few_17 : decode cX6_few 17 = .ok (.ireturn, 1) := by decide +kernel
theorem dX6_few_18 : decode cX6_few 18 = .ok (.aload_n 0, 1) := by decide +kernel
theorem dX6_few_19 : decode cX6_few 19 = .ok (.getfield 25, 3) := by decide +kernel
theorem dX6_few_22 : decode cX6_few 22 = .ok (.aload_n 0, 1) := by decide +kernel
theorem dX6_few_23 : decode cX6_few 23 = .ok (.getfield 10, 3) := by decide +kernel
theorem dX6_few_26 : decode cX6_few 26 = .ok (.invokevirtual 194, 3) := by decide +kernel
theorem dX6_few_29 : decode cX6_few 29 = .ok (.aload_n 0, 1) := by decide +kernel
theorem dX6_few_30 : decode cX6_few 30 = .ok (.getfield 25, 3) := by decide +kernel
theorem dX6_few_33 : decode cX6_few 33 = .ok (.iload_n 1, 1) := by decide +kernel
theorem dX6_few_34 : decode cX6_few 34 = .ok (.invokevirtual 208, 3) := by decide +kernel
theorem dX6_few_37 : decode cX6_few 37 = .ok (.ireturn, 1) := by decide +kernel
theorem dX6_asks_0 : decode cX6_asks 0 = .ok (.aload_n 0, 1) := by decide +kernel
theorem dX6_asks_1 : decode cX6_asks 1 = .ok (.getfield 10, 3) := by decide +kernel
theorem dX6_asks_4 : decode cX6_asks 4 = .ok (.getfield 115, 3) := by decide +kernel
theorem dX6_asks_7 : decode cX6_asks 7 = .ok (.getfield 160, 3) := by decide +kernel
theorem dX6_asks_10 : decode cX6_asks 10 = .ok (.ifCond .ne 10, 3) := by decide +kernel
theorem dX6_asks_13 : decode cX6_asks 13 = .ok (.aload_n 0, 1) := by decide +kernel
theorem dX6_asks_14 : decode cX6_asks 14 = .ok (.bipush (-5), 2) := by decide +kernel
theorem dX6_asks_16 : decode cX6_asks 16 = .ok (.invokevirtual 62, 3) := by decide +kernel
theorem dX6_asks_19 : decode cX6_asks 19 = .ok (.ireturn, 1) := by decide +kernel
theorem dX6_asks_20 : decode cX6_asks 20 = .ok (.aload_n 0, 1) := by decide +kernel
theorem dX6_asks_21 : decode cX6_asks 21 = .ok (.getfield 25, 3) := by decide +kernel
theorem dX6_asks_24 : decode cX6_asks 24 = .ok (.aload_n 0, 1) := by decide +kernel
theorem dX6_asks_25 : decode cX6_asks 25 = .ok (.getfield 10, 3) := by decide +kernel
theorem dX6_asks_28 : decode cX6_asks 28 = .ok (.invokevirtual 194, 3) := by decide +kernel
theorem dX6_asks_31 : decode cX6_asks 31 = .ok (.aload_n 0, 1) := by decide +kernel
theorem dX6_asks_32 : decode cX6_asks 32 = .ok (.getfield 25, 3) := by decide +kernel
theorem dX6_asks_35 : decode cX6_asks 35 = .ok (.invokevirtual 211, 3) := by decide +kernel
theorem dX6_asks_38 : decode cX6_asks 38 = .ok (.ireturn, 1) := by decide +kernel
theorem dX6_after_0 : decode cX6_after 0 = .ok (.aload_n 0, 1) := by decide +kernel
theorem dX6_after_1 : decode cX6_after 1 = .ok (.iload_n 1, 1) := by decide +kernel
theorem dX6_after_2 : decode cX6_after 2 = .ok (.iload_n 3, 1) := by decide +kernel
theorem dX6_after_3 : decode cX6_after 3 = .ok (.invokevirtual 150, 3) := by decide +kernel
theorem dX6_after_6 : decode cX6_after 6 = .ok (.ifCond .ne 10, 3) := by decide +kernel
theorem dX6_after_9 : decode cX6_after 9 = .ok (.aload_n 0, 1) := by decide +kernel
theorem dX6_after_10 : decode cX6_after 10 = .ok (.bipush (-2), 2) := by decide +kernel
theorem dX6_after_12 : decode cX6_after 12 = .ok (.invokevirtual 62, 3) := by decide +kernel
theorem dX6_after_15 : decode cX6_after 15 = .ok (.ireturn, 1) := by decide +kernel
theorem dX6_after_16 : decode cX6_after 16 = .ok (.aload_n 0, 1) := by decide +kernel
theorem dX6_after_17 : decode cX6_after 17 = .ok (.getfield 10, 3) := by decide +kernel
theorem dX6_after_20 : decode cX6_after 20 = .ok (.getfield 153, 3) := by decide +kernel
theorem dX6_after_23 : decode cX6_after 23 = .ok (.invokevirtual 140, 3) := by decide +kernel
theorem dX6_after_26 : decode cX6_after 26 = .ok (.ifCond .eq 10, 3) := by decide +kernel
theorem dX6_after_29 : decode cX6_after 29 = .ok (.aload_n 0, 1) := by decide +kernel
theorem dX6_after_30 : decode cX6_after 30 = .ok (.bipush (-6), 2) := by decide +kernel
theorem dX6_after_32 : decode cX6_after 32 = .ok (.invokevirtual 62, 3) := by decide +kernel
theorem dX6_after_35 : decode cX6_after 35 = .ok (.ireturn, 1) := by decide +kernel
theorem dX6_after_36 : decode cX6_after 36 = .ok (.aload_n 0, 1) := by decide +kernel
theorem dX6_after_37 : decode cX6_after 37 = .ok (.getfield 25, 3) := by decide +kernel
theorem dX6_after_40 : decode cX6_after 40 = .ok (.aload_n 0, 1) := by decide +kernel
theorem dX6_after_41 : decode cX6_after 41 = .ok (.getfield 10, 3) := by decide +kernel
theorem dX6_after_44 : decode cX6_after 44 = .ok (.invokevirtual 194, 3) := by decide +kernel
theorem dX6_after_47 : decode cX6_after 47 = .ok (.aload_n 0, 1) := by decide +kernel
theorem dX6_after_48 : decode cX6_after 48 = .ok (.getfield 25, 3) := by decide +kernel
theorem dX6_after_51 : decode cX6_after 51 = .ok (.iload_n 1, 1) := by decide +kernel
theorem dX6_after_52 : decode cX6_after 52 = .ok (.iload_n 2, 1) := by decide +kernel
theorem dX6_after_53 : decode cX6_after 53 = .ok (.iload_n 3, 1) := by decide +kernel
theorem dX6_after_54 : decode cX6_after 54 = .ok (.invokevirtual 214, 3) := by decide +kernel
theorem dX6_after_57 : decode cX6_after 57 = .ok (.aload_n 0, 1) := by decide +kernel
theorem dX6_after_58 : decode cX6_after 58 = .ok (.aload_n 0, 1) := by decide +kernel
theorem dX6_after_59 : decode cX6_after 59 = .ok (.getfield 25, 3) := by decide +kernel
theorem dX6_after_62 : decode cX6_after 62 = .ok (.iconst (-1), 1) := by decide +kernel
theorem dX6_after_63 : decode cX6_after 63 = .ok (.invokevirtual 197, 3) := by decide +kernel
theorem dX6_after_66 : decode cX6_after 66 = .ok (.invokevirtual 199, 3) := by decide +kernel
theorem dX6_after_69 : decode cX6_after 69 = .ok (.ireturn, 1) := by decide +kernel
theorem dX6_where_0 : decode cX6_where 0 = .ok (.aload_n 0, 1) := by decide +kernel
theorem dX6_where_1 : decode cX6_where 1 = .ok (.getfield 10, 3) := by decide +kernel
theorem dX6_where_4 : decode cX6_where 4 = .ok (.getfield 115, 3) := by decide +kernel
theorem dX6_where_7 : decode cX6_where 7 = .ok (.getfield 160, 3) := by decide +kernel
theorem dX6_where_10 : decode cX6_where 10 = .ok (.ifCond .ne 10, 3) := by decide +kernel
theorem dX6_where_13 : decode cX6_where 13 = .ok (.aload_n 0, 1) := by decide +kernel
theorem dX6_where_14 : decode cX6_where 14 = .ok (.bipush (-5), 2) := by decide +kernel
theorem dX6_where_16 : decode cX6_where 16 = .ok (.invokevirtual 62, 3) := by decide +kernel
theorem dX6_where_19 : decode cX6_where 19 = .ok (.ireturn, 1) := by decide +kernel
theorem dX6_where_20 : decode cX6_where 20 = .ok (.aload_n 0, 1) := by decide +kernel
theorem dX6_where_21 : decode cX6_where 21 = .ok (.getfield 25, 3) := by decide +kernel
theorem dX6_where_24 : decode cX6_where 24 = .ok (.aload_n 0, 1) := by decide +kernel
theorem dX6_where_25 : decode cX6_where 25 = .ok (.getfield 10, 3) := by decide +kernel
theorem dX6_where_28 : decode cX6_where 28 = .ok (.invokevirtual 194, 3) := by decide +kernel
theorem dX6_where_31 : decode cX6_where 31 = .ok (.aload_n 0, 1) := by decide +kernel
theorem dX6_where_32 : decode cX6_where 32 = .ok (.getfield 25, 3) := by decide +kernel
theorem dX6_where_35 : decode cX6_where 35 = .ok (.iconst 0, 1) := by decide +kernel
theorem dX6_where_36 : decode cX6_where 36 = .ok (.invokevirtual 217, 3) := by decide +kernel
theorem dX6_where_39 : decode cX6_where 39 = .ok (.ireturn, 1) := by decide +kernel
theorem dX6_last_0 : decode cX6_last 0 = .ok (.aload_n 0, 1) := by decide +kernel
theorem dX6_last_1 : decode cX6_last 1 = .ok (.getfield 25, 3) := by decide +kernel
theorem dX6_last_4 : decode cX6_last 4 = .ok (.aload_n 0, 1) := by decide +kernel
theorem dX6_last_5 : decode cX6_last 5 = .ok (.getfield 10, 3) := by decide +kernel
theorem dX6_last_8 : decode cX6_last 8 = .ok (.invokevirtual 194, 3) := by decide +kernel
theorem dX6_last_11 : decode cX6_last 11 = .ok (.aload_n 0, 1) := by decide +kernel
theorem dX6_last_12 : decode cX6_last 12 = .ok (.getfield 10, 3) := by decide +kernel
theorem dX6_last_15 : decode cX6_last 15 = .ok (.getfield 115, 3) := by decide +kernel
theorem dX6_last_18 : decode cX6_last 18 = .ok (.getfield 160, 3) := by decide +kernel
theorem dX6_last_21 : decode cX6_last 21 = .ok (.iconst 1, 1) := by decide +kernel
theorem dX6_last_22 : decode cX6_last 22 = .ok (.isub, 1) := by decide +kernel
theorem dX6_last_23 : decode cX6_last 23 = .ok (.istore_n 1, 1) := by decide +kernel
theorem dX6_last_24 : decode cX6_last 24 = .ok (.iload_n 1, 1) := by decide +kernel
theorem dX6_last_25 : decode cX6_last 25 = .ok (.ifCond .lt 22, 3) := by decide +kernel
theorem dX6_last_28 : decode cX6_last 28 = .ok (.aload_n 0, 1) := by decide +kernel
theorem dX6_last_29 : decode cX6_last 29 = .ok (.getfield 25, 3) := by decide +kernel
theorem dX6_last_32 : decode cX6_last 32 = .ok (.iload_n 1, 1) := by decide +kernel
theorem dX6_last_33 : decode cX6_last 33 = .ok (.invokevirtual 197, 3) := by decide +kernel
theorem dX6_last_36 : decode cX6_last 36 = .ok (.ifCond .le 5, 3) := by decide +kernel
theorem dX6_last_39 : decode cX6_last 39 = .ok (.iload_n 1, 1) := by decide +kernel
theorem dX6_last_40 : decode cX6_last 40 = .ok (.ireturn, 1) := by decide +kernel
theorem dX6_last_41 : decode cX6_last 41 = .ok (.iinc 1 (-1), 3) := by decide +kernel
theorem dX6_last_44 : decode cX6_last 44 = .ok (.goto (-20), 3) := by decide +kernel
theorem dX6_last_47 : decode cX6_last 47 = .ok (.iconst (-1), 1) := by decide +kernel
theorem dX6_last_48 : decode cX6_last 48 = .ok (.ireturn, 1) := by decide +kernel
theorem dX6_worst_0 : decode cX6_worst 0 = .ok (.aload_n 0, 1) := by decide +kernel
theorem dX6_worst_1 : decode cX6_worst 1 = .ok (.getfield 10, 3) := by decide +kernel
theorem dX6_worst_4 : decode cX6_worst 4 = .ok (.getfield 115, 3) := by decide +kernel
theorem dX6_worst_7 : decode cX6_worst 7 = .ok (.getfield 160, 3) := by decide +kernel
theorem dX6_worst_10 : decode cX6_worst 10 = .ok (.ifCond .ne 10, 3) := by decide +kernel
theorem dX6_worst_13 : decode cX6_worst 13 = .ok (.aload_n 0, 1) := by decide +kernel
theorem dX6_worst_14 : decode cX6_worst 14 = .ok (.bipush (-5), 2) := by decide +kernel
theorem dX6_worst_16 : decode cX6_worst 16 = .ok (.invokevirtual 62, 3) := by decide +kernel
theorem dX6_worst_19 : decode cX6_worst 19 = .ok (.ireturn, 1) := by decide +kernel
theorem dX6_worst_20 : decode cX6_worst 20 = .ok (.iconst 0, 1) := by decide +kernel
theorem dX6_worst_21 : decode cX6_worst 21 = .ok (.istore_n 1, 1) := by decide +kernel
theorem dX6_worst_22 : decode cX6_worst 22 = .ok (.iconst 1, 1) := by decide +kernel
theorem dX6_worst_23 : decode cX6_worst 23 = .ok (.istore_n 2, 1) := by decide +kernel
theorem dX6_worst_24 : decode cX6_worst 24 = .ok (.iload_n 2, 1) := by decide +kernel
theorem dX6_worst_25 : decode cX6_worst 25 = .ok (.aload_n 0, 1) := by decide +kernel
theorem dX6_worst_26 : decode cX6_worst 26 = .ok (.getfield 10, 3) := by decide +kernel
theorem dX6_worst_29 : decode cX6_worst 29 = .ok (.getfield 115, 3) := by decide +kernel
theorem dX6_worst_32 : decode cX6_worst 32 = .ok (.getfield 160, 3) := by decide +kernel
theorem dX6_worst_35 : decode cX6_worst 35 = .ok (.if_icmp .ge 44, 3) := by decide +kernel
theorem dX6_worst_38 : decode cX6_worst 38 = .ok (.aload_n 0, 1) := by decide +kernel
theorem dX6_worst_39 : decode cX6_worst 39 = .ok (.getfield 10, 3) := by decide +kernel
theorem dX6_worst_42 : decode cX6_worst 42 = .ok (.iload_n 2, 1) := by decide +kernel
theorem dX6_worst_43 : decode cX6_worst 43 = .ok (.aload_n 0, 1) := by decide +kernel
theorem dX6_worst_44 : decode cX6_worst 44 = .ok (.getfield 10, 3) := by decide +kernel
theorem dX6_worst_47 : decode cX6_worst 47 = .ok (.getfield 134, 3) := by decide +kernel
theorem dX6_worst_50 : decode cX6_worst 50 = .ok (.invokevirtual 131, 3) := by decide +kernel
theorem dX6_worst_53 : decode cX6_worst 53 = .ok (.aload_n 0, 1) := by decide +kernel
theorem dX6_worst_54 : decode cX6_worst 54 = .ok (.getfield 10, 3) := by decide +kernel
theorem dX6_worst_57 : decode cX6_worst 57 = .ok (.iload_n 1, 1) := by decide +kernel
theorem dX6_worst_58 : decode cX6_worst 58 = .ok (.aload_n 0, 1) := by decide +kernel
theorem dX6_worst_59 : decode cX6_worst 59 = .ok (.getfield 10, 3) := by decide +kernel
theorem dX6_worst_62 : decode cX6_worst 62 = .ok (.getfield 134, 3) := by decide +kernel
theorem dX6_worst_65 : decode cX6_worst 65 = .ok (.invokevirtual 131, 3) := by decide +kernel
theorem dX6_worst_68 : decode cX6_worst 68 = .ok (.if_icmp .le 5, 3) := by decide +kernel
theorem dX6_worst_71 : decode cX6_worst 71 = .ok (.iload_n 2, 1) := by decide +kernel
theorem dX6_worst_72 : decode cX6_worst 72 = .ok (.istore_n 1, 1) := by decide +kernel
theorem dX6_worst_73 : decode cX6_worst 73 = .ok (.iinc 2 1, 3) := by decide +kernel
theorem dX6_worst_76 : decode cX6_worst 76 = .ok (.goto (-52), 3) := by decide +kernel
theorem dX6_worst_79 : decode cX6_worst 79 = .ok (.iload_n 1, 1) := by decide +kernel
theorem dX6_worst_80 : decode cX6_worst 80 = .ok (.ireturn, 1) := by decide +kernel
theorem dX6_seconds_0 : decode cX6_seconds 0 = .ok (.aload_n 0, 1) := by decide +kernel
theorem dX6_seconds_1 : decode cX6_seconds 1 = .ok (.iload_n 1, 1) := by decide +kernel
theorem dX6_seconds_2 : decode cX6_seconds 2 = .ok (.iload_n 2, 1) := by decide +kernel
theorem dX6_seconds_3 : decode cX6_seconds 3 = .ok (.invokevirtual 220, 3) := by decide +kernel
theorem dX6_seconds_6 : decode cX6_seconds 6 = .ok (.ifCond .ne 10, 3) := by decide +kernel
theorem dX6_seconds_9 : decode cX6_seconds 9 = .ok (.aload_n 0, 1) := by decide +kernel
theorem dX6_seconds_10 : decode cX6_seconds 10 = .ok (.bipush (-2), 2) := by decide +kernel
theorem dX6_seconds_12 : decode cX6_seconds 12 = .ok (.invokevirtual 62, 3) := by decide +kernel
theorem dX6_seconds_15 : decode cX6_seconds 15 = .ok (.ireturn, 1) := by decide +kernel
theorem dX6_seconds_16 : decode cX6_seconds 16 = .ok (.aload_n 0, 1) := by decide +kernel
theorem dX6_seconds_17 : decode cX6_seconds 17 = .ok (.getfield 10, 3) := by decide +kernel
theorem dX6_seconds_20 : decode cX6_seconds 20 = .ok (.iload_n 1, 1) := by decide +kernel
theorem dX6_seconds_21 : decode cX6_seconds 21 = .ok (.iload_n 2, 1) := by decide +kernel
theorem dX6_seconds_22 : decode cX6_seconds 22 = .ok (.invokevirtual 223, 3) := by decide +kernel
theorem dX6_seconds_25 : decode cX6_seconds 25 = .ok (.ireturn, 1) := by decide +kernel
theorem dX6_found_0 : decode cX6_found 0 = .ok (.aload_n 0, 1) := by decide +kernel
theorem dX6_found_1 : decode cX6_found 1 = .ok (.iload_n 1, 1) := by decide +kernel
theorem dX6_found_2 : decode cX6_found 2 = .ok (.iload_n 2, 1) := by decide +kernel
theorem dX6_found_3 : decode cX6_found 3 = .ok (.invokevirtual 220, 3) := by decide +kernel
theorem dX6_found_6 : decode cX6_found 6 = .ok (.ifCond .ne 10, 3) := by decide +kernel
theorem dX6_found_9 : decode cX6_found 9 = .ok (.aload_n 0, 1) := by decide +kernel
theorem dX6_found_10 : decode cX6_found 10 = .ok (.bipush (-2), 2) := by decide +kernel
theorem dX6_found_12 : decode cX6_found 12 = .ok (.invokevirtual 62, 3) := by decide +kernel
theorem dX6_found_15 : decode cX6_found 15 = .ok (.ireturn, 1) := by decide +kernel
theorem dX6_found_16 : decode cX6_found 16 = .ok (.aload_n 0, 1) := by decide +kernel
theorem dX6_found_17 : decode cX6_found 17 = .ok (.getfield 25, 3) := by decide +kernel
theorem dX6_found_20 : decode cX6_found 20 = .ok (.aload_n 0, 1) := by decide +kernel
theorem dX6_found_21 : decode cX6_found 21 = .ok (.getfield 10, 3) := by decide +kernel
theorem dX6_found_24 : decode cX6_found 24 = .ok (.invokevirtual 194, 3) := by decide +kernel
theorem dX6_found_27 : decode cX6_found 27 = .ok (.aload_n 0, 1) := by decide +kernel
theorem dX6_found_28 : decode cX6_found 28 = .ok (.getfield 25, 3) := by decide +kernel
theorem dX6_found_31 : decode cX6_found 31 = .ok (.iload_n 1, 1) := by decide +kernel
theorem dX6_found_32 : decode cX6_found 32 = .ok (.iload_n 2, 1) := by decide +kernel
theorem dX6_found_33 : decode cX6_found 33 = .ok (.invokevirtual 226, 3) := by decide +kernel
theorem dX6_found_36 : decode cX6_found 36 = .ok (.ireturn, 1) := by decide +kernel
theorem dX6_best_0 : decode cX6_best 0 = .ok (.iload_n 1, 1) := by decide +kernel
theorem dX6_best_1 : decode cX6_best 1 = .ok (.iconst 0, 1) := by decide +kernel
theorem dX6_best_2 : decode cX6_best 2 = .ok (.sipush 9000, 3) := by decide +kernel
theorem dX6_best_5 : decode cX6_best 5 = .ok (.invokestatic 58, 3) := by decide +kernel
theorem dX6_best_8 : decode cX6_best 8 = .ok (.ifCond .eq 11, 3) := by decide +kernel
theorem dX6_best_11 : decode cX6_best 11 = .ok (.aload_n 0, 1) := by decide +kernel
theorem dX6_best_12 : decode cX6_best 12 = .ok (.iload_n 2, 1) := by decide +kernel
theorem dX6_best_13 : decode cX6_best 13 = .ok (.invokevirtual 104, 3) := by decide +kernel
theorem dX6_best_16 : decode cX6_best 16 = .ok (.ifCond .ne 10, 3) := by decide +kernel
theorem dX6_best_19 : decode cX6_best 19 = .ok (.aload_n 0, 1) := by decide +kernel
theorem dX6_best_20 : decode cX6_best 20 = .ok (.bipush (-2), 2) := by decide +kernel
theorem dX6_best_22 : decode cX6_best 22 = .ok (.invokevirtual 62, 3) := by decide +kernel
theorem dX6_best_25 : decode cX6_best 25 = .ok (.ireturn, 1) := by decide +kernel
theorem dX6_best_26 : decode cX6_best 26 = .ok (.iload_n 1, 1) := by decide +kernel
theorem dX6_best_27 : decode cX6_best 27 = .ok (.bipush 10, 2) := by decide +kernel
theorem dX6_best_29 : decode cX6_best 29 = .ok (.idiv, 1) := by decide +kernel
theorem dX6_best_30 : decode cX6_best 30 = .ok (.istore_n 3, 1) := by decide +kernel
theorem dX6_best_31 : decode cX6_best 31 = .ok (.aload_n 0, 1) := by decide +kernel
theorem dX6_best_32 : decode cX6_best 32 = .ok (.getfield 25, 3) := by decide +kernel
theorem dX6_best_35 : decode cX6_best 35 = .ok (.aload_n 0, 1) := by decide +kernel
theorem dX6_best_36 : decode cX6_best 36 = .ok (.getfield 10, 3) := by decide +kernel
theorem dX6_best_39 : decode cX6_best 39 = .ok (.invokevirtual 194, 3) := by decide +kernel
theorem dX6_best_42 : decode cX6_best 42 = .ok (.aload_n 0, 1) := by decide +kernel
theorem dX6_best_43 : decode cX6_best 43 = .ok (.getfield 32, 3) := by decide +kernel
theorem dX6_best_46 : decode cX6_best 46 = .ok (.aload_n 0, 1) := by decide +kernel
theorem dX6_best_47 : decode cX6_best 47 = .ok (.getfield 25, 3) := by decide +kernel
theorem dX6_best_50 : decode cX6_best 50 = .ok (.aload_n 0, 1) := by decide +kernel
theorem dX6_best_51 : decode cX6_best 51 = .ok (.getfield 10, 3) := by decide +kernel
theorem dX6_best_54 : decode cX6_best 54 = .ok (.iload_n 3, 1) := by decide +kernel
theorem dX6_best_55 : decode cX6_best 55 = .ok (.invokevirtual 229, 3) := by decide +kernel
theorem dX6_best_58 : decode cX6_best 58 = .ok (.iload_n 2, 1) := by decide +kernel
theorem dX6_best_59 : decode cX6_best 59 = .ok (.iconst (-1), 1) := by decide +kernel
theorem dX6_best_60 : decode cX6_best 60 = .ok (.if_icmp .ne 14, 3) := by decide +kernel
theorem dX6_best_63 : decode cX6_best 63 = .ok (.aload_n 0, 1) := by decide +kernel
theorem dX6_best_64 : decode cX6_best 64 = .ok (.getfield 32, 3) := by decide +kernel
theorem dX6_best_67 : decode cX6_best 67 = .ok (.iload_n 3, 1) := by decide +kernel
theorem dX6_best_68 : decode cX6_best 68 = .ok (.invokevirtual 233, 3) := by decide +kernel
theorem dX6_best_71 : decode cX6_best 71 = .ok (.goto 12, 3) := by decide +kernel
theorem dX6_best_74 : decode cX6_best 74 = .ok (.aload_n 0, 1) := by decide +kernel
theorem dX6_best_75 : decode cX6_best 75 = .ok (.getfield 32, 3) := by decide +kernel
theorem dX6_best_78 : decode cX6_best 78 = .ok (.iload_n 3, 1) := by decide +kernel
theorem dX6_best_79 : decode cX6_best 79 = .ok (.iload_n 2, 1) := by decide +kernel
theorem dX6_best_80 : decode cX6_best 80 = .ok (.invokevirtual 236, 3) := by decide +kernel
theorem dX6_best_83 : decode cX6_best 83 = .ok (.ireturn, 1) := by decide +kernel
theorem dX6_next_0 : decode cX6_next 0 = .ok (.aload_n 0, 1) := by decide +kernel
theorem dX6_next_1 : decode cX6_next 1 = .ok (.getfield 25, 3) := by decide +kernel
theorem dX6_next_4 : decode cX6_next 4 = .ok (.aload_n 0, 1) := by decide +kernel
theorem dX6_next_5 : decode cX6_next 5 = .ok (.getfield 10, 3) := by decide +kernel
theorem dX6_next_8 : decode cX6_next 8 = .ok (.invokevirtual 194, 3) := by decide +kernel
theorem dX6_next_11 : decode cX6_next 11 = .ok (.aload_n 0, 1) := by decide +kernel
theorem dX6_next_12 : decode cX6_next 12 = .ok (.getfield 25, 3) := by decide +kernel
theorem dX6_next_15 : decode cX6_next 15 = .ok (.aload_n 0, 1) := by decide +kernel
theorem dX6_next_16 : decode cX6_next 16 = .ok (.getfield 10, 3) := by decide +kernel
theorem dX6_next_19 : decode cX6_next 19 = .ok (.invokevirtual 239, 3) := by decide +kernel
theorem dX6_next_22 : decode cX6_next 22 = .ok (.ireturn, 1) := by decide +kernel
theorem dX6_soonest_0 : decode cX6_soonest 0 = .ok (.iload_n 1, 1) := by decide +kernel
theorem dX6_soonest_1 : decode cX6_soonest 1 = .ok (.iconst 0, 1) := by decide +kernel
theorem dX6_soonest_2 : decode cX6_soonest 2 = .ok (.ldc 242, 2) := by decide +kernel
theorem dX6_soonest_4 : decode cX6_soonest 4 = .ok (.invokestatic 58, 3) := by decide +kernel
theorem dX6_soonest_7 : decode cX6_soonest 7 = .ok (.ifCond .ne 10, 3) := by decide +kernel
theorem dX6_soonest_10 : decode cX6_soonest 10 = .ok (.aload_n 0, 1) := by decide +kernel
theorem dX6_soonest_11 : decode cX6_soonest 11 = .ok (.bipush (-2), 2) := by decide +kernel
theorem dX6_soonest_13 : decode cX6_soonest 13 = .ok (.invokevirtual 62, 3) := by decide +kernel
theorem dX6_soonest_16 : decode cX6_soonest 16 = .ok (.ireturn, 1) := by decide +kernel
theorem dX6_soonest_17 : decode cX6_soonest 17 = .ok (.aload_n 0, 1) := by decide +kernel
theorem dX6_soonest_18 : decode cX6_soonest 18 = .ok (.getfield 25, 3) := by decide +kernel
theorem dX6_soonest_21 : decode cX6_soonest 21 = .ok (.aload_n 0, 1) := by decide +kernel
theorem dX6_soonest_22 : decode cX6_soonest 22 = .ok (.getfield 10, 3) := by decide +kernel
theorem dX6_soonest_25 : decode cX6_soonest 25 = .ok (.invokevirtual 194, 3) := by decide +kernel
theorem dX6_soonest_28 : decode cX6_soonest 28 = .ok (.aload_n 0, 1) := by decide +kernel
theorem dX6_soonest_29 : decode cX6_soonest 29 = .ok (.getfield 32, 3) := by decide +kernel
theorem dX6_soonest_32 : decode cX6_soonest 32 = .ok (.aload_n 0, 1) := by decide +kernel
theorem dX6_soonest_33 : decode cX6_soonest 33 = .ok (.getfield 25, 3) := by decide +kernel
theorem dX6_soonest_36 : decode cX6_soonest 36 = .ok (.aload_n 0, 1) := by decide +kernel
theorem dX6_soonest_37 : decode cX6_soonest 37 = .ok (.getfield 10, 3) := by decide +kernel
theorem dX6_soonest_40 : decode cX6_soonest 40 = .ok (.sipush 900, 3) := by decide +kernel
theorem dX6_soonest_43 : decode cX6_soonest 43 = .ok (.invokevirtual 229, 3) := by decide +kernel
theorem dX6_soonest_46 : decode cX6_soonest 46 = .ok (.iconst 0, 1) := by decide +kernel
theorem dX6_soonest_47 : decode cX6_soonest 47 = .ok (.istore_n 2, 1) := by decide +kernel
theorem dX6_soonest_48 : decode cX6_soonest 48 = .ok (.iload_n 2, 1) := by decide +kernel
theorem dX6_soonest_49 : decode cX6_soonest 49 = .ok (.sipush 900, 3) := by decide +kernel
theorem dX6_soonest_52 : decode cX6_soonest 52 = .ok (.if_icmp .gt 26, 3) := by decide +kernel
theorem dX6_soonest_55 : decode cX6_soonest 55 = .ok (.aload_n 0, 1) := by decide +kernel
theorem dX6_soonest_56 : decode cX6_soonest 56 = .ok (.getfield 32, 3) := by decide +kernel
theorem dX6_soonest_59 : decode cX6_soonest 59 = .ok (.iload_n 2, 1) := by decide +kernel
theorem dX6_soonest_60 : decode cX6_soonest 60 = .ok (.invokevirtual 233, 3) := by decide +kernel
theorem dX6_soonest_63 : decode cX6_soonest 63 = .ok (.iload_n 1, 1) := by decide +kernel
theorem dX6_soonest_64 : decode cX6_soonest 64 = .ok (.if_icmp .lt 8, 3) := by decide +kernel
theorem dX6_soonest_67 : decode cX6_soonest 67 = .ok (.bipush 10, 2) := by decide +kernel
theorem dX6_soonest_69 : decode cX6_soonest 69 = .ok (.iload_n 2, 1) := by decide +kernel
theorem dX6_soonest_70 : decode cX6_soonest 70 = .ok (.imul, 1) := by decide +kernel
theorem dX6_soonest_71 : decode cX6_soonest 71 = .ok (.ireturn, 1) := by decide +kernel
theorem dX6_soonest_72 : decode cX6_soonest 72 = .ok (.iinc 2 1, 3) := by decide +kernel
theorem dX6_soonest_75 : decode cX6_soonest 75 = .ok (.goto (-27), 3) := by decide +kernel
theorem dX6_soonest_78 : decode cX6_soonest 78 = .ok (.iconst (-1), 1) := by decide +kernel
theorem dX6_soonest_79 : decode cX6_soonest 79 = .ok (.ireturn, 1) := by decide +kernel
theorem dX6_order_0 : decode cX6_order 0 = .ok (.iload_n 1, 1) := by decide +kernel
theorem dX6_order_1 : decode cX6_order 1 = .ok (.iconst 0, 1) := by decide +kernel
theorem dX6_order_2 : decode cX6_order 2 = .ok (.bipush 40, 2) := by decide +kernel
theorem dX6_order_4 : decode cX6_order 4 = .ok (.invokestatic 58, 3) := by decide +kernel
theorem dX6_order_7 : decode cX6_order 7 = .ok (.ifCond .ne 10, 3) := by decide +kernel
theorem dX6_order_10 : decode cX6_order 10 = .ok (.aload_n 0, 1) := by decide +kernel
theorem dX6_order_11 : decode cX6_order 11 = .ok (.bipush (-2), 2) := by decide +kernel
theorem dX6_order_13 : decode cX6_order 13 = .ok (.invokevirtual 62, 3) := by decide +kernel
theorem dX6_order_16 : decode cX6_order 16 = .ok (.ireturn, 1) := by decide +kernel
theorem dX6_order_17 : decode cX6_order 17 = .ok (.aload_n 0, 1) := by decide +kernel
theorem dX6_order_18 : decode cX6_order 18 = .ok (.getfield 25, 3) := by decide +kernel
theorem dX6_order_21 : decode cX6_order 21 = .ok (.aload_n 0, 1) := by decide +kernel
theorem dX6_order_22 : decode cX6_order 22 = .ok (.getfield 10, 3) := by decide +kernel
theorem dX6_order_25 : decode cX6_order 25 = .ok (.invokevirtual 194, 3) := by decide +kernel
theorem dX6_order_28 : decode cX6_order 28 = .ok (.aload_n 0, 1) := by decide +kernel
theorem dX6_order_29 : decode cX6_order 29 = .ok (.getfield 25, 3) := by decide +kernel
theorem dX6_order_32 : decode cX6_order 32 = .ok (.aload_n 0, 1) := by decide +kernel
theorem dX6_order_33 : decode cX6_order 33 = .ok (.getfield 10, 3) := by decide +kernel
theorem dX6_order_36 : decode cX6_order 36 = .ok (.iload_n 1, 1) := by decide +kernel
theorem dX6_order_37 : decode cX6_order 37 = .ok (.invokevirtual 243, 3) := by decide +kernel
theorem dX6_order_40 : decode cX6_order 40 = .ok (.aload_n 0, 1) := by decide +kernel
theorem dX6_order_41 : decode cX6_order 41 = .ok (.getfield 25, 3) := by decide +kernel
theorem dX6_order_44 : decode cX6_order 44 = .ok (.aload_n 0, 1) := by decide +kernel
theorem dX6_order_45 : decode cX6_order 45 = .ok (.getfield 10, 3) := by decide +kernel
theorem dX6_order_48 : decode cX6_order 48 = .ok (.invokevirtual 239, 3) := by decide +kernel
theorem dX6_order_51 : decode cX6_order 51 = .ok (.ireturn, 1) := by decide +kernel
theorem dX6_vain_0 : decode cX6_vain 0 = .ok (.iload_n 1, 1) := by decide +kernel
theorem dX6_vain_1 : decode cX6_vain 1 = .ok (.iconst 0, 1) := by decide +kernel
theorem dX6_vain_2 : decode cX6_vain 2 = .ok (.bipush 40, 2) := by decide +kernel
theorem dX6_vain_4 : decode cX6_vain 4 = .ok (.invokestatic 58, 3) := by decide +kernel
theorem dX6_vain_7 : decode cX6_vain 7 = .ok (.ifCond .ne 10, 3) := by decide +kernel
theorem dX6_vain_10 : decode cX6_vain 10 = .ok (.aload_n 0, 1) := by decide +kernel
theorem dX6_vain_11 : decode cX6_vain 11 = .ok (.bipush (-2), 2) := by decide +kernel
theorem dX6_vain_13 : decode cX6_vain 13 = .ok (.invokevirtual 62, 3) := by decide +kernel
theorem dX6_vain_16 : decode cX6_vain 16 = .ok (.ireturn, 1) := by decide +kernel
theorem dX6_vain_17 : decode cX6_vain 17 = .ok (.aload_n 0, 1) := by decide +kernel
theorem dX6_vain_18 : decode cX6_vain 18 = .ok (.getfield 25, 3) := by decide +kernel
theorem dX6_vain_21 : decode cX6_vain 21 = .ok (.aload_n 0, 1) := by decide +kernel
theorem dX6_vain_22 : decode cX6_vain 22 = .ok (.getfield 10, 3) := by decide +kernel
theorem dX6_vain_25 : decode cX6_vain 25 = .ok (.invokevirtual 194, 3) := by decide +kernel
theorem dX6_vain_28 : decode cX6_vain 28 = .ok (.aload_n 0, 1) := by decide +kernel
theorem dX6_vain_29 : decode cX6_vain 29 = .ok (.getfield 25, 3) := by decide +kernel
theorem dX6_vain_32 : decode cX6_vain 32 = .ok (.aload_n 0, 1) := by decide +kernel
theorem dX6_vain_33 : decode cX6_vain 33 = .ok (.getfield 10, 3) := by decide +kernel
theorem dX6_vain_36 : decode cX6_vain 36 = .ok (.iload_n 1, 1) := by decide +kernel
theorem dX6_vain_37 : decode cX6_vain 37 = .ok (.invokevirtual 243, 3) := by decide +kernel
theorem dX6_vain_40 : decode cX6_vain 40 = .ok (.aload_n 0, 1) := by decide +kernel
theorem dX6_vain_41 : decode cX6_vain 41 = .ok (.getfield 25, 3) := by decide +kernel
theorem dX6_vain_44 : decode cX6_vain 44 = .ok (.invokevirtual 205, 3) := by decide +kernel
theorem dX6_vain_47 : decode cX6_vain 47 = .ok (.ireturn, 1) := by decide +kernel
theorem dX6_others_0 : decode cX6_others 0 = .ok (.iload_n 1, 1) := by decide +kernel
theorem dX6_others_1 : decode cX6_others 1 = .ok (.iconst 0, 1) := by decide +kernel
theorem dX6_others_2 : decode cX6_others 2 = .ok (.sipush 300, 3) := by decide +kernel
theorem dX6_others_5 : decode cX6_others 5 = .ok (.invokestatic 58, 3) := by decide +kernel
theorem dX6_others_8 : decode cX6_others 8 = .ok (.ifCond .ne 10, 3) := by decide +kernel
theorem dX6_others_11 : decode cX6_others 11 = .ok (.aload_n 0, 1) := by decide +kernel
theorem dX6_others_12 : decode cX6_others 12 = .ok (.bipush (-2), 2) := by decide +kernel
theorem dX6_others_14 : decode cX6_others 14 = .ok (.invokevirtual 62, 3) := by decide +kernel
theorem dX6_others_17 : decode cX6_others 17 = .ok (.ireturn, 1) := by decide +kernel
theorem dX6_others_18 : decode cX6_others 18 = .ok (.aload_n 0, 1) := by decide +kernel
theorem dX6_others_19 : decode cX6_others 19 = .ok (.getfield 25, 3) := by decide +kernel
theorem dX6_others_22 : decode cX6_others 22 = .ok (.aload_n 0, 1) := by decide +kernel
theorem dX6_others_23 : decode cX6_others 23 = .ok (.getfield 10, 3) := by decide +kernel
theorem dX6_others_26 : decode cX6_others 26 = .ok (.invokevirtual 194, 3) := by decide +kernel
theorem dX6_others_29 : decode cX6_others 29 = .ok (.iconst 0, 1) := by decide +kernel
theorem dX6_others_30 : decode cX6_others 30 = .ok (.istore_n 2, 1) := by decide +kernel
theorem dX6_others_31 : decode cX6_others 31 = .ok (.iconst 0, 1) := by decide +kernel
theorem dX6_others_32 : decode cX6_others 32 = .ok (.istore_n 3, 1) := by decide +kernel
theorem dX6_others_33 : decode cX6_others 33 = .ok (.iload_n 3, 1) := by decide +kernel
theorem dX6_others_34 : decode cX6_others 34 = .ok (.aload_n 0, 1) := by decide +kernel
theorem dX6_others_35 : decode cX6_others 35 = .ok (.getfield 10, 3) := by decide +kernel
theorem dX6_others_38 : decode cX6_others 38 = .ok (.getfield 115, 3) := by decide +kernel
theorem dX6_others_41 : decode cX6_others 41 = .ok (.getfield 160, 3) := by decide +kernel
theorem dX6_others_44 : decode cX6_others 44 = .ok (.if_icmp .ge 36, 3) := by decide +kernel
theorem dX6_others_47 : decode cX6_others 47 = .ok (.iload_n 2, 1) := by decide +kernel
theorem dX6_others_48 : decode cX6_others 48 = .ok (.aload_n 0, 1) := by decide +kernel
theorem dX6_others_49 : decode cX6_others 49 = .ok (.getfield 25, 3) := by decide +kernel
theorem dX6_others_52 : decode cX6_others 52 = .ok (.iload_n 3, 1) := by decide +kernel
theorem dX6_others_53 : decode cX6_others 53 = .ok (.invokevirtual 197, 3) := by decide +kernel
theorem dX6_others_56 : decode cX6_others 56 = .ok (.aload_n 0, 1) := by decide +kernel
theorem dX6_others_57 : decode cX6_others 57 = .ok (.getfield 10, 3) := by decide +kernel
theorem dX6_others_60 : decode cX6_others 60 = .ok (.getfield 115, 3) := by decide +kernel
theorem dX6_others_63 : decode cX6_others 63 = .ok (.iload_n 3, 1) := by decide +kernel
theorem dX6_others_64 : decode cX6_others 64 = .ok (.iconst 3, 1) := by decide +kernel
theorem dX6_others_65 : decode cX6_others 65 = .ok (.invokevirtual 124, 3) := by decide +kernel
theorem dX6_others_68 : decode cX6_others 68 = .ok (.iload_n 1, 1) := by decide +kernel
theorem dX6_others_69 : decode cX6_others 69 = .ok (.invokestatic 247, 3) := by decide +kernel
theorem dX6_others_72 : decode cX6_others 72 = .ok (.iadd, 1) := by decide +kernel
theorem dX6_others_73 : decode cX6_others 73 = .ok (.istore_n 2, 1) := by decide +kernel
theorem dX6_others_74 : decode cX6_others 74 = .ok (.iinc 3 1, 3) := by decide +kernel
theorem dX6_others_77 : decode cX6_others 77 = .ok (.goto (-44), 3) := by decide +kernel
theorem dX6_others_80 : decode cX6_others 80 = .ok (.iload_n 2, 1) := by decide +kernel
theorem dX6_others_81 : decode cX6_others 81 = .ok (.ireturn, 1) := by decide +kernel
theorem dX6_fast_0 : decode cX6_fast 0 = .ok (.iload_n 1, 1) := by decide +kernel
theorem dX6_fast_1 : decode cX6_fast 1 = .ok (.iconst 0, 1) := by decide +kernel
theorem dX6_fast_2 : decode cX6_fast 2 = .ok (.ldc 242, 2) := by decide +kernel
theorem dX6_fast_4 : decode cX6_fast 4 = .ok (.invokestatic 58, 3) := by decide +kernel
theorem dX6_fast_7 : decode cX6_fast 7 = .ok (.ifCond .ne 10, 3) := by decide +kernel
theorem dX6_fast_10 : decode cX6_fast 10 = .ok (.aload_n 0, 1) := by decide +kernel
theorem dX6_fast_11 : decode cX6_fast 11 = .ok (.bipush (-2), 2) := by decide +kernel
theorem dX6_fast_13 : decode cX6_fast 13 = .ok (.invokevirtual 62, 3) := by decide +kernel
theorem dX6_fast_16 : decode cX6_fast 16 = .ok (.ireturn, 1) := by decide +kernel
theorem dX6_fast_17 : decode cX6_fast 17 = .ok (.bipush 9, 2) := by decide +kernel
theorem dX6_fast_19 : decode cX6_fast 19 = .ok (.istore_n 2, 1) := by decide +kernel
theorem dX6_fast_20 : decode cX6_fast 20 = .ok (.iload_n 2, 1) := by decide +kernel
theorem dX6_fast_21 : decode cX6_fast 21 = .ok (.iconst 1, 1) := by decide +kernel
theorem dX6_fast_22 : decode cX6_fast 22 = .ok (.if_icmp .lt 37, 3) := by decide +kernel
theorem dX6_fast_25 : decode cX6_fast 25 = .ok (.aload_n 0, 1) := by decide +kernel
theorem dX6_fast_26 : decode cX6_fast 26 = .ok (.getfield 10, 3) := by decide +kernel
theorem dX6_fast_29 : decode cX6_fast 29 = .ok (.iload_n 2, 1) := by decide +kernel
theorem dX6_fast_30 : decode cX6_fast 30 = .ok (.aload_n 0, 1) := by decide +kernel
theorem dX6_fast_31 : decode cX6_fast 31 = .ok (.getfield 10, 3) := by decide +kernel
theorem dX6_fast_34 : decode cX6_fast 34 = .ok (.getfield 250, 3) := by decide +kernel
theorem dX6_fast_37 : decode cX6_fast 37 = .ok (.aload_n 0, 1) := by decide +kernel
theorem dX6_fast_38 : decode cX6_fast 38 = .ok (.getfield 10, 3) := by decide +kernel
theorem dX6_fast_41 : decode cX6_fast 41 = .ok (.getfield 253, 3) := by decide +kernel
theorem dX6_fast_44 : decode cX6_fast 44 = .ok (.invokevirtual 256, 3) := by decide +kernel
theorem dX6_fast_47 : decode cX6_fast 47 = .ok (.iload_n 1, 1) := by decide +kernel
theorem dX6_fast_48 : decode cX6_fast 48 = .ok (.if_icmp .lt 5, 3) := by decide +kernel
theorem dX6_fast_51 : decode cX6_fast 51 = .ok (.iload_n 2, 1) := by decide +kernel
theorem dX6_fast_52 : decode cX6_fast 52 = .ok (.ireturn, 1) := by decide +kernel
theorem dX6_fast_53 : decode cX6_fast 53 = .ok (.iinc 2 (-1), 3) := by decide +kernel
theorem dX6_fast_56 : decode cX6_fast 56 = .ok (.goto (-36), 3) := by decide +kernel
theorem dX6_fast_59 : decode cX6_fast 59 = .ok (.iconst (-1), 1) := by decide +kernel
theorem dX6_fast_60 : decode cX6_fast 60 = .ok (.ireturn, 1) := by decide +kernel
theorem dX6_drove_0 : decode cX6_drove 0 = .ok (.aload_n 0, 1) := by decide +kernel
theorem dX6_drove_1 : decode cX6_drove 1 = .ok (.getfield 10, 3) := by decide +kernel
theorem dX6_drove_4 : decode cX6_drove 4 = .ok (.getfield 115, 3) := by decide +kernel
theorem dX6_drove_7 : decode cX6_drove 7 = .ok (.iload_n 1, 1) := by decide +kernel
theorem dX6_drove_8 : decode cX6_drove 8 = .ok (.invokevirtual 119, 3) := by decide +kernel
theorem dX6_drove_11 : decode cX6_drove 11 = .ok (.ifCond .ne 10, 3) := by decide +kernel
theorem dX6_drove_14 : decode cX6_drove 14 = .ok (.aload_n 0, 1) := by decide +kernel
theorem dX6_drove_15 : decode cX6_drove 15 = .ok (.bipush (-2), 2) := by decide +kernel
theorem dX6_drove_17 : decode cX6_drove 17 = .ok (.invokevirtual 62, 3) := by decide +kernel
theorem dX6_drove_20 : decode cX6_drove 20 = .ok (.ireturn, 1) := by decide +kernel
theorem dX6_drove_21 : decode cX6_drove 21 = .ok (.iconst 1, 1) := by decide +kernel
theorem dX6_drove_22 : decode cX6_drove 22 = .ok (.istore_n 2, 1) := by decide +kernel
theorem dX6_drove_23 : decode cX6_drove 23 = .ok (.iconst 2, 1) := by decide +kernel
theorem dX6_drove_24 : decode cX6_drove 24 = .ok (.istore_n 3, 1) := by decide +kernel
theorem dX6_drove_25 : decode cX6_drove 25 = .ok (.iload_n 3, 1) := by decide +kernel
theorem dX6_drove_26 : decode cX6_drove 26 = .ok (.bipush 9, 2) := by decide +kernel
theorem dX6_drove_28 : decode cX6_drove 28 = .ok (.if_icmp .gt 32, 3) := by decide +kernel
theorem dX6_drove_31 : decode cX6_drove 31 = .ok (.aload_n 0, 1) := by decide +kernel
theorem dX6_drove_32 : decode cX6_drove 32 = .ok (.getfield 10, 3) := by decide +kernel
theorem dX6_drove_35 : decode cX6_drove 35 = .ok (.iload_n 1, 1) := by decide +kernel
theorem dX6_drove_36 : decode cX6_drove 36 = .ok (.iload_n 3, 1) := by decide +kernel
theorem dX6_drove_37 : decode cX6_drove 37 = .ok (.invokevirtual 191, 3) := by decide +kernel
theorem dX6_drove_40 : decode cX6_drove 40 = .ok (.aload_n 0, 1) := by decide +kernel
theorem dX6_drove_41 : decode cX6_drove 41 = .ok (.getfield 10, 3) := by decide +kernel
theorem dX6_drove_44 : decode cX6_drove 44 = .ok (.iload_n 1, 1) := by decide +kernel
theorem dX6_drove_45 : decode cX6_drove 45 = .ok (.iload_n 2, 1) := by decide +kernel
theorem dX6_drove_46 : decode cX6_drove 46 = .ok (.invokevirtual 191, 3) := by decide +kernel
theorem dX6_drove_49 : decode cX6_drove 49 = .ok (.if_icmp .le 5, 3) := by decide +kernel
theorem dX6_drove_52 : decode cX6_drove 52 = .ok (.iload_n 3, 1) := by decide +kernel
theorem dX6_drove_53 : decode cX6_drove 53 = .ok (.istore_n 2, 1) := by decide +kernel
theorem dX6_drove_54 : decode cX6_drove 54 = .ok (.iinc 3 1, 3) := by decide +kernel
theorem dX6_drove_57 : decode cX6_drove 57 = .ok (.goto (-32), 3) := by decide +kernel
theorem dX6_drove_60 : decode cX6_drove 60 = .ok (.iload_n 2, 1) := by decide +kernel
theorem dX6_drove_61 : decode cX6_drove 61 = .ok (.ireturn, 1) := by decide +kernel
theorem dX6_gripFor_0 : decode cX6_gripFor 0 = .ok (.iload_n 1, 1) := by decide +kernel
theorem dX6_gripFor_1 : decode cX6_gripFor 1 = .ok (.iconst 0, 1) := by decide +kernel
theorem dX6_gripFor_2 : decode cX6_gripFor 2 = .ok (.ldc 242, 2) := by decide +kernel
theorem dX6_gripFor_4 : decode cX6_gripFor 4 = .ok (.invokestatic 58, 3) := by decide +kernel
theorem dX6_gripFor_7 : decode cX6_gripFor 7 = .ok (.ifCond .ne 10, 3) := by decide +kernel
theorem dX6_gripFor_10 : decode cX6_gripFor 10 = .ok (.aload_n 0, 1) := by decide +kernel
theorem dX6_gripFor_11 : decode cX6_gripFor 11 = .ok (.bipush (-2), 2) := by decide +kernel
theorem dX6_gripFor_13 : decode cX6_gripFor 13 = .ok (.invokevirtual 62, 3) := by decide +kernel
theorem dX6_gripFor_16 : decode cX6_gripFor 16 = .ok (.ireturn, 1) := by decide +kernel
theorem dX6_gripFor_17 : decode cX6_gripFor 17 = .ok (.iconst 0, 1) := by decide +kernel
theorem dX6_gripFor_18 : decode cX6_gripFor 18 = .ok (.istore_n 2, 1) := by decide +kernel
theorem dX6_gripFor_19 : decode cX6_gripFor 19 = .ok (.iload_n 2, 1) := by decide +kernel
theorem dX6_gripFor_20 : decode cX6_gripFor 20 = .ok (.bipush 10, 2) := by decide +kernel
theorem dX6_gripFor_22 : decode cX6_gripFor 22 = .ok (.if_icmp .gt 37, 3) := by decide +kernel
theorem dX6_gripFor_25 : decode cX6_gripFor 25 = .ok (.aload_n 0, 1) := by decide +kernel
theorem dX6_gripFor_26 : decode cX6_gripFor 26 = .ok (.getfield 10, 3) := by decide +kernel
theorem dX6_gripFor_29 : decode cX6_gripFor 29 = .ok (.aload_n 0, 1) := by decide +kernel
theorem dX6_gripFor_30 : decode cX6_gripFor 30 = .ok (.getfield 10, 3) := by decide +kernel
theorem dX6_gripFor_33 : decode cX6_gripFor 33 = .ok (.getfield 134, 3) := by decide +kernel
theorem dX6_gripFor_36 : decode cX6_gripFor 36 = .ok (.aload_n 0, 1) := by decide +kernel
theorem dX6_gripFor_37 : decode cX6_gripFor 37 = .ok (.getfield 10, 3) := by decide +kernel
theorem dX6_gripFor_40 : decode cX6_gripFor 40 = .ok (.getfield 250, 3) := by decide +kernel
theorem dX6_gripFor_43 : decode cX6_gripFor 43 = .ok (.iload_n 2, 1) := by decide +kernel
theorem dX6_gripFor_44 : decode cX6_gripFor 44 = .ok (.invokevirtual 256, 3) := by decide +kernel
theorem dX6_gripFor_47 : decode cX6_gripFor 47 = .ok (.iload_n 1, 1) := by decide +kernel
theorem dX6_gripFor_48 : decode cX6_gripFor 48 = .ok (.if_icmp .lt 5, 3) := by decide +kernel
theorem dX6_gripFor_51 : decode cX6_gripFor 51 = .ok (.iload_n 2, 1) := by decide +kernel
theorem dX6_gripFor_52 : decode cX6_gripFor 52 = .ok (.ireturn, 1) := by decide +kernel
theorem dX6_gripFor_53 : decode cX6_gripFor 53 = .ok (.iinc 2 1, 3) := by decide +kernel
theorem dX6_gripFor_56 : decode cX6_gripFor 56 = .ok (.goto (-37), 3) := by decide +kernel
theorem dX6_gripFor_59 : decode cX6_gripFor 59 = .ok (.iconst (-1), 1) := by decide +kernel
theorem dX6_gripFor_60 : decode cX6_gripFor 60 = .ok (.ireturn, 1) := by decide +kernel
theorem dX6_otherwise_0 : decode cX6_otherwise 0 = .ok (.aload_n 0, 1) := by decide +kernel
theorem dX6_otherwise_1 : decode cX6_otherwise 1 = .ok (.getfield 10, 3) := by decide +kernel
theorem dX6_otherwise_4 : decode cX6_otherwise 4 = .ok (.aload_n 0, 1) := by decide +kernel
theorem dX6_otherwise_5 : decode cX6_otherwise 5 = .ok (.getfield 10, 3) := by decide +kernel
theorem dX6_otherwise_8 : decode cX6_otherwise 8 = .ok (.getfield 134, 3) := by decide +kernel
theorem dX6_otherwise_11 : decode cX6_otherwise 11 = .ok (.iconst 1, 1) := by decide +kernel
theorem dX6_otherwise_12 : decode cX6_otherwise 12 = .ok (.aload_n 0, 1) := by decide +kernel
theorem dX6_otherwise_13 : decode cX6_otherwise 13 = .ok (.getfield 10, 3) := by decide +kernel
theorem dX6_otherwise_16 : decode cX6_otherwise 16 = .ok (.getfield 250, 3) := by decide +kernel
theorem dX6_otherwise_19 : decode cX6_otherwise 19 = .ok (.isub, 1) := by decide +kernel
theorem dX6_otherwise_20 : decode cX6_otherwise 20 = .ok (.aload_n 0, 1) := by decide +kernel
theorem dX6_otherwise_21 : decode cX6_otherwise 21 = .ok (.getfield 10, 3) := by decide +kernel
theorem dX6_otherwise_24 : decode cX6_otherwise 24 = .ok (.getfield 253, 3) := by decide +kernel
theorem dX6_otherwise_27 : decode cX6_otherwise 27 = .ok (.invokevirtual 256, 3) := by decide +kernel
theorem dX6_otherwise_30 : decode cX6_otherwise 30 = .ok (.ireturn, 1) := by decide +kernel
theorem dX6_slows_0 : decode cX6_slows 0 = .ok (.iload_n 1, 1) := by decide +kernel
theorem dX6_slows_1 : decode cX6_slows 1 = .ok (.iconst 0, 1) := by decide +kernel
theorem dX6_slows_2 : decode cX6_slows 2 = .ok (.iconst 3, 1) := by decide +kernel
theorem dX6_slows_3 : decode cX6_slows 3 = .ok (.invokestatic 58, 3) := by decide +kernel
theorem dX6_slows_6 : decode cX6_slows 6 = .ok (.ifCond .ne 10, 3) := by decide +kernel
theorem dX6_slows_9 : decode cX6_slows 9 = .ok (.aload_n 0, 1) := by decide +kernel
theorem dX6_slows_10 : decode cX6_slows 10 = .ok (.bipush (-2), 2) := by decide +kernel
theorem dX6_slows_12 : decode cX6_slows 12 = .ok (.invokevirtual 62, 3) := by decide +kernel
theorem dX6_slows_15 : decode cX6_slows 15 = .ok (.ireturn, 1) := by decide +kernel
theorem dX6_slows_16 : decode cX6_slows 16 = .ok (.iconst 1, 1) := by decide +kernel
theorem dX6_slows_17 : decode cX6_slows 17 = .ok (.aload_n 0, 1) := by decide +kernel
theorem dX6_slows_18 : decode cX6_slows 18 = .ok (.getfield 10, 3) := by decide +kernel
theorem dX6_slows_21 : decode cX6_slows 21 = .ok (.getfield 115, 3) := by decide +kernel
theorem dX6_slows_24 : decode cX6_slows 24 = .ok (.getfield 160, 3) := by decide +kernel
theorem dX6_slows_27 : decode cX6_slows 27 = .ok (.ishl, 1) := by decide +kernel
theorem dX6_slows_28 : decode cX6_slows 28 = .ok (.istore_n 2, 1) := by decide +kernel
theorem dX6_slows_29 : decode cX6_slows 29 = .ok (.iconst 0, 1) := by decide +kernel
theorem dX6_slows_30 : decode cX6_slows 30 = .ok (.istore_n 3, 1) := by decide +kernel
theorem dX6_slows_31 : decode cX6_slows 31 = .ok (.iconst (-1), 1) := by decide +kernel
theorem dX6_slows_32 : decode cX6_slows 32 = .ok (.istore 4, 2) := by decide +kernel
theorem dX6_slows_34 : decode cX6_slows 34 = .ok (.iconst 0, 1) := by decide +kernel
theorem dX6_slows_35 : decode cX6_slows 35 = .ok (.istore 5, 2) := by decide +kernel
theorem dX6_slows_37 : decode cX6_slows 37 = .ok (.iload 5, 2) := by decide +kernel
theorem dX6_slows_39 : decode cX6_slows 39 = .ok (.iload_n 2, 1) := by decide +kernel
theorem dX6_slows_40 : decode cX6_slows 40 = .ok (.if_icmp .ge 58, 3) := by decide +kernel
theorem dX6_slows_43 : decode cX6_slows 43 = .ok (.iload 5, 2) := by decide +kernel
theorem dX6_slows_45 : decode cX6_slows 45 = .ok (.invokestatic 259, 3) := by decide +kernel
theorem dX6_slows_48 : decode cX6_slows 48 = .ok (.iload_n 1, 1) := by decide +kernel
theorem dX6_slows_49 : decode cX6_slows 49 = .ok (.if_icmp .le 17, 3) := by decide +kernel
theorem dX6_slows_52 : decode cX6_slows 52 = .ok (.iload 5, 2) := by decide +kernel
theorem dX6_slows_54 : decode cX6_slows 54 = .ok (.iload 5, 2) := by decide +kernel
theorem dX6_slows_56 : decode cX6_slows 56 = .ok (.iload 5, 2) := by decide +kernel
theorem dX6_slows_58 : decode cX6_slows 58 = .ok (.ineg, 1) := by decide +kernel
theorem dX6_slows_59 : decode cX6_slows 59 = .ok (.iand, 1) := by decide +kernel
theorem dX6_slows_60 : decode cX6_slows 60 = .ok (.iadd, 1) := by decide +kernel
theorem dX6_slows_61 : decode cX6_slows 61 = .ok (.istore 5, 2) := by decide +kernel
theorem dX6_slows_63 : decode cX6_slows 63 = .ok (.goto (-26), 3) := by decide +kernel
theorem dX6_slows_66 : decode cX6_slows 66 = .ok (.aload_n 0, 1) := by decide +kernel
theorem dX6_slows_67 : decode cX6_slows 67 = .ok (.getfield 10, 3) := by decide +kernel
theorem dX6_slows_70 : decode cX6_slows 70 = .ok (.iload 5, 2) := by decide +kernel
theorem dX6_slows_72 : decode cX6_slows 72 = .ok (.iconst 0, 1) := by decide +kernel
theorem dX6_slows_73 : decode cX6_slows 73 = .ok (.invokevirtual 264, 3) := by decide +kernel
theorem dX6_slows_76 : decode cX6_slows 76 = .ok (.istore 6, 2) := by decide +kernel
theorem dX6_slows_78 : decode cX6_slows 78 = .ok (.iload 6, 2) := by decide +kernel
theorem dX6_slows_80 : decode cX6_slows 80 = .ok (.iload 4, 2) := by decide +kernel
theorem dX6_slows_82 : decode cX6_slows 82 = .ok (.if_icmp .le 10, 3) := by decide +kernel
theorem dX6_slows_85 : decode cX6_slows 85 = .ok (.iload 6, 2) := by decide +kernel
theorem dX6_slows_87 : decode cX6_slows 87 = .ok (.istore 4, 2) := by decide +kernel
theorem dX6_slows_89 : decode cX6_slows 89 = .ok (.iload 5, 2) := by decide +kernel
theorem dX6_slows_91 : decode cX6_slows 91 = .ok (.istore_n 3, 1) := by decide +kernel
theorem dX6_slows_92 : decode cX6_slows 92 = .ok (.iinc 5 1, 3) := by decide +kernel
theorem dX6_slows_95 : decode cX6_slows 95 = .ok (.goto (-58), 3) := by decide +kernel
theorem dX6_slows_98 : decode cX6_slows 98 = .ok (.iload_n 3, 1) := by decide +kernel
theorem dX6_slows_99 : decode cX6_slows 99 = .ok (.ireturn, 1) := by decide +kernel
theorem dX6_without_0 : decode cX6_without 0 = .ok (.aload_n 0, 1) := by decide +kernel
theorem dX6_without_1 : decode cX6_without 1 = .ok (.getfield 10, 3) := by decide +kernel
theorem dX6_without_4 : decode cX6_without 4 = .ok (.getfield 115, 3) := by decide +kernel
theorem dX6_without_7 : decode cX6_without 7 = .ok (.iload_n 1, 1) := by decide +kernel
theorem dX6_without_8 : decode cX6_without 8 = .ok (.invokevirtual 119, 3) := by decide +kernel
theorem dX6_without_11 : decode cX6_without 11 = .ok (.ifCond .ne 10, 3) := by decide +kernel
theorem dX6_without_14 : decode cX6_without 14 = .ok (.aload_n 0, 1) := by decide +kernel
theorem dX6_without_15 : decode cX6_without 15 = .ok (.bipush (-2), 2) := by decide +kernel
theorem dX6_without_17 : decode cX6_without 17 = .ok (.invokevirtual 62, 3) := by decide +kernel
theorem dX6_without_20 : decode cX6_without 20 = .ok (.ireturn, 1) := by decide +kernel
theorem dX6_without_21 : decode cX6_without 21 = .ok (.aload_n 0, 1) := by decide +kernel
theorem dX6_without_22 : decode cX6_without 22 = .ok (.getfield 10, 3) := by decide +kernel
theorem dX6_without_25 : decode cX6_without 25 = .ok (.iconst 0, 1) := by decide +kernel
theorem dX6_without_26 : decode cX6_without 26 = .ok (.iconst 1, 1) := by decide +kernel
theorem dX6_without_27 : decode cX6_without 27 = .ok (.iload_n 1, 1) := by decide +kernel
theorem dX6_without_28 : decode cX6_without 28 = .ok (.ishl, 1) := by decide +kernel
theorem dX6_without_29 : decode cX6_without 29 = .ok (.invokevirtual 264, 3) := by decide +kernel
theorem dX6_without_32 : decode cX6_without 32 = .ok (.ireturn, 1) := by decide +kernel
theorem dX6_once_0 : decode cX6_once 0 = .ok (.iload_n 1, 1) := by decide +kernel
theorem dX6_once_1 : decode cX6_once 1 = .ok (.iconst 0, 1) := by decide +kernel
theorem dX6_once_2 : decode cX6_once 2 = .ok (.sipush 999, 3) := by decide +kernel
theorem dX6_once_5 : decode cX6_once 5 = .ok (.invokestatic 58, 3) := by decide +kernel
theorem dX6_once_8 : decode cX6_once 8 = .ok (.ifCond .ne 10, 3) := by decide +kernel
theorem dX6_once_11 : decode cX6_once 11 = .ok (.aload_n 0, 1) := by decide +kernel
theorem dX6_once_12 : decode cX6_once 12 = .ok (.bipush (-2), 2) := by decide +kernel
theorem dX6_once_14 : decode cX6_once 14 = .ok (.invokevirtual 62, 3) := by decide +kernel
theorem dX6_once_17 : decode cX6_once 17 = .ok (.ireturn, 1) := by decide +kernel
theorem dX6_once_18 : decode cX6_once 18 = .ok (.aload_n 0, 1) := by decide +kernel
theorem dX6_once_19 : decode cX6_once 19 = .ok (.invokevirtual 267, 3) := by decide +kernel
theorem dX6_once_22 : decode cX6_once 22 = .ok (.istore_n 2, 1) := by decide +kernel
theorem dX6_once_23 : decode cX6_once 23 = .ok (.ldc 242, 2) := by decide +kernel
theorem dX6_once_25 : decode cX6_once 25 = .ok (.istore_n 3, 1) := by decide +kernel
theorem dX6_once_26 : decode cX6_once 26 = .ok (.iconst 0, 1) := by decide +kernel
theorem dX6_once_27 : decode cX6_once 27 = .ok (.istore 4, 2) := by decide +kernel
theorem dX6_once_29 : decode cX6_once 29 = .ok (.iload 4, 2) := by decide +kernel
theorem dX6_once_31 : decode cX6_once 31 = .ok (.iload_n 1, 1) := by decide +kernel
theorem dX6_once_32 : decode cX6_once 32 = .ok (.if_icmp .ge 15, 3) := by decide +kernel
theorem dX6_once_35 : decode cX6_once 35 = .ok (.iload_n 3, 1) := by decide +kernel
theorem dX6_once_36 : decode cX6_once 36 = .ok (.iload_n 2, 1) := by decide +kernel
theorem dX6_once_37 : decode cX6_once 37 = .ok (.invokestatic 270, 3) := by decide +kernel
theorem dX6_once_40 : decode cX6_once 40 = .ok (.istore_n 3, 1) := by decide +kernel
theorem dX6_once_41 : decode cX6_once 41 = .ok (.iinc 4 1, 3) := by decide +kernel
theorem dX6_once_44 : decode cX6_once 44 = .ok (.goto (-15), 3) := by decide +kernel
theorem dX6_once_47 : decode cX6_once 47 = .ok (.ldc 242, 2) := by decide +kernel
theorem dX6_once_49 : decode cX6_once 49 = .ok (.iload_n 3, 1) := by decide +kernel
theorem dX6_once_50 : decode cX6_once 50 = .ok (.isub, 1) := by decide +kernel
theorem dX6_once_51 : decode cX6_once 51 = .ok (.ireturn, 1) := by decide +kernel
theorem dX6_until_0 : decode cX6_until 0 = .ok (.iload_n 1, 1) := by decide +kernel
theorem dX6_until_1 : decode cX6_until 1 = .ok (.iconst 0, 1) := by decide +kernel
theorem dX6_until_2 : decode cX6_until 2 = .ok (.ldc 242, 2) := by decide +kernel
theorem dX6_until_4 : decode cX6_until 4 = .ok (.invokestatic 58, 3) := by decide +kernel
theorem dX6_until_7 : decode cX6_until 7 = .ok (.ifCond .ne 10, 3) := by decide +kernel
theorem dX6_until_10 : decode cX6_until 10 = .ok (.aload_n 0, 1) := by decide +kernel
theorem dX6_until_11 : decode cX6_until 11 = .ok (.bipush (-2), 2) := by decide +kernel
theorem dX6_until_13 : decode cX6_until 13 = .ok (.invokevirtual 62, 3) := by decide +kernel
theorem dX6_until_16 : decode cX6_until 16 = .ok (.ireturn, 1) := by decide +kernel
theorem dX6_until_17 : decode cX6_until 17 = .ok (.aload_n 0, 1) := by decide +kernel
theorem dX6_until_18 : decode cX6_until 18 = .ok (.invokevirtual 267, 3) := by decide +kernel
theorem dX6_until_21 : decode cX6_until 21 = .ok (.istore_n 2, 1) := by decide +kernel
theorem dX6_until_22 : decode cX6_until 22 = .ok (.ldc 242, 2) := by decide +kernel
theorem dX6_until_24 : decode cX6_until 24 = .ok (.istore_n 3, 1) := by decide +kernel
theorem dX6_until_25 : decode cX6_until 25 = .ok (.iconst 0, 1) := by decide +kernel
theorem dX6_until_26 : decode cX6_until 26 = .ok (.istore 4, 2) := by decide +kernel
theorem dX6_until_28 : decode cX6_until 28 = .ok (.iload 4, 2) := by decide +kernel
theorem dX6_until_30 : decode cX6_until 30 = .ok (.sipush 999, 3) := by decide +kernel
theorem dX6_until_33 : decode cX6_until 33 = .ok (.if_icmp .gt 26, 3) := by decide +kernel
theorem dX6_until_36 : decode cX6_until 36 = .ok (.ldc 242, 2) := by decide +kernel
theorem dX6_until_38 : decode cX6_until 38 = .ok (.iload_n 3, 1) := by decide +kernel
theorem dX6_until_39 : decode cX6_until 39 = .ok (.isub, 1) := by decide +kernel
theorem dX6_until_40 : decode cX6_until 40 = .ok (.iload_n 1, 1) := by decide +kernel
theorem dX6_until_41 : decode cX6_until 41 = .ok (.if_icmp .lt 6, 3) := by decide +kernel
theorem dX6_until_44 : decode cX6_until 44 = .ok (.iload 4, 2) := by decide +kernel
theorem dX6_until_46 : decode cX6_until 46 = .ok (.ireturn, 1) := by decide +kernel
theorem dX6_until_47 : decode cX6_until 47 = .ok (.iload_n 3, 1) := by decide +kernel
theorem dX6_until_48 : decode cX6_until 48 = .ok (.iload_n 2, 1) := by decide +kernel
theorem dX6_until_49 : decode cX6_until 49 = .ok (.invokestatic 270, 3) := by decide +kernel
theorem dX6_until_52 : decode cX6_until 52 = .ok (.istore_n 3, 1) := by decide +kernel
theorem dX6_until_53 : decode cX6_until 53 = .ok (.iinc 4 1, 3) := by decide +kernel
theorem dX6_until_56 : decode cX6_until 56 = .ok (.goto (-28), 3) := by decide +kernel
theorem dX6_until_59 : decode cX6_until 59 = .ok (.iconst (-1), 1) := by decide +kernel
theorem dX6_until_60 : decode cX6_until 60 = .ok (.ireturn, 1) := by decide +kernel
theorem dX6_worth_0 : decode cX6_worth 0 = .ok (.iload_n 1, 1) := by decide +kernel
theorem dX6_worth_1 : decode cX6_worth 1 = .ok (.iconst 0, 1) := by decide +kernel
theorem dX6_worth_2 : decode cX6_worth 2 = .ok (.sipush 999, 3) := by decide +kernel
theorem dX6_worth_5 : decode cX6_worth 5 = .ok (.invokestatic 58, 3) := by decide +kernel
theorem dX6_worth_8 : decode cX6_worth 8 = .ok (.ifCond .eq 25, 3) := by decide +kernel
theorem dX6_worth_11 : decode cX6_worth 11 = .ok (.iload_n 2, 1) := by decide +kernel
theorem dX6_worth_12 : decode cX6_worth 12 = .ok (.iconst 0, 1) := by decide +kernel
theorem dX6_worth_13 : decode cX6_worth 13 = .ok (.sipush 999, 3) := by decide +kernel
theorem dX6_worth_16 : decode cX6_worth 16 = .ok (.invokestatic 58, 3) := by decide +kernel
theorem dX6_worth_19 : decode cX6_worth 19 = .ok (.ifCond .eq 14, 3) := by decide +kernel
theorem dX6_worth_22 : decode cX6_worth 22 = .ok (.iload_n 3, 1) := by decide +kernel
theorem dX6_worth_23 : decode cX6_worth 23 = .ok (.iconst 0, 1) := by decide +kernel
theorem dX6_worth_24 : decode cX6_worth 24 = .ok (.sipush 9999, 3) := by decide +kernel
theorem dX6_worth_27 : decode cX6_worth 27 = .ok (.invokestatic 58, 3) := by decide +kernel
theorem dX6_worth_30 : decode cX6_worth 30 = .ok (.ifCond .ne 14, 3) := by decide +kernel
theorem dX6_worth_33 : decode cX6_worth 33 = .ok (.ldc_w 273, 3) := by decide +kernel
theorem dX6_worth_36 : decode cX6_worth 36 = .ok (.aload_n 0, 1) := by decide +kernel
theorem dX6_worth_37 : decode cX6_worth 37 = .ok (.bipush (-2), 2) := by decide +kernel
theorem dX6_worth_39 : decode cX6_worth 39 = .ok (.invokevirtual 62, 3) := by decide +kernel
theorem dX6_worth_42 : decode cX6_worth 42 = .ok (.iadd, 1) := by decide +kernel
theorem dX6_worth_43 : decode cX6_worth 43 = .ok (.ireturn, 1) := by decide +kernel
theorem dX6_worth_44 : decode cX6_worth 44 = .ok (.iload_n 1, 1) := by decide +kernel
theorem dX6_worth_45 : decode cX6_worth 45 = .ok (.i2l, 1) := by decide +kernel
theorem dX6_worth_46 : decode cX6_worth 46 = .ok (.iload_n 2, 1) := by decide +kernel
theorem dX6_worth_47 : decode cX6_worth 47 = .ok (.i2l, 1) := by decide +kernel
theorem dX6_worth_48 : decode cX6_worth 48 = .ok (.lmul, 1) := by decide +kernel
theorem dX6_worth_49 : decode cX6_worth 49 = .ok (.ldc 242, 2) := by decide +kernel
theorem dX6_worth_51 : decode cX6_worth 51 = .ok (.aload_n 0, 1) := by decide +kernel
theorem dX6_worth_52 : decode cX6_worth 52 = .ok (.invokevirtual 267, 3) := by decide +kernel
theorem dX6_worth_55 : decode cX6_worth 55 = .ok (.isub, 1) := by decide +kernel
theorem dX6_worth_56 : decode cX6_worth 56 = .ok (.i2l, 1) := by decide +kernel
theorem dX6_worth_57 : decode cX6_worth 57 = .ok (.lmul, 1) := by decide +kernel
theorem dX6_worth_58 : decode cX6_worth 58 = .ok (.ldc2_w 274, 3) := by decide +kernel
theorem dX6_worth_61 : decode cX6_worth 61 = .ok (.ldiv, 1) := by decide +kernel
theorem dX6_worth_62 : decode cX6_worth 62 = .ok (.lstore 4, 2) := by decide +kernel
theorem dX6_worth_64 : decode cX6_worth 64 = .ok (.lload 4, 2) := by decide +kernel
theorem dX6_worth_66 : decode cX6_worth 66 = .ok (.l2i, 1) := by decide +kernel
theorem dX6_worth_67 : decode cX6_worth 67 = .ok (.iload_n 3, 1) := by decide +kernel
theorem dX6_worth_68 : decode cX6_worth 68 = .ok (.isub, 1) := by decide +kernel
theorem dX6_worth_69 : decode cX6_worth 69 = .ok (.ireturn, 1) := by decide +kernel
theorem dX6_hears_0 : decode cX6_hears 0 = .ok (.aload_n 0, 1) := by decide +kernel
theorem dX6_hears_1 : decode cX6_hears 1 = .ok (.getfield 10, 3) := by decide +kernel
theorem dX6_hears_4 : decode cX6_hears 4 = .ok (.getfield 184, 3) := by decide +kernel
theorem dX6_hears_7 : decode cX6_hears 7 = .ok (.iload_n 1, 1) := by decide +kernel
theorem dX6_hears_8 : decode cX6_hears 8 = .ok (.invokevirtual 119, 3) := by decide +kernel
theorem dX6_hears_11 : decode cX6_hears 11 = .ok (.ifCond .ne 10, 3) := by decide +kernel
theorem dX6_hears_14 : decode cX6_hears 14 = .ok (.aload_n 0, 1) := by decide +kernel
theorem dX6_hears_15 : decode cX6_hears 15 = .ok (.bipush (-2), 2) := by decide +kernel
theorem dX6_hears_17 : decode cX6_hears 17 = .ok (.invokevirtual 62, 3) := by decide +kernel
theorem dX6_hears_20 : decode cX6_hears 20 = .ok (.ireturn, 1) := by decide +kernel
theorem dX6_hears_21 : decode cX6_hears 21 = .ok (.aload_n 0, 1) := by decide +kernel
theorem dX6_hears_22 : decode cX6_hears 22 = .ok (.getfield 25, 3) := by decide +kernel
theorem dX6_hears_25 : decode cX6_hears 25 = .ok (.aload_n 0, 1) := by decide +kernel
theorem dX6_hears_26 : decode cX6_hears 26 = .ok (.getfield 10, 3) := by decide +kernel
theorem dX6_hears_29 : decode cX6_hears 29 = .ok (.invokevirtual 194, 3) := by decide +kernel
theorem dX6_hears_32 : decode cX6_hears 32 = .ok (.aload_n 0, 1) := by decide +kernel
theorem dX6_hears_33 : decode cX6_hears 33 = .ok (.iload_n 1, 1) := by decide +kernel
theorem dX6_hears_34 : decode cX6_hears 34 = .ok (.invokevirtual 276, 3) := by decide +kernel
theorem dX6_hears_37 : decode cX6_hears 37 = .ok (.ireturn, 1) := by decide +kernel
theorem dX6_rings_0 : decode cX6_rings 0 = .ok (.iload_n 1, 1) := by decide +kernel
theorem dX6_rings_1 : decode cX6_rings 1 = .ok (.iconst 0, 1) := by decide +kernel
theorem dX6_rings_2 : decode cX6_rings 2 = .ok (.sipush 999, 3) := by decide +kernel
theorem dX6_rings_5 : decode cX6_rings 5 = .ok (.invokestatic 58, 3) := by decide +kernel
theorem dX6_rings_8 : decode cX6_rings 8 = .ok (.ifCond .ne 10, 3) := by decide +kernel
theorem dX6_rings_11 : decode cX6_rings 11 = .ok (.aload_n 0, 1) := by decide +kernel
theorem dX6_rings_12 : decode cX6_rings 12 = .ok (.bipush (-2), 2) := by decide +kernel
theorem dX6_rings_14 : decode cX6_rings 14 = .ok (.invokevirtual 62, 3) := by decide +kernel
theorem dX6_rings_17 : decode cX6_rings 17 = .ok (.ireturn, 1) := by decide +kernel
theorem dX6_rings_18 : decode cX6_rings 18 = .ok (.aload_n 0, 1) := by decide +kernel
theorem dX6_rings_19 : decode cX6_rings 19 = .ok (.getfield 25, 3) := by decide +kernel
theorem dX6_rings_22 : decode cX6_rings 22 = .ok (.aload_n 0, 1) := by decide +kernel
theorem dX6_rings_23 : decode cX6_rings 23 = .ok (.getfield 10, 3) := by decide +kernel
theorem dX6_rings_26 : decode cX6_rings 26 = .ok (.invokevirtual 194, 3) := by decide +kernel
theorem dX6_rings_29 : decode cX6_rings 29 = .ok (.iconst 1, 1) := by decide +kernel
theorem dX6_rings_30 : decode cX6_rings 30 = .ok (.aload_n 0, 1) := by decide +kernel
theorem dX6_rings_31 : decode cX6_rings 31 = .ok (.getfield 10, 3) := by decide +kernel
theorem dX6_rings_34 : decode cX6_rings 34 = .ok (.getfield 184, 3) := by decide +kernel
theorem dX6_rings_37 : decode cX6_rings 37 = .ok (.getfield 160, 3) := by decide +kernel
theorem dX6_rings_40 : decode cX6_rings 40 = .ok (.ishl, 1) := by decide +kernel
theorem dX6_rings_41 : decode cX6_rings 41 = .ok (.istore_n 2, 1) := by decide +kernel
theorem dX6_rings_42 : decode cX6_rings 42 = .ok (.iconst 0, 1) := by decide +kernel
theorem dX6_rings_43 : decode cX6_rings 43 = .ok (.istore_n 3, 1) := by decide +kernel
theorem dX6_rings_44 : decode cX6_rings 44 = .ok (.iconst (-1), 1) := by decide +kernel
theorem dX6_rings_45 : decode cX6_rings 45 = .ok (.istore 4, 2) := by decide +kernel
theorem dX6_rings_47 : decode cX6_rings 47 = .ok (.iconst 0, 1) := by decide +kernel
theorem dX6_rings_48 : decode cX6_rings 48 = .ok (.istore 5, 2) := by decide +kernel
theorem dX6_rings_50 : decode cX6_rings 50 = .ok (.iload 5, 2) := by decide +kernel
theorem dX6_rings_52 : decode cX6_rings 52 = .ok (.iload_n 2, 1) := by decide +kernel
theorem dX6_rings_53 : decode cX6_rings 53 = .ok (.if_icmp .ge 45, 3) := by decide +kernel
theorem dX6_rings_56 : decode cX6_rings 56 = .ok (.aload_n 0, 1) := by decide +kernel
theorem dX6_rings_57 : decode cX6_rings 57 = .ok (.iload 5, 2) := by decide +kernel
theorem dX6_rings_59 : decode cX6_rings 59 = .ok (.invokevirtual 279, 3) := by decide +kernel
theorem dX6_rings_62 : decode cX6_rings 62 = .ok (.iload_n 1, 1) := by decide +kernel
theorem dX6_rings_63 : decode cX6_rings 63 = .ok (.if_icmp .gt 12, 3) := by decide +kernel
theorem dX6_rings_66 : decode cX6_rings 66 = .ok (.aload_n 0, 1) := by decide +kernel
theorem dX6_rings_67 : decode cX6_rings 67 = .ok (.iload 5, 2) := by decide +kernel
theorem dX6_rings_69 : decode cX6_rings 69 = .ok (.invokevirtual 282, 3) := by decide +kernel
theorem dX6_rings_72 : decode cX6_rings 72 = .ok (.goto 4, 3) := by decide +kernel
theorem dX6_rings_75 : decode cX6_rings 75 = .ok (.iconst (-1), 1) := by decide +kernel
theorem dX6_rings_76 : decode cX6_rings 76 = .ok (.istore 6, 2) := by decide +kernel
theorem dX6_rings_78 : decode cX6_rings 78 = .ok (.iload 6, 2) := by decide +kernel
theorem dX6_rings_80 : decode cX6_rings 80 = .ok (.iload 4, 2) := by decide +kernel
theorem dX6_rings_82 : decode cX6_rings 82 = .ok (.if_icmp .le 10, 3) := by decide +kernel
theorem dX6_rings_85 : decode cX6_rings 85 = .ok (.iload 6, 2) := by decide +kernel
theorem dX6_rings_87 : decode cX6_rings 87 = .ok (.istore 4, 2) := by decide +kernel
theorem dX6_rings_89 : decode cX6_rings 89 = .ok (.iload 5, 2) := by decide +kernel
theorem dX6_rings_91 : decode cX6_rings 91 = .ok (.istore_n 3, 1) := by decide +kernel
theorem dX6_rings_92 : decode cX6_rings 92 = .ok (.iinc 5 1, 3) := by decide +kernel
theorem dX6_rings_95 : decode cX6_rings 95 = .ok (.goto (-45), 3) := by decide +kernel
theorem dX6_rings_98 : decode cX6_rings 98 = .ok (.iload_n 3, 1) := by decide +kernel
theorem dX6_rings_99 : decode cX6_rings 99 = .ok (.ireturn, 1) := by decide +kernel
theorem dX6_judge_0 : decode cX6_judge 0 = .ok (.aload_n 0, 1) := by decide +kernel
theorem dX6_judge_1 : decode cX6_judge 1 = .ok (.iload_n 1, 1) := by decide +kernel
theorem dX6_judge_2 : decode cX6_judge 2 = .ok (.invokevirtual 54, 3) := by decide +kernel
theorem dX6_judge_5 : decode cX6_judge 5 = .ok (.astore_n 3, 1) := by decide +kernel
theorem dX6_judge_6 : decode cX6_judge 6 = .ok (.aload_n 3, 1) := by decide +kernel
theorem dX6_judge_7 : decode cX6_judge 7 = .ok (.ifnonnull 10, 3) := by decide +kernel
theorem dX6_judge_10 : decode cX6_judge 10 = .ok (.aload_n 0, 1) := by decide +kernel
theorem dX6_judge_11 : decode cX6_judge 11 = .ok (.bipush (-2), 2) := by decide +kernel
theorem dX6_judge_13 : decode cX6_judge 13 = .ok (.invokevirtual 62, 3) := by decide +kernel
theorem dX6_judge_16 : decode cX6_judge 16 = .ok (.ireturn, 1) := by decide +kernel
theorem dX6_judge_17 : decode cX6_judge 17 = .ok (.aload_n 3, 1) := by decide +kernel
theorem dX6_judge_18 : decode cX6_judge 18 = .ok (.iload_n 2, 1) := by decide +kernel
theorem dX6_judge_19 : decode cX6_judge 19 = .ok (.invokevirtual 285, 3) := by decide +kernel
theorem dX6_judge_22 : decode cX6_judge 22 = .ok (.istore 4, 2) := by decide +kernel
theorem dX6_judge_24 : decode cX6_judge 24 = .ok (.iload 4, 2) := by decide +kernel
theorem dX6_judge_26 : decode cX6_judge 26 = .ok (.ifCond .eq 10, 3) := by decide +kernel
theorem dX6_judge_29 : decode cX6_judge 29 = .ok (.aload_n 0, 1) := by decide +kernel
theorem dX6_judge_30 : decode cX6_judge 30 = .ok (.iload 4, 2) := by decide +kernel
theorem dX6_judge_32 : decode cX6_judge 32 = .ok (.invokevirtual 62, 3) := by decide +kernel
theorem dX6_judge_35 : decode cX6_judge 35 = .ok (.ireturn, 1) := by decide +kernel
theorem dX6_judge_36 : decode cX6_judge 36 = .ok (.aload_n 0, 1) := by decide +kernel
theorem dX6_judge_37 : decode cX6_judge 37 = .ok (.aload_n 3, 1) := by decide +kernel
theorem dX6_judge_38 : decode cX6_judge 38 = .ok (.iload_n 2, 1) := by decide +kernel
theorem dX6_judge_39 : decode cX6_judge 39 = .ok (.invokevirtual 288, 3) := by decide +kernel
theorem dX6_judge_42 : decode cX6_judge 42 = .ok (.ireturn, 1) := by decide +kernel
theorem dX6_apart_0 : decode cX6_apart 0 = .ok (.aload_n 0, 1) := by decide +kernel
theorem dX6_apart_1 : decode cX6_apart 1 = .ok (.iload_n 1, 1) := by decide +kernel
theorem dX6_apart_2 : decode cX6_apart 2 = .ok (.invokevirtual 54, 3) := by decide +kernel
theorem dX6_apart_5 : decode cX6_apart 5 = .ok (.astore_n 3, 1) := by decide +kernel
theorem dX6_apart_6 : decode cX6_apart 6 = .ok (.aload_n 3, 1) := by decide +kernel
theorem dX6_apart_7 : decode cX6_apart 7 = .ok (.ifnonnull 10, 3) := by decide +kernel
theorem dX6_apart_10 : decode cX6_apart 10 = .ok (.aload_n 0, 1) := by decide +kernel
theorem dX6_apart_11 : decode cX6_apart 11 = .ok (.bipush (-2), 2) := by decide +kernel
theorem dX6_apart_13 : decode cX6_apart 13 = .ok (.invokevirtual 62, 3) := by decide +kernel
theorem dX6_apart_16 : decode cX6_apart 16 = .ok (.ireturn, 1) := by decide +kernel
theorem dX6_apart_17 : decode cX6_apart 17 = .ok (.aload_n 3, 1) := by decide +kernel
theorem dX6_apart_18 : decode cX6_apart 18 = .ok (.iload_n 2, 1) := by decide +kernel
theorem dX6_apart_19 : decode cX6_apart 19 = .ok (.invokevirtual 285, 3) := by decide +kernel
theorem dX6_apart_22 : decode cX6_apart 22 = .ok (.istore 4, 2) := by decide +kernel
theorem dX6_apart_24 : decode cX6_apart 24 = .ok (.iload 4, 2) := by decide +kernel
theorem dX6_apart_26 : decode cX6_apart 26 = .ok (.ifCond .eq 10, 3) := by decide +kernel
theorem dX6_apart_29 : decode cX6_apart 29 = .ok (.aload_n 0, 1) := by decide +kernel
theorem dX6_apart_30 : decode cX6_apart 30 = .ok (.iload 4, 2) := by decide +kernel
theorem dX6_apart_32 : decode cX6_apart 32 = .ok (.invokevirtual 62, 3) := by decide +kernel
theorem dX6_apart_35 : decode cX6_apart 35 = .ok (.ireturn, 1) := by decide +kernel
theorem dX6_apart_36 : decode cX6_apart 36 = .ok (.aload_n 0, 1) := by decide +kernel
theorem dX6_apart_37 : decode cX6_apart 37 = .ok (.aload_n 3, 1) := by decide +kernel
theorem dX6_apart_38 : decode cX6_apart 38 = .ok (.iload_n 2, 1) := by decide +kernel
theorem dX6_apart_39 : decode cX6_apart 39 = .ok (.invokevirtual 288, 3) := by decide +kernel
theorem dX6_apart_42 : decode cX6_apart 42 = .ok (.iconst (-1), 1) := by decide +kernel
theorem dX6_apart_43 : decode cX6_apart 43 = .ok (.if_icmp .eq 10, 3) := by decide +kernel
theorem dX6_apart_46 : decode cX6_apart 46 = .ok (.aload_n 0, 1) := by decide +kernel
theorem dX6_apart_47 : decode cX6_apart 47 = .ok (.bipush (-5), 2) := by decide +kernel
theorem dX6_apart_49 : decode cX6_apart 49 = .ok (.invokevirtual 62, 3) := by decide +kernel
theorem dX6_apart_52 : decode cX6_apart 52 = .ok (.ireturn, 1) := by decide +kernel
theorem dX6_apart_53 : decode cX6_apart 53 = .ok (.iconst 0, 1) := by decide +kernel
theorem dX6_apart_54 : decode cX6_apart 54 = .ok (.istore 5, 2) := by decide +kernel
theorem dX6_apart_56 : decode cX6_apart 56 = .ok (.iconst 1, 1) := by decide +kernel
theorem dX6_apart_57 : decode cX6_apart 57 = .ok (.istore 6, 2) := by decide +kernel
theorem dX6_apart_59 : decode cX6_apart 59 = .ok (.iload 6, 2) := by decide +kernel
theorem dX6_apart_61 : decode cX6_apart 61 = .ok (.iload_n 2, 1) := by decide +kernel
theorem dX6_apart_62 : decode cX6_apart 62 = .ok (.if_icmp .ge 51, 3) := by decide +kernel
theorem dX6_apart_65 : decode cX6_apart 65 = .ok (.aload_n 0, 1) := by decide +kernel
theorem dX6_apart_66 : decode cX6_apart 66 = .ok (.getfield 10, 3) := by decide +kernel
theorem dX6_apart_69 : decode cX6_apart 69 = .ok (.aload_n 3, 1) := by decide +kernel
theorem dX6_apart_70 : decode cX6_apart 70 = .ok (.iload 6, 2) := by decide +kernel
theorem dX6_apart_72 : decode cX6_apart 72 = .ok (.invokevirtual 100, 3) := by decide +kernel
theorem dX6_apart_75 : decode cX6_apart 75 = .ok (.l2i, 1) := by decide +kernel
theorem dX6_apart_76 : decode cX6_apart 76 = .ok (.invokevirtual 181, 3) := by decide +kernel
theorem dX6_apart_79 : decode cX6_apart 79 = .ok (.aload_n 0, 1) := by decide +kernel
theorem dX6_apart_80 : decode cX6_apart 80 = .ok (.getfield 10, 3) := by decide +kernel
theorem dX6_apart_83 : decode cX6_apart 83 = .ok (.aload_n 3, 1) := by decide +kernel
theorem dX6_apart_84 : decode cX6_apart 84 = .ok (.iload 6, 2) := by decide +kernel
theorem dX6_apart_86 : decode cX6_apart 86 = .ok (.iconst 1, 1) := by decide +kernel
theorem dX6_apart_87 : decode cX6_apart 87 = .ok (.isub, 1) := by decide +kernel
theorem dX6_apart_88 : decode cX6_apart 88 = .ok (.invokevirtual 100, 3) := by decide +kernel
theorem dX6_apart_91 : decode cX6_apart 91 = .ok (.l2i, 1) := by decide +kernel
theorem dX6_apart_92 : decode cX6_apart 92 = .ok (.invokevirtual 181, 3) := by decide +kernel
theorem dX6_apart_95 : decode cX6_apart 95 = .ok (.isub, 1) := by decide +kernel
theorem dX6_apart_96 : decode cX6_apart 96 = .ok (.istore 7, 2) := by decide +kernel
theorem dX6_apart_98 : decode cX6_apart 98 = .ok (.iload 5, 2) := by decide +kernel
theorem dX6_apart_100 : decode cX6_apart 100 = .ok (.iload 7, 2) := by decide +kernel
theorem dX6_apart_102 : decode cX6_apart 102 = .ok (.invokestatic 292, 3) := by decide +kernel
theorem dX6_apart_105 : decode cX6_apart 105 = .ok (.istore 5, 2) := by decide +kernel
theorem dX6_apart_107 : decode cX6_apart 107 = .ok (.iinc 6 1, 3) := by decide +kernel
theorem dX6_apart_110 : decode cX6_apart 110 = .ok (.goto (-51), 3) := by decide +kernel
theorem dX6_apart_113 : decode cX6_apart 113 = .ok (.iload 5, 2) := by decide +kernel
theorem dX6_apart_115 : decode cX6_apart 115 = .ok (.ireturn, 1) := by decide +kernel
theorem dX6_search_0 : decode cX6_search 0 = .ok (.aload_n 0, 1) := by decide +kernel
theorem dX6_search_1 : decode cX6_search 1 = .ok (.iload_n 1, 1) := by decide +kernel
theorem dX6_search_2 : decode cX6_search 2 = .ok (.invokevirtual 54, 3) := by decide +kernel
theorem dX6_search_5 : decode cX6_search 5 = .ok (.astore 4, 2) := by decide +kernel
theorem dX6_search_7 : decode cX6_search 7 = .ok (.aload 4, 2) := by decide +kernel
theorem dX6_search_9 : decode cX6_search 9 = .ok (.ifnull 12, 3) := by decide +kernel
theorem dX6_search_12 : decode cX6_search 12 = .ok (.iload_n 3, 1) := by decide +kernel
theorem dX6_search_13 : decode cX6_search 13 = .ok (.iconst 0, 1) := by decide +kernel
theorem dX6_search_14 : decode cX6_search 14 = .ok (.iconst 1, 1) := by decide +kernel
theorem dX6_search_15 : decode cX6_search 15 = .ok (.invokestatic 58, 3) := by decide +kernel
theorem dX6_search_18 : decode cX6_search 18 = .ok (.ifCond .ne 10, 3) := by decide +kernel
theorem dX6_search_21 : decode cX6_search 21 = .ok (.aload_n 0, 1) := by decide +kernel
theorem dX6_search_22 : decode cX6_search 22 = .ok (.bipush (-2), 2) := by decide +kernel
theorem dX6_search_24 : decode cX6_search 24 = .ok (.invokevirtual 62, 3) := by decide +kernel
theorem dX6_search_27 : decode cX6_search 27 = .ok (.ireturn, 1) := by decide +kernel
theorem dX6_search_28 : decode cX6_search 28 = .ok (.aload 4, 2) := by decide +kernel
theorem dX6_search_30 : decode cX6_search 30 = .ok (.iload_n 2, 1) := by decide +kernel
theorem dX6_search_31 : decode cX6_search 31 = .ok (.invokevirtual 285, 3) := by decide +kernel
theorem dX6_search_34 : decode cX6_search 34 = .ok (.istore 5, 2) := by decide +kernel
theorem dX6_search_36 : decode cX6_search 36 = .ok (.iload 5, 2) := by decide +kernel
theorem dX6_search_38 : decode cX6_search 38 = .ok (.ifCond .eq 10, 3) := by decide +kernel
theorem dX6_search_41 : decode cX6_search 41 = .ok (.aload_n 0, 1) := by decide +kernel
theorem dX6_search_42 : decode cX6_search 42 = .ok (.iload 5, 2) := by decide +kernel
theorem dX6_search_44 : decode cX6_search 44 = .ok (.invokevirtual 62, 3) := by decide +kernel
theorem dX6_search_47 : decode cX6_search 47 = .ok (.ireturn, 1) := by decide +kernel
theorem dX6_search_48 : decode cX6_search 48 = .ok (.iconst 0, 1) := by decide +kernel
theorem dX6_search_49 : decode cX6_search 49 = .ok (.istore 6, 2) := by decide +kernel
theorem dX6_search_51 : decode cX6_search 51 = .ok (.iload 6, 2) := by decide +kernel
theorem dX6_search_53 : decode cX6_search 53 = .ok (.iload_n 2, 1) := by decide +kernel
theorem dX6_search_54 : decode cX6_search 54 = .ok (.if_icmp .ge 30, 3) := by decide +kernel
theorem dX6_search_57 : decode cX6_search 57 = .ok (.aload_n 0, 1) := by decide +kernel
theorem dX6_search_58 : decode cX6_search 58 = .ok (.aload 4, 2) := by decide +kernel
theorem dX6_search_60 : decode cX6_search 60 = .ok (.iload 6, 2) := by decide +kernel
theorem dX6_search_62 : decode cX6_search 62 = .ok (.invokevirtual 100, 3) := by decide +kernel
theorem dX6_search_65 : decode cX6_search 65 = .ok (.invokevirtual 297, 3) := by decide +kernel
theorem dX6_search_68 : decode cX6_search 68 = .ok (.ifCond .ne 10, 3) := by decide +kernel
theorem dX6_search_71 : decode cX6_search 71 = .ok (.aload_n 0, 1) := by decide +kernel
theorem dX6_search_72 : decode cX6_search 72 = .ok (.bipush (-5), 2) := by decide +kernel
theorem dX6_search_74 : decode cX6_search 74 = .ok (.invokevirtual 62, 3) := by decide +kernel
theorem dX6_search_77 : decode cX6_search 77 = .ok (.ireturn, 1) := by decide +kernel
theorem dX6_search_78 : decode cX6_search 78 = .ok (.iinc 6 1, 3) := by decide +kernel
theorem dX6_search_81 : decode cX6_search 81 = .ok (.goto (-30), 3) := by decide +kernel
theorem dX6_search_84 : decode cX6_search 84 = .ok (.aload_n 0, 1) := by decide +kernel
theorem dX6_search_85 : decode cX6_search 85 = .ok (.getfield 25, 3) := by decide +kernel
theorem dX6_search_88 : decode cX6_search 88 = .ok (.aload_n 0, 1) := by decide +kernel
theorem dX6_search_89 : decode cX6_search 89 = .ok (.getfield 10, 3) := by decide +kernel
theorem dX6_search_92 : decode cX6_search 92 = .ok (.invokevirtual 194, 3) := by decide +kernel
theorem dX6_search_95 : decode cX6_search 95 = .ok (.iconst 0, 1) := by decide +kernel
theorem dX6_search_96 : decode cX6_search 96 = .ok (.istore 6, 2) := by decide +kernel
theorem dX6_search_98 : decode cX6_search 98 = .ok (.iconst 0, 1) := by decide +kernel
theorem dX6_search_99 : decode cX6_search 99 = .ok (.istore 7, 2) := by decide +kernel
theorem dX6_search_101 : decode cX6_search 101 = .ok (.iconst 0, 1) := by decide +kernel
theorem dX6_search_102 : decode cX6_search 102 = .ok (.istore 8, 2) := by decide +kernel
theorem dX6_search_104 : decode cX6_search 104 = .ok (.iload 8, 2) := by decide +kernel
theorem dX6_search_106 : decode cX6_search 106 = .ok (.iload_n 2, 1) := by decide +kernel
theorem dX6_search_107 : decode cX6_search 107 = .ok (.if_icmp .ge 80, 3) := by decide +kernel
theorem dX6_search_110 : decode cX6_search 110 = .ok (.aload 4, 2) := by decide +kernel
theorem dX6_search_112 : decode cX6_search 112 = .ok (.iload 8, 2) := by decide +kernel
theorem dX6_search_114 : decode cX6_search 114 = .ok (.invokevirtual 100, 3) := by decide +kernel
theorem dX6_search_117 : decode cX6_search 117 = .ok (.ldc2_w 301, 3) := by decide +kernel
theorem dX6_search_120 : decode cX6_search 120 = .ok (.ldiv, 1) := by decide +kernel
theorem dX6_search_121 : decode cX6_search 121 = .ok (.l2i, 1) := by decide +kernel
theorem dX6_search_122 : decode cX6_search 122 = .ok (.istore 9, 2) := by decide +kernel
theorem dX6_search_124 : decode cX6_search 124 = .ok (.aload 4, 2) := by decide +kernel
theorem dX6_search_126 : decode cX6_search 126 = .ok (.iload 8, 2) := by decide +kernel
theorem dX6_search_128 : decode cX6_search 128 = .ok (.invokevirtual 100, 3) := by decide +kernel
theorem dX6_search_131 : decode cX6_search 131 = .ok (.ldc2_w 301, 3) := by decide +kernel
theorem dX6_search_134 : decode cX6_search 134 = .ok (.lrem, 1) := by decide +kernel
theorem dX6_search_135 : decode cX6_search 135 = .ok (.l2i, 1) := by decide +kernel
theorem dX6_search_136 : decode cX6_search 136 = .ok (.istore 10, 2) := by decide +kernel
theorem dX6_search_138 : decode cX6_search 138 = .ok (.iload 6, 2) := by decide +kernel
theorem dX6_search_140 : decode cX6_search 140 = .ok (.aload_n 0, 1) := by decide +kernel
theorem dX6_search_141 : decode cX6_search 141 = .ok (.getfield 10, 3) := by decide +kernel
theorem dX6_search_144 : decode cX6_search 144 = .ok (.iload 9, 2) := by decide +kernel
theorem dX6_search_146 : decode cX6_search 146 = .ok (.iload 10, 2) := by decide +kernel
theorem dX6_search_148 : decode cX6_search 148 = .ok (.invokevirtual 223, 3) := by decide +kernel
theorem dX6_search_151 : decode cX6_search 151 = .ok (.iadd, 1) := by decide +kernel
theorem dX6_search_152 : decode cX6_search 152 = .ok (.istore 6, 2) := by decide +kernel
theorem dX6_search_154 : decode cX6_search 154 = .ok (.iload 7, 2) := by decide +kernel
theorem dX6_search_156 : decode cX6_search 156 = .ok (.aload_n 0, 1) := by decide +kernel
theorem dX6_search_157 : decode cX6_search 157 = .ok (.getfield 25, 3) := by decide +kernel
theorem dX6_search_160 : decode cX6_search 160 = .ok (.iload 9, 2) := by decide +kernel
theorem dX6_search_162 : decode cX6_search 162 = .ok (.iload 10, 2) := by decide +kernel
theorem dX6_search_164 : decode cX6_search 164 = .ok (.invokevirtual 226, 3) := by decide +kernel
theorem dX6_search_167 : decode cX6_search 167 = .ok (.iadd, 1) := by decide +kernel
theorem dX6_search_168 : decode cX6_search 168 = .ok (.istore 7, 2) := by decide +kernel
theorem dX6_search_170 : decode cX6_search 170 = .ok (.aload_n 0, 1) := by decide +kernel
theorem dX6_search_171 : decode cX6_search 171 = .ok (.getfield 25, 3) := by decide +kernel
theorem dX6_search_174 : decode cX6_search 174 = .ok (.iload 9, 2) := by decide +kernel
theorem dX6_search_176 : decode cX6_search 176 = .ok (.iload 10, 2) := by decide +kernel
theorem dX6_search_178 : decode cX6_search 178 = .ok (.invokevirtual 303, 3) := by decide +kernel
theorem dX6_search_181 : decode cX6_search 181 = .ok (.iinc 8 1, 3) := by decide +kernel
theorem dX6_search_184 : decode cX6_search 184 = .ok (.goto (-80), 3) := by decide +kernel
theorem dX6_search_187 : decode cX6_search 187 = .ok (.iload_n 3, 1) := by decide +kernel
theorem dX6_search_188 : decode cX6_search 188 = .ok (.ifCond .ne 8, 3) := by decide +kernel
theorem dX6_search_191 : decode cX6_search 191 = .ok (.iload 6, 2) := by decide +kernel
theorem dX6_search_193 : decode cX6_search 193 = .ok (.goto 5, 3) := by decide +kernel
theorem dX6_search_196 : decode cX6_search 196 = .ok (.iload 7, 2) := by decide +kernel
theorem dX6_search_198 : decode cX6_search 198 = .ok (.ireturn, 1) := by decide +kernel
theorem dX6_lies_0 : decode cX6_lies 0 = .ok (.aload_n 0, 1) := by decide +kernel
theorem dX6_lies_1 : decode cX6_lies 1 = .ok (.iload_n 1, 1) := by decide +kernel
theorem dX6_lies_2 : decode cX6_lies 2 = .ok (.invokevirtual 104, 3) := by decide +kernel
theorem dX6_lies_5 : decode cX6_lies 5 = .ok (.ifCond .ne 10, 3) := by decide +kernel
theorem dX6_lies_8 : decode cX6_lies 8 = .ok (.aload_n 0, 1) := by decide +kernel
theorem dX6_lies_9 : decode cX6_lies 9 = .ok (.bipush (-2), 2) := by decide +kernel
theorem dX6_lies_11 : decode cX6_lies 11 = .ok (.invokevirtual 62, 3) := by decide +kernel
theorem dX6_lies_14 : decode cX6_lies 14 = .ok (.ireturn, 1) := by decide +kernel
theorem dX6_lies_15 : decode cX6_lies 15 = .ok (.aload_n 0, 1) := by decide +kernel
theorem dX6_lies_16 : decode cX6_lies 16 = .ok (.getfield 10, 3) := by decide +kernel
theorem dX6_lies_19 : decode cX6_lies 19 = .ok (.getfield 306, 3) := by decide +kernel
theorem dX6_lies_22 : decode cX6_lies 22 = .ok (.istore_n 2, 1) := by decide +kernel
theorem dX6_lies_23 : decode cX6_lies 23 = .ok (.aload_n 0, 1) := by decide +kernel
theorem dX6_lies_24 : decode cX6_lies 24 = .ok (.getfield 10, 3) := by decide +kernel
theorem dX6_lies_27 : decode cX6_lies 27 = .ok (.iload_n 1, 1) := by decide +kernel
theorem dX6_lies_28 : decode cX6_lies 28 = .ok (.putfield 306, 3) := by decide +kernel
theorem dX6_lies_31 : decode cX6_lies 31 = .ok (.iload_n 2, 1) := by decide +kernel
theorem dX6_lies_32 : decode cX6_lies 32 = .ok (.ireturn, 1) := by decide +kernel
theorem dX6_drive_0 : decode cX6_drive 0 = .ok (.aload_n 0, 1) := by decide +kernel
theorem dX6_drive_1 : decode cX6_drive 1 = .ok (.getfield 10, 3) := by decide +kernel
theorem dX6_drive_4 : decode cX6_drive 4 = .ok (.invokevirtual 309, 3) := by decide +kernel
theorem dX6_drive_7 : decode cX6_drive 7 = .ok (.ireturn, 1) := by decide +kernel
theorem dX6_look_0 : decode cX6_look 0 = .ok (.aload_n 0, 1) := by decide +kernel
theorem dX6_look_1 : decode cX6_look 1 = .ok (.iload_n 1, 1) := by decide +kernel
theorem dX6_look_2 : decode cX6_look 2 = .ok (.iload_n 2, 1) := by decide +kernel
theorem dX6_look_3 : decode cX6_look 3 = .ok (.invokevirtual 220, 3) := by decide +kernel
theorem dX6_look_6 : decode cX6_look 6 = .ok (.ifCond .ne 10, 3) := by decide +kernel
theorem dX6_look_9 : decode cX6_look 9 = .ok (.aload_n 0, 1) := by decide +kernel
theorem dX6_look_10 : decode cX6_look 10 = .ok (.bipush (-2), 2) := by decide +kernel
theorem dX6_look_12 : decode cX6_look 12 = .ok (.invokevirtual 62, 3) := by decide +kernel
theorem dX6_look_15 : decode cX6_look 15 = .ok (.ireturn, 1) := by decide +kernel
theorem dX6_look_16 : decode cX6_look 16 = .ok (.aload_n 0, 1) := by decide +kernel
theorem dX6_look_17 : decode cX6_look 17 = .ok (.getfield 10, 3) := by decide +kernel
theorem dX6_look_20 : decode cX6_look 20 = .ok (.iload_n 1, 1) := by decide +kernel
theorem dX6_look_21 : decode cX6_look 21 = .ok (.iload_n 2, 1) := by decide +kernel
theorem dX6_look_22 : decode cX6_look 22 = .ok (.invokevirtual 312, 3) := by decide +kernel
theorem dX6_look_25 : decode cX6_look 25 = .ok (.ireturn, 1) := by decide +kernel
theorem dX6_trips_0 : decode cX6_trips 0 = .ok (.iload_n 1, 1) := by decide +kernel
theorem dX6_trips_1 : decode cX6_trips 1 = .ok (.iconst 1, 1) := by decide +kernel
theorem dX6_trips_2 : decode cX6_trips 2 = .ok (.bipush 99, 2) := by decide +kernel
theorem dX6_trips_4 : decode cX6_trips 4 = .ok (.invokestatic 58, 3) := by decide +kernel
theorem dX6_trips_7 : decode cX6_trips 7 = .ok (.ifCond .ne 10, 3) := by decide +kernel
theorem dX6_trips_10 : decode cX6_trips 10 = .ok (.aload_n 0, 1) := by decide +kernel
theorem dX6_trips_11 : decode cX6_trips 11 = .ok (.bipush (-2), 2) := by decide +kernel
theorem dX6_trips_13 : decode cX6_trips 13 = .ok (.invokevirtual 62, 3) := by decide +kernel
theorem dX6_trips_16 : decode cX6_trips 16 = .ok (.ireturn, 1) := by decide +kernel
theorem dX6_trips_17 : decode cX6_trips 17 = .ok (.iconst 0, 1) := by decide +kernel
theorem dX6_trips_18 : decode cX6_trips 18 = .ok (.istore_n 2, 1) := by decide +kernel
theorem dX6_trips_19 : decode cX6_trips 19 = .ok (.iconst 0, 1) := by decide +kernel
theorem dX6_trips_20 : decode cX6_trips 20 = .ok (.istore_n 3, 1) := by decide +kernel
theorem dX6_trips_21 : decode cX6_trips 21 = .ok (.iload_n 3, 1) := by decide +kernel
theorem dX6_trips_22 : decode cX6_trips 22 = .ok (.iload_n 1, 1) := by decide +kernel
theorem dX6_trips_23 : decode cX6_trips 23 = .ok (.if_icmp .ge 19, 3) := by decide +kernel
theorem dX6_trips_26 : decode cX6_trips 26 = .ok (.iload_n 2, 1) := by decide +kernel
theorem dX6_trips_27 : decode cX6_trips 27 = .ok (.aload_n 0, 1) := by decide +kernel
theorem dX6_trips_28 : decode cX6_trips 28 = .ok (.getfield 10, 3) := by decide +kernel
theorem dX6_trips_31 : decode cX6_trips 31 = .ok (.invokevirtual 309, 3) := by decide +kernel
theorem dX6_trips_34 : decode cX6_trips 34 = .ok (.iadd, 1) := by decide +kernel
theorem dX6_trips_35 : decode cX6_trips 35 = .ok (.istore_n 2, 1) := by decide +kernel
theorem dX6_trips_36 : decode cX6_trips 36 = .ok (.iinc 3 1, 3) := by decide +kernel
theorem dX6_trips_39 : decode cX6_trips 39 = .ok (.goto (-18), 3) := by decide +kernel
theorem dX6_trips_42 : decode cX6_trips 42 = .ok (.iload_n 2, 1) := by decide +kernel
theorem dX6_trips_43 : decode cX6_trips 43 = .ok (.ireturn, 1) := by decide +kernel
theorem dX6_seed_0 : decode cX6_seed 0 = .ok (.aload_n 0, 1) := by decide +kernel
theorem dX6_seed_1 : decode cX6_seed 1 = .ok (.getfield 10, 3) := by decide +kernel
theorem dX6_seed_4 : decode cX6_seed 4 = .ok (.getfield 315, 3) := by decide +kernel
theorem dX6_seed_7 : decode cX6_seed 7 = .ok (.istore_n 2, 1) := by decide +kernel
theorem dX6_seed_8 : decode cX6_seed 8 = .ok (.aload_n 0, 1) := by decide +kernel
theorem dX6_seed_9 : decode cX6_seed 9 = .ok (.getfield 10, 3) := by decide +kernel
theorem dX6_seed_12 : decode cX6_seed 12 = .ok (.iload_n 1, 1) := by decide +kernel
theorem dX6_seed_13 : decode cX6_seed 13 = .ok (.putfield 315, 3) := by decide +kernel
theorem dX6_seed_16 : decode cX6_seed 16 = .ok (.iload_n 2, 1) := by decide +kernel
theorem dX6_seed_17 : decode cX6_seed 17 = .ok (.ireturn, 1) := by decide +kernel
theorem dX6_image_0 : decode cX6_image 0 = .ok (.aload_n 0, 1) := by decide +kernel
theorem dX6_image_1 : decode cX6_image 1 = .ok (.getfield 16, 3) := by decide +kernel
theorem dX6_image_4 : decode cX6_image 4 = .ok (.aload_n 0, 1) := by decide +kernel
theorem dX6_image_5 : decode cX6_image 5 = .ok (.getfield 10, 3) := by decide +kernel
theorem dX6_image_8 : decode cX6_image 8 = .ok (.invokevirtual 173, 3) := by decide +kernel
theorem dX6_image_11 : decode cX6_image 11 = .ok (.aload_n 0, 1) := by decide +kernel
theorem dX6_image_12 : decode cX6_image 12 = .ok (.iconst 1, 1) := by decide +kernel
theorem dX6_image_13 : decode cX6_image 13 = .ok (.putfield 318, 3) := by decide +kernel
theorem dX6_image_16 : decode cX6_image 16 = .ok (.iconst 1, 1) := by decide +kernel
theorem dX6_image_17 : decode cX6_image 17 = .ok (.ireturn, 1) := by decide +kernel
theorem dX6_back_0 : decode cX6_back 0 = .ok (.aload_n 0, 1) := by decide +kernel
theorem dX6_back_1 : decode cX6_back 1 = .ok (.getfield 318, 3) := by decide +kernel
theorem dX6_back_4 : decode cX6_back 4 = .ok (.ifCond .ne 10, 3) := by decide +kernel
theorem dX6_back_7 : decode cX6_back 7 = .ok (.aload_n 0, 1) := by decide +kernel
theorem dX6_back_8 : decode cX6_back 8 = .ok (.bipush (-5), 2) := by decide +kernel
theorem dX6_back_10 : decode cX6_back 10 = .ok (.invokevirtual 62, 3) := by decide +kernel
theorem dX6_back_13 : decode cX6_back 13 = .ok (.ireturn, 1) := by decide +kernel
theorem dX6_back_14 : decode cX6_back 14 = .ok (.aload_n 0, 1) := by decide +kernel
theorem dX6_back_15 : decode cX6_back 15 = .ok (.getfield 10, 3) := by decide +kernel
theorem dX6_back_18 : decode cX6_back 18 = .ok (.aload_n 0, 1) := by decide +kernel
theorem dX6_back_19 : decode cX6_back 19 = .ok (.getfield 16, 3) := by decide +kernel
theorem dX6_back_22 : decode cX6_back 22 = .ok (.invokevirtual 173, 3) := by decide +kernel
theorem dX6_back_25 : decode cX6_back 25 = .ok (.iconst 0, 1) := by decide +kernel
theorem dX6_back_26 : decode cX6_back 26 = .ok (.istore_n 1, 1) := by decide +kernel
theorem dX6_back_27 : decode cX6_back 27 = .ok (.iload_n 1, 1) := by decide +kernel
theorem dX6_back_28 : decode cX6_back 28 = .ok (.aload_n 0, 1) := by decide +kernel
theorem dX6_back_29 : decode cX6_back 29 = .ok (.getfield 49, 3) := by decide +kernel
theorem dX6_back_32 : decode cX6_back 32 = .ok (.arraylength, 1) := by decide +kernel
theorem dX6_back_33 : decode cX6_back 33 = .ok (.if_icmp .ge 48, 3) := by decide +kernel
theorem dX6_back_36 : decode cX6_back 36 = .ok (.aload_n 0, 1) := by decide +kernel
theorem dX6_back_37 : decode cX6_back 37 = .ok (.iload_n 1, 1) := by decide +kernel
theorem dX6_back_38 : decode cX6_back 38 = .ok (.invokevirtual 54, 3) := by decide +kernel
theorem dX6_back_41 : decode cX6_back 41 = .ok (.astore_n 2, 1) := by decide +kernel
theorem dX6_back_42 : decode cX6_back 42 = .ok (.aload_n 2, 1) := by decide +kernel
theorem dX6_back_43 : decode cX6_back 43 = .ok (.ifnull 32, 3) := by decide +kernel
theorem dX6_back_46 : decode cX6_back 46 = .ok (.aload_n 2, 1) := by decide +kernel
theorem dX6_back_47 : decode cX6_back 47 = .ok (.invokevirtual 85, 3) := by decide +kernel
theorem dX6_back_50 : decode cX6_back 50 = .ok (.ifCond .eq 25, 3) := by decide +kernel
theorem dX6_back_53 : decode cX6_back 53 = .ok (.aload_n 0, 1) := by decide +kernel
theorem dX6_back_54 : decode cX6_back 54 = .ok (.getfield 10, 3) := by decide +kernel
theorem dX6_back_57 : decode cX6_back 57 = .ok (.getfield 115, 3) := by decide +kernel
theorem dX6_back_60 : decode cX6_back 60 = .ok (.aload_n 2, 1) := by decide +kernel
theorem dX6_back_61 : decode cX6_back 61 = .ok (.invokevirtual 111, 3) := by decide +kernel
theorem dX6_back_64 : decode cX6_back 64 = .ok (.invokevirtual 119, 3) := by decide +kernel
theorem dX6_back_67 : decode cX6_back 67 = .ok (.ifCond .ne 8, 3) := by decide +kernel
theorem dX6_back_70 : decode cX6_back 70 = .ok (.aload_n 2, 1) := by decide +kernel
theorem dX6_back_71 : decode cX6_back 71 = .ok (.iconst (-1), 1) := by decide +kernel
theorem dX6_back_72 : decode cX6_back 72 = .ok (.invokevirtual 107, 3) := by decide +kernel
theorem dX6_back_75 : decode cX6_back 75 = .ok (.iinc 1 1, 3) := by decide +kernel
theorem dX6_back_78 : decode cX6_back 78 = .ok (.goto (-51), 3) := by decide +kernel
theorem dX6_back_81 : decode cX6_back 81 = .ok (.iconst 1, 1) := by decide +kernel
theorem dX6_back_82 : decode cX6_back 82 = .ok (.ireturn, 1) := by decide +kernel
theorem dX6_status_0 : decode cX6_status 0 = .ok (.iload_n 1, 1) := by decide +kernel
theorem dX6_status_1 : decode cX6_status 1 = .ok (.bipush 12, 2) := by decide +kernel
theorem dX6_status_3 : decode cX6_status 3 = .ok (.bipush 16, 2) := by decide +kernel
theorem dX6_status_5 : decode cX6_status 5 = .ok (.invokestatic 58, 3) := by decide +kernel
theorem dX6_status_8 : decode cX6_status 8 = .ok (.ifCond .eq 12, 3) := by decide +kernel
theorem dX6_status_11 : decode cX6_status 11 = .ok (.aload_n 0, 1) := by decide +kernel
theorem dX6_status_12 : decode cX6_status 12 = .ok (.iload_n 1, 1) := by decide +kernel
theorem dX6_status_13 : decode cX6_status 13 = .ok (.bipush 12, 2) := by decide +kernel
theorem dX6_status_15 : decode cX6_status 15 = .ok (.isub, 1) := by decide +kernel
theorem dX6_status_16 : decode cX6_status 16 = .ok (.invokevirtual 322, 3) := by decide +kernel
theorem dX6_status_19 : decode cX6_status 19 = .ok (.ireturn, 1) := by decide +kernel
theorem dX6_status_20 : decode cX6_status 20 = .ok (.iload_n 1, 1) := by decide +kernel
theorem dX6_status_21 : decode cX6_status 21 = .ok (.tableswitch 220 0 17 #[87, 98, 109, 117, 125, 133, 153, 161, 180, 188, 196, 201, 220, 220, 220, 220, 220, 209], 87) := by decide +kernel
theorem dX6_status_108 : decode cX6_status 108 = .ok (.aload_n 0, 1) := by decide +kernel
theorem dX6_status_109 : decode cX6_status 109 = .ok (.getfield 10, 3) := by decide +kernel
theorem dX6_status_112 : decode cX6_status 112 = .ok (.getfield 115, 3) := by decide +kernel
theorem dX6_status_115 : decode cX6_status 115 = .ok (.getfield 160, 3) := by decide +kernel
theorem dX6_status_118 : decode cX6_status 118 = .ok (.ireturn, 1) := by decide +kernel
theorem dX6_status_119 : decode cX6_status 119 = .ok (.aload_n 0, 1) := by decide +kernel
theorem dX6_status_120 : decode cX6_status 120 = .ok (.getfield 10, 3) := by decide +kernel
theorem dX6_status_123 : decode cX6_status 123 = .ok (.getfield 153, 3) := by decide +kernel
theorem dX6_status_126 : decode cX6_status 126 = .ok (.getfield 160, 3) := by decide +kernel
theorem dX6_status_129 : decode cX6_status 129 = .ok (.ireturn, 1) := by decide +kernel
theorem dX6_status_130 : decode cX6_status 130 = .ok (.aload_n 0, 1) := by decide +kernel
theorem dX6_status_131 : decode cX6_status 131 = .ok (.getfield 10, 3) := by decide +kernel
theorem dX6_status_134 : decode cX6_status 134 = .ok (.getfield 134, 3) := by decide +kernel
theorem dX6_status_137 : decode cX6_status 137 = .ok (.ireturn, 1) := by decide +kernel
theorem dX6_status_138 : decode cX6_status 138 = .ok (.aload_n 0, 1) := by decide +kernel
theorem dX6_status_139 : decode cX6_status 139 = .ok (.getfield 10, 3) := by decide +kernel
theorem dX6_status_142 : decode cX6_status 142 = .ok (.getfield 250, 3) := by decide +kernel
theorem dX6_status_145 : decode cX6_status 145 = .ok (.ireturn, 1) := by decide +kernel
theorem dX6_status_146 : decode cX6_status 146 = .ok (.aload_n 0, 1) := by decide +kernel
theorem dX6_status_147 : decode cX6_status 147 = .ok (.getfield 10, 3) := by decide +kernel
theorem dX6_status_150 : decode cX6_status 150 = .ok (.getfield 253, 3) := by decide +kernel
theorem dX6_status_153 : decode cX6_status 153 = .ok (.ireturn, 1) := by decide +kernel
theorem dX6_status_154 : decode cX6_status 154 = .ok (.aload_n 0, 1) := by decide +kernel
theorem dX6_status_155 : decode cX6_status 155 = .ok (.getfield 10, 3) := by decide +kernel
theorem dX6_status_158 : decode cX6_status 158 = .ok (.aload_n 0, 1) := by decide +kernel
theorem dX6_status_159 : decode cX6_status 159 = .ok (.getfield 10, 3) := by decide +kernel
theorem dX6_status_162 : decode cX6_status 162 = .ok (.getfield 115, 3) := by decide +kernel
theorem dX6_status_165 : decode cX6_status 165 = .ok (.getfield 160, 3) := by decide +kernel
theorem dX6_status_168 : decode cX6_status 168 = .ok (.iconst 1, 1) := by decide +kernel
theorem dX6_status_169 : decode cX6_status 169 = .ok (.isub, 1) := by decide +kernel
theorem dX6_status_170 : decode cX6_status 170 = .ok (.invokevirtual 181, 3) := by decide +kernel
theorem dX6_status_173 : decode cX6_status 173 = .ok (.ireturn, 1) := by decide +kernel
theorem dX6_status_174 : decode cX6_status 174 = .ok (.aload_n 0, 1) := by decide +kernel
theorem dX6_status_175 : decode cX6_status 175 = .ok (.getfield 10, 3) := by decide +kernel
theorem dX6_status_178 : decode cX6_status 178 = .ok (.getfield 306, 3) := by decide +kernel
theorem dX6_status_181 : decode cX6_status 181 = .ok (.ireturn, 1) := by decide +kernel
theorem dX6_status_182 : decode cX6_status 182 = .ok (.aload_n 0, 1) := by decide +kernel
theorem dX6_status_183 : decode cX6_status 183 = .ok (.getfield 25, 3) := by decide +kernel
theorem dX6_status_186 : decode cX6_status 186 = .ok (.aload_n 0, 1) := by decide +kernel
theorem dX6_status_187 : decode cX6_status 187 = .ok (.getfield 10, 3) := by decide +kernel
theorem dX6_status_190 : decode cX6_status 190 = .ok (.invokevirtual 194, 3) := by decide +kernel
theorem dX6_status_193 : decode cX6_status 193 = .ok (.aload_n 0, 1) := by decide +kernel
theorem dX6_status_194 : decode cX6_status 194 = .ok (.getfield 25, 3) := by decide +kernel
theorem dX6_status_197 : decode cX6_status 197 = .ok (.invokevirtual 205, 3) := by decide +kernel
theorem dX6_status_200 : decode cX6_status 200 = .ok (.ireturn, 1) := by decide +kernel
theorem dX6_status_201 : decode cX6_status 201 = .ok (.aload_n 0, 1) := by decide +kernel
theorem dX6_status_202 : decode cX6_status 202 = .ok (.getfield 39, 3) := by decide +kernel
theorem dX6_status_205 : decode cX6_status 205 = .ok (.getfield 170, 3) := by decide +kernel
theorem dX6_status_208 : decode cX6_status 208 = .ok (.ireturn, 1) := by decide +kernel
theorem dX6_status_209 : decode cX6_status 209 = .ok (.aload_n 0, 1) := by decide +kernel
theorem dX6_status_210 : decode cX6_status 210 = .ok (.getfield 10, 3) := by decide +kernel
theorem dX6_status_213 : decode cX6_status 213 = .ok (.getfield 315, 3) := by decide +kernel
theorem dX6_status_216 : decode cX6_status 216 = .ok (.ireturn, 1) := by decide +kernel
theorem dX6_status_217 : decode cX6_status 217 = .ok (.aload_n 0, 1) := by decide +kernel
theorem dX6_status_218 : decode cX6_status 218 = .ok (.invokevirtual 325, 3) := by decide +kernel
theorem dX6_status_221 : decode cX6_status 221 = .ok (.ireturn, 1) := by decide +kernel
theorem dX6_status_222 : decode cX6_status 222 = .ok (.aload_n 0, 1) := by decide +kernel
theorem dX6_status_223 : decode cX6_status 223 = .ok (.getfield 10, 3) := by decide +kernel
theorem dX6_status_226 : decode cX6_status 226 = .ok (.invokevirtual 328, 3) := by decide +kernel
theorem dX6_status_229 : decode cX6_status 229 = .ok (.ireturn, 1) := by decide +kernel
theorem dX6_status_230 : decode cX6_status 230 = .ok (.aload_n 0, 1) := by decide +kernel
theorem dX6_status_231 : decode cX6_status 231 = .ok (.getfield 10, 3) := by decide +kernel
theorem dX6_status_234 : decode cX6_status 234 = .ok (.getfield 184, 3) := by decide +kernel
theorem dX6_status_237 : decode cX6_status 237 = .ok (.getfield 160, 3) := by decide +kernel
theorem dX6_status_240 : decode cX6_status 240 = .ok (.ireturn, 1) := by decide +kernel
theorem dX6_status_241 : decode cX6_status 241 = .ok (.iconst (-1), 1) := by decide +kernel
theorem dX6_status_242 : decode cX6_status 242 = .ok (.ireturn, 1) := by decide +kernel
theorem dX6_refuse_0 : decode cX6_refuse 0 = .ok (.bipush (-2), 2) := by decide +kernel
theorem dX6_refuse_2 : decode cX6_refuse 2 = .ok (.iload_n 1, 1) := by decide +kernel
theorem dX6_refuse_3 : decode cX6_refuse 3 = .ok (.isub, 1) := by decide +kernel
theorem dX6_refuse_4 : decode cX6_refuse 4 = .ok (.istore_n 2, 1) := by decide +kernel
theorem dX6_refuse_5 : decode cX6_refuse 5 = .ok (.iload_n 2, 1) := by decide +kernel
theorem dX6_refuse_6 : decode cX6_refuse 6 = .ok (.ifCond .lt 22, 3) := by decide +kernel
theorem dX6_refuse_9 : decode cX6_refuse 9 = .ok (.iload_n 2, 1) := by decide +kernel
theorem dX6_refuse_10 : decode cX6_refuse 10 = .ok (.aload_n 0, 1) := by decide +kernel
theorem dX6_refuse_11 : decode cX6_refuse 11 = .ok (.getfield 43, 3) := by decide +kernel
theorem dX6_refuse_14 : decode cX6_refuse 14 = .ok (.arraylength, 1) := by decide +kernel
theorem dX6_refuse_15 : decode cX6_refuse 15 = .ok (.if_icmp .ge 13, 3) := by decide +kernel
theorem dX6_refuse_18 : decode cX6_refuse 18 = .ok (.aload_n 0, 1) := by decide +kernel
theorem dX6_refuse_19 : decode cX6_refuse 19 = .ok (.getfield 43, 3) := by decide +kernel
theorem dX6_refuse_22 : decode cX6_refuse 22 = .ok (.iload_n 2, 1) := by decide +kernel
theorem dX6_refuse_23 : decode cX6_refuse 23 = .ok (.dup2, 1) := by decide +kernel
theorem dX6_refuse_24 : decode cX6_refuse 24 = .ok (.iaload, 1) := by decide +kernel
theorem dX6_refuse_25 : decode cX6_refuse 25 = .ok (.iconst 1, 1) := by decide +kernel
theorem dX6_refuse_26 : decode cX6_refuse 26 = .ok (.iadd, 1) := by decide +kernel
theorem dX6_refuse_27 : decode cX6_refuse 27 = .ok (.iastore, 1) := by decide +kernel
theorem dX6_refuse_28 : decode cX6_refuse 28 = .ok (.iload_n 1, 1) := by decide +kernel
theorem dX6_refuse_29 : decode cX6_refuse 29 = .ok (.ireturn, 1) := by decide +kernel
theorem dX6_refused_0 : decode cX6_refused 0 = .ok (.iload_n 1, 1) := by decide +kernel
theorem dX6_refused_1 : decode cX6_refused 1 = .ok (.ifCond .lt 21, 3) := by decide +kernel
theorem dX6_refused_4 : decode cX6_refused 4 = .ok (.iload_n 1, 1) := by decide +kernel
theorem dX6_refused_5 : decode cX6_refused 5 = .ok (.aload_n 0, 1) := by decide +kernel
theorem dX6_refused_6 : decode cX6_refused 6 = .ok (.getfield 43, 3) := by decide +kernel
theorem dX6_refused_9 : decode cX6_refused 9 = .ok (.arraylength, 1) := by decide +kernel
theorem dX6_refused_10 : decode cX6_refused 10 = .ok (.if_icmp .ge 12, 3) := by decide +kernel
theorem dX6_refused_13 : decode cX6_refused 13 = .ok (.aload_n 0, 1) := by decide +kernel
theorem dX6_refused_14 : decode cX6_refused 14 = .ok (.getfield 43, 3) := by decide +kernel
theorem dX6_refused_17 : decode cX6_refused 17 = .ok (.iload_n 1, 1) := by decide +kernel
theorem dX6_refused_18 : decode cX6_refused 18 = .ok (.iaload, 1) := by decide +kernel
theorem dX6_refused_19 : decode cX6_refused 19 = .ok (.goto 4, 3) := by decide +kernel
theorem dX6_refused_22 : decode cX6_refused 22 = .ok (.iconst 0, 1) := by decide +kernel
theorem dX6_refused_23 : decode cX6_refused 23 = .ok (.ireturn, 1) := by decide +kernel
theorem dX6_shelfAt_0 : decode cX6_shelfAt 0 = .ok (.iload_n 1, 1) := by decide +kernel
theorem dX6_shelfAt_1 : decode cX6_shelfAt 1 = .ok (.ifCond .lt 21, 3) := by decide +kernel
theorem dX6_shelfAt_4 : decode cX6_shelfAt 4 = .ok (.iload_n 1, 1) := by decide +kernel
theorem dX6_shelfAt_5 : decode cX6_shelfAt 5 = .ok (.aload_n 0, 1) := by decide +kernel
theorem dX6_shelfAt_6 : decode cX6_shelfAt 6 = .ok (.getfield 49, 3) := by decide +kernel
theorem dX6_shelfAt_9 : decode cX6_shelfAt 9 = .ok (.arraylength, 1) := by decide +kernel
theorem dX6_shelfAt_10 : decode cX6_shelfAt 10 = .ok (.if_icmp .ge 12, 3) := by decide +kernel
theorem dX6_shelfAt_13 : decode cX6_shelfAt 13 = .ok (.aload_n 0, 1) := by decide +kernel
theorem dX6_shelfAt_14 : decode cX6_shelfAt 14 = .ok (.getfield 49, 3) := by decide +kernel
theorem dX6_shelfAt_17 : decode cX6_shelfAt 17 = .ok (.iload_n 1, 1) := by decide +kernel
theorem dX6_shelfAt_18 : decode cX6_shelfAt 18 = .ok (.aaload, 1) := by decide +kernel
theorem dX6_shelfAt_19 : decode cX6_shelfAt 19 = .ok (.goto 4, 3) := by decide +kernel
theorem dX6_shelfAt_22 : decode cX6_shelfAt 22 = .ok (.aconst_null, 1) := by decide +kernel
theorem dX6_shelfAt_23 : decode cX6_shelfAt 23 = .ok (.areturn, 1) := by decide +kernel
theorem dX6_fullShelves_0 : decode cX6_fullShelves 0 = .ok (.iconst 0, 1) := by decide +kernel
theorem dX6_fullShelves_1 : decode cX6_fullShelves 1 = .ok (.istore_n 1, 1) := by decide +kernel
theorem dX6_fullShelves_2 : decode cX6_fullShelves 2 = .ok (.iconst 0, 1) := by decide +kernel
theorem dX6_fullShelves_3 : decode cX6_fullShelves 3 = .ok (.istore_n 2, 1) := by decide +kernel
theorem dX6_fullShelves_4 : decode cX6_fullShelves 4 = .ok (.iload_n 2, 1) := by decide +kernel
theorem dX6_fullShelves_5 : decode cX6_fullShelves 5 = .ok (.aload_n 0, 1) := by decide +kernel
theorem dX6_fullShelves_6 : decode cX6_fullShelves 6 = .ok (.getfield 49, 3) := by decide +kernel
theorem dX6_fullShelves_9 : decode cX6_fullShelves 9 = .ok (.arraylength, 1) := by decide +kernel
theorem dX6_fullShelves_10 : decode cX6_fullShelves 10 = .ok (.if_icmp .ge 29, 3) := by decide +kernel
theorem dX6_fullShelves_13 : decode cX6_fullShelves 13 = .ok (.aload_n 0, 1) := by decide +kernel
theorem dX6_fullShelves_14 : decode cX6_fullShelves 14 = .ok (.iload_n 2, 1) := by decide +kernel
theorem dX6_fullShelves_15 : decode cX6_fullShelves 15 = .ok (.invokevirtual 54, 3) := by decide +kernel
theorem dX6_fullShelves_18 : decode cX6_fullShelves 18 = .ok (.astore_n 3, 1) := by decide +kernel
theorem dX6_fullShelves_19 : decode cX6_fullShelves 19 = .ok (.aload_n 3, 1) := by decide +kernel
theorem dX6_fullShelves_20 : decode cX6_fullShelves 20 = .ok (.ifnull 13, 3) := by decide +kernel
theorem dX6_fullShelves_23 : decode cX6_fullShelves 23 = .ok (.aload_n 3, 1) := by decide +kernel
theorem dX6_fullShelves_24 : decode cX6_fullShelves 24 = .ok (.invokevirtual 74, 3) := by decide +kernel
theorem dX6_fullShelves_27 : decode cX6_fullShelves 27 = .ok (.ifCond .ne 6, 3) := by decide +kernel
theorem dX6_fullShelves_30 : decode cX6_fullShelves 30 = .ok (.iinc 1 1, 3) := by decide +kernel
theorem dX6_fullShelves_33 : decode cX6_fullShelves 33 = .ok (.iinc 2 1, 3) := by decide +kernel
theorem dX6_fullShelves_36 : decode cX6_fullShelves 36 = .ok (.goto (-32), 3) := by decide +kernel
theorem dX6_fullShelves_39 : decode cX6_fullShelves 39 = .ok (.iload_n 1, 1) := by decide +kernel
theorem dX6_fullShelves_40 : decode cX6_fullShelves 40 = .ok (.ireturn, 1) := by decide +kernel
theorem dX6_isBendOrNone_0 : decode cX6_isBendOrNone 0 = .ok (.iload_n 1, 1) := by decide +kernel
theorem dX6_isBendOrNone_1 : decode cX6_isBendOrNone 1 = .ok (.iconst (-1), 1) := by decide +kernel
theorem dX6_isBendOrNone_2 : decode cX6_isBendOrNone 2 = .ok (.if_icmp .eq 17, 3) := by decide +kernel
theorem dX6_isBendOrNone_5 : decode cX6_isBendOrNone 5 = .ok (.aload_n 0, 1) := by decide +kernel
theorem dX6_isBendOrNone_6 : decode cX6_isBendOrNone 6 = .ok (.getfield 10, 3) := by decide +kernel
theorem dX6_isBendOrNone_9 : decode cX6_isBendOrNone 9 = .ok (.getfield 115, 3) := by decide +kernel
theorem dX6_isBendOrNone_12 : decode cX6_isBendOrNone 12 = .ok (.iload_n 1, 1) := by decide +kernel
theorem dX6_isBendOrNone_13 : decode cX6_isBendOrNone 13 = .ok (.invokevirtual 119, 3) := by decide +kernel
theorem dX6_isBendOrNone_16 : decode cX6_isBendOrNone 16 = .ok (.ifCond .eq 7, 3) := by decide +kernel
theorem dX6_isBendOrNone_19 : decode cX6_isBendOrNone 19 = .ok (.iconst 1, 1) := by decide +kernel
theorem dX6_isBendOrNone_20 : decode cX6_isBendOrNone 20 = .ok (.goto 4, 3) := by decide +kernel
theorem dX6_isBendOrNone_23 : decode cX6_isBendOrNone 23 = .ok (.iconst 0, 1) := by decide +kernel
theorem dX6_isBendOrNone_24 : decode cX6_isBendOrNone 24 = .ok (.ireturn, 1) := by decide +kernel
theorem dX6_isLookAt_0 : decode cX6_isLookAt 0 = .ok (.aload_n 0, 1) := by decide +kernel
theorem dX6_isLookAt_1 : decode cX6_isLookAt 1 = .ok (.getfield 10, 3) := by decide +kernel
theorem dX6_isLookAt_4 : decode cX6_isLookAt 4 = .ok (.getfield 115, 3) := by decide +kernel
theorem dX6_isLookAt_7 : decode cX6_isLookAt 7 = .ok (.iload_n 1, 1) := by decide +kernel
theorem dX6_isLookAt_8 : decode cX6_isLookAt 8 = .ok (.invokevirtual 119, 3) := by decide +kernel
theorem dX6_isLookAt_11 : decode cX6_isLookAt 11 = .ok (.ifCond .eq 14, 3) := by decide +kernel
theorem dX6_isLookAt_14 : decode cX6_isLookAt 14 = .ok (.iload_n 2, 1) := by decide +kernel
theorem dX6_isLookAt_15 : decode cX6_isLookAt 15 = .ok (.invokestatic 331, 3) := by decide +kernel
theorem dX6_isLookAt_18 : decode cX6_isLookAt 18 = .ok (.ifCond .eq 7, 3) := by decide +kernel
theorem dX6_isLookAt_21 : decode cX6_isLookAt 21 = .ok (.iconst 1, 1) := by decide +kernel
theorem dX6_isLookAt_22 : decode cX6_isLookAt 22 = .ok (.goto 4, 3) := by decide +kernel
theorem dX6_isLookAt_25 : decode cX6_isLookAt 25 = .ok (.iconst 0, 1) := by decide +kernel
theorem dX6_isLookAt_26 : decode cX6_isLookAt 26 = .ok (.ireturn, 1) := by decide +kernel
theorem dX6_isSign_0 : decode cX6_isSign 0 = .ok (.aload_n 0, 1) := by decide +kernel
theorem dX6_isSign_1 : decode cX6_isSign 1 = .ok (.getfield 10, 3) := by decide +kernel
theorem dX6_isSign_4 : decode cX6_isSign 4 = .ok (.iconst 4, 1) := by decide +kernel
theorem dX6_isSign_5 : decode cX6_isSign 5 = .ok (.iconst 0, 1) := by decide +kernel
theorem dX6_isSign_6 : decode cX6_isSign 6 = .ok (.iload_n 1, 1) := by decide +kernel
theorem dX6_isSign_7 : decode cX6_isSign 7 = .ok (.invokevirtual 137, 3) := by decide +kernel
theorem dX6_isSign_10 : decode cX6_isSign 10 = .ok (.ifCond .eq 20, 3) := by decide +kernel
theorem dX6_isSign_13 : decode cX6_isSign 13 = .ok (.aload_n 0, 1) := by decide +kernel
theorem dX6_isSign_14 : decode cX6_isSign 14 = .ok (.getfield 10, 3) := by decide +kernel
theorem dX6_isSign_17 : decode cX6_isSign 17 = .ok (.iconst 4, 1) := by decide +kernel
theorem dX6_isSign_18 : decode cX6_isSign 18 = .ok (.iconst 1, 1) := by decide +kernel
theorem dX6_isSign_19 : decode cX6_isSign 19 = .ok (.iload_n 2, 1) := by decide +kernel
theorem dX6_isSign_20 : decode cX6_isSign 20 = .ok (.invokevirtual 137, 3) := by decide +kernel
theorem dX6_isSign_23 : decode cX6_isSign 23 = .ok (.ifCond .eq 7, 3) := by decide +kernel
theorem dX6_isSign_26 : decode cX6_isSign 26 = .ok (.iconst 1, 1) := by decide +kernel
theorem dX6_isSign_27 : decode cX6_isSign 27 = .ok (.goto 4, 3) := by decide +kernel
theorem dX6_isSign_30 : decode cX6_isSign 30 = .ok (.iconst 0, 1) := by decide +kernel
theorem dX6_isSign_31 : decode cX6_isSign 31 = .ok (.ireturn, 1) := by decide +kernel
theorem dX6_isToldLook_0 : decode cX6_isToldLook 0 = .ok (.lload_n 1, 1) := by decide +kernel
theorem dX6_isToldLook_1 : decode cX6_isToldLook 1 = .ok (.lconst 0, 1) := by decide +kernel
theorem dX6_isToldLook_2 : decode cX6_isToldLook 2 = .ok (.lcmp, 1) := by decide +kernel
theorem dX6_isToldLook_3 : decode cX6_isToldLook 3 = .ok (.ifCond .lt 39, 3) := by decide +kernel
theorem dX6_isToldLook_6 : decode cX6_isToldLook 6 = .ok (.lload_n 1, 1) := by decide +kernel
theorem dX6_isToldLook_7 : decode cX6_isToldLook 7 = .ok (.ldc2_w 301, 3) := by decide +kernel
theorem dX6_isToldLook_10 : decode cX6_isToldLook 10 = .ok (.ldiv, 1) := by decide +kernel
theorem dX6_isToldLook_11 : decode cX6_isToldLook 11 = .ok (.aload_n 0, 1) := by decide +kernel
theorem dX6_isToldLook_12 : decode cX6_isToldLook 12 = .ok (.getfield 10, 3) := by decide +kernel
theorem dX6_isToldLook_15 : decode cX6_isToldLook 15 = .ok (.getfield 115, 3) := by decide +kernel
theorem dX6_isToldLook_18 : decode cX6_isToldLook 18 = .ok (.getfield 160, 3) := by decide +kernel
theorem dX6_isToldLook_21 : decode cX6_isToldLook 21 = .ok (.i2l, 1) := by decide +kernel
theorem dX6_isToldLook_22 : decode cX6_isToldLook 22 = .ok (.lcmp, 1) := by decide +kernel
theorem dX6_isToldLook_23 : decode cX6_isToldLook 23 = .ok (.ifCond .ge 19, 3) := by decide +kernel
theorem dX6_isToldLook_26 : decode cX6_isToldLook 26 = .ok (.lload_n 1, 1) := by decide +kernel
theorem dX6_isToldLook_27 : decode cX6_isToldLook 27 = .ok (.ldc2_w 301, 3) := by decide +kernel
theorem dX6_isToldLook_30 : decode cX6_isToldLook 30 = .ok (.lrem, 1) := by decide +kernel
theorem dX6_isToldLook_31 : decode cX6_isToldLook 31 = .ok (.l2i, 1) := by decide +kernel
theorem dX6_isToldLook_32 : decode cX6_isToldLook 32 = .ok (.invokestatic 331, 3) := by decide +kernel
theorem dX6_isToldLook_35 : decode cX6_isToldLook 35 = .ok (.ifCond .eq 7, 3) := by decide +kernel
theorem dX6_isToldLook_38 : decode cX6_isToldLook 38 = .ok (.iconst 1, 1) := by decide +kernel
theorem dX6_isToldLook_39 : decode cX6_isToldLook 39 = .ok (.goto 4, 3) := by decide +kernel
theorem dX6_isToldLook_42 : decode cX6_isToldLook 42 = .ok (.iconst 0, 1) := by decide +kernel
theorem dX6_isToldLook_43 : decode cX6_isToldLook 43 = .ok (.ireturn, 1) := by decide +kernel
theorem dX6_heldNow_0 : decode cX6_heldNow 0 = .ok (.aload_n 0, 1) := by decide +kernel
theorem dX6_heldNow_1 : decode cX6_heldNow 1 = .ok (.getfield 10, 3) := by decide +kernel
theorem dX6_heldNow_4 : decode cX6_heldNow 4 = .ok (.aload_n 0, 1) := by decide +kernel
theorem dX6_heldNow_5 : decode cX6_heldNow 5 = .ok (.getfield 10, 3) := by decide +kernel
theorem dX6_heldNow_8 : decode cX6_heldNow 8 = .ok (.getfield 134, 3) := by decide +kernel
theorem dX6_heldNow_11 : decode cX6_heldNow 11 = .ok (.aload_n 0, 1) := by decide +kernel
theorem dX6_heldNow_12 : decode cX6_heldNow 12 = .ok (.getfield 10, 3) := by decide +kernel
theorem dX6_heldNow_15 : decode cX6_heldNow 15 = .ok (.getfield 250, 3) := by decide +kernel
theorem dX6_heldNow_18 : decode cX6_heldNow 18 = .ok (.aload_n 0, 1) := by decide +kernel
theorem dX6_heldNow_19 : decode cX6_heldNow 19 = .ok (.getfield 10, 3) := by decide +kernel
theorem dX6_heldNow_22 : decode cX6_heldNow 22 = .ok (.getfield 253, 3) := by decide +kernel
theorem dX6_heldNow_25 : decode cX6_heldNow 25 = .ok (.invokevirtual 256, 3) := by decide +kernel
theorem dX6_heldNow_28 : decode cX6_heldNow 28 = .ok (.ireturn, 1) := by decide +kernel
theorem dX6_thousandthsOfAll_0 : decode cX6_thousandthsOfAll 0 = .ok (.aload_n 0, 1) := by decide +kernel
theorem dX6_thousandthsOfAll_1 : decode cX6_thousandthsOfAll 1 = .ok (.getfield 25, 3) := by decide +kernel
theorem dX6_thousandthsOfAll_4 : decode cX6_thousandthsOfAll 4 = .ok (.invokevirtual 205, 3) := by decide +kernel
theorem dX6_thousandthsOfAll_7 : decode cX6_thousandthsOfAll 7 = .ok (.istore_n 2, 1) := by decide +kernel
theorem dX6_thousandthsOfAll_8 : decode cX6_thousandthsOfAll 8 = .ok (.iload_n 2, 1) := by decide +kernel
theorem dX6_thousandthsOfAll_9 : decode cX6_thousandthsOfAll 9 = .ok (.ifCond .gt 10, 3) := by decide +kernel
theorem dX6_thousandthsOfAll_12 : decode cX6_thousandthsOfAll 12 = .ok (.aload_n 0, 1) := by decide +kernel
theorem dX6_thousandthsOfAll_13 : decode cX6_thousandthsOfAll 13 = .ok (.bipush (-5), 2) := by decide +kernel
theorem dX6_thousandthsOfAll_15 : decode cX6_thousandthsOfAll 15 = .ok (.invokevirtual 62, 3) := by decide +kernel
theorem dX6_thousandthsOfAll_18 : decode cX6_thousandthsOfAll 18 = .ok (.ireturn, 1) := by decide +kernel
theorem dX6_thousandthsOfAll_19 : decode cX6_thousandthsOfAll 19 = .ok (.ldc2_w 334, 3) := by decide +kernel
theorem dX6_thousandthsOfAll_22 : decode cX6_thousandthsOfAll 22 = .ok (.iload_n 1, 1) := by decide +kernel
theorem dX6_thousandthsOfAll_23 : decode cX6_thousandthsOfAll 23 = .ok (.i2l, 1) := by decide +kernel
theorem dX6_thousandthsOfAll_24 : decode cX6_thousandthsOfAll 24 = .ok (.lmul, 1) := by decide +kernel
theorem dX6_thousandthsOfAll_25 : decode cX6_thousandthsOfAll 25 = .ok (.iload_n 2, 1) := by decide +kernel
theorem dX6_thousandthsOfAll_26 : decode cX6_thousandthsOfAll 26 = .ok (.i2l, 1) := by decide +kernel
theorem dX6_thousandthsOfAll_27 : decode cX6_thousandthsOfAll 27 = .ok (.ldiv, 1) := by decide +kernel
theorem dX6_thousandthsOfAll_28 : decode cX6_thousandthsOfAll 28 = .ok (.l2i, 1) := by decide +kernel
theorem dX6_thousandthsOfAll_29 : decode cX6_thousandthsOfAll 29 = .ok (.ireturn, 1) := by decide +kernel
theorem dX6_heardBy_0 : decode cX6_heardBy 0 = .ok (.aload_n 0, 1) := by decide +kernel
theorem dX6_heardBy_1 : decode cX6_heardBy 1 = .ok (.getfield 10, 3) := by decide +kernel
theorem dX6_heardBy_4 : decode cX6_heardBy 4 = .ok (.getfield 184, 3) := by decide +kernel
theorem dX6_heardBy_7 : decode cX6_heardBy 7 = .ok (.iload_n 1, 1) := by decide +kernel
theorem dX6_heardBy_8 : decode cX6_heardBy 8 = .ok (.iconst 0, 1) := by decide +kernel
theorem dX6_heardBy_9 : decode cX6_heardBy 9 = .ok (.invokevirtual 124, 3) := by decide +kernel
theorem dX6_heardBy_12 : decode cX6_heardBy 12 = .ok (.istore_n 2, 1) := by decide +kernel
theorem dX6_heardBy_13 : decode cX6_heardBy 13 = .ok (.iconst 0, 1) := by decide +kernel
theorem dX6_heardBy_14 : decode cX6_heardBy 14 = .ok (.istore_n 3, 1) := by decide +kernel
theorem dX6_heardBy_15 : decode cX6_heardBy 15 = .ok (.iconst 0, 1) := by decide +kernel
theorem dX6_heardBy_16 : decode cX6_heardBy 16 = .ok (.istore 4, 2) := by decide +kernel
theorem dX6_heardBy_18 : decode cX6_heardBy 18 = .ok (.iload 4, 2) := by decide +kernel
theorem dX6_heardBy_20 : decode cX6_heardBy 20 = .ok (.aload_n 0, 1) := by decide +kernel
theorem dX6_heardBy_21 : decode cX6_heardBy 21 = .ok (.getfield 10, 3) := by decide +kernel
theorem dX6_heardBy_24 : decode cX6_heardBy 24 = .ok (.getfield 184, 3) := by decide +kernel
theorem dX6_heardBy_27 : decode cX6_heardBy 27 = .ok (.getfield 160, 3) := by decide +kernel
theorem dX6_heardBy_30 : decode cX6_heardBy 30 = .ok (.if_icmp .ge 45, 3) := by decide +kernel
theorem dX6_heardBy_33 : decode cX6_heardBy 33 = .ok (.aload_n 0, 1) := by decide +kernel
theorem dX6_heardBy_34 : decode cX6_heardBy 34 = .ok (.getfield 10, 3) := by decide +kernel
theorem dX6_heardBy_37 : decode cX6_heardBy 37 = .ok (.getfield 184, 3) := by decide +kernel
theorem dX6_heardBy_40 : decode cX6_heardBy 40 = .ok (.iload 4, 2) := by decide +kernel
theorem dX6_heardBy_42 : decode cX6_heardBy 42 = .ok (.iconst 0, 1) := by decide +kernel
theorem dX6_heardBy_43 : decode cX6_heardBy 43 = .ok (.invokevirtual 124, 3) := by decide +kernel
theorem dX6_heardBy_46 : decode cX6_heardBy 46 = .ok (.istore 5, 2) := by decide +kernel
theorem dX6_heardBy_48 : decode cX6_heardBy 48 = .ok (.iload 4, 2) := by decide +kernel
theorem dX6_heardBy_50 : decode cX6_heardBy 50 = .ok (.iload_n 1, 1) := by decide +kernel
theorem dX6_heardBy_51 : decode cX6_heardBy 51 = .ok (.if_icmp .eq 18, 3) := by decide +kernel
theorem dX6_heardBy_54 : decode cX6_heardBy 54 = .ok (.iload 5, 2) := by decide +kernel
theorem dX6_heardBy_56 : decode cX6_heardBy 56 = .ok (.iload_n 2, 1) := by decide +kernel
theorem dX6_heardBy_57 : decode cX6_heardBy 57 = .ok (.if_icmp .ge 12, 3) := by decide +kernel
theorem dX6_heardBy_60 : decode cX6_heardBy 60 = .ok (.iload_n 3, 1) := by decide +kernel
theorem dX6_heardBy_61 : decode cX6_heardBy 61 = .ok (.iload 5, 2) := by decide +kernel
theorem dX6_heardBy_63 : decode cX6_heardBy 63 = .ok (.iconst 1, 1) := by decide +kernel
theorem dX6_heardBy_64 : decode cX6_heardBy 64 = .ok (.iadd, 1) := by decide +kernel
theorem dX6_heardBy_65 : decode cX6_heardBy 65 = .ok (.invokestatic 292, 3) := by decide +kernel
theorem dX6_heardBy_68 : decode cX6_heardBy 68 = .ok (.istore_n 3, 1) := by decide +kernel
theorem dX6_heardBy_69 : decode cX6_heardBy 69 = .ok (.iinc 4 1, 3) := by decide +kernel
theorem dX6_heardBy_72 : decode cX6_heardBy 72 = .ok (.goto (-54), 3) := by decide +kernel
theorem dX6_heardBy_75 : decode cX6_heardBy 75 = .ok (.aload_n 0, 1) := by decide +kernel
theorem dX6_heardBy_76 : decode cX6_heardBy 76 = .ok (.getfield 25, 3) := by decide +kernel
theorem dX6_heardBy_79 : decode cX6_heardBy 79 = .ok (.iload_n 3, 1) := by decide +kernel
theorem dX6_heardBy_80 : decode cX6_heardBy 80 = .ok (.iload_n 2, 1) := by decide +kernel
theorem dX6_heardBy_81 : decode cX6_heardBy 81 = .ok (.invokevirtual 202, 3) := by decide +kernel
theorem dX6_heardBy_84 : decode cX6_heardBy 84 = .ok (.aload_n 0, 1) := by decide +kernel
theorem dX6_heardBy_85 : decode cX6_heardBy 85 = .ok (.getfield 10, 3) := by decide +kernel
theorem dX6_heardBy_88 : decode cX6_heardBy 88 = .ok (.getfield 184, 3) := by decide +kernel
theorem dX6_heardBy_91 : decode cX6_heardBy 91 = .ok (.iload_n 1, 1) := by decide +kernel
theorem dX6_heardBy_92 : decode cX6_heardBy 92 = .ok (.iconst 2, 1) := by decide +kernel
theorem dX6_heardBy_93 : decode cX6_heardBy 93 = .ok (.invokevirtual 124, 3) := by decide +kernel
theorem dX6_heardBy_96 : decode cX6_heardBy 96 = .ok (.imul, 1) := by decide +kernel
theorem dX6_heardBy_97 : decode cX6_heardBy 97 = .ok (.bipush 100, 2) := by decide +kernel
theorem dX6_heardBy_99 : decode cX6_heardBy 99 = .ok (.idiv, 1) := by decide +kernel
theorem dX6_heardBy_100 : decode cX6_heardBy 100 = .ok (.ireturn, 1) := by decide +kernel
theorem dX6_heardBySet_0 : decode cX6_heardBySet 0 = .ok (.iconst 0, 1) := by decide +kernel
theorem dX6_heardBySet_1 : decode cX6_heardBySet 1 = .ok (.istore_n 2, 1) := by decide +kernel
theorem dX6_heardBySet_2 : decode cX6_heardBySet 2 = .ok (.iconst 0, 1) := by decide +kernel
theorem dX6_heardBySet_3 : decode cX6_heardBySet 3 = .ok (.istore_n 3, 1) := by decide +kernel
theorem dX6_heardBySet_4 : decode cX6_heardBySet 4 = .ok (.iload_n 3, 1) := by decide +kernel
theorem dX6_heardBySet_5 : decode cX6_heardBySet 5 = .ok (.aload_n 0, 1) := by decide +kernel
theorem dX6_heardBySet_6 : decode cX6_heardBySet 6 = .ok (.getfield 10, 3) := by decide +kernel
theorem dX6_heardBySet_9 : decode cX6_heardBySet 9 = .ok (.getfield 184, 3) := by decide +kernel
theorem dX6_heardBySet_12 : decode cX6_heardBySet 12 = .ok (.getfield 160, 3) := by decide +kernel
theorem dX6_heardBySet_15 : decode cX6_heardBySet 15 = .ok (.if_icmp .ge 25, 3) := by decide +kernel
theorem dX6_heardBySet_18 : decode cX6_heardBySet 18 = .ok (.iload_n 1, 1) := by decide +kernel
theorem dX6_heardBySet_19 : decode cX6_heardBySet 19 = .ok (.iload_n 3, 1) := by decide +kernel
theorem dX6_heardBySet_20 : decode cX6_heardBySet 20 = .ok (.invokestatic 336, 3) := by decide +kernel
theorem dX6_heardBySet_23 : decode cX6_heardBySet 23 = .ok (.ifCond .eq 11, 3) := by decide +kernel
theorem dX6_heardBySet_26 : decode cX6_heardBySet 26 = .ok (.iload_n 2, 1) := by decide +kernel
theorem dX6_heardBySet_27 : decode cX6_heardBySet 27 = .ok (.aload_n 0, 1) := by decide +kernel
theorem dX6_heardBySet_28 : decode cX6_heardBySet 28 = .ok (.iload_n 3, 1) := by decide +kernel
theorem dX6_heardBySet_29 : decode cX6_heardBySet 29 = .ok (.invokevirtual 276, 3) := by decide +kernel
theorem dX6_heardBySet_32 : decode cX6_heardBySet 32 = .ok (.iadd, 1) := by decide +kernel
theorem dX6_heardBySet_33 : decode cX6_heardBySet 33 = .ok (.istore_n 2, 1) := by decide +kernel
theorem dX6_heardBySet_34 : decode cX6_heardBySet 34 = .ok (.iinc 3 1, 3) := by decide +kernel
theorem dX6_heardBySet_37 : decode cX6_heardBySet 37 = .ok (.goto (-33), 3) := by decide +kernel
theorem dX6_heardBySet_40 : decode cX6_heardBySet 40 = .ok (.iload_n 2, 1) := by decide +kernel
theorem dX6_heardBySet_41 : decode cX6_heardBySet 41 = .ok (.ireturn, 1) := by decide +kernel
theorem dX6_minutesOf_0 : decode cX6_minutesOf 0 = .ok (.iconst 0, 1) := by decide +kernel
theorem dX6_minutesOf_1 : decode cX6_minutesOf 1 = .ok (.istore_n 2, 1) := by decide +kernel
theorem dX6_minutesOf_2 : decode cX6_minutesOf 2 = .ok (.iconst 0, 1) := by decide +kernel
theorem dX6_minutesOf_3 : decode cX6_minutesOf 3 = .ok (.istore_n 3, 1) := by decide +kernel
theorem dX6_minutesOf_4 : decode cX6_minutesOf 4 = .ok (.iload_n 3, 1) := by decide +kernel
theorem dX6_minutesOf_5 : decode cX6_minutesOf 5 = .ok (.aload_n 0, 1) := by decide +kernel
theorem dX6_minutesOf_6 : decode cX6_minutesOf 6 = .ok (.getfield 10, 3) := by decide +kernel
theorem dX6_minutesOf_9 : decode cX6_minutesOf 9 = .ok (.getfield 184, 3) := by decide +kernel
theorem dX6_minutesOf_12 : decode cX6_minutesOf 12 = .ok (.getfield 160, 3) := by decide +kernel
theorem dX6_minutesOf_15 : decode cX6_minutesOf 15 = .ok (.if_icmp .ge 32, 3) := by decide +kernel
theorem dX6_minutesOf_18 : decode cX6_minutesOf 18 = .ok (.iload_n 1, 1) := by decide +kernel
theorem dX6_minutesOf_19 : decode cX6_minutesOf 19 = .ok (.iload_n 3, 1) := by decide +kernel
theorem dX6_minutesOf_20 : decode cX6_minutesOf 20 = .ok (.invokestatic 336, 3) := by decide +kernel
theorem dX6_minutesOf_23 : decode cX6_minutesOf 23 = .ok (.ifCond .eq 18, 3) := by decide +kernel
theorem dX6_minutesOf_26 : decode cX6_minutesOf 26 = .ok (.iload_n 2, 1) := by decide +kernel
theorem dX6_minutesOf_27 : decode cX6_minutesOf 27 = .ok (.aload_n 0, 1) := by decide +kernel
theorem dX6_minutesOf_28 : decode cX6_minutesOf 28 = .ok (.getfield 10, 3) := by decide +kernel
theorem dX6_minutesOf_31 : decode cX6_minutesOf 31 = .ok (.getfield 184, 3) := by decide +kernel
theorem dX6_minutesOf_34 : decode cX6_minutesOf 34 = .ok (.iload_n 3, 1) := by decide +kernel
theorem dX6_minutesOf_35 : decode cX6_minutesOf 35 = .ok (.iconst 1, 1) := by decide +kernel
theorem dX6_minutesOf_36 : decode cX6_minutesOf 36 = .ok (.invokevirtual 124, 3) := by decide +kernel
theorem dX6_minutesOf_39 : decode cX6_minutesOf 39 = .ok (.iadd, 1) := by decide +kernel
theorem dX6_minutesOf_40 : decode cX6_minutesOf 40 = .ok (.istore_n 2, 1) := by decide +kernel
theorem dX6_minutesOf_41 : decode cX6_minutesOf 41 = .ok (.iinc 3 1, 3) := by decide +kernel
theorem dX6_minutesOf_44 : decode cX6_minutesOf 44 = .ok (.goto (-40), 3) := by decide +kernel
theorem dX6_minutesOf_47 : decode cX6_minutesOf 47 = .ok (.iload_n 2, 1) := by decide +kernel
theorem dX6_minutesOf_48 : decode cX6_minutesOf 48 = .ok (.ireturn, 1) := by decide +kernel
theorem dX6_wrongPiece_0 : decode cX6_wrongPiece 0 = .ok (.lconst 0, 1) := by decide +kernel
theorem dX6_wrongPiece_1 : decode cX6_wrongPiece 1 = .ok (.lstore_n 3, 1) := by decide +kernel
theorem dX6_wrongPiece_2 : decode cX6_wrongPiece 2 = .ok (.iconst 0, 1) := by decide +kernel
theorem dX6_wrongPiece_3 : decode cX6_wrongPiece 3 = .ok (.istore 5, 2) := by decide +kernel
theorem dX6_wrongPiece_5 : decode cX6_wrongPiece 5 = .ok (.iload 5, 2) := by decide +kernel
theorem dX6_wrongPiece_7 : decode cX6_wrongPiece 7 = .ok (.iload_n 2, 1) := by decide +kernel
theorem dX6_wrongPiece_8 : decode cX6_wrongPiece 8 = .ok (.if_icmp .ge 47, 3) := by decide +kernel
theorem dX6_wrongPiece_11 : decode cX6_wrongPiece 11 = .ok (.aload_n 1, 1) := by decide +kernel
theorem dX6_wrongPiece_12 : decode cX6_wrongPiece 12 = .ok (.iload 5, 2) := by decide +kernel
theorem dX6_wrongPiece_14 : decode cX6_wrongPiece 14 = .ok (.invokevirtual 100, 3) := by decide +kernel
theorem dX6_wrongPiece_17 : decode cX6_wrongPiece 17 = .ok (.lstore 6, 2) := by decide +kernel
theorem dX6_wrongPiece_19 : decode cX6_wrongPiece 19 = .ok (.lload 6, 2) := by decide +kernel
theorem dX6_wrongPiece_21 : decode cX6_wrongPiece 21 = .ok (.lload_n 3, 1) := by decide +kernel
theorem dX6_wrongPiece_22 : decode cX6_wrongPiece 22 = .ok (.lcmp, 1) := by decide +kernel
theorem dX6_wrongPiece_23 : decode cX6_wrongPiece 23 = .ok (.ifCond .lt 20, 3) := by decide +kernel
theorem dX6_wrongPiece_26 : decode cX6_wrongPiece 26 = .ok (.lload 6, 2) := by decide +kernel
theorem dX6_wrongPiece_28 : decode cX6_wrongPiece 28 = .ok (.aload_n 0, 1) := by decide +kernel
theorem dX6_wrongPiece_29 : decode cX6_wrongPiece 29 = .ok (.getfield 10, 3) := by decide +kernel
theorem dX6_wrongPiece_32 : decode cX6_wrongPiece 32 = .ok (.getfield 115, 3) := by decide +kernel
theorem dX6_wrongPiece_35 : decode cX6_wrongPiece 35 = .ok (.getfield 160, 3) := by decide +kernel
theorem dX6_wrongPiece_38 : decode cX6_wrongPiece 38 = .ok (.i2l, 1) := by decide +kernel
theorem dX6_wrongPiece_39 : decode cX6_wrongPiece 39 = .ok (.lcmp, 1) := by decide +kernel
theorem dX6_wrongPiece_40 : decode cX6_wrongPiece 40 = .ok (.ifCond .lt 6, 3) := by decide +kernel
theorem dX6_wrongPiece_43 : decode cX6_wrongPiece 43 = .ok (.iload 5, 2) := by decide +kernel
theorem dX6_wrongPiece_45 : decode cX6_wrongPiece 45 = .ok (.ireturn, 1) := by decide +kernel
theorem dX6_wrongPiece_46 : decode cX6_wrongPiece 46 = .ok (.lload 6, 2) := by decide +kernel
theorem dX6_wrongPiece_48 : decode cX6_wrongPiece 48 = .ok (.lstore_n 3, 1) := by decide +kernel
theorem dX6_wrongPiece_49 : decode cX6_wrongPiece 49 = .ok (.iinc 5 1, 3) := by decide +kernel
theorem dX6_wrongPiece_52 : decode cX6_wrongPiece 52 = .ok (.goto (-47), 3) := by decide +kernel
theorem dX6_wrongPiece_55 : decode cX6_wrongPiece 55 = .ok (.iconst (-1), 1) := by decide +kernel
theorem dX6_wrongPiece_56 : decode cX6_wrongPiece 56 = .ok (.ireturn, 1) := by decide +kernel
theorem dX6_isWithin_0 : decode cX6_isWithin 0 = .ok (.iload_n 0, 1) := by decide +kernel
theorem dX6_isWithin_1 : decode cX6_isWithin 1 = .ok (.iload_n 1, 1) := by decide +kernel
theorem dX6_isWithin_2 : decode cX6_isWithin 2 = .ok (.if_icmp .lt 12, 3) := by decide +kernel
theorem dX6_isWithin_5 : decode cX6_isWithin 5 = .ok (.iload_n 0, 1) := by decide +kernel
theorem dX6_isWithin_6 : decode cX6_isWithin 6 = .ok (.iload_n 2, 1) := by decide +kernel
theorem dX6_isWithin_7 : decode cX6_isWithin 7 = .ok (.if_icmp .gt 7, 3) := by decide +kernel
theorem dX6_isWithin_10 : decode cX6_isWithin 10 = .ok (.iconst 1, 1) := by decide +kernel
theorem dX6_isWithin_11 : decode cX6_isWithin 11 = .ok (.goto 4, 3) := by decide +kernel
theorem dX6_isWithin_14 : decode cX6_isWithin 14 = .ok (.iconst 0, 1) := by decide +kernel
theorem dX6_isWithin_15 : decode cX6_isWithin 15 = .ok (.ireturn, 1) := by decide +kernel
theorem dX6_isIn_0 : decode cX6_isIn 0 = .ok (.iload_n 0, 1) := by decide +kernel
theorem dX6_isIn_1 : decode cX6_isIn 1 = .ok (.iload_n 1, 1) := by decide +kernel
theorem dX6_isIn_2 : decode cX6_isIn 2 = .ok (.ishr, 1) := by decide +kernel
theorem dX6_isIn_3 : decode cX6_isIn 3 = .ok (.iconst 1, 1) := by decide +kernel
theorem dX6_isIn_4 : decode cX6_isIn 4 = .ok (.iand, 1) := by decide +kernel
theorem dX6_isIn_5 : decode cX6_isIn 5 = .ok (.iconst 1, 1) := by decide +kernel
theorem dX6_isIn_6 : decode cX6_isIn 6 = .ok (.if_icmp .ne 7, 3) := by decide +kernel
theorem dX6_isIn_9 : decode cX6_isIn 9 = .ok (.iconst 1, 1) := by decide +kernel
theorem dX6_isIn_10 : decode cX6_isIn 10 = .ok (.goto 4, 3) := by decide +kernel
theorem dX6_isIn_13 : decode cX6_isIn 13 = .ok (.iconst 0, 1) := by decide +kernel
theorem dX6_isIn_14 : decode cX6_isIn 14 = .ok (.ireturn, 1) := by decide +kernel
theorem dX6_isLook_0 : decode cX6_isLook 0 = .ok (.iload_n 0, 1) := by decide +kernel
theorem dX6_isLook_1 : decode cX6_isLook 1 = .ok (.iconst 1, 1) := by decide +kernel
theorem dX6_isLook_2 : decode cX6_isLook 2 = .ok (.iconst 3, 1) := by decide +kernel
theorem dX6_isLook_3 : decode cX6_isLook 3 = .ok (.invokestatic 58, 3) := by decide +kernel
theorem dX6_isLook_6 : decode cX6_isLook 6 = .ok (.ireturn, 1) := by decide +kernel
theorem dX6_isUnder_0 : decode cX6_isUnder 0 = .ok (.iload_n 0, 1) := by decide +kernel
theorem dX6_isUnder_1 : decode cX6_isUnder 1 = .ok (.iload_n 1, 1) := by decide +kernel
theorem dX6_isUnder_2 : decode cX6_isUnder 2 = .ok (.if_icmp .eq 27, 3) := by decide +kernel
theorem dX6_isUnder_5 : decode cX6_isUnder 5 = .ok (.iload_n 1, 1) := by decide +kernel
theorem dX6_isUnder_6 : decode cX6_isUnder 6 = .ok (.ifCond .eq 23, 3) := by decide +kernel
theorem dX6_isUnder_9 : decode cX6_isUnder 9 = .ok (.iload_n 0, 1) := by decide +kernel
theorem dX6_isUnder_10 : decode cX6_isUnder 10 = .ok (.iconst 3, 1) := by decide +kernel
theorem dX6_isUnder_11 : decode cX6_isUnder 11 = .ok (.if_icmp .ne 8, 3) := by decide +kernel
theorem dX6_isUnder_14 : decode cX6_isUnder 14 = .ok (.iload_n 1, 1) := by decide +kernel
theorem dX6_isUnder_15 : decode cX6_isUnder 15 = .ok (.iconst 1, 1) := by decide +kernel
theorem dX6_isUnder_16 : decode cX6_isUnder 16 = .ok (.if_icmp .eq 13, 3) := by decide +kernel
theorem dX6_isUnder_19 : decode cX6_isUnder 19 = .ok (.iload_n 0, 1) := by decide +kernel
theorem dX6_isUnder_20 : decode cX6_isUnder 20 = .ok (.iconst 4, 1) := by decide +kernel
theorem dX6_isUnder_21 : decode cX6_isUnder 21 = .ok (.if_icmp .ne 12, 3) := by decide +kernel
theorem dX6_isUnder_24 : decode cX6_isUnder 24 = .ok (.iload_n 1, 1) := by decide +kernel
theorem dX6_isUnder_25 : decode cX6_isUnder 25 = .ok (.iconst 2, 1) := by decide +kernel
theorem dX6_isUnder_26 : decode cX6_isUnder 26 = .ok (.if_icmp .ne 7, 3) := by decide +kernel
theorem dX6_isUnder_29 : decode cX6_isUnder 29 = .ok (.iconst 1, 1) := by decide +kernel
theorem dX6_isUnder_30 : decode cX6_isUnder 30 = .ok (.goto 4, 3) := by decide +kernel
theorem dX6_isUnder_33 : decode cX6_isUnder 33 = .ok (.iconst 0, 1) := by decide +kernel
theorem dX6_isUnder_34 : decode cX6_isUnder 34 = .ok (.ireturn, 1) := by decide +kernel
theorem dX6_seenBy_0 : decode cX6_seenBy 0 = .ok (.iload_n 0, 1) := by decide +kernel
theorem dX6_seenBy_1 : decode cX6_seenBy 1 = .ok (.lookupswitch 33 #[(1, 27), (2, 30)], 27) := by decide +kernel
theorem dX6_seenBy_28 : decode cX6_seenBy 28 = .ok (.bipush 30, 2) := by decide +kernel
theorem dX6_seenBy_30 : decode cX6_seenBy 30 = .ok (.ireturn, 1) := by decide +kernel
theorem dX6_seenBy_31 : decode cX6_seenBy 31 = .ok (.bipush 60, 2) := by decide +kernel
theorem dX6_seenBy_33 : decode cX6_seenBy 33 = .ok (.ireturn, 1) := by decide +kernel
theorem dX6_seenBy_34 : decode cX6_seenBy 34 = .ok (.bipush 90, 2) := by decide +kernel
theorem dX6_seenBy_36 : decode cX6_seenBy 36 = .ok (.ireturn, 1) := by decide +kernel
theorem dX6_missBehind_0 : decode cX6_missBehind 0 = .ok (.iload_n 0, 1) := by decide +kernel
theorem dX6_missBehind_1 : decode cX6_missBehind 1 = .ok (.bipush 100, 2) := by decide +kernel
theorem dX6_missBehind_3 : decode cX6_missBehind 3 = .ok (.iload_n 1, 1) := by decide +kernel
theorem dX6_missBehind_4 : decode cX6_missBehind 4 = .ok (.invokestatic 339, 3) := by decide +kernel
theorem dX6_missBehind_7 : decode cX6_missBehind 7 = .ok (.isub, 1) := by decide +kernel
theorem dX6_missBehind_8 : decode cX6_missBehind 8 = .ok (.imul, 1) := by decide +kernel
theorem dX6_missBehind_9 : decode cX6_missBehind 9 = .ok (.bipush 100, 2) := by decide +kernel
theorem dX6_missBehind_11 : decode cX6_missBehind 11 = .ok (.idiv, 1) := by decide +kernel
theorem dX6_missBehind_12 : decode cX6_missBehind 12 = .ok (.ireturn, 1) := by decide +kernel
theorem dX6_goneBy_0 : decode cX6_goneBy 0 = .ok (.iload_n 0, 1) := by decide +kernel
theorem dX6_goneBy_1 : decode cX6_goneBy 1 = .ok (.istore_n 3, 1) := by decide +kernel
theorem dX6_goneBy_2 : decode cX6_goneBy 2 = .ok (.iconst 0, 1) := by decide +kernel
theorem dX6_goneBy_3 : decode cX6_goneBy 3 = .ok (.istore 4, 2) := by decide +kernel
theorem dX6_goneBy_5 : decode cX6_goneBy 5 = .ok (.iload 4, 2) := by decide +kernel
theorem dX6_goneBy_7 : decode cX6_goneBy 7 = .ok (.iload_n 2, 1) := by decide +kernel
theorem dX6_goneBy_8 : decode cX6_goneBy 8 = .ok (.if_icmp .ge 19, 3) := by decide +kernel
theorem dX6_goneBy_11 : decode cX6_goneBy 11 = .ok (.iload_n 3, 1) := by decide +kernel
theorem dX6_goneBy_12 : decode cX6_goneBy 12 = .ok (.iload_n 3, 1) := by decide +kernel
theorem dX6_goneBy_13 : decode cX6_goneBy 13 = .ok (.iload_n 1, 1) := by decide +kernel
theorem dX6_goneBy_14 : decode cX6_goneBy 14 = .ok (.imul, 1) := by decide +kernel
theorem dX6_goneBy_15 : decode cX6_goneBy 15 = .ok (.sipush 1000, 3) := by decide +kernel
theorem dX6_goneBy_18 : decode cX6_goneBy 18 = .ok (.idiv, 1) := by decide +kernel
theorem dX6_goneBy_19 : decode cX6_goneBy 19 = .ok (.isub, 1) := by decide +kernel
theorem dX6_goneBy_20 : decode cX6_goneBy 20 = .ok (.istore_n 3, 1) := by decide +kernel
theorem dX6_goneBy_21 : decode cX6_goneBy 21 = .ok (.iinc 4 1, 3) := by decide +kernel
theorem dX6_goneBy_24 : decode cX6_goneBy 24 = .ok (.goto (-19), 3) := by decide +kernel
theorem dX6_goneBy_27 : decode cX6_goneBy 27 = .ok (.iload_n 0, 1) := by decide +kernel
theorem dX6_goneBy_28 : decode cX6_goneBy 28 = .ok (.iload_n 3, 1) := by decide +kernel
theorem dX6_goneBy_29 : decode cX6_goneBy 29 = .ok (.isub, 1) := by decide +kernel
theorem dX6_goneBy_30 : decode cX6_goneBy 30 = .ok (.ireturn, 1) := by decide +kernel
theorem dX6_afterTrip_0 : decode cX6_afterTrip 0 = .ok (.iload_n 0, 1) := by decide +kernel
theorem dX6_afterTrip_1 : decode cX6_afterTrip 1 = .ok (.i2l, 1) := by decide +kernel
theorem dX6_afterTrip_2 : decode cX6_afterTrip 2 = .ok (.iload_n 1, 1) := by decide +kernel
theorem dX6_afterTrip_3 : decode cX6_afterTrip 3 = .ok (.i2l, 1) := by decide +kernel
theorem dX6_afterTrip_4 : decode cX6_afterTrip 4 = .ok (.lmul, 1) := by decide +kernel
theorem dX6_afterTrip_5 : decode cX6_afterTrip 5 = .ok (.ldc2_w 274, 3) := by decide +kernel
theorem dX6_afterTrip_8 : decode cX6_afterTrip 8 = .ok (.ldiv, 1) := by decide +kernel
theorem dX6_afterTrip_9 : decode cX6_afterTrip 9 = .ok (.l2i, 1) := by decide +kernel
theorem dX6_afterTrip_10 : decode cX6_afterTrip 10 = .ok (.ireturn, 1) := by decide +kernel
