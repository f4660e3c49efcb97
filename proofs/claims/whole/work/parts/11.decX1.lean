theorem dX1_init_0 : decode cX1_init 0 = .ok (.aload_n 0, 1) := by decide +kernel
theorem dX1_init_1 : decode cX1_init 1 = .ok (.invokespecial 3, 3) := by decide +kernel
theorem dX1_init_4 : decode cX1_init 4 = .ok (.aload_n 0, 1) := by decide +kernel
theorem dX1_init_5 : decode cX1_init 5 = .ok (.aload_n 1, 1) := by decide +kernel
theorem dX1_init_6 : decode cX1_init 6 = .ok (.putfield 9, 3) := by decide +kernel
theorem dX1_init_9 : decode cX1_init 9 = .ok (.aload_n 0, 1) := by decide +kernel
theorem dX1_init_10 : decode cX1_init 10 = .ok (.bipush 108, 2) := by decide +kernel
theorem dX1_init_12 : decode cX1_init 12 = .ok (.newarray .int, 2) := by decide +kernel
theorem dX1_init_14 : decode cX1_init 14 = .ok (.putfield 15, 3) := by decide +kernel
theorem dX1_init_17 : decode cX1_init 17 = .ok (.aload_n 0, 1) := by decide +kernel
theorem dX1_init_18 : decode cX1_init 18 = .ok (.bipush 36, 2) := by decide +kernel
theorem dX1_init_20 : decode cX1_init 20 = .ok (.newarray .int, 2) := by decide +kernel
theorem dX1_init_22 : decode cX1_init 22 = .ok (.putfield 19, 3) := by decide +kernel
theorem dX1_init_25 : decode cX1_init 25 = .ok (.aload_n 0, 1) := by decide +kernel
theorem dX1_init_26 : decode cX1_init 26 = .ok (.bipush 36, 2) := by decide +kernel
theorem dX1_init_28 : decode cX1_init 28 = .ok (.newarray .int, 2) := by decide +kernel
theorem dX1_init_30 : decode cX1_init 30 = .ok (.putfield 22, 3) := by decide +kernel
theorem dX1_init_33 : decode cX1_init 33 = .ok (.return_, 1) := by decide +kernel
theorem dX1_read_0 : decode cX1_read 0 = .ok (.aload_n 0, 1) := by decide +kernel
theorem dX1_read_1 : decode cX1_read 1 = .ok (.getfield 15, 3) := by decide +kernel
theorem dX1_read_4 : decode cX1_read 4 = .ok (.iconst 0, 1) := by decide +kernel
theorem dX1_read_5 : decode cX1_read 5 = .ok (.invokestatic 25, 3) := by decide +kernel
theorem dX1_read_8 : decode cX1_read 8 = .ok (.iconst 0, 1) := by decide +kernel
theorem dX1_read_9 : decode cX1_read 9 = .ok (.istore_n 1, 1) := by decide +kernel
theorem dX1_read_10 : decode cX1_read 10 = .ok (.iload_n 1, 1) := by decide +kernel
theorem dX1_read_11 : decode cX1_read 11 = .ok (.iconst 3, 1) := by decide +kernel
theorem dX1_read_12 : decode cX1_read 12 = .ok (.if_icmp .ge 120, 3) := by decide +kernel
theorem dX1_read_15 : decode cX1_read 15 = .ok (.aload_n 0, 1) := by decide +kernel
theorem dX1_read_16 : decode cX1_read 16 = .ok (.iload_n 1, 1) := by decide +kernel
theorem dX1_read_17 : decode cX1_read 17 = .ok (.putfield 31, 3) := by decide +kernel
theorem dX1_read_20 : decode cX1_read 20 = .ok (.aload_n 0, 1) := by decide +kernel
theorem dX1_read_21 : decode cX1_read 21 = .ok (.getfield 9, 3) := by decide +kernel
theorem dX1_read_24 : decode cX1_read 24 = .ok (.invokevirtual 35, 3) := by decide +kernel
theorem dX1_read_27 : decode cX1_read 27 = .ok (.aload_n 0, 1) := by decide +kernel
theorem dX1_read_28 : decode cX1_read 28 = .ok (.iconst 0, 1) := by decide +kernel
theorem dX1_read_29 : decode cX1_read 29 = .ok (.putfield 40, 3) := by decide +kernel
theorem dX1_read_32 : decode cX1_read 32 = .ok (.aload_n 0, 1) := by decide +kernel
theorem dX1_read_33 : decode cX1_read 33 = .ok (.getfield 9, 3) := by decide +kernel
theorem dX1_read_36 : decode cX1_read 36 = .ok (.getfield 43, 3) := by decide +kernel
theorem dX1_read_39 : decode cX1_read 39 = .ok (.ifCond .eq 7, 3) := by decide +kernel
theorem dX1_read_42 : decode cX1_read 42 = .ok (.iconst 1, 1) := by decide +kernel
theorem dX1_read_43 : decode cX1_read 43 = .ok (.goto 4, 3) := by decide +kernel
theorem dX1_read_46 : decode cX1_read 46 = .ok (.iconst 0, 1) := by decide +kernel
theorem dX1_read_47 : decode cX1_read 47 = .ok (.istore_n 2, 1) := by decide +kernel
theorem dX1_read_48 : decode cX1_read 48 = .ok (.iload_n 2, 1) := by decide +kernel
theorem dX1_read_49 : decode cX1_read 49 = .ok (.ifCond .eq 65, 3) := by decide +kernel
theorem dX1_read_52 : decode cX1_read 52 = .ok (.aload_n 0, 1) := by decide +kernel
theorem dX1_read_53 : decode cX1_read 53 = .ok (.getfield 40, 3) := by decide +kernel
theorem dX1_read_56 : decode cX1_read 56 = .ok (.bipush 12, 2) := by decide +kernel
theorem dX1_read_58 : decode cX1_read 58 = .ok (.if_icmp .ge 56, 3) := by decide +kernel
theorem dX1_read_61 : decode cX1_read 61 = .ok (.aload_n 0, 1) := by decide +kernel
theorem dX1_read_62 : decode cX1_read 62 = .ok (.invokevirtual 46, 3) := by decide +kernel
theorem dX1_read_65 : decode cX1_read 65 = .ok (.ifCond .ne 5, 3) := by decide +kernel
theorem dX1_read_68 : decode cX1_read 68 = .ok (.iconst 0, 1) := by decide +kernel
theorem dX1_read_69 : decode cX1_read 69 = .ok (.ireturn, 1) := by decide +kernel
theorem dX1_read_70 : decode cX1_read 70 = .ok (.aload_n 0, 1) := by decide +kernel
theorem dX1_read_71 : decode cX1_read 71 = .ok (.dup, 1) := by decide +kernel
theorem dX1_read_72 : decode cX1_read 72 = .ok (.getfield 40, 3) := by decide +kernel
theorem dX1_read_75 : decode cX1_read 75 = .ok (.iconst 1, 1) := by decide +kernel
theorem dX1_read_76 : decode cX1_read 76 = .ok (.iadd, 1) := by decide +kernel
theorem dX1_read_77 : decode cX1_read 77 = .ok (.putfield 40, 3) := by decide +kernel
theorem dX1_read_80 : decode cX1_read 80 = .ok (.aload_n 0, 1) := by decide +kernel
theorem dX1_read_81 : decode cX1_read 81 = .ok (.getfield 9, 3) := by decide +kernel
theorem dX1_read_84 : decode cX1_read 84 = .ok (.getfield 43, 3) := by decide +kernel
theorem dX1_read_87 : decode cX1_read 87 = .ok (.ifCond .eq 7, 3) := by decide +kernel
theorem dX1_read_90 : decode cX1_read 90 = .ok (.iconst 1, 1) := by decide +kernel
theorem dX1_read_91 : decode cX1_read 91 = .ok (.goto 4, 3) := by decide +kernel
theorem dX1_read_94 : decode cX1_read 94 = .ok (.iconst 0, 1) := by decide +kernel
theorem dX1_read_95 : decode cX1_read 95 = .ok (.istore_n 2, 1) := by decide +kernel
theorem dX1_read_96 : decode cX1_read 96 = .ok (.iload_n 2, 1) := by decide +kernel
theorem dX1_read_97 : decode cX1_read 97 = .ok (.ifCond .eq (-49), 3) := by decide +kernel
theorem dX1_read_100 : decode cX1_read 100 = .ok (.aload_n 0, 1) := by decide +kernel
theorem dX1_read_101 : decode cX1_read 101 = .ok (.getfield 9, 3) := by decide +kernel
theorem dX1_read_104 : decode cX1_read 104 = .ok (.bipush 59, 2) := by decide +kernel
theorem dX1_read_106 : decode cX1_read 106 = .ok (.invokevirtual 50, 3) := by decide +kernel
theorem dX1_read_109 : decode cX1_read 109 = .ok (.ifCond .ne (-61), 3) := by decide +kernel
theorem dX1_read_112 : decode cX1_read 112 = .ok (.iconst 0, 1) := by decide +kernel
theorem dX1_read_113 : decode cX1_read 113 = .ok (.ireturn, 1) := by decide +kernel
theorem dX1_read_114 : decode cX1_read 114 = .ok (.iload_n 2, 1) := by decide +kernel
theorem dX1_read_115 : decode cX1_read 115 = .ok (.ifCond .eq 11, 3) := by decide +kernel
theorem dX1_read_118 : decode cX1_read 118 = .ok (.aload_n 0, 1) := by decide +kernel
theorem dX1_read_119 : decode cX1_read 119 = .ok (.getfield 9, 3) := by decide +kernel
theorem dX1_read_122 : decode cX1_read 122 = .ok (.invokevirtual 54, 3) := by decide +kernel
theorem dX1_read_125 : decode cX1_read 125 = .ok (.ireturn, 1) := by decide +kernel
theorem dX1_read_126 : decode cX1_read 126 = .ok (.iinc 1 1, 3) := by decide +kernel
theorem dX1_read_129 : decode cX1_read 129 = .ok (.goto (-119), 3) := by decide +kernel
theorem dX1_read_132 : decode cX1_read 132 = .ok (.iconst 1, 1) := by decide +kernel
theorem dX1_read_133 : decode cX1_read 133 = .ok (.ireturn, 1) := by decide +kernel
theorem dX1_line_0 : decode cX1_line 0 = .ok (.aload_n 0, 1) := by decide +kernel
theorem dX1_line_1 : decode cX1_line 1 = .ok (.getfield 9, 3) := by decide +kernel
theorem dX1_line_4 : decode cX1_line 4 = .ok (.ldc 57, 2) := by decide +kernel
theorem dX1_line_6 : decode cX1_line 6 = .ok (.invokevirtual 59, 3) := by decide +kernel
theorem dX1_line_9 : decode cX1_line 9 = .ok (.istore_n 1, 1) := by decide +kernel
theorem dX1_line_10 : decode cX1_line 10 = .ok (.iload_n 1, 1) := by decide +kernel
theorem dX1_line_11 : decode cX1_line 11 = .ok (.ifCond .ne 23, 3) := by decide +kernel
theorem dX1_line_14 : decode cX1_line 14 = .ok (.aload_n 0, 1) := by decide +kernel
theorem dX1_line_15 : decode cX1_line 15 = .ok (.getfield 9, 3) := by decide +kernel
theorem dX1_line_18 : decode cX1_line 18 = .ok (.ldc 63, 2) := by decide +kernel
theorem dX1_line_20 : decode cX1_line 20 = .ok (.invokevirtual 59, 3) := by decide +kernel
theorem dX1_line_23 : decode cX1_line 23 = .ok (.ifCond .ne 11, 3) := by decide +kernel
theorem dX1_line_26 : decode cX1_line 26 = .ok (.aload_n 0, 1) := by decide +kernel
theorem dX1_line_27 : decode cX1_line 27 = .ok (.getfield 9, 3) := by decide +kernel
theorem dX1_line_30 : decode cX1_line 30 = .ok (.invokevirtual 54, 3) := by decide +kernel
theorem dX1_line_33 : decode cX1_line 33 = .ok (.ireturn, 1) := by decide +kernel
theorem dX1_line_34 : decode cX1_line 34 = .ok (.aload_n 0, 1) := by decide +kernel
theorem dX1_line_35 : decode cX1_line 35 = .ok (.getfield 9, 3) := by decide +kernel
theorem dX1_line_38 : decode cX1_line 38 = .ok (.invokevirtual 65, 3) := by decide +kernel
theorem dX1_line_41 : decode cX1_line 41 = .ok (.aload_n 0, 1) := by decide +kernel
theorem dX1_line_42 : decode cX1_line 42 = .ok (.getfield 9, 3) := by decide +kernel
theorem dX1_line_45 : decode cX1_line 45 = .ok (.bipush 99, 2) := by decide +kernel
theorem dX1_line_47 : decode cX1_line 47 = .ok (.invokevirtual 68, 3) := by decide +kernel
theorem dX1_line_50 : decode cX1_line 50 = .ok (.istore_n 2, 1) := by decide +kernel
theorem dX1_line_51 : decode cX1_line 51 = .ok (.ldc2_w 72, 3) := by decide +kernel
theorem dX1_line_54 : decode cX1_line 54 = .ok (.lstore_n 3, 1) := by decide +kernel
theorem dX1_line_55 : decode cX1_line 55 = .ok (.aload_n 0, 1) := by decide +kernel
theorem dX1_line_56 : decode cX1_line 56 = .ok (.getfield 9, 3) := by decide +kernel
theorem dX1_line_59 : decode cX1_line 59 = .ok (.invokevirtual 74, 3) := by decide +kernel
theorem dX1_line_62 : decode cX1_line 62 = .ok (.ifCond .ne 28, 3) := by decide +kernel
theorem dX1_line_65 : decode cX1_line 65 = .ok (.aload_n 0, 1) := by decide +kernel
theorem dX1_line_66 : decode cX1_line 66 = .ok (.getfield 9, 3) := by decide +kernel
theorem dX1_line_69 : decode cX1_line 69 = .ok (.ldc 77, 2) := by decide +kernel
theorem dX1_line_71 : decode cX1_line 71 = .ok (.invokevirtual 59, 3) := by decide +kernel
theorem dX1_line_74 : decode cX1_line 74 = .ok (.ifCond .eq 16, 3) := by decide +kernel
theorem dX1_line_77 : decode cX1_line 77 = .ok (.aload_n 0, 1) := by decide +kernel
theorem dX1_line_78 : decode cX1_line 78 = .ok (.getfield 9, 3) := by decide +kernel
theorem dX1_line_81 : decode cX1_line 81 = .ok (.invokevirtual 65, 3) := by decide +kernel
theorem dX1_line_84 : decode cX1_line 84 = .ok (.aload_n 0, 1) := by decide +kernel
theorem dX1_line_85 : decode cX1_line 85 = .ok (.iconst 0, 1) := by decide +kernel
theorem dX1_line_86 : decode cX1_line 86 = .ok (.invokevirtual 79, 3) := by decide +kernel
theorem dX1_line_89 : decode cX1_line 89 = .ok (.lstore_n 3, 1) := by decide +kernel
theorem dX1_line_90 : decode cX1_line 90 = .ok (.aload_n 0, 1) := by decide +kernel
theorem dX1_line_91 : decode cX1_line 91 = .ok (.getfield 9, 3) := by decide +kernel
theorem dX1_line_94 : decode cX1_line 94 = .ok (.invokevirtual 74, 3) := by decide +kernel
theorem dX1_line_97 : decode cX1_line 97 = .ok (.ifCond .eq 5, 3) := by decide +kernel
theorem dX1_line_100 : decode cX1_line 100 = .ok (.iconst 0, 1) := by decide +kernel
theorem dX1_line_101 : decode cX1_line 101 = .ok (.ireturn, 1) := by decide +kernel
theorem dX1_line_102 : decode cX1_line 102 = .ok (.iconst 0, 1) := by decide +kernel
theorem dX1_line_103 : decode cX1_line 103 = .ok (.istore 5, 2) := by decide +kernel
theorem dX1_line_105 : decode cX1_line 105 = .ok (.iload 5, 2) := by decide +kernel
theorem dX1_line_107 : decode cX1_line 107 = .ok (.bipush 36, 2) := by decide +kernel
theorem dX1_line_109 : decode cX1_line 109 = .ok (.if_icmp .ge 48, 3) := by decide +kernel
theorem dX1_line_112 : decode cX1_line 112 = .ok (.lload_n 3, 1) := by decide +kernel
theorem dX1_line_113 : decode cX1_line 113 = .ok (.iload 5, 2) := by decide +kernel
theorem dX1_line_115 : decode cX1_line 115 = .ok (.lshr, 1) := by decide +kernel
theorem dX1_line_116 : decode cX1_line 116 = .ok (.lconst 1, 1) := by decide +kernel
theorem dX1_line_117 : decode cX1_line 117 = .ok (.land, 1) := by decide +kernel
theorem dX1_line_118 : decode cX1_line 118 = .ok (.lconst 1, 1) := by decide +kernel
theorem dX1_line_119 : decode cX1_line 119 = .ok (.lcmp, 1) := by decide +kernel
theorem dX1_line_120 : decode cX1_line 120 = .ok (.ifCond .ne 31, 3) := by decide +kernel
theorem dX1_line_123 : decode cX1_line 123 = .ok (.aload_n 0, 1) := by decide +kernel
theorem dX1_line_124 : decode cX1_line 124 = .ok (.getfield 15, 3) := by decide +kernel
theorem dX1_line_127 : decode cX1_line 127 = .ok (.aload_n 0, 1) := by decide +kernel
theorem dX1_line_128 : decode cX1_line 128 = .ok (.getfield 31, 3) := by decide +kernel
theorem dX1_line_131 : decode cX1_line 131 = .ok (.bipush 36, 2) := by decide +kernel
theorem dX1_line_133 : decode cX1_line 133 = .ok (.imul, 1) := by decide +kernel
theorem dX1_line_134 : decode cX1_line 134 = .ok (.iload 5, 2) := by decide +kernel
theorem dX1_line_136 : decode cX1_line 136 = .ok (.iadd, 1) := by decide +kernel
theorem dX1_line_137 : decode cX1_line 137 = .ok (.dup2, 1) := by decide +kernel
theorem dX1_line_138 : decode cX1_line 138 = .ok (.iaload, 1) := by decide +kernel
theorem dX1_line_139 : decode cX1_line 139 = .ok (.iload_n 1, 1) := by decide +kernel
theorem dX1_line_140 : decode cX1_line 140 = .ok (.ifCond .eq 8, 3) := by decide +kernel
theorem dX1_line_143 : decode cX1_line 143 = .ok (.iload_n 2, 1) := by decide +kernel
theorem dX1_line_144 : decode cX1_line 144 = .ok (.ineg, 1) := by decide +kernel
theorem dX1_line_145 : decode cX1_line 145 = .ok (.goto 4, 3) := by decide +kernel
theorem dX1_line_148 : decode cX1_line 148 = .ok (.iload_n 2, 1) := by decide +kernel
theorem dX1_line_149 : decode cX1_line 149 = .ok (.iadd, 1) := by decide +kernel
theorem dX1_line_150 : decode cX1_line 150 = .ok (.iastore, 1) := by decide +kernel
theorem dX1_line_151 : decode cX1_line 151 = .ok (.iinc 5 1, 3) := by decide +kernel
theorem dX1_line_154 : decode cX1_line 154 = .ok (.goto (-49), 3) := by decide +kernel
theorem dX1_line_157 : decode cX1_line 157 = .ok (.iconst 1, 1) := by decide +kernel
theorem dX1_line_158 : decode cX1_line 158 = .ok (.ireturn, 1) := by decide +kernel
theorem dX1_condition_0 : decode cX1_condition 0 = .ok (.lconst 0, 1) := by decide +kernel
theorem dX1_condition_1 : decode cX1_condition 1 = .ok (.lstore_n 2, 1) := by decide +kernel
theorem dX1_condition_2 : decode cX1_condition 2 = .ok (.aload_n 0, 1) := by decide +kernel
theorem dX1_condition_3 : decode cX1_condition 3 = .ok (.iload_n 1, 1) := by decide +kernel
theorem dX1_condition_4 : decode cX1_condition 4 = .ok (.invokevirtual 83, 3) := by decide +kernel
theorem dX1_condition_7 : decode cX1_condition 7 = .ok (.lstore 4, 2) := by decide +kernel
theorem dX1_condition_9 : decode cX1_condition 9 = .ok (.iconst 0, 1) := by decide +kernel
theorem dX1_condition_10 : decode cX1_condition 10 = .ok (.istore 6, 2) := by decide +kernel
theorem dX1_condition_12 : decode cX1_condition 12 = .ok (.iload 6, 2) := by decide +kernel
theorem dX1_condition_14 : decode cX1_condition 14 = .ok (.aload_n 0, 1) := by decide +kernel
theorem dX1_condition_15 : decode cX1_condition 15 = .ok (.getfield 9, 3) := by decide +kernel
theorem dX1_condition_18 : decode cX1_condition 18 = .ok (.getfield 86, 3) := by decide +kernel
theorem dX1_condition_21 : decode cX1_condition 21 = .ok (.if_icmp .ge 90, 3) := by decide +kernel
theorem dX1_condition_24 : decode cX1_condition 24 = .ok (.aload_n 0, 1) := by decide +kernel
theorem dX1_condition_25 : decode cX1_condition 25 = .ok (.getfield 9, 3) := by decide +kernel
theorem dX1_condition_28 : decode cX1_condition 28 = .ok (.invokevirtual 74, 3) := by decide +kernel
theorem dX1_condition_31 : decode cX1_condition 31 = .ok (.ifCond .ne 80, 3) := by decide +kernel
theorem dX1_condition_34 : decode cX1_condition 34 = .ok (.aload_n 0, 1) := by decide +kernel
theorem dX1_condition_35 : decode cX1_condition 35 = .ok (.getfield 9, 3) := by decide +kernel
theorem dX1_condition_38 : decode cX1_condition 38 = .ok (.ldc 89, 2) := by decide +kernel
theorem dX1_condition_40 : decode cX1_condition 40 = .ok (.invokevirtual 59, 3) := by decide +kernel
theorem dX1_condition_43 : decode cX1_condition 43 = .ok (.ifCond .eq 23, 3) := by decide +kernel
theorem dX1_condition_46 : decode cX1_condition 46 = .ok (.aload_n 0, 1) := by decide +kernel
theorem dX1_condition_47 : decode cX1_condition 47 = .ok (.getfield 9, 3) := by decide +kernel
theorem dX1_condition_50 : decode cX1_condition 50 = .ok (.invokevirtual 65, 3) := by decide +kernel
theorem dX1_condition_53 : decode cX1_condition 53 = .ok (.lload 4, 2) := by decide +kernel
theorem dX1_condition_55 : decode cX1_condition 55 = .ok (.aload_n 0, 1) := by decide +kernel
theorem dX1_condition_56 : decode cX1_condition 56 = .ok (.iload_n 1, 1) := by decide +kernel
theorem dX1_condition_57 : decode cX1_condition 57 = .ok (.invokevirtual 83, 3) := by decide +kernel
theorem dX1_condition_60 : decode cX1_condition 60 = .ok (.land, 1) := by decide +kernel
theorem dX1_condition_61 : decode cX1_condition 61 = .ok (.lstore 4, 2) := by decide +kernel
theorem dX1_condition_63 : decode cX1_condition 63 = .ok (.goto 42, 3) := by decide +kernel
theorem dX1_condition_66 : decode cX1_condition 66 = .ok (.aload_n 0, 1) := by decide +kernel
theorem dX1_condition_67 : decode cX1_condition 67 = .ok (.getfield 9, 3) := by decide +kernel
theorem dX1_condition_70 : decode cX1_condition 70 = .ok (.ldc 91, 2) := by decide +kernel
theorem dX1_condition_72 : decode cX1_condition 72 = .ok (.invokevirtual 59, 3) := by decide +kernel
theorem dX1_condition_75 : decode cX1_condition 75 = .ok (.ifCond .eq 25, 3) := by decide +kernel
theorem dX1_condition_78 : decode cX1_condition 78 = .ok (.aload_n 0, 1) := by decide +kernel
theorem dX1_condition_79 : decode cX1_condition 79 = .ok (.getfield 9, 3) := by decide +kernel
theorem dX1_condition_82 : decode cX1_condition 82 = .ok (.invokevirtual 65, 3) := by decide +kernel
theorem dX1_condition_85 : decode cX1_condition 85 = .ok (.lload_n 2, 1) := by decide +kernel
theorem dX1_condition_86 : decode cX1_condition 86 = .ok (.lload 4, 2) := by decide +kernel
theorem dX1_condition_88 : decode cX1_condition 88 = .ok (.lor, 1) := by decide +kernel
theorem dX1_condition_89 : decode cX1_condition 89 = .ok (.lstore_n 2, 1) := by decide +kernel
theorem dX1_condition_90 : decode cX1_condition 90 = .ok (.aload_n 0, 1) := by decide +kernel
theorem dX1_condition_91 : decode cX1_condition 91 = .ok (.iload_n 1, 1) := by decide +kernel
theorem dX1_condition_92 : decode cX1_condition 92 = .ok (.invokevirtual 83, 3) := by decide +kernel
theorem dX1_condition_95 : decode cX1_condition 95 = .ok (.lstore 4, 2) := by decide +kernel
theorem dX1_condition_97 : decode cX1_condition 97 = .ok (.goto 8, 3) := by decide +kernel
theorem dX1_condition_100 : decode cX1_condition 100 = .ok (.lload_n 2, 1) := by decide +kernel
theorem dX1_condition_101 : decode cX1_condition 101 = .ok (.lload 4, 2) := by decide +kernel
theorem dX1_condition_103 : decode cX1_condition 103 = .ok (.lor, 1) := by decide +kernel
theorem dX1_condition_104 : decode cX1_condition 104 = .ok (.lreturn, 1) := by decide +kernel
theorem dX1_condition_105 : decode cX1_condition 105 = .ok (.iinc 6 1, 3) := by decide +kernel
theorem dX1_condition_108 : decode cX1_condition 108 = .ok (.goto (-96), 3) := by decide +kernel
theorem dX1_condition_111 : decode cX1_condition 111 = .ok (.lload_n 2, 1) := by decide +kernel
theorem dX1_condition_112 : decode cX1_condition 112 = .ok (.lload 4, 2) := by decide +kernel
theorem dX1_condition_114 : decode cX1_condition 114 = .ok (.lor, 1) := by decide +kernel
theorem dX1_condition_115 : decode cX1_condition 115 = .ok (.lreturn, 1) := by decide +kernel
theorem dX1_atom_0 : decode cX1_atom 0 = .ok (.aload_n 0, 1) := by decide +kernel
theorem dX1_atom_1 : decode cX1_atom 1 = .ok (.getfield 9, 3) := by decide +kernel
theorem dX1_atom_4 : decode cX1_atom 4 = .ok (.ldc 93, 2) := by decide +kernel
theorem dX1_atom_6 : decode cX1_atom 6 = .ok (.invokevirtual 59, 3) := by decide +kernel
theorem dX1_atom_9 : decode cX1_atom 9 = .ok (.istore_n 2, 1) := by decide +kernel
theorem dX1_atom_10 : decode cX1_atom 10 = .ok (.iload_n 2, 1) := by decide +kernel
theorem dX1_atom_11 : decode cX1_atom 11 = .ok (.ifCond .ne 15, 3) := by decide +kernel
theorem dX1_atom_14 : decode cX1_atom 14 = .ok (.aload_n 0, 1) := by decide +kernel
theorem dX1_atom_15 : decode cX1_atom 15 = .ok (.getfield 9, 3) := by decide +kernel
theorem dX1_atom_18 : decode cX1_atom 18 = .ok (.bipush 40, 2) := by decide +kernel
theorem dX1_atom_20 : decode cX1_atom 20 = .ok (.invokevirtual 95, 3) := by decide +kernel
theorem dX1_atom_23 : decode cX1_atom 23 = .ok (.ifCond .eq 76, 3) := by decide +kernel
theorem dX1_atom_26 : decode cX1_atom 26 = .ok (.iload_n 1, 1) := by decide +kernel
theorem dX1_atom_27 : decode cX1_atom 27 = .ok (.bipush 6, 2) := by decide +kernel
theorem dX1_atom_29 : decode cX1_atom 29 = .ok (.if_icmp .lt 13, 3) := by decide +kernel
theorem dX1_atom_32 : decode cX1_atom 32 = .ok (.aload_n 0, 1) := by decide +kernel
theorem dX1_atom_33 : decode cX1_atom 33 = .ok (.getfield 9, 3) := by decide +kernel
theorem dX1_atom_36 : decode cX1_atom 36 = .ok (.invokevirtual 54, 3) := by decide +kernel
theorem dX1_atom_39 : decode cX1_atom 39 = .ok (.pop, 1) := by decide +kernel
theorem dX1_atom_40 : decode cX1_atom 40 = .ok (.lconst 0, 1) := by decide +kernel
theorem dX1_atom_41 : decode cX1_atom 41 = .ok (.lreturn, 1) := by decide +kernel
theorem dX1_atom_42 : decode cX1_atom 42 = .ok (.aload_n 0, 1) := by decide +kernel
theorem dX1_atom_43 : decode cX1_atom 43 = .ok (.getfield 9, 3) := by decide +kernel
theorem dX1_atom_46 : decode cX1_atom 46 = .ok (.invokevirtual 65, 3) := by decide +kernel
theorem dX1_atom_49 : decode cX1_atom 49 = .ok (.iload_n 2, 1) := by decide +kernel
theorem dX1_atom_50 : decode cX1_atom 50 = .ok (.ifCond .eq 19, 3) := by decide +kernel
theorem dX1_atom_53 : decode cX1_atom 53 = .ok (.ldc2_w 72, 3) := by decide +kernel
theorem dX1_atom_56 : decode cX1_atom 56 = .ok (.aload_n 0, 1) := by decide +kernel
theorem dX1_atom_57 : decode cX1_atom 57 = .ok (.iload_n 1, 1) := by decide +kernel
theorem dX1_atom_58 : decode cX1_atom 58 = .ok (.iconst 1, 1) := by decide +kernel
theorem dX1_atom_59 : decode cX1_atom 59 = .ok (.iadd, 1) := by decide +kernel
theorem dX1_atom_60 : decode cX1_atom 60 = .ok (.invokevirtual 83, 3) := by decide +kernel
theorem dX1_atom_63 : decode cX1_atom 63 = .ok (.ldc2_w 98, 3) := by decide +kernel
theorem dX1_atom_66 : decode cX1_atom 66 = .ok (.lxor, 1) := by decide +kernel
theorem dX1_atom_67 : decode cX1_atom 67 = .ok (.land, 1) := by decide +kernel
theorem dX1_atom_68 : decode cX1_atom 68 = .ok (.lreturn, 1) := by decide +kernel
theorem dX1_atom_69 : decode cX1_atom 69 = .ok (.aload_n 0, 1) := by decide +kernel
theorem dX1_atom_70 : decode cX1_atom 70 = .ok (.iload_n 1, 1) := by decide +kernel
theorem dX1_atom_71 : decode cX1_atom 71 = .ok (.iconst 1, 1) := by decide +kernel
theorem dX1_atom_72 : decode cX1_atom 72 = .ok (.iadd, 1) := by decide +kernel
theorem dX1_atom_73 : decode cX1_atom 73 = .ok (.invokevirtual 79, 3) := by decide +kernel
theorem dX1_atom_76 : decode cX1_atom 76 = .ok (.lstore_n 3, 1) := by decide +kernel
theorem dX1_atom_77 : decode cX1_atom 77 = .ok (.aload_n 0, 1) := by decide +kernel
theorem dX1_atom_78 : decode cX1_atom 78 = .ok (.getfield 9, 3) := by decide +kernel
theorem dX1_atom_81 : decode cX1_atom 81 = .ok (.invokevirtual 74, 3) := by decide +kernel
theorem dX1_atom_84 : decode cX1_atom 84 = .ok (.ifCond .ne 13, 3) := by decide +kernel
theorem dX1_atom_87 : decode cX1_atom 87 = .ok (.aload_n 0, 1) := by decide +kernel
theorem dX1_atom_88 : decode cX1_atom 88 = .ok (.getfield 9, 3) := by decide +kernel
theorem dX1_atom_91 : decode cX1_atom 91 = .ok (.bipush 41, 2) := by decide +kernel
theorem dX1_atom_93 : decode cX1_atom 93 = .ok (.invokevirtual 50, 3) := by decide +kernel
theorem dX1_atom_96 : decode cX1_atom 96 = .ok (.pop, 1) := by decide +kernel
theorem dX1_atom_97 : decode cX1_atom 97 = .ok (.lload_n 3, 1) := by decide +kernel
theorem dX1_atom_98 : decode cX1_atom 98 = .ok (.lreturn, 1) := by decide +kernel
theorem dX1_atom_99 : decode cX1_atom 99 = .ok (.aload_n 0, 1) := by decide +kernel
theorem dX1_atom_100 : decode cX1_atom 100 = .ok (.getfield 9, 3) := by decide +kernel
theorem dX1_atom_103 : decode cX1_atom 103 = .ok (.ldc 100, 2) := by decide +kernel
theorem dX1_atom_105 : decode cX1_atom 105 = .ok (.invokevirtual 59, 3) := by decide +kernel
theorem dX1_atom_108 : decode cX1_atom 108 = .ok (.ifCond .ne 15, 3) := by decide +kernel
theorem dX1_atom_111 : decode cX1_atom 111 = .ok (.aload_n 0, 1) := by decide +kernel
theorem dX1_atom_112 : decode cX1_atom 112 = .ok (.getfield 9, 3) := by decide +kernel
theorem dX1_atom_115 : decode cX1_atom 115 = .ok (.ldc 102, 2) := by decide +kernel
theorem dX1_atom_117 : decode cX1_atom 117 = .ok (.invokevirtual 59, 3) := by decide +kernel
theorem dX1_atom_120 : decode cX1_atom 120 = .ok (.ifCond .eq 33, 3) := by decide +kernel
theorem dX1_atom_123 : decode cX1_atom 123 = .ok (.aload_n 0, 1) := by decide +kernel
theorem dX1_atom_124 : decode cX1_atom 124 = .ok (.getfield 9, 3) := by decide +kernel
theorem dX1_atom_127 : decode cX1_atom 127 = .ok (.ldc 100, 2) := by decide +kernel
theorem dX1_atom_129 : decode cX1_atom 129 = .ok (.invokevirtual 59, 3) := by decide +kernel
theorem dX1_atom_132 : decode cX1_atom 132 = .ok (.ifCond .eq 7, 3) := by decide +kernel
theorem dX1_atom_135 : decode cX1_atom 135 = .ok (.iconst 0, 1) := by decide +kernel
theorem dX1_atom_136 : decode cX1_atom 136 = .ok (.goto 4, 3) := by decide +kernel
theorem dX1_atom_139 : decode cX1_atom 139 = .ok (.iconst 1, 1) := by decide +kernel
theorem dX1_atom_140 : decode cX1_atom 140 = .ok (.istore_n 3, 1) := by decide +kernel
theorem dX1_atom_141 : decode cX1_atom 141 = .ok (.aload_n 0, 1) := by decide +kernel
theorem dX1_atom_142 : decode cX1_atom 142 = .ok (.getfield 9, 3) := by decide +kernel
theorem dX1_atom_145 : decode cX1_atom 145 = .ok (.invokevirtual 65, 3) := by decide +kernel
theorem dX1_atom_148 : decode cX1_atom 148 = .ok (.iload_n 3, 1) := by decide +kernel
theorem dX1_atom_149 : decode cX1_atom 149 = .ok (.invokestatic 104, 3) := by decide +kernel
theorem dX1_atom_152 : decode cX1_atom 152 = .ok (.lreturn, 1) := by decide +kernel
theorem dX1_atom_153 : decode cX1_atom 153 = .ok (.aload_n 0, 1) := by decide +kernel
theorem dX1_atom_154 : decode cX1_atom 154 = .ok (.aload_n 0, 1) := by decide +kernel
theorem dX1_atom_155 : decode cX1_atom 155 = .ok (.getfield 19, 3) := by decide +kernel
theorem dX1_atom_158 : decode cX1_atom 158 = .ok (.invokevirtual 107, 3) := by decide +kernel
theorem dX1_atom_161 : decode cX1_atom 161 = .ok (.aload_n 0, 1) := by decide +kernel
theorem dX1_atom_162 : decode cX1_atom 162 = .ok (.getfield 9, 3) := by decide +kernel
theorem dX1_atom_165 : decode cX1_atom 165 = .ok (.bipush 60, 2) := by decide +kernel
theorem dX1_atom_167 : decode cX1_atom 167 = .ok (.invokevirtual 95, 3) := by decide +kernel
theorem dX1_atom_170 : decode cX1_atom 170 = .ok (.istore_n 3, 1) := by decide +kernel
theorem dX1_atom_171 : decode cX1_atom 171 = .ok (.aload_n 0, 1) := by decide +kernel
theorem dX1_atom_172 : decode cX1_atom 172 = .ok (.getfield 9, 3) := by decide +kernel
theorem dX1_atom_175 : decode cX1_atom 175 = .ok (.invokevirtual 74, 3) := by decide +kernel
theorem dX1_atom_178 : decode cX1_atom 178 = .ok (.ifCond .ne 19, 3) := by decide +kernel
theorem dX1_atom_181 : decode cX1_atom 181 = .ok (.iload_n 3, 1) := by decide +kernel
theorem dX1_atom_182 : decode cX1_atom 182 = .ok (.ifCond .ne 25, 3) := by decide +kernel
theorem dX1_atom_185 : decode cX1_atom 185 = .ok (.aload_n 0, 1) := by decide +kernel
theorem dX1_atom_186 : decode cX1_atom 186 = .ok (.getfield 9, 3) := by decide +kernel
theorem dX1_atom_189 : decode cX1_atom 189 = .ok (.bipush 62, 2) := by decide +kernel
theorem dX1_atom_191 : decode cX1_atom 191 = .ok (.invokevirtual 95, 3) := by decide +kernel
theorem dX1_atom_194 : decode cX1_atom 194 = .ok (.ifCond .ne 13, 3) := by decide +kernel
theorem dX1_atom_197 : decode cX1_atom 197 = .ok (.aload_n 0, 1) := by decide +kernel
theorem dX1_atom_198 : decode cX1_atom 198 = .ok (.getfield 9, 3) := by decide +kernel
theorem dX1_atom_201 : decode cX1_atom 201 = .ok (.invokevirtual 54, 3) := by decide +kernel
theorem dX1_atom_204 : decode cX1_atom 204 = .ok (.pop, 1) := by decide +kernel
theorem dX1_atom_205 : decode cX1_atom 205 = .ok (.lconst 0, 1) := by decide +kernel
theorem dX1_atom_206 : decode cX1_atom 206 = .ok (.lreturn, 1) := by decide +kernel
theorem dX1_atom_207 : decode cX1_atom 207 = .ok (.aload_n 0, 1) := by decide +kernel
theorem dX1_atom_208 : decode cX1_atom 208 = .ok (.getfield 9, 3) := by decide +kernel
theorem dX1_atom_211 : decode cX1_atom 211 = .ok (.invokevirtual 65, 3) := by decide +kernel
theorem dX1_atom_214 : decode cX1_atom 214 = .ok (.aload_n 0, 1) := by decide +kernel
theorem dX1_atom_215 : decode cX1_atom 215 = .ok (.aload_n 0, 1) := by decide +kernel
theorem dX1_atom_216 : decode cX1_atom 216 = .ok (.getfield 22, 3) := by decide +kernel
theorem dX1_atom_219 : decode cX1_atom 219 = .ok (.invokevirtual 107, 3) := by decide +kernel
theorem dX1_atom_222 : decode cX1_atom 222 = .ok (.iload_n 3, 1) := by decide +kernel
theorem dX1_atom_223 : decode cX1_atom 223 = .ok (.ifCond .eq 17, 3) := by decide +kernel
theorem dX1_atom_226 : decode cX1_atom 226 = .ok (.aload_n 0, 1) := by decide +kernel
theorem dX1_atom_227 : decode cX1_atom 227 = .ok (.getfield 19, 3) := by decide +kernel
theorem dX1_atom_230 : decode cX1_atom 230 = .ok (.aload_n 0, 1) := by decide +kernel
theorem dX1_atom_231 : decode cX1_atom 231 = .ok (.getfield 22, 3) := by decide +kernel
theorem dX1_atom_234 : decode cX1_atom 234 = .ok (.invokestatic 111, 3) := by decide +kernel
theorem dX1_atom_237 : decode cX1_atom 237 = .ok (.goto 14, 3) := by decide +kernel
theorem dX1_atom_240 : decode cX1_atom 240 = .ok (.aload_n 0, 1) := by decide +kernel
theorem dX1_atom_241 : decode cX1_atom 241 = .ok (.getfield 22, 3) := by decide +kernel
theorem dX1_atom_244 : decode cX1_atom 244 = .ok (.aload_n 0, 1) := by decide +kernel
theorem dX1_atom_245 : decode cX1_atom 245 = .ok (.getfield 19, 3) := by decide +kernel
theorem dX1_atom_248 : decode cX1_atom 248 = .ok (.invokestatic 111, 3) := by decide +kernel
theorem dX1_atom_251 : decode cX1_atom 251 = .ok (.lreturn, 1) := by decide +kernel
theorem dX1_whereApart_0 : decode cX1_whereApart 0 = .ok (.lconst 0, 1) := by decide +kernel
theorem dX1_whereApart_1 : decode cX1_whereApart 1 = .ok (.lstore_n 1, 1) := by decide +kernel
theorem dX1_whereApart_2 : decode cX1_whereApart 2 = .ok (.iconst 0, 1) := by decide +kernel
theorem dX1_whereApart_3 : decode cX1_whereApart 3 = .ok (.istore_n 3, 1) := by decide +kernel
theorem dX1_whereApart_4 : decode cX1_whereApart 4 = .ok (.iload_n 3, 1) := by decide +kernel
theorem dX1_whereApart_5 : decode cX1_whereApart 5 = .ok (.bipush 36, 2) := by decide +kernel
theorem dX1_whereApart_7 : decode cX1_whereApart 7 = .ok (.if_icmp .ge 23, 3) := by decide +kernel
theorem dX1_whereApart_10 : decode cX1_whereApart 10 = .ok (.iload_n 3, 1) := by decide +kernel
theorem dX1_whereApart_11 : decode cX1_whereApart 11 = .ok (.invokestatic 115, 3) := by decide +kernel
theorem dX1_whereApart_14 : decode cX1_whereApart 14 = .ok (.iload_n 0, 1) := by decide +kernel
theorem dX1_whereApart_15 : decode cX1_whereApart 15 = .ok (.if_icmp .ne 9, 3) := by decide +kernel
theorem dX1_whereApart_18 : decode cX1_whereApart 18 = .ok (.lload_n 1, 1) := by decide +kernel
theorem dX1_whereApart_19 : decode cX1_whereApart 19 = .ok (.lconst 1, 1) := by decide +kernel
theorem dX1_whereApart_20 : decode cX1_whereApart 20 = .ok (.iload_n 3, 1) := by decide +kernel
theorem dX1_whereApart_21 : decode cX1_whereApart 21 = .ok (.lshl, 1) := by decide +kernel
theorem dX1_whereApart_22 : decode cX1_whereApart 22 = .ok (.lor, 1) := by decide +kernel
theorem dX1_whereApart_23 : decode cX1_whereApart 23 = .ok (.lstore_n 1, 1) := by decide +kernel
theorem dX1_whereApart_24 : decode cX1_whereApart 24 = .ok (.iinc 3 1, 3) := by decide +kernel
theorem dX1_whereApart_27 : decode cX1_whereApart 27 = .ok (.goto (-23), 3) := by decide +kernel
theorem dX1_whereApart_30 : decode cX1_whereApart 30 = .ok (.lload_n 1, 1) := by decide +kernel
theorem dX1_whereApart_31 : decode cX1_whereApart 31 = .ok (.lreturn, 1) := by decide +kernel
theorem dX1_whereLess_0 : decode cX1_whereLess 0 = .ok (.lconst 0, 1) := by decide +kernel
theorem dX1_whereLess_1 : decode cX1_whereLess 1 = .ok (.lstore_n 2, 1) := by decide +kernel
theorem dX1_whereLess_2 : decode cX1_whereLess 2 = .ok (.iconst 0, 1) := by decide +kernel
theorem dX1_whereLess_3 : decode cX1_whereLess 3 = .ok (.istore 4, 2) := by decide +kernel
theorem dX1_whereLess_5 : decode cX1_whereLess 5 = .ok (.iload 4, 2) := by decide +kernel
theorem dX1_whereLess_7 : decode cX1_whereLess 7 = .ok (.bipush 36, 2) := by decide +kernel
theorem dX1_whereLess_9 : decode cX1_whereLess 9 = .ok (.if_icmp .ge 27, 3) := by decide +kernel
theorem dX1_whereLess_12 : decode cX1_whereLess 12 = .ok (.aload_n 0, 1) := by decide +kernel
theorem dX1_whereLess_13 : decode cX1_whereLess 13 = .ok (.iload 4, 2) := by decide +kernel
theorem dX1_whereLess_15 : decode cX1_whereLess 15 = .ok (.iaload, 1) := by decide +kernel
theorem dX1_whereLess_16 : decode cX1_whereLess 16 = .ok (.aload_n 1, 1) := by decide +kernel
theorem dX1_whereLess_17 : decode cX1_whereLess 17 = .ok (.iload 4, 2) := by decide +kernel
theorem dX1_whereLess_19 : decode cX1_whereLess 19 = .ok (.iaload, 1) := by decide +kernel
theorem dX1_whereLess_20 : decode cX1_whereLess 20 = .ok (.if_icmp .ge 10, 3) := by decide +kernel
theorem dX1_whereLess_23 : decode cX1_whereLess 23 = .ok (.lload_n 2, 1) := by decide +kernel
theorem dX1_whereLess_24 : decode cX1_whereLess 24 = .ok (.lconst 1, 1) := by decide +kernel
theorem dX1_whereLess_25 : decode cX1_whereLess 25 = .ok (.iload 4, 2) := by decide +kernel
theorem dX1_whereLess_27 : decode cX1_whereLess 27 = .ok (.lshl, 1) := by decide +kernel
theorem dX1_whereLess_28 : decode cX1_whereLess 28 = .ok (.lor, 1) := by decide +kernel
theorem dX1_whereLess_29 : decode cX1_whereLess 29 = .ok (.lstore_n 2, 1) := by decide +kernel
theorem dX1_whereLess_30 : decode cX1_whereLess 30 = .ok (.iinc 4 1, 3) := by decide +kernel
theorem dX1_whereLess_33 : decode cX1_whereLess 33 = .ok (.goto (-28), 3) := by decide +kernel
theorem dX1_whereLess_36 : decode cX1_whereLess 36 = .ok (.lload_n 2, 1) := by decide +kernel
theorem dX1_whereLess_37 : decode cX1_whereLess 37 = .ok (.lreturn, 1) := by decide +kernel
theorem dX1_sum_0 : decode cX1_sum 0 = .ok (.aload_n 1, 1) := by decide +kernel
theorem dX1_sum_1 : decode cX1_sum 1 = .ok (.iconst 0, 1) := by decide +kernel
theorem dX1_sum_2 : decode cX1_sum 2 = .ok (.invokestatic 25, 3) := by decide +kernel
theorem dX1_sum_5 : decode cX1_sum 5 = .ok (.iconst 0, 1) := by decide +kernel
theorem dX1_sum_6 : decode cX1_sum 6 = .ok (.istore_n 2, 1) := by decide +kernel
theorem dX1_sum_7 : decode cX1_sum 7 = .ok (.iload_n 2, 1) := by decide +kernel
theorem dX1_sum_8 : decode cX1_sum 8 = .ok (.aload_n 0, 1) := by decide +kernel
theorem dX1_sum_9 : decode cX1_sum 9 = .ok (.getfield 9, 3) := by decide +kernel
theorem dX1_sum_12 : decode cX1_sum 12 = .ok (.getfield 86, 3) := by decide +kernel
theorem dX1_sum_15 : decode cX1_sum 15 = .ok (.if_icmp .gt 188, 3) := by decide +kernel
theorem dX1_sum_18 : decode cX1_sum 18 = .ok (.aload_n 0, 1) := by decide +kernel
theorem dX1_sum_19 : decode cX1_sum 19 = .ok (.getfield 9, 3) := by decide +kernel
theorem dX1_sum_22 : decode cX1_sum 22 = .ok (.ldc 118, 2) := by decide +kernel
theorem dX1_sum_24 : decode cX1_sum 24 = .ok (.invokevirtual 59, 3) := by decide +kernel
theorem dX1_sum_27 : decode cX1_sum 27 = .ok (.istore_n 3, 1) := by decide +kernel
theorem dX1_sum_28 : decode cX1_sum 28 = .ok (.aload_n 0, 1) := by decide +kernel
theorem dX1_sum_29 : decode cX1_sum 29 = .ok (.getfield 9, 3) := by decide +kernel
theorem dX1_sum_32 : decode cX1_sum 32 = .ok (.ldc 120, 2) := by decide +kernel
theorem dX1_sum_34 : decode cX1_sum 34 = .ok (.invokevirtual 59, 3) := by decide +kernel
theorem dX1_sum_37 : decode cX1_sum 37 = .ok (.istore 4, 2) := by decide +kernel
theorem dX1_sum_39 : decode cX1_sum 39 = .ok (.aload_n 0, 1) := by decide +kernel
theorem dX1_sum_40 : decode cX1_sum 40 = .ok (.getfield 9, 3) := by decide +kernel
theorem dX1_sum_43 : decode cX1_sum 43 = .ok (.ldc 122, 2) := by decide +kernel
theorem dX1_sum_45 : decode cX1_sum 45 = .ok (.invokevirtual 59, 3) := by decide +kernel
theorem dX1_sum_48 : decode cX1_sum 48 = .ok (.istore 5, 2) := by decide +kernel
theorem dX1_sum_50 : decode cX1_sum 50 = .ok (.aload_n 0, 1) := by decide +kernel
theorem dX1_sum_51 : decode cX1_sum 51 = .ok (.getfield 31, 3) := by decide +kernel
theorem dX1_sum_54 : decode cX1_sum 54 = .ok (.istore 6, 2) := by decide +kernel
theorem dX1_sum_56 : decode cX1_sum 56 = .ok (.iload_n 3, 1) := by decide +kernel
theorem dX1_sum_57 : decode cX1_sum 57 = .ok (.ifCond .ne 25, 3) := by decide +kernel
theorem dX1_sum_60 : decode cX1_sum 60 = .ok (.iload 4, 2) := by decide +kernel
theorem dX1_sum_62 : decode cX1_sum 62 = .ok (.ifCond .ne 20, 3) := by decide +kernel
theorem dX1_sum_65 : decode cX1_sum 65 = .ok (.iload 5, 2) := by decide +kernel
theorem dX1_sum_67 : decode cX1_sum 67 = .ok (.ifCond .ne 15, 3) := by decide +kernel
theorem dX1_sum_70 : decode cX1_sum 70 = .ok (.aload_n 0, 1) := by decide +kernel
theorem dX1_sum_71 : decode cX1_sum 71 = .ok (.getfield 9, 3) := by decide +kernel
theorem dX1_sum_74 : decode cX1_sum 74 = .ok (.ldc 123, 2) := by decide +kernel
theorem dX1_sum_76 : decode cX1_sum 76 = .ok (.invokevirtual 59, 3) := by decide +kernel
theorem dX1_sum_79 : decode cX1_sum 79 = .ok (.ifCond .eq 13, 3) := by decide +kernel
theorem dX1_sum_82 : decode cX1_sum 82 = .ok (.aload_n 0, 1) := by decide +kernel
theorem dX1_sum_83 : decode cX1_sum 83 = .ok (.getfield 9, 3) := by decide +kernel
theorem dX1_sum_86 : decode cX1_sum 86 = .ok (.invokevirtual 65, 3) := by decide +kernel
theorem dX1_sum_89 : decode cX1_sum 89 = .ok (.goto 15, 3) := by decide +kernel
theorem dX1_sum_92 : decode cX1_sum 92 = .ok (.aload_n 0, 1) := by decide +kernel
theorem dX1_sum_93 : decode cX1_sum 93 = .ok (.getfield 9, 3) := by decide +kernel
theorem dX1_sum_96 : decode cX1_sum 96 = .ok (.sipush 999, 3) := by decide +kernel
theorem dX1_sum_99 : decode cX1_sum 99 = .ok (.invokevirtual 68, 3) := by decide +kernel
theorem dX1_sum_102 : decode cX1_sum 102 = .ok (.istore 6, 2) := by decide +kernel
theorem dX1_sum_104 : decode cX1_sum 104 = .ok (.iconst 0, 1) := by decide +kernel
theorem dX1_sum_105 : decode cX1_sum 105 = .ok (.istore 7, 2) := by decide +kernel
theorem dX1_sum_107 : decode cX1_sum 107 = .ok (.iload 7, 2) := by decide +kernel
theorem dX1_sum_109 : decode cX1_sum 109 = .ok (.bipush 36, 2) := by decide +kernel
theorem dX1_sum_111 : decode cX1_sum 111 = .ok (.if_icmp .ge 56, 3) := by decide +kernel
theorem dX1_sum_114 : decode cX1_sum 114 = .ok (.aload_n 1, 1) := by decide +kernel
theorem dX1_sum_115 : decode cX1_sum 115 = .ok (.iload 7, 2) := by decide +kernel
theorem dX1_sum_117 : decode cX1_sum 117 = .ok (.dup2, 1) := by decide +kernel
theorem dX1_sum_118 : decode cX1_sum 118 = .ok (.iaload, 1) := by decide +kernel
theorem dX1_sum_119 : decode cX1_sum 119 = .ok (.iload_n 3, 1) := by decide +kernel
theorem dX1_sum_120 : decode cX1_sum 120 = .ok (.ifCond .eq 11, 3) := by decide +kernel
theorem dX1_sum_123 : decode cX1_sum 123 = .ok (.iload 7, 2) := by decide +kernel
theorem dX1_sum_125 : decode cX1_sum 125 = .ok (.bipush 6, 2) := by decide +kernel
theorem dX1_sum_127 : decode cX1_sum 127 = .ok (.idiv, 1) := by decide +kernel
theorem dX1_sum_128 : decode cX1_sum 128 = .ok (.goto 31, 3) := by decide +kernel
theorem dX1_sum_131 : decode cX1_sum 131 = .ok (.iload 4, 2) := by decide +kernel
theorem dX1_sum_133 : decode cX1_sum 133 = .ok (.ifCond .eq 11, 3) := by decide +kernel
theorem dX1_sum_136 : decode cX1_sum 136 = .ok (.iload 7, 2) := by decide +kernel
theorem dX1_sum_138 : decode cX1_sum 138 = .ok (.bipush 6, 2) := by decide +kernel
theorem dX1_sum_140 : decode cX1_sum 140 = .ok (.irem, 1) := by decide +kernel
theorem dX1_sum_141 : decode cX1_sum 141 = .ok (.goto 18, 3) := by decide +kernel
theorem dX1_sum_144 : decode cX1_sum 144 = .ok (.iload 5, 2) := by decide +kernel
theorem dX1_sum_146 : decode cX1_sum 146 = .ok (.ifCond .eq 11, 3) := by decide +kernel
theorem dX1_sum_149 : decode cX1_sum 149 = .ok (.iload 7, 2) := by decide +kernel
theorem dX1_sum_151 : decode cX1_sum 151 = .ok (.invokestatic 115, 3) := by decide +kernel
theorem dX1_sum_154 : decode cX1_sum 154 = .ok (.goto 5, 3) := by decide +kernel
theorem dX1_sum_157 : decode cX1_sum 157 = .ok (.iload 6, 2) := by decide +kernel
theorem dX1_sum_159 : decode cX1_sum 159 = .ok (.iadd, 1) := by decide +kernel
theorem dX1_sum_160 : decode cX1_sum 160 = .ok (.iastore, 1) := by decide +kernel
theorem dX1_sum_161 : decode cX1_sum 161 = .ok (.iinc 7 1, 3) := by decide +kernel
theorem dX1_sum_164 : decode cX1_sum 164 = .ok (.goto (-57), 3) := by decide +kernel
theorem dX1_sum_167 : decode cX1_sum 167 = .ok (.aload_n 0, 1) := by decide +kernel
theorem dX1_sum_168 : decode cX1_sum 168 = .ok (.getfield 9, 3) := by decide +kernel
theorem dX1_sum_171 : decode cX1_sum 171 = .ok (.invokevirtual 74, 3) := by decide +kernel
theorem dX1_sum_174 : decode cX1_sum 174 = .ok (.ifCond .ne 15, 3) := by decide +kernel
theorem dX1_sum_177 : decode cX1_sum 177 = .ok (.aload_n 0, 1) := by decide +kernel
theorem dX1_sum_178 : decode cX1_sum 178 = .ok (.getfield 9, 3) := by decide +kernel
theorem dX1_sum_181 : decode cX1_sum 181 = .ok (.bipush 43, 2) := by decide +kernel
theorem dX1_sum_183 : decode cX1_sum 183 = .ok (.invokevirtual 95, 3) := by decide +kernel
theorem dX1_sum_186 : decode cX1_sum 186 = .ok (.ifCond .ne 4, 3) := by decide +kernel
theorem dX1_sum_189 : decode cX1_sum 189 = .ok (.return_, 1) := by decide +kernel
theorem dX1_sum_190 : decode cX1_sum 190 = .ok (.aload_n 0, 1) := by decide +kernel
theorem dX1_sum_191 : decode cX1_sum 191 = .ok (.getfield 9, 3) := by decide +kernel
theorem dX1_sum_194 : decode cX1_sum 194 = .ok (.invokevirtual 65, 3) := by decide +kernel
theorem dX1_sum_197 : decode cX1_sum 197 = .ok (.iinc 2 1, 3) := by decide +kernel
theorem dX1_sum_200 : decode cX1_sum 200 = .ok (.goto (-193), 3) := by decide +kernel
theorem dX1_sum_203 : decode cX1_sum 203 = .ok (.return_, 1) := by decide +kernel
theorem dX1_apart_0 : decode cX1_apart 0 = .ok (.iload_n 0, 1) := by decide +kernel
theorem dX1_apart_1 : decode cX1_apart 1 = .ok (.bipush 6, 2) := by decide +kernel
theorem dX1_apart_3 : decode cX1_apart 3 = .ok (.idiv, 1) := by decide +kernel
theorem dX1_apart_4 : decode cX1_apart 4 = .ok (.iload_n 0, 1) := by decide +kernel
theorem dX1_apart_5 : decode cX1_apart 5 = .ok (.bipush 6, 2) := by decide +kernel
theorem dX1_apart_7 : decode cX1_apart 7 = .ok (.irem, 1) := by decide +kernel
theorem dX1_apart_8 : decode cX1_apart 8 = .ok (.isub, 1) := by decide +kernel
theorem dX1_apart_9 : decode cX1_apart 9 = .ok (.invokestatic 124, 3) := by decide +kernel
theorem dX1_apart_12 : decode cX1_apart 12 = .ok (.istore_n 1, 1) := by decide +kernel
theorem dX1_apart_13 : decode cX1_apart 13 = .ok (.iload_n 1, 1) := by decide +kernel
theorem dX1_apart_14 : decode cX1_apart 14 = .ok (.bipush 6, 2) := by decide +kernel
theorem dX1_apart_16 : decode cX1_apart 16 = .ok (.iload_n 1, 1) := by decide +kernel
theorem dX1_apart_17 : decode cX1_apart 17 = .ok (.isub, 1) := by decide +kernel
theorem dX1_apart_18 : decode cX1_apart 18 = .ok (.invokestatic 129, 3) := by decide +kernel
theorem dX1_apart_21 : decode cX1_apart 21 = .ok (.ireturn, 1) := by decide +kernel
