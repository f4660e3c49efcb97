theorem dX0_init_0 : decode cX0_init 0 = .ok (.aload_n 0, 1) := by decide +kernel
theorem dX0_init_1 : decode cX0_init 1 = .ok (.invokespecial 3, 3) := by decide +kernel
theorem dX0_init_4 : decode cX0_init 4 = .ok (.aload_n 0, 1) := by decide +kernel
theorem dX0_init_5 : decode cX0_init 5 = .ok (.aload_n 1, 1) := by decide +kernel
theorem dX0_init_6 : decode cX0_init 6 = .ok (.putfield 9, 3) := by decide +kernel
theorem dX0_init_9 : decode cX0_init 9 = .ok (.aload_n 0, 1) := by decide +kernel
theorem dX0_init_10 : decode cX0_init 10 = .ok (.aload_n 2, 1) := by decide +kernel
theorem dX0_init_11 : decode cX0_init 11 = .ok (.putfield 15, 3) := by decide +kernel
theorem dX0_init_14 : decode cX0_init 14 = .ok (.return_, 1) := by decide +kernel
theorem dX0_read_0 : decode cX0_read 0 = .ok (.aload_n 0, 1) := by decide +kernel
theorem dX0_read_1 : decode cX0_read 1 = .ok (.aload_n 0, 1) := by decide +kernel
theorem dX0_read_2 : decode cX0_read 2 = .ok (.getfield 15, 3) := by decide +kernel
theorem dX0_read_5 : decode cX0_read 5 = .ok (.getfield 19, 3) := by decide +kernel
theorem dX0_read_8 : decode cX0_read 8 = .ok (.putfield 25, 3) := by decide +kernel
theorem dX0_read_11 : decode cX0_read 11 = .ok (.aload_n 0, 1) := by decide +kernel
theorem dX0_read_12 : decode cX0_read 12 = .ok (.aload_n 0, 1) := by decide +kernel
theorem dX0_read_13 : decode cX0_read 13 = .ok (.getfield 15, 3) := by decide +kernel
theorem dX0_read_16 : decode cX0_read 16 = .ok (.getfield 26, 3) := by decide +kernel
theorem dX0_read_19 : decode cX0_read 19 = .ok (.putfield 29, 3) := by decide +kernel
theorem dX0_read_22 : decode cX0_read 22 = .ok (.aload_n 0, 1) := by decide +kernel
theorem dX0_read_23 : decode cX0_read 23 = .ok (.aload_n 0, 1) := by decide +kernel
theorem dX0_read_24 : decode cX0_read 24 = .ok (.getfield 15, 3) := by decide +kernel
theorem dX0_read_27 : decode cX0_read 27 = .ok (.getfield 30, 3) := by decide +kernel
theorem dX0_read_30 : decode cX0_read 30 = .ok (.putfield 33, 3) := by decide +kernel
theorem dX0_read_33 : decode cX0_read 33 = .ok (.aload_n 0, 1) := by decide +kernel
theorem dX0_read_34 : decode cX0_read 34 = .ok (.aload_n 0, 1) := by decide +kernel
theorem dX0_read_35 : decode cX0_read 35 = .ok (.getfield 15, 3) := by decide +kernel
theorem dX0_read_38 : decode cX0_read 38 = .ok (.getfield 34, 3) := by decide +kernel
theorem dX0_read_41 : decode cX0_read 41 = .ok (.putfield 37, 3) := by decide +kernel
theorem dX0_read_44 : decode cX0_read 44 = .ok (.aload_n 0, 1) := by decide +kernel
theorem dX0_read_45 : decode cX0_read 45 = .ok (.getfield 9, 3) := by decide +kernel
theorem dX0_read_48 : decode cX0_read 48 = .ok (.invokevirtual 38, 3) := by decide +kernel
theorem dX0_read_51 : decode cX0_read 51 = .ok (.aload_n 0, 1) := by decide +kernel
theorem dX0_read_52 : decode cX0_read 52 = .ok (.getfield 9, 3) := by decide +kernel
theorem dX0_read_55 : decode cX0_read 55 = .ok (.getfield 43, 3) := by decide +kernel
theorem dX0_read_58 : decode cX0_read 58 = .ok (.ifCond .ne 5, 3) := by decide +kernel
theorem dX0_read_61 : decode cX0_read 61 = .ok (.iconst 1, 1) := by decide +kernel
theorem dX0_read_62 : decode cX0_read 62 = .ok (.ireturn, 1) := by decide +kernel
theorem dX0_read_63 : decode cX0_read 63 = .ok (.iconst 0, 1) := by decide +kernel
theorem dX0_read_64 : decode cX0_read 64 = .ok (.istore_n 1, 1) := by decide +kernel
theorem dX0_read_65 : decode cX0_read 65 = .ok (.iload_n 1, 1) := by decide +kernel
theorem dX0_read_66 : decode cX0_read 66 = .ok (.bipush 14, 2) := by decide +kernel
theorem dX0_read_68 : decode cX0_read 68 = .ok (.if_icmp .ge 44, 3) := by decide +kernel
theorem dX0_read_71 : decode cX0_read 71 = .ok (.aload_n 0, 1) := by decide +kernel
theorem dX0_read_72 : decode cX0_read 72 = .ok (.invokevirtual 46, 3) := by decide +kernel
theorem dX0_read_75 : decode cX0_read 75 = .ok (.ifCond .ne 5, 3) := by decide +kernel
theorem dX0_read_78 : decode cX0_read 78 = .ok (.iconst 0, 1) := by decide +kernel
theorem dX0_read_79 : decode cX0_read 79 = .ok (.ireturn, 1) := by decide +kernel
theorem dX0_read_80 : decode cX0_read 80 = .ok (.aload_n 0, 1) := by decide +kernel
theorem dX0_read_81 : decode cX0_read 81 = .ok (.getfield 9, 3) := by decide +kernel
theorem dX0_read_84 : decode cX0_read 84 = .ok (.getfield 43, 3) := by decide +kernel
theorem dX0_read_87 : decode cX0_read 87 = .ok (.ifCond .ne 5, 3) := by decide +kernel
theorem dX0_read_90 : decode cX0_read 90 = .ok (.iconst 1, 1) := by decide +kernel
theorem dX0_read_91 : decode cX0_read 91 = .ok (.ireturn, 1) := by decide +kernel
theorem dX0_read_92 : decode cX0_read 92 = .ok (.aload_n 0, 1) := by decide +kernel
theorem dX0_read_93 : decode cX0_read 93 = .ok (.getfield 9, 3) := by decide +kernel
theorem dX0_read_96 : decode cX0_read 96 = .ok (.bipush 59, 2) := by decide +kernel
theorem dX0_read_98 : decode cX0_read 98 = .ok (.invokevirtual 50, 3) := by decide +kernel
theorem dX0_read_101 : decode cX0_read 101 = .ok (.ifCond .ne 5, 3) := by decide +kernel
theorem dX0_read_104 : decode cX0_read 104 = .ok (.iconst 0, 1) := by decide +kernel
theorem dX0_read_105 : decode cX0_read 105 = .ok (.ireturn, 1) := by decide +kernel
theorem dX0_read_106 : decode cX0_read 106 = .ok (.iinc 1 1, 3) := by decide +kernel
theorem dX0_read_109 : decode cX0_read 109 = .ok (.goto (-44), 3) := by decide +kernel
theorem dX0_read_112 : decode cX0_read 112 = .ok (.aload_n 0, 1) := by decide +kernel
theorem dX0_read_113 : decode cX0_read 113 = .ok (.getfield 9, 3) := by decide +kernel
theorem dX0_read_116 : decode cX0_read 116 = .ok (.invokevirtual 54, 3) := by decide +kernel
theorem dX0_read_119 : decode cX0_read 119 = .ok (.ireturn, 1) := by decide +kernel
theorem dX0_settle_0 : decode cX0_settle 0 = .ok (.aload_n 0, 1) := by decide +kernel
theorem dX0_settle_1 : decode cX0_settle 1 = .ok (.getfield 15, 3) := by decide +kernel
theorem dX0_settle_4 : decode cX0_settle 4 = .ok (.aload_n 0, 1) := by decide +kernel
theorem dX0_settle_5 : decode cX0_settle 5 = .ok (.getfield 25, 3) := by decide +kernel
theorem dX0_settle_8 : decode cX0_settle 8 = .ok (.putfield 19, 3) := by decide +kernel
theorem dX0_settle_11 : decode cX0_settle 11 = .ok (.aload_n 0, 1) := by decide +kernel
theorem dX0_settle_12 : decode cX0_settle 12 = .ok (.getfield 15, 3) := by decide +kernel
theorem dX0_settle_15 : decode cX0_settle 15 = .ok (.aload_n 0, 1) := by decide +kernel
theorem dX0_settle_16 : decode cX0_settle 16 = .ok (.getfield 29, 3) := by decide +kernel
theorem dX0_settle_19 : decode cX0_settle 19 = .ok (.putfield 26, 3) := by decide +kernel
theorem dX0_settle_22 : decode cX0_settle 22 = .ok (.aload_n 0, 1) := by decide +kernel
theorem dX0_settle_23 : decode cX0_settle 23 = .ok (.getfield 15, 3) := by decide +kernel
theorem dX0_settle_26 : decode cX0_settle 26 = .ok (.aload_n 0, 1) := by decide +kernel
theorem dX0_settle_27 : decode cX0_settle 27 = .ok (.getfield 33, 3) := by decide +kernel
theorem dX0_settle_30 : decode cX0_settle 30 = .ok (.putfield 30, 3) := by decide +kernel
theorem dX0_settle_33 : decode cX0_settle 33 = .ok (.aload_n 0, 1) := by decide +kernel
theorem dX0_settle_34 : decode cX0_settle 34 = .ok (.getfield 15, 3) := by decide +kernel
theorem dX0_settle_37 : decode cX0_settle 37 = .ok (.aload_n 0, 1) := by decide +kernel
theorem dX0_settle_38 : decode cX0_settle 38 = .ok (.getfield 37, 3) := by decide +kernel
theorem dX0_settle_41 : decode cX0_settle 41 = .ok (.putfield 34, 3) := by decide +kernel
theorem dX0_settle_44 : decode cX0_settle 44 = .ok (.return_, 1) := by decide +kernel
theorem dX0_line_0 : decode cX0_line 0 = .ok (.aload_n 0, 1) := by decide +kernel
theorem dX0_line_1 : decode cX0_line 1 = .ok (.getfield 9, 3) := by decide +kernel
theorem dX0_line_4 : decode cX0_line 4 = .ok (.ldc 57, 2) := by decide +kernel
theorem dX0_line_6 : decode cX0_line 6 = .ok (.invokevirtual 59, 3) := by decide +kernel
theorem dX0_line_9 : decode cX0_line 9 = .ok (.ifCond .eq 8, 3) := by decide +kernel
theorem dX0_line_12 : decode cX0_line 12 = .ok (.aload_n 0, 1) := by decide +kernel
theorem dX0_line_13 : decode cX0_line 13 = .ok (.invokevirtual 63, 3) := by decide +kernel
theorem dX0_line_16 : decode cX0_line 16 = .ok (.ireturn, 1) := by decide +kernel
theorem dX0_line_17 : decode cX0_line 17 = .ok (.aload_n 0, 1) := by decide +kernel
theorem dX0_line_18 : decode cX0_line 18 = .ok (.getfield 9, 3) := by decide +kernel
theorem dX0_line_21 : decode cX0_line 21 = .ok (.ldc 66, 2) := by decide +kernel
theorem dX0_line_23 : decode cX0_line 23 = .ok (.invokevirtual 59, 3) := by decide +kernel
theorem dX0_line_26 : decode cX0_line 26 = .ok (.ifCond .eq 8, 3) := by decide +kernel
theorem dX0_line_29 : decode cX0_line 29 = .ok (.aload_n 0, 1) := by decide +kernel
theorem dX0_line_30 : decode cX0_line 30 = .ok (.invokevirtual 68, 3) := by decide +kernel
theorem dX0_line_33 : decode cX0_line 33 = .ok (.ireturn, 1) := by decide +kernel
theorem dX0_line_34 : decode cX0_line 34 = .ok (.aload_n 0, 1) := by decide +kernel
theorem dX0_line_35 : decode cX0_line 35 = .ok (.getfield 9, 3) := by decide +kernel
theorem dX0_line_38 : decode cX0_line 38 = .ok (.ldc 71, 2) := by decide +kernel
theorem dX0_line_40 : decode cX0_line 40 = .ok (.invokevirtual 59, 3) := by decide +kernel
theorem dX0_line_43 : decode cX0_line 43 = .ok (.ifCond .eq 9, 3) := by decide +kernel
theorem dX0_line_46 : decode cX0_line 46 = .ok (.aload_n 0, 1) := by decide +kernel
theorem dX0_line_47 : decode cX0_line 47 = .ok (.iconst 0, 1) := by decide +kernel
theorem dX0_line_48 : decode cX0_line 48 = .ok (.invokevirtual 73, 3) := by decide +kernel
theorem dX0_line_51 : decode cX0_line 51 = .ok (.ireturn, 1) := by decide +kernel
theorem dX0_line_52 : decode cX0_line 52 = .ok (.aload_n 0, 1) := by decide +kernel
theorem dX0_line_53 : decode cX0_line 53 = .ok (.getfield 9, 3) := by decide +kernel
theorem dX0_line_56 : decode cX0_line 56 = .ok (.ldc 77, 2) := by decide +kernel
theorem dX0_line_58 : decode cX0_line 58 = .ok (.invokevirtual 59, 3) := by decide +kernel
theorem dX0_line_61 : decode cX0_line 61 = .ok (.ifCond .eq 9, 3) := by decide +kernel
theorem dX0_line_64 : decode cX0_line 64 = .ok (.aload_n 0, 1) := by decide +kernel
theorem dX0_line_65 : decode cX0_line 65 = .ok (.iconst 1, 1) := by decide +kernel
theorem dX0_line_66 : decode cX0_line 66 = .ok (.invokevirtual 73, 3) := by decide +kernel
theorem dX0_line_69 : decode cX0_line 69 = .ok (.ireturn, 1) := by decide +kernel
theorem dX0_line_70 : decode cX0_line 70 = .ok (.aload_n 0, 1) := by decide +kernel
theorem dX0_line_71 : decode cX0_line 71 = .ok (.getfield 9, 3) := by decide +kernel
theorem dX0_line_74 : decode cX0_line 74 = .ok (.ldc 79, 2) := by decide +kernel
theorem dX0_line_76 : decode cX0_line 76 = .ok (.invokevirtual 59, 3) := by decide +kernel
theorem dX0_line_79 : decode cX0_line 79 = .ok (.ifCond .eq 39, 3) := by decide +kernel
theorem dX0_line_82 : decode cX0_line 82 = .ok (.aload_n 0, 1) := by decide +kernel
theorem dX0_line_83 : decode cX0_line 83 = .ok (.getfield 9, 3) := by decide +kernel
theorem dX0_line_86 : decode cX0_line 86 = .ok (.invokevirtual 81, 3) := by decide +kernel
theorem dX0_line_89 : decode cX0_line 89 = .ok (.aload_n 0, 1) := by decide +kernel
theorem dX0_line_90 : decode cX0_line 90 = .ok (.aload_n 0, 1) := by decide +kernel
theorem dX0_line_91 : decode cX0_line 91 = .ok (.getfield 9, 3) := by decide +kernel
theorem dX0_line_94 : decode cX0_line 94 = .ok (.bipush 100, 2) := by decide +kernel
theorem dX0_line_96 : decode cX0_line 96 = .ok (.invokevirtual 84, 3) := by decide +kernel
theorem dX0_line_99 : decode cX0_line 99 = .ok (.putfield 37, 3) := by decide +kernel
theorem dX0_line_102 : decode cX0_line 102 = .ok (.aload_n 0, 1) := by decide +kernel
theorem dX0_line_103 : decode cX0_line 103 = .ok (.getfield 9, 3) := by decide +kernel
theorem dX0_line_106 : decode cX0_line 106 = .ok (.invokevirtual 88, 3) := by decide +kernel
theorem dX0_line_109 : decode cX0_line 109 = .ok (.ifCond .ne 7, 3) := by decide +kernel
theorem dX0_line_112 : decode cX0_line 112 = .ok (.iconst 1, 1) := by decide +kernel
theorem dX0_line_113 : decode cX0_line 113 = .ok (.goto 4, 3) := by decide +kernel
theorem dX0_line_116 : decode cX0_line 116 = .ok (.iconst 0, 1) := by decide +kernel
theorem dX0_line_117 : decode cX0_line 117 = .ok (.ireturn, 1) := by decide +kernel
theorem dX0_line_118 : decode cX0_line 118 = .ok (.aload_n 0, 1) := by decide +kernel
theorem dX0_line_119 : decode cX0_line 119 = .ok (.getfield 9, 3) := by decide +kernel
theorem dX0_line_122 : decode cX0_line 122 = .ok (.invokevirtual 54, 3) := by decide +kernel
theorem dX0_line_125 : decode cX0_line 125 = .ok (.ireturn, 1) := by decide +kernel
theorem dX0_vaultLine_0 : decode cX0_vaultLine 0 = .ok (.aload_n 0, 1) := by decide +kernel
theorem dX0_vaultLine_1 : decode cX0_vaultLine 1 = .ok (.getfield 25, 3) := by decide +kernel
theorem dX0_vaultLine_4 : decode cX0_vaultLine 4 = .ok (.bipush 6, 2) := by decide +kernel
theorem dX0_vaultLine_6 : decode cX0_vaultLine 6 = .ok (.if_icmp .lt 11, 3) := by decide +kernel
theorem dX0_vaultLine_9 : decode cX0_vaultLine 9 = .ok (.aload_n 0, 1) := by decide +kernel
theorem dX0_vaultLine_10 : decode cX0_vaultLine 10 = .ok (.getfield 9, 3) := by decide +kernel
theorem dX0_vaultLine_13 : decode cX0_vaultLine 13 = .ok (.invokevirtual 54, 3) := by decide +kernel
theorem dX0_vaultLine_16 : decode cX0_vaultLine 16 = .ok (.ireturn, 1) := by decide +kernel
theorem dX0_vaultLine_17 : decode cX0_vaultLine 17 = .ok (.aload_n 0, 1) := by decide +kernel
theorem dX0_vaultLine_18 : decode cX0_vaultLine 18 = .ok (.getfield 9, 3) := by decide +kernel
theorem dX0_vaultLine_21 : decode cX0_vaultLine 21 = .ok (.invokevirtual 81, 3) := by decide +kernel
theorem dX0_vaultLine_24 : decode cX0_vaultLine 24 = .ok (.aload_n 0, 1) := by decide +kernel
theorem dX0_vaultLine_25 : decode cX0_vaultLine 25 = .ok (.getfield 9, 3) := by decide +kernel
theorem dX0_vaultLine_28 : decode cX0_vaultLine 28 = .ok (.invokevirtual 91, 3) := by decide +kernel
theorem dX0_vaultLine_31 : decode cX0_vaultLine 31 = .ok (.istore_n 1, 1) := by decide +kernel
theorem dX0_vaultLine_32 : decode cX0_vaultLine 32 = .ok (.iload_n 1, 1) := by decide +kernel
theorem dX0_vaultLine_33 : decode cX0_vaultLine 33 = .ok (.iconst (-1), 1) := by decide +kernel
theorem dX0_vaultLine_34 : decode cX0_vaultLine 34 = .ok (.if_icmp .eq 15, 3) := by decide +kernel
theorem dX0_vaultLine_37 : decode cX0_vaultLine 37 = .ok (.aload_n 0, 1) := by decide +kernel
theorem dX0_vaultLine_38 : decode cX0_vaultLine 38 = .ok (.getfield 9, 3) := by decide +kernel
theorem dX0_vaultLine_41 : decode cX0_vaultLine 41 = .ok (.ldc 95, 2) := by decide +kernel
theorem dX0_vaultLine_43 : decode cX0_vaultLine 43 = .ok (.invokevirtual 97, 3) := by decide +kernel
theorem dX0_vaultLine_46 : decode cX0_vaultLine 46 = .ok (.ifCond .ne 5, 3) := by decide +kernel
theorem dX0_vaultLine_49 : decode cX0_vaultLine 49 = .ok (.iconst 0, 1) := by decide +kernel
theorem dX0_vaultLine_50 : decode cX0_vaultLine 50 = .ok (.ireturn, 1) := by decide +kernel
theorem dX0_vaultLine_51 : decode cX0_vaultLine 51 = .ok (.aload_n 0, 1) := by decide +kernel
theorem dX0_vaultLine_52 : decode cX0_vaultLine 52 = .ok (.getfield 9, 3) := by decide +kernel
theorem dX0_vaultLine_55 : decode cX0_vaultLine 55 = .ok (.sipush 999, 3) := by decide +kernel
theorem dX0_vaultLine_58 : decode cX0_vaultLine 58 = .ok (.invokevirtual 84, 3) := by decide +kernel
theorem dX0_vaultLine_61 : decode cX0_vaultLine 61 = .ok (.istore_n 2, 1) := by decide +kernel
theorem dX0_vaultLine_62 : decode cX0_vaultLine 62 = .ok (.iload_n 2, 1) := by decide +kernel
theorem dX0_vaultLine_63 : decode cX0_vaultLine 63 = .ok (.iconst (-1), 1) := by decide +kernel
theorem dX0_vaultLine_64 : decode cX0_vaultLine 64 = .ok (.if_icmp .ne 7, 3) := by decide +kernel
theorem dX0_vaultLine_67 : decode cX0_vaultLine 67 = .ok (.iconst 0, 1) := by decide +kernel
theorem dX0_vaultLine_68 : decode cX0_vaultLine 68 = .ok (.goto 7, 3) := by decide +kernel
theorem dX0_vaultLine_71 : decode cX0_vaultLine 71 = .ok (.aload_n 0, 1) := by decide +kernel
theorem dX0_vaultLine_72 : decode cX0_vaultLine 72 = .ok (.invokevirtual 100, 3) := by decide +kernel
theorem dX0_vaultLine_75 : decode cX0_vaultLine 75 = .ok (.istore_n 3, 1) := by decide +kernel
theorem dX0_vaultLine_76 : decode cX0_vaultLine 76 = .ok (.aload_n 0, 1) := by decide +kernel
theorem dX0_vaultLine_77 : decode cX0_vaultLine 77 = .ok (.getfield 9, 3) := by decide +kernel
theorem dX0_vaultLine_80 : decode cX0_vaultLine 80 = .ok (.invokevirtual 88, 3) := by decide +kernel
theorem dX0_vaultLine_83 : decode cX0_vaultLine 83 = .ok (.ifCond .eq 5, 3) := by decide +kernel
theorem dX0_vaultLine_86 : decode cX0_vaultLine 86 = .ok (.iconst 0, 1) := by decide +kernel
theorem dX0_vaultLine_87 : decode cX0_vaultLine 87 = .ok (.ireturn, 1) := by decide +kernel
theorem dX0_vaultLine_88 : decode cX0_vaultLine 88 = .ok (.aload_n 0, 1) := by decide +kernel
theorem dX0_vaultLine_89 : decode cX0_vaultLine 89 = .ok (.getfield 15, 3) := by decide +kernel
theorem dX0_vaultLine_92 : decode cX0_vaultLine 92 = .ok (.getfield 103, 3) := by decide +kernel
theorem dX0_vaultLine_95 : decode cX0_vaultLine 95 = .ok (.aload_n 0, 1) := by decide +kernel
theorem dX0_vaultLine_96 : decode cX0_vaultLine 96 = .ok (.getfield 25, 3) := by decide +kernel
theorem dX0_vaultLine_99 : decode cX0_vaultLine 99 = .ok (.iload_n 1, 1) := by decide +kernel
theorem dX0_vaultLine_100 : decode cX0_vaultLine 100 = .ok (.iastore, 1) := by decide +kernel
theorem dX0_vaultLine_101 : decode cX0_vaultLine 101 = .ok (.aload_n 0, 1) := by decide +kernel
theorem dX0_vaultLine_102 : decode cX0_vaultLine 102 = .ok (.getfield 15, 3) := by decide +kernel
theorem dX0_vaultLine_105 : decode cX0_vaultLine 105 = .ok (.getfield 107, 3) := by decide +kernel
theorem dX0_vaultLine_108 : decode cX0_vaultLine 108 = .ok (.aload_n 0, 1) := by decide +kernel
theorem dX0_vaultLine_109 : decode cX0_vaultLine 109 = .ok (.getfield 25, 3) := by decide +kernel
theorem dX0_vaultLine_112 : decode cX0_vaultLine 112 = .ok (.iload_n 2, 1) := by decide +kernel
theorem dX0_vaultLine_113 : decode cX0_vaultLine 113 = .ok (.iastore, 1) := by decide +kernel
theorem dX0_vaultLine_114 : decode cX0_vaultLine 114 = .ok (.aload_n 0, 1) := by decide +kernel
theorem dX0_vaultLine_115 : decode cX0_vaultLine 115 = .ok (.getfield 15, 3) := by decide +kernel
theorem dX0_vaultLine_118 : decode cX0_vaultLine 118 = .ok (.getfield 110, 3) := by decide +kernel
theorem dX0_vaultLine_121 : decode cX0_vaultLine 121 = .ok (.aload_n 0, 1) := by decide +kernel
theorem dX0_vaultLine_122 : decode cX0_vaultLine 122 = .ok (.getfield 25, 3) := by decide +kernel
theorem dX0_vaultLine_125 : decode cX0_vaultLine 125 = .ok (.iload_n 3, 1) := by decide +kernel
theorem dX0_vaultLine_126 : decode cX0_vaultLine 126 = .ok (.iastore, 1) := by decide +kernel
theorem dX0_vaultLine_127 : decode cX0_vaultLine 127 = .ok (.aload_n 0, 1) := by decide +kernel
theorem dX0_vaultLine_128 : decode cX0_vaultLine 128 = .ok (.dup, 1) := by decide +kernel
theorem dX0_vaultLine_129 : decode cX0_vaultLine 129 = .ok (.getfield 25, 3) := by decide +kernel
theorem dX0_vaultLine_132 : decode cX0_vaultLine 132 = .ok (.iconst 1, 1) := by decide +kernel
theorem dX0_vaultLine_133 : decode cX0_vaultLine 133 = .ok (.iadd, 1) := by decide +kernel
theorem dX0_vaultLine_134 : decode cX0_vaultLine 134 = .ok (.putfield 25, 3) := by decide +kernel
theorem dX0_vaultLine_137 : decode cX0_vaultLine 137 = .ok (.iconst 1, 1) := by decide +kernel
theorem dX0_vaultLine_138 : decode cX0_vaultLine 138 = .ok (.ireturn, 1) := by decide +kernel
theorem dX0_guardDays_0 : decode cX0_guardDays 0 = .ok (.aload_n 0, 1) := by decide +kernel
theorem dX0_guardDays_1 : decode cX0_guardDays 1 = .ok (.getfield 9, 3) := by decide +kernel
theorem dX0_guardDays_4 : decode cX0_guardDays 4 = .ok (.ldc 113, 2) := by decide +kernel
theorem dX0_guardDays_6 : decode cX0_guardDays 6 = .ok (.invokevirtual 59, 3) := by decide +kernel
theorem dX0_guardDays_9 : decode cX0_guardDays 9 = .ok (.ifCond .ne 5, 3) := by decide +kernel
theorem dX0_guardDays_12 : decode cX0_guardDays 12 = .ok (.iconst 0, 1) := by decide +kernel
theorem dX0_guardDays_13 : decode cX0_guardDays 13 = .ok (.ireturn, 1) := by decide +kernel
theorem dX0_guardDays_14 : decode cX0_guardDays 14 = .ok (.aload_n 0, 1) := by decide +kernel
theorem dX0_guardDays_15 : decode cX0_guardDays 15 = .ok (.getfield 9, 3) := by decide +kernel
theorem dX0_guardDays_18 : decode cX0_guardDays 18 = .ok (.invokevirtual 81, 3) := by decide +kernel
theorem dX0_guardDays_21 : decode cX0_guardDays 21 = .ok (.iconst 0, 1) := by decide +kernel
theorem dX0_guardDays_22 : decode cX0_guardDays 22 = .ok (.istore_n 1, 1) := by decide +kernel
theorem dX0_guardDays_23 : decode cX0_guardDays 23 = .ok (.iconst 0, 1) := by decide +kernel
theorem dX0_guardDays_24 : decode cX0_guardDays 24 = .ok (.istore_n 2, 1) := by decide +kernel
theorem dX0_guardDays_25 : decode cX0_guardDays 25 = .ok (.iload_n 2, 1) := by decide +kernel
theorem dX0_guardDays_26 : decode cX0_guardDays 26 = .ok (.aload_n 0, 1) := by decide +kernel
theorem dX0_guardDays_27 : decode cX0_guardDays 27 = .ok (.getfield 9, 3) := by decide +kernel
theorem dX0_guardDays_30 : decode cX0_guardDays 30 = .ok (.getfield 115, 3) := by decide +kernel
theorem dX0_guardDays_33 : decode cX0_guardDays 33 = .ok (.if_icmp .ge 47, 3) := by decide +kernel
theorem dX0_guardDays_36 : decode cX0_guardDays 36 = .ok (.iload_n 2, 1) := by decide +kernel
theorem dX0_guardDays_37 : decode cX0_guardDays 37 = .ok (.ifCond .eq 14, 3) := by decide +kernel
theorem dX0_guardDays_40 : decode cX0_guardDays 40 = .ok (.aload_n 0, 1) := by decide +kernel
theorem dX0_guardDays_41 : decode cX0_guardDays 41 = .ok (.getfield 9, 3) := by decide +kernel
theorem dX0_guardDays_44 : decode cX0_guardDays 44 = .ok (.getfield 43, 3) := by decide +kernel
theorem dX0_guardDays_47 : decode cX0_guardDays 47 = .ok (.iconst 2, 1) := by decide +kernel
theorem dX0_guardDays_48 : decode cX0_guardDays 48 = .ok (.if_icmp .ne 32, 3) := by decide +kernel
theorem dX0_guardDays_51 : decode cX0_guardDays 51 = .ok (.aload_n 0, 1) := by decide +kernel
theorem dX0_guardDays_52 : decode cX0_guardDays 52 = .ok (.getfield 9, 3) := by decide +kernel
theorem dX0_guardDays_55 : decode cX0_guardDays 55 = .ok (.bipush 6, 2) := by decide +kernel
theorem dX0_guardDays_57 : decode cX0_guardDays 57 = .ok (.invokevirtual 84, 3) := by decide +kernel
theorem dX0_guardDays_60 : decode cX0_guardDays 60 = .ok (.istore_n 3, 1) := by decide +kernel
theorem dX0_guardDays_61 : decode cX0_guardDays 61 = .ok (.iload_n 3, 1) := by decide +kernel
theorem dX0_guardDays_62 : decode cX0_guardDays 62 = .ok (.iconst (-1), 1) := by decide +kernel
theorem dX0_guardDays_63 : decode cX0_guardDays 63 = .ok (.if_icmp .ne 5, 3) := by decide +kernel
theorem dX0_guardDays_66 : decode cX0_guardDays 66 = .ok (.iconst 0, 1) := by decide +kernel
theorem dX0_guardDays_67 : decode cX0_guardDays 67 = .ok (.ireturn, 1) := by decide +kernel
theorem dX0_guardDays_68 : decode cX0_guardDays 68 = .ok (.iload_n 1, 1) := by decide +kernel
theorem dX0_guardDays_69 : decode cX0_guardDays 69 = .ok (.iconst 1, 1) := by decide +kernel
theorem dX0_guardDays_70 : decode cX0_guardDays 70 = .ok (.iload_n 3, 1) := by decide +kernel
theorem dX0_guardDays_71 : decode cX0_guardDays 71 = .ok (.ishl, 1) := by decide +kernel
theorem dX0_guardDays_72 : decode cX0_guardDays 72 = .ok (.ior, 1) := by decide +kernel
theorem dX0_guardDays_73 : decode cX0_guardDays 73 = .ok (.istore_n 1, 1) := by decide +kernel
theorem dX0_guardDays_74 : decode cX0_guardDays 74 = .ok (.iinc 2 1, 3) := by decide +kernel
theorem dX0_guardDays_77 : decode cX0_guardDays 77 = .ok (.goto (-52), 3) := by decide +kernel
theorem dX0_guardDays_80 : decode cX0_guardDays 80 = .ok (.iload_n 1, 1) := by decide +kernel
theorem dX0_guardDays_81 : decode cX0_guardDays 81 = .ok (.ireturn, 1) := by decide +kernel
theorem dX0_personLine_0 : decode cX0_personLine 0 = .ok (.aload_n 0, 1) := by decide +kernel
theorem dX0_personLine_1 : decode cX0_personLine 1 = .ok (.getfield 29, 3) := by decide +kernel
theorem dX0_personLine_4 : decode cX0_personLine 4 = .ok (.bipush 6, 2) := by decide +kernel
theorem dX0_personLine_6 : decode cX0_personLine 6 = .ok (.if_icmp .lt 11, 3) := by decide +kernel
theorem dX0_personLine_9 : decode cX0_personLine 9 = .ok (.aload_n 0, 1) := by decide +kernel
theorem dX0_personLine_10 : decode cX0_personLine 10 = .ok (.getfield 9, 3) := by decide +kernel
theorem dX0_personLine_13 : decode cX0_personLine 13 = .ok (.invokevirtual 54, 3) := by decide +kernel
theorem dX0_personLine_16 : decode cX0_personLine 16 = .ok (.ireturn, 1) := by decide +kernel
theorem dX0_personLine_17 : decode cX0_personLine 17 = .ok (.aload_n 0, 1) := by decide +kernel
theorem dX0_personLine_18 : decode cX0_personLine 18 = .ok (.getfield 9, 3) := by decide +kernel
theorem dX0_personLine_21 : decode cX0_personLine 21 = .ok (.invokevirtual 81, 3) := by decide +kernel
theorem dX0_personLine_24 : decode cX0_personLine 24 = .ok (.aload_n 0, 1) := by decide +kernel
theorem dX0_personLine_25 : decode cX0_personLine 25 = .ok (.dup, 1) := by decide +kernel
theorem dX0_personLine_26 : decode cX0_personLine 26 = .ok (.getfield 29, 3) := by decide +kernel
theorem dX0_personLine_29 : decode cX0_personLine 29 = .ok (.iconst 1, 1) := by decide +kernel
theorem dX0_personLine_30 : decode cX0_personLine 30 = .ok (.iadd, 1) := by decide +kernel
theorem dX0_personLine_31 : decode cX0_personLine 31 = .ok (.putfield 29, 3) := by decide +kernel
theorem dX0_personLine_34 : decode cX0_personLine 34 = .ok (.iconst 1, 1) := by decide +kernel
theorem dX0_personLine_35 : decode cX0_personLine 35 = .ok (.ireturn, 1) := by decide +kernel
theorem dX0_contractLine_0 : decode cX0_contractLine 0 = .ok (.aload_n 0, 1) := by decide +kernel
theorem dX0_contractLine_1 : decode cX0_contractLine 1 = .ok (.getfield 33, 3) := by decide +kernel
theorem dX0_contractLine_4 : decode cX0_contractLine 4 = .ok (.bipush 12, 2) := by decide +kernel
theorem dX0_contractLine_6 : decode cX0_contractLine 6 = .ok (.if_icmp .lt 11, 3) := by decide +kernel
theorem dX0_contractLine_9 : decode cX0_contractLine 9 = .ok (.aload_n 0, 1) := by decide +kernel
theorem dX0_contractLine_10 : decode cX0_contractLine 10 = .ok (.getfield 9, 3) := by decide +kernel
theorem dX0_contractLine_13 : decode cX0_contractLine 13 = .ok (.invokevirtual 54, 3) := by decide +kernel
theorem dX0_contractLine_16 : decode cX0_contractLine 16 = .ok (.ireturn, 1) := by decide +kernel
theorem dX0_contractLine_17 : decode cX0_contractLine 17 = .ok (.aload_n 0, 1) := by decide +kernel
theorem dX0_contractLine_18 : decode cX0_contractLine 18 = .ok (.getfield 9, 3) := by decide +kernel
theorem dX0_contractLine_21 : decode cX0_contractLine 21 = .ok (.invokevirtual 81, 3) := by decide +kernel
theorem dX0_contractLine_24 : decode cX0_contractLine 24 = .ok (.aload_n 0, 1) := by decide +kernel
theorem dX0_contractLine_25 : decode cX0_contractLine 25 = .ok (.getfield 9, 3) := by decide +kernel
theorem dX0_contractLine_28 : decode cX0_contractLine 28 = .ok (.aload_n 0, 1) := by decide +kernel
theorem dX0_contractLine_29 : decode cX0_contractLine 29 = .ok (.getfield 29, 3) := by decide +kernel
theorem dX0_contractLine_32 : decode cX0_contractLine 32 = .ok (.iconst 1, 1) := by decide +kernel
theorem dX0_contractLine_33 : decode cX0_contractLine 33 = .ok (.isub, 1) := by decide +kernel
theorem dX0_contractLine_34 : decode cX0_contractLine 34 = .ok (.invokevirtual 84, 3) := by decide +kernel
theorem dX0_contractLine_37 : decode cX0_contractLine 37 = .ok (.istore_n 2, 1) := by decide +kernel
theorem dX0_contractLine_38 : decode cX0_contractLine 38 = .ok (.iload_n 2, 1) := by decide +kernel
theorem dX0_contractLine_39 : decode cX0_contractLine 39 = .ok (.iconst (-1), 1) := by decide +kernel
theorem dX0_contractLine_40 : decode cX0_contractLine 40 = .ok (.if_icmp .ne 7, 3) := by decide +kernel
theorem dX0_contractLine_43 : decode cX0_contractLine 43 = .ok (.iconst (-1), 1) := by decide +kernel
theorem dX0_contractLine_44 : decode cX0_contractLine 44 = .ok (.goto 16, 3) := by decide +kernel
theorem dX0_contractLine_47 : decode cX0_contractLine 47 = .ok (.aload_n 0, 1) := by decide +kernel
theorem dX0_contractLine_48 : decode cX0_contractLine 48 = .ok (.getfield 9, 3) := by decide +kernel
theorem dX0_contractLine_51 : decode cX0_contractLine 51 = .ok (.aload_n 0, 1) := by decide +kernel
theorem dX0_contractLine_52 : decode cX0_contractLine 52 = .ok (.getfield 25, 3) := by decide +kernel
theorem dX0_contractLine_55 : decode cX0_contractLine 55 = .ok (.iconst 1, 1) := by decide +kernel
theorem dX0_contractLine_56 : decode cX0_contractLine 56 = .ok (.isub, 1) := by decide +kernel
theorem dX0_contractLine_57 : decode cX0_contractLine 57 = .ok (.invokevirtual 84, 3) := by decide +kernel
theorem dX0_contractLine_60 : decode cX0_contractLine 60 = .ok (.istore_n 3, 1) := by decide +kernel
theorem dX0_contractLine_61 : decode cX0_contractLine 61 = .ok (.iload_n 3, 1) := by decide +kernel
theorem dX0_contractLine_62 : decode cX0_contractLine 62 = .ok (.iconst (-1), 1) := by decide +kernel
theorem dX0_contractLine_63 : decode cX0_contractLine 63 = .ok (.if_icmp .ne 5, 3) := by decide +kernel
theorem dX0_contractLine_66 : decode cX0_contractLine 66 = .ok (.iconst 0, 1) := by decide +kernel
theorem dX0_contractLine_67 : decode cX0_contractLine 67 = .ok (.ireturn, 1) := by decide +kernel
theorem dX0_contractLine_68 : decode cX0_contractLine 68 = .ok (.iconst (-1), 1) := by decide +kernel
theorem dX0_contractLine_69 : decode cX0_contractLine 69 = .ok (.istore 4, 2) := by decide +kernel
theorem dX0_contractLine_71 : decode cX0_contractLine 71 = .ok (.iload_n 1, 1) := by decide +kernel
theorem dX0_contractLine_72 : decode cX0_contractLine 72 = .ok (.ifCond .eq 39, 3) := by decide +kernel
theorem dX0_contractLine_75 : decode cX0_contractLine 75 = .ok (.aload_n 0, 1) := by decide +kernel
theorem dX0_contractLine_76 : decode cX0_contractLine 76 = .ok (.getfield 9, 3) := by decide +kernel
theorem dX0_contractLine_79 : decode cX0_contractLine 79 = .ok (.ldc 118, 2) := by decide +kernel
theorem dX0_contractLine_81 : decode cX0_contractLine 81 = .ok (.invokevirtual 97, 3) := by decide +kernel
theorem dX0_contractLine_84 : decode cX0_contractLine 84 = .ok (.ifCond .eq 16, 3) := by decide +kernel
theorem dX0_contractLine_87 : decode cX0_contractLine 87 = .ok (.aload_n 0, 1) := by decide +kernel
theorem dX0_contractLine_88 : decode cX0_contractLine 88 = .ok (.getfield 9, 3) := by decide +kernel
theorem dX0_contractLine_91 : decode cX0_contractLine 91 = .ok (.sipush 999, 3) := by decide +kernel
theorem dX0_contractLine_94 : decode cX0_contractLine 94 = .ok (.invokevirtual 84, 3) := by decide +kernel
theorem dX0_contractLine_97 : decode cX0_contractLine 97 = .ok (.goto 4, 3) := by decide +kernel
theorem dX0_contractLine_100 : decode cX0_contractLine 100 = .ok (.iconst (-1), 1) := by decide +kernel
theorem dX0_contractLine_101 : decode cX0_contractLine 101 = .ok (.istore 4, 2) := by decide +kernel
theorem dX0_contractLine_103 : decode cX0_contractLine 103 = .ok (.iload 4, 2) := by decide +kernel
theorem dX0_contractLine_105 : decode cX0_contractLine 105 = .ok (.iconst (-1), 1) := by decide +kernel
theorem dX0_contractLine_106 : decode cX0_contractLine 106 = .ok (.if_icmp .ne 5, 3) := by decide +kernel
theorem dX0_contractLine_109 : decode cX0_contractLine 109 = .ok (.iconst 0, 1) := by decide +kernel
theorem dX0_contractLine_110 : decode cX0_contractLine 110 = .ok (.ireturn, 1) := by decide +kernel
theorem dX0_contractLine_111 : decode cX0_contractLine 111 = .ok (.aload_n 0, 1) := by decide +kernel
theorem dX0_contractLine_112 : decode cX0_contractLine 112 = .ok (.getfield 15, 3) := by decide +kernel
theorem dX0_contractLine_115 : decode cX0_contractLine 115 = .ok (.getfield 120, 3) := by decide +kernel
theorem dX0_contractLine_118 : decode cX0_contractLine 118 = .ok (.aload_n 0, 1) := by decide +kernel
theorem dX0_contractLine_119 : decode cX0_contractLine 119 = .ok (.getfield 33, 3) := by decide +kernel
theorem dX0_contractLine_122 : decode cX0_contractLine 122 = .ok (.iload_n 2, 1) := by decide +kernel
theorem dX0_contractLine_123 : decode cX0_contractLine 123 = .ok (.iastore, 1) := by decide +kernel
theorem dX0_contractLine_124 : decode cX0_contractLine 124 = .ok (.aload_n 0, 1) := by decide +kernel
theorem dX0_contractLine_125 : decode cX0_contractLine 125 = .ok (.getfield 15, 3) := by decide +kernel
theorem dX0_contractLine_128 : decode cX0_contractLine 128 = .ok (.getfield 123, 3) := by decide +kernel
theorem dX0_contractLine_131 : decode cX0_contractLine 131 = .ok (.aload_n 0, 1) := by decide +kernel
theorem dX0_contractLine_132 : decode cX0_contractLine 132 = .ok (.getfield 33, 3) := by decide +kernel
theorem dX0_contractLine_135 : decode cX0_contractLine 135 = .ok (.iload_n 3, 1) := by decide +kernel
theorem dX0_contractLine_136 : decode cX0_contractLine 136 = .ok (.iastore, 1) := by decide +kernel
theorem dX0_contractLine_137 : decode cX0_contractLine 137 = .ok (.aload_n 0, 1) := by decide +kernel
theorem dX0_contractLine_138 : decode cX0_contractLine 138 = .ok (.getfield 15, 3) := by decide +kernel
theorem dX0_contractLine_141 : decode cX0_contractLine 141 = .ok (.getfield 126, 3) := by decide +kernel
theorem dX0_contractLine_144 : decode cX0_contractLine 144 = .ok (.aload_n 0, 1) := by decide +kernel
theorem dX0_contractLine_145 : decode cX0_contractLine 145 = .ok (.getfield 33, 3) := by decide +kernel
theorem dX0_contractLine_148 : decode cX0_contractLine 148 = .ok (.iload 4, 2) := by decide +kernel
theorem dX0_contractLine_150 : decode cX0_contractLine 150 = .ok (.iastore, 1) := by decide +kernel
theorem dX0_contractLine_151 : decode cX0_contractLine 151 = .ok (.aload_n 0, 1) := by decide +kernel
theorem dX0_contractLine_152 : decode cX0_contractLine 152 = .ok (.dup, 1) := by decide +kernel
theorem dX0_contractLine_153 : decode cX0_contractLine 153 = .ok (.getfield 33, 3) := by decide +kernel
theorem dX0_contractLine_156 : decode cX0_contractLine 156 = .ok (.iconst 1, 1) := by decide +kernel
theorem dX0_contractLine_157 : decode cX0_contractLine 157 = .ok (.iadd, 1) := by decide +kernel
theorem dX0_contractLine_158 : decode cX0_contractLine 158 = .ok (.putfield 33, 3) := by decide +kernel
theorem dX0_contractLine_161 : decode cX0_contractLine 161 = .ok (.iconst 1, 1) := by decide +kernel
theorem dX0_contractLine_162 : decode cX0_contractLine 162 = .ok (.ireturn, 1) := by decide +kernel
