theorem dX2_init_0 : decode cX2_init 0 = .ok (.aload_n 0, 1) := by decide +kernel
theorem dX2_init_1 : decode cX2_init 1 = .ok (.invokespecial 3, 3) := by decide +kernel
theorem dX2_init_4 : decode cX2_init 4 = .ok (.aload_n 0, 1) := by decide +kernel
theorem dX2_init_5 : decode cX2_init 5 = .ok (.bipush 6, 2) := by decide +kernel
theorem dX2_init_7 : decode cX2_init 7 = .ok (.newarray .int, 2) := by decide +kernel
theorem dX2_init_9 : decode cX2_init 9 = .ok (.putfield 9, 3) := by decide +kernel
theorem dX2_init_12 : decode cX2_init 12 = .ok (.return_, 1) := by decide +kernel
theorem dX2_work_0 : decode cX2_work 0 = .ok (.aload_n 1, 1) := by decide +kernel
theorem dX2_work_1 : decode cX2_work 1 = .ok (.getfield 15, 3) := by decide +kernel
theorem dX2_work_4 : decode cX2_work 4 = .ok (.iconst 0, 1) := by decide +kernel
theorem dX2_work_5 : decode cX2_work 5 = .ok (.aload_n 0, 1) := by decide +kernel
theorem dX2_work_6 : decode cX2_work 6 = .ok (.getfield 9, 3) := by decide +kernel
theorem dX2_work_9 : decode cX2_work 9 = .ok (.iconst 0, 1) := by decide +kernel
theorem dX2_work_10 : decode cX2_work 10 = .ok (.aload_n 0, 1) := by decide +kernel
theorem dX2_work_11 : decode cX2_work 11 = .ok (.getfield 9, 3) := by decide +kernel
theorem dX2_work_14 : decode cX2_work 14 = .ok (.arraylength, 1) := by decide +kernel
theorem dX2_work_15 : decode cX2_work 15 = .ok (.invokestatic 18, 3) := by decide +kernel
theorem dX2_work_18 : decode cX2_work 18 = .ok (.aload_n 0, 1) := by decide +kernel
theorem dX2_work_19 : decode cX2_work 19 = .ok (.iload_n 2, 1) := by decide +kernel
theorem dX2_work_20 : decode cX2_work 20 = .ok (.putfield 24, 3) := by decide +kernel
theorem dX2_work_23 : decode cX2_work 23 = .ok (.aload_n 0, 1) := by decide +kernel
theorem dX2_work_24 : decode cX2_work 24 = .ok (.iconst 0, 1) := by decide +kernel
theorem dX2_work_25 : decode cX2_work 25 = .ok (.putfield 28, 3) := by decide +kernel
theorem dX2_work_28 : decode cX2_work 28 = .ok (.aload_n 0, 1) := by decide +kernel
theorem dX2_work_29 : decode cX2_work 29 = .ok (.iconst 0, 1) := by decide +kernel
theorem dX2_work_30 : decode cX2_work 30 = .ok (.putfield 31, 3) := by decide +kernel
theorem dX2_work_33 : decode cX2_work 33 = .ok (.iconst 0, 1) := by decide +kernel
theorem dX2_work_34 : decode cX2_work 34 = .ok (.istore 4, 2) := by decide +kernel
theorem dX2_work_36 : decode cX2_work 36 = .ok (.iload 4, 2) := by decide +kernel
theorem dX2_work_38 : decode cX2_work 38 = .ok (.iload_n 3, 1) := by decide +kernel
theorem dX2_work_39 : decode cX2_work 39 = .ok (.if_icmp .ge 79, 3) := by decide +kernel
theorem dX2_work_42 : decode cX2_work 42 = .ok (.iconst 0, 1) := by decide +kernel
theorem dX2_work_43 : decode cX2_work 43 = .ok (.istore 5, 2) := by decide +kernel
theorem dX2_work_45 : decode cX2_work 45 = .ok (.iload 5, 2) := by decide +kernel
theorem dX2_work_47 : decode cX2_work 47 = .ok (.aload_n 1, 1) := by decide +kernel
theorem dX2_work_48 : decode cX2_work 48 = .ok (.getfield 34, 3) := by decide +kernel
theorem dX2_work_51 : decode cX2_work 51 = .ok (.if_icmp .ge 61, 3) := by decide +kernel
theorem dX2_work_54 : decode cX2_work 54 = .ok (.aload_n 0, 1) := by decide +kernel
theorem dX2_work_55 : decode cX2_work 55 = .ok (.invokevirtual 37, 3) := by decide +kernel
theorem dX2_work_58 : decode cX2_work 58 = .ok (.bipush 100, 2) := by decide +kernel
theorem dX2_work_60 : decode cX2_work 60 = .ok (.irem, 1) := by decide +kernel
theorem dX2_work_61 : decode cX2_work 61 = .ok (.aload_n 1, 1) := by decide +kernel
theorem dX2_work_62 : decode cX2_work 62 = .ok (.getfield 41, 3) := by decide +kernel
theorem dX2_work_65 : decode cX2_work 65 = .ok (.if_icmp .ge 41, 3) := by decide +kernel
theorem dX2_work_68 : decode cX2_work 68 = .ok (.aload_n 0, 1) := by decide +kernel
theorem dX2_work_69 : decode cX2_work 69 = .ok (.getfield 9, 3) := by decide +kernel
theorem dX2_work_72 : decode cX2_work 72 = .ok (.iload 5, 2) := by decide +kernel
theorem dX2_work_74 : decode cX2_work 74 = .ok (.aload_n 0, 1) := by decide +kernel
theorem dX2_work_75 : decode cX2_work 75 = .ok (.invokevirtual 37, 3) := by decide +kernel
theorem dX2_work_78 : decode cX2_work 78 = .ok (.sipush 216, 3) := by decide +kernel
theorem dX2_work_81 : decode cX2_work 81 = .ok (.irem, 1) := by decide +kernel
theorem dX2_work_82 : decode cX2_work 82 = .ok (.iastore, 1) := by decide +kernel
theorem dX2_work_83 : decode cX2_work 83 = .ok (.aload_n 0, 1) := by decide +kernel
theorem dX2_work_84 : decode cX2_work 84 = .ok (.dup, 1) := by decide +kernel
theorem dX2_work_85 : decode cX2_work 85 = .ok (.getfield 31, 3) := by decide +kernel
theorem dX2_work_88 : decode cX2_work 88 = .ok (.iconst 1, 1) := by decide +kernel
theorem dX2_work_89 : decode cX2_work 89 = .ok (.iload 5, 2) := by decide +kernel
theorem dX2_work_91 : decode cX2_work 91 = .ok (.ishl, 1) := by decide +kernel
theorem dX2_work_92 : decode cX2_work 92 = .ok (.ior, 1) := by decide +kernel
theorem dX2_work_93 : decode cX2_work 93 = .ok (.putfield 31, 3) := by decide +kernel
theorem dX2_work_96 : decode cX2_work 96 = .ok (.aload_n 0, 1) := by decide +kernel
theorem dX2_work_97 : decode cX2_work 97 = .ok (.dup, 1) := by decide +kernel
theorem dX2_work_98 : decode cX2_work 98 = .ok (.getfield 28, 3) := by decide +kernel
theorem dX2_work_101 : decode cX2_work 101 = .ok (.iconst 1, 1) := by decide +kernel
theorem dX2_work_102 : decode cX2_work 102 = .ok (.iadd, 1) := by decide +kernel
theorem dX2_work_103 : decode cX2_work 103 = .ok (.putfield 28, 3) := by decide +kernel
theorem dX2_work_106 : decode cX2_work 106 = .ok (.iinc 5 1, 3) := by decide +kernel
theorem dX2_work_109 : decode cX2_work 109 = .ok (.goto (-64), 3) := by decide +kernel
theorem dX2_work_112 : decode cX2_work 112 = .ok (.iinc 4 1, 3) := by decide +kernel
theorem dX2_work_115 : decode cX2_work 115 = .ok (.goto (-79), 3) := by decide +kernel
theorem dX2_work_118 : decode cX2_work 118 = .ok (.return_, 1) := by decide +kernel
theorem dX2_hasTold_0 : decode cX2_hasTold 0 = .ok (.aload_n 0, 1) := by decide +kernel
theorem dX2_hasTold_1 : decode cX2_hasTold 1 = .ok (.getfield 31, 3) := by decide +kernel
theorem dX2_hasTold_4 : decode cX2_hasTold 4 = .ok (.iload_n 1, 1) := by decide +kernel
theorem dX2_hasTold_5 : decode cX2_hasTold 5 = .ok (.ishr, 1) := by decide +kernel
theorem dX2_hasTold_6 : decode cX2_hasTold 6 = .ok (.iconst 1, 1) := by decide +kernel
theorem dX2_hasTold_7 : decode cX2_hasTold 7 = .ok (.iand, 1) := by decide +kernel
theorem dX2_hasTold_8 : decode cX2_hasTold 8 = .ok (.iconst 1, 1) := by decide +kernel
theorem dX2_hasTold_9 : decode cX2_hasTold 9 = .ok (.if_icmp .ne 7, 3) := by decide +kernel
theorem dX2_hasTold_12 : decode cX2_hasTold 12 = .ok (.iconst 1, 1) := by decide +kernel
theorem dX2_hasTold_13 : decode cX2_hasTold 13 = .ok (.goto 4, 3) := by decide +kernel
theorem dX2_hasTold_16 : decode cX2_hasTold 16 = .ok (.iconst 0, 1) := by decide +kernel
theorem dX2_hasTold_17 : decode cX2_hasTold 17 = .ok (.ireturn, 1) := by decide +kernel
theorem dX2_changedFrom_0 : decode cX2_changedFrom 0 = .ok (.iconst 0, 1) := by decide +kernel
theorem dX2_changedFrom_1 : decode cX2_changedFrom 1 = .ok (.istore_n 2, 1) := by decide +kernel
theorem dX2_changedFrom_2 : decode cX2_changedFrom 2 = .ok (.iconst 0, 1) := by decide +kernel
theorem dX2_changedFrom_3 : decode cX2_changedFrom 3 = .ok (.istore_n 3, 1) := by decide +kernel
theorem dX2_changedFrom_4 : decode cX2_changedFrom 4 = .ok (.iload_n 3, 1) := by decide +kernel
theorem dX2_changedFrom_5 : decode cX2_changedFrom 5 = .ok (.aload_n 1, 1) := by decide +kernel
theorem dX2_changedFrom_6 : decode cX2_changedFrom 6 = .ok (.getfield 34, 3) := by decide +kernel
theorem dX2_changedFrom_9 : decode cX2_changedFrom 9 = .ok (.if_icmp .ge 30, 3) := by decide +kernel
theorem dX2_changedFrom_12 : decode cX2_changedFrom 12 = .ok (.aload_n 0, 1) := by decide +kernel
theorem dX2_changedFrom_13 : decode cX2_changedFrom 13 = .ok (.getfield 9, 3) := by decide +kernel
theorem dX2_changedFrom_16 : decode cX2_changedFrom 16 = .ok (.iload_n 3, 1) := by decide +kernel
theorem dX2_changedFrom_17 : decode cX2_changedFrom 17 = .ok (.iaload, 1) := by decide +kernel
theorem dX2_changedFrom_18 : decode cX2_changedFrom 18 = .ok (.aload_n 1, 1) := by decide +kernel
theorem dX2_changedFrom_19 : decode cX2_changedFrom 19 = .ok (.getfield 15, 3) := by decide +kernel
theorem dX2_changedFrom_22 : decode cX2_changedFrom 22 = .ok (.iload_n 3, 1) := by decide +kernel
theorem dX2_changedFrom_23 : decode cX2_changedFrom 23 = .ok (.iaload, 1) := by decide +kernel
theorem dX2_changedFrom_24 : decode cX2_changedFrom 24 = .ok (.if_icmp .eq 9, 3) := by decide +kernel
theorem dX2_changedFrom_27 : decode cX2_changedFrom 27 = .ok (.iload_n 2, 1) := by decide +kernel
theorem dX2_changedFrom_28 : decode cX2_changedFrom 28 = .ok (.iconst 1, 1) := by decide +kernel
theorem dX2_changedFrom_29 : decode cX2_changedFrom 29 = .ok (.iload_n 3, 1) := by decide +kernel
theorem dX2_changedFrom_30 : decode cX2_changedFrom 30 = .ok (.ishl, 1) := by decide +kernel
theorem dX2_changedFrom_31 : decode cX2_changedFrom 31 = .ok (.ior, 1) := by decide +kernel
theorem dX2_changedFrom_32 : decode cX2_changedFrom 32 = .ok (.istore_n 2, 1) := by decide +kernel
theorem dX2_changedFrom_33 : decode cX2_changedFrom 33 = .ok (.iinc 3 1, 3) := by decide +kernel
theorem dX2_changedFrom_36 : decode cX2_changedFrom 36 = .ok (.goto (-32), 3) := by decide +kernel
theorem dX2_changedFrom_39 : decode cX2_changedFrom 39 = .ok (.iload_n 2, 1) := by decide +kernel
theorem dX2_changedFrom_40 : decode cX2_changedFrom 40 = .ok (.ireturn, 1) := by decide +kernel
theorem dX2_draw_0 : decode cX2_draw 0 = .ok (.aload_n 0, 1) := by decide +kernel
theorem dX2_draw_1 : decode cX2_draw 1 = .ok (.ldc 44, 2) := by decide +kernel
theorem dX2_draw_3 : decode cX2_draw 3 = .ok (.aload_n 0, 1) := by decide +kernel
theorem dX2_draw_4 : decode cX2_draw 4 = .ok (.getfield 24, 3) := by decide +kernel
theorem dX2_draw_7 : decode cX2_draw 7 = .ok (.imul, 1) := by decide +kernel
theorem dX2_draw_8 : decode cX2_draw 8 = .ok (.sipush 12345, 3) := by decide +kernel
theorem dX2_draw_11 : decode cX2_draw 11 = .ok (.iadd, 1) := by decide +kernel
theorem dX2_draw_12 : decode cX2_draw 12 = .ok (.putfield 24, 3) := by decide +kernel
theorem dX2_draw_15 : decode cX2_draw 15 = .ok (.aload_n 0, 1) := by decide +kernel
theorem dX2_draw_16 : decode cX2_draw 16 = .ok (.getfield 24, 3) := by decide +kernel
theorem dX2_draw_19 : decode cX2_draw 19 = .ok (.bipush 16, 2) := by decide +kernel
theorem dX2_draw_21 : decode cX2_draw 21 = .ok (.iushr, 1) := by decide +kernel
theorem dX2_draw_22 : decode cX2_draw 22 = .ok (.sipush 32767, 3) := by decide +kernel
theorem dX2_draw_25 : decode cX2_draw 25 = .ok (.iand, 1) := by decide +kernel
theorem dX2_draw_26 : decode cX2_draw 26 = .ok (.ireturn, 1) := by decide +kernel
