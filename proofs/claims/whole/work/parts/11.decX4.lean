theorem dX4_init_0 : decode cX4_init 0 = .ok (.aload_n 0, 1) := by decide +kernel
theorem dX4_init_1 : decode cX4_init 1 = .ok (.invokespecial 3, 3) := by decide +kernel
theorem dX4_init_4 : decode cX4_init 4 = .ok (.aload_n 0, 1) := by decide +kernel
theorem dX4_init_5 : decode cX4_init 5 = .ok (.aload_n 1, 1) := by decide +kernel
theorem dX4_init_6 : decode cX4_init 6 = .ok (.putfield 9, 3) := by decide +kernel
theorem dX4_init_9 : decode cX4_init 9 = .ok (.aload_n 0, 1) := by decide +kernel
theorem dX4_init_10 : decode cX4_init 10 = .ok (.sipush 216, 3) := by decide +kernel
theorem dX4_init_13 : decode cX4_init 13 = .ok (.newarray .int, 2) := by decide +kernel
theorem dX4_init_15 : decode cX4_init 15 = .ok (.putfield 15, 3) := by decide +kernel
theorem dX4_init_18 : decode cX4_init 18 = .ok (.aload_n 0, 1) := by decide +kernel
theorem dX4_init_19 : decode cX4_init 19 = .ok (.sipush 216, 3) := by decide +kernel
theorem dX4_init_22 : decode cX4_init 22 = .ok (.newarray .boolean, 2) := by decide +kernel
theorem dX4_init_24 : decode cX4_init 24 = .ok (.putfield 19, 3) := by decide +kernel
theorem dX4_init_27 : decode cX4_init 27 = .ok (.aload_n 0, 1) := by decide +kernel
theorem dX4_init_28 : decode cX4_init 28 = .ok (.bipush 36, 2) := by decide +kernel
theorem dX4_init_30 : decode cX4_init 30 = .ok (.newarray .int, 2) := by decide +kernel
theorem dX4_init_32 : decode cX4_init 32 = .ok (.putfield 23, 3) := by decide +kernel
theorem dX4_init_35 : decode cX4_init 35 = .ok (.aload_n 0, 1) := by decide +kernel
theorem dX4_init_36 : decode cX4_init 36 = .ok (.sipush 7129, 3) := by decide +kernel
theorem dX4_init_39 : decode cX4_init 39 = .ok (.newarray .int, 2) := by decide +kernel
theorem dX4_init_41 : decode cX4_init 41 = .ok (.putfield 26, 3) := by decide +kernel
theorem dX4_init_44 : decode cX4_init 44 = .ok (.aload_n 0, 1) := by decide +kernel
theorem dX4_init_45 : decode cX4_init 45 = .ok (.sipush 1296, 3) := by decide +kernel
theorem dX4_init_48 : decode cX4_init 48 = .ok (.newarray .int, 2) := by decide +kernel
theorem dX4_init_50 : decode cX4_init 50 = .ok (.putfield 29, 3) := by decide +kernel
theorem dX4_init_53 : decode cX4_init 53 = .ok (.aload_n 0, 1) := by decide +kernel
theorem dX4_init_54 : decode cX4_init 54 = .ok (.bipush 64, 2) := by decide +kernel
theorem dX4_init_56 : decode cX4_init 56 = .ok (.newarray .int, 2) := by decide +kernel
theorem dX4_init_58 : decode cX4_init 58 = .ok (.putfield 32, 3) := by decide +kernel
theorem dX4_init_61 : decode cX4_init 61 = .ok (.aload_n 0, 1) := by decide +kernel
theorem dX4_init_62 : decode cX4_init 62 = .ok (.bipush 18, 2) := by decide +kernel
theorem dX4_init_64 : decode cX4_init 64 = .ok (.newarray .int, 2) := by decide +kernel
theorem dX4_init_66 : decode cX4_init 66 = .ok (.putfield 35, 3) := by decide +kernel
theorem dX4_init_69 : decode cX4_init 69 = .ok (.return_, 1) := by decide +kernel
theorem dX4_load_0 : decode cX4_load 0 = .ok (.aload_n 0, 1) := by decide +kernel
theorem dX4_load_1 : decode cX4_load 1 = .ok (.iconst 0, 1) := by decide +kernel
theorem dX4_load_2 : decode cX4_load 2 = .ok (.putfield 38, 3) := by decide +kernel
theorem dX4_load_5 : decode cX4_load 5 = .ok (.iconst 0, 1) := by decide +kernel
theorem dX4_load_6 : decode cX4_load 6 = .ok (.istore_n 3, 1) := by decide +kernel
theorem dX4_load_7 : decode cX4_load 7 = .ok (.iload_n 3, 1) := by decide +kernel
theorem dX4_load_8 : decode cX4_load 8 = .ok (.sipush 216, 3) := by decide +kernel
theorem dX4_load_11 : decode cX4_load 11 = .ok (.if_icmp .ge 54, 3) := by decide +kernel
theorem dX4_load_14 : decode cX4_load 14 = .ok (.aload_n 0, 1) := by decide +kernel
theorem dX4_load_15 : decode cX4_load 15 = .ok (.getfield 19, 3) := by decide +kernel
theorem dX4_load_18 : decode cX4_load 18 = .ok (.iload_n 3, 1) := by decide +kernel
theorem dX4_load_19 : decode cX4_load 19 = .ok (.aload_n 0, 1) := by decide +kernel
theorem dX4_load_20 : decode cX4_load 20 = .ok (.getfield 9, 3) := by decide +kernel
theorem dX4_load_23 : decode cX4_load 23 = .ok (.iload_n 1, 1) := by decide +kernel
theorem dX4_load_24 : decode cX4_load 24 = .ok (.iload_n 2, 1) := by decide +kernel
theorem dX4_load_25 : decode cX4_load 25 = .ok (.iload_n 3, 1) := by decide +kernel
theorem dX4_load_26 : decode cX4_load 26 = .ok (.invokevirtual 42, 3) := by decide +kernel
theorem dX4_load_29 : decode cX4_load 29 = .ok (.bastore, 1) := by decide +kernel
theorem dX4_load_30 : decode cX4_load 30 = .ok (.aload_n 0, 1) := by decide +kernel
theorem dX4_load_31 : decode cX4_load 31 = .ok (.getfield 19, 3) := by decide +kernel
theorem dX4_load_34 : decode cX4_load 34 = .ok (.iload_n 3, 1) := by decide +kernel
theorem dX4_load_35 : decode cX4_load 35 = .ok (.baload, 1) := by decide +kernel
theorem dX4_load_36 : decode cX4_load 36 = .ok (.ifCond .eq 23, 3) := by decide +kernel
theorem dX4_load_39 : decode cX4_load 39 = .ok (.aload_n 0, 1) := by decide +kernel
theorem dX4_load_40 : decode cX4_load 40 = .ok (.getfield 15, 3) := by decide +kernel
theorem dX4_load_43 : decode cX4_load 43 = .ok (.aload_n 0, 1) := by decide +kernel
theorem dX4_load_44 : decode cX4_load 44 = .ok (.getfield 38, 3) := by decide +kernel
theorem dX4_load_47 : decode cX4_load 47 = .ok (.iload_n 3, 1) := by decide +kernel
theorem dX4_load_48 : decode cX4_load 48 = .ok (.iastore, 1) := by decide +kernel
theorem dX4_load_49 : decode cX4_load 49 = .ok (.aload_n 0, 1) := by decide +kernel
theorem dX4_load_50 : decode cX4_load 50 = .ok (.dup, 1) := by decide +kernel
theorem dX4_load_51 : decode cX4_load 51 = .ok (.getfield 38, 3) := by decide +kernel
theorem dX4_load_54 : decode cX4_load 54 = .ok (.iconst 1, 1) := by decide +kernel
theorem dX4_load_55 : decode cX4_load 55 = .ok (.iadd, 1) := by decide +kernel
theorem dX4_load_56 : decode cX4_load 56 = .ok (.putfield 38, 3) := by decide +kernel
theorem dX4_load_59 : decode cX4_load 59 = .ok (.iinc 3 1, 3) := by decide +kernel
theorem dX4_load_62 : decode cX4_load 62 = .ok (.goto (-55), 3) := by decide +kernel
theorem dX4_load_65 : decode cX4_load 65 = .ok (.return_, 1) := by decide +kernel
theorem dX4_loadAllBut_0 : decode cX4_loadAllBut 0 = .ok (.aload_n 0, 1) := by decide +kernel
theorem dX4_loadAllBut_1 : decode cX4_loadAllBut 1 = .ok (.iconst 0, 1) := by decide +kernel
theorem dX4_loadAllBut_2 : decode cX4_loadAllBut 2 = .ok (.putfield 38, 3) := by decide +kernel
theorem dX4_loadAllBut_5 : decode cX4_loadAllBut 5 = .ok (.iconst 0, 1) := by decide +kernel
theorem dX4_loadAllBut_6 : decode cX4_loadAllBut 6 = .ok (.istore_n 2, 1) := by decide +kernel
theorem dX4_loadAllBut_7 : decode cX4_loadAllBut 7 = .ok (.iload_n 2, 1) := by decide +kernel
theorem dX4_loadAllBut_8 : decode cX4_loadAllBut 8 = .ok (.sipush 216, 3) := by decide +kernel
theorem dX4_loadAllBut_11 : decode cX4_loadAllBut 11 = .ok (.if_icmp .ge 54, 3) := by decide +kernel
theorem dX4_loadAllBut_14 : decode cX4_loadAllBut 14 = .ok (.aload_n 0, 1) := by decide +kernel
theorem dX4_loadAllBut_15 : decode cX4_loadAllBut 15 = .ok (.getfield 19, 3) := by decide +kernel
theorem dX4_loadAllBut_18 : decode cX4_loadAllBut 18 = .ok (.iload_n 2, 1) := by decide +kernel
theorem dX4_loadAllBut_19 : decode cX4_loadAllBut 19 = .ok (.iload_n 2, 1) := by decide +kernel
theorem dX4_loadAllBut_20 : decode cX4_loadAllBut 20 = .ok (.iload_n 1, 1) := by decide +kernel
theorem dX4_loadAllBut_21 : decode cX4_loadAllBut 21 = .ok (.if_icmp .eq 7, 3) := by decide +kernel
theorem dX4_loadAllBut_24 : decode cX4_loadAllBut 24 = .ok (.iconst 1, 1) := by decide +kernel
theorem dX4_loadAllBut_25 : decode cX4_loadAllBut 25 = .ok (.goto 4, 3) := by decide +kernel
theorem dX4_loadAllBut_28 : decode cX4_loadAllBut 28 = .ok (.iconst 0, 1) := by decide +kernel
theorem dX4_loadAllBut_29 : decode cX4_loadAllBut 29 = .ok (.bastore, 1) := by decide +kernel
theorem dX4_loadAllBut_30 : decode cX4_loadAllBut 30 = .ok (.aload_n 0, 1) := by decide +kernel
theorem dX4_loadAllBut_31 : decode cX4_loadAllBut 31 = .ok (.getfield 19, 3) := by decide +kernel
theorem dX4_loadAllBut_34 : decode cX4_loadAllBut 34 = .ok (.iload_n 2, 1) := by decide +kernel
theorem dX4_loadAllBut_35 : decode cX4_loadAllBut 35 = .ok (.baload, 1) := by decide +kernel
theorem dX4_loadAllBut_36 : decode cX4_loadAllBut 36 = .ok (.ifCond .eq 23, 3) := by decide +kernel
theorem dX4_loadAllBut_39 : decode cX4_loadAllBut 39 = .ok (.aload_n 0, 1) := by decide +kernel
theorem dX4_loadAllBut_40 : decode cX4_loadAllBut 40 = .ok (.getfield 15, 3) := by decide +kernel
theorem dX4_loadAllBut_43 : decode cX4_loadAllBut 43 = .ok (.aload_n 0, 1) := by decide +kernel
theorem dX4_loadAllBut_44 : decode cX4_loadAllBut 44 = .ok (.getfield 38, 3) := by decide +kernel
theorem dX4_loadAllBut_47 : decode cX4_loadAllBut 47 = .ok (.iload_n 2, 1) := by decide +kernel
theorem dX4_loadAllBut_48 : decode cX4_loadAllBut 48 = .ok (.iastore, 1) := by decide +kernel
theorem dX4_loadAllBut_49 : decode cX4_loadAllBut 49 = .ok (.aload_n 0, 1) := by decide +kernel
theorem dX4_loadAllBut_50 : decode cX4_loadAllBut 50 = .ok (.dup, 1) := by decide +kernel
theorem dX4_loadAllBut_51 : decode cX4_loadAllBut 51 = .ok (.getfield 38, 3) := by decide +kernel
theorem dX4_loadAllBut_54 : decode cX4_loadAllBut 54 = .ok (.iconst 1, 1) := by decide +kernel
theorem dX4_loadAllBut_55 : decode cX4_loadAllBut 55 = .ok (.iadd, 1) := by decide +kernel
theorem dX4_loadAllBut_56 : decode cX4_loadAllBut 56 = .ok (.putfield 38, 3) := by decide +kernel
theorem dX4_loadAllBut_59 : decode cX4_loadAllBut 59 = .ok (.iinc 2 1, 3) := by decide +kernel
theorem dX4_loadAllBut_62 : decode cX4_loadAllBut 62 = .ok (.goto (-55), 3) := by decide +kernel
theorem dX4_loadAllBut_65 : decode cX4_loadAllBut 65 = .ok (.return_, 1) := by decide +kernel
theorem dX4_hear_0 : decode cX4_hear 0 = .ok (.aload_n 0, 1) := by decide +kernel
theorem dX4_hear_1 : decode cX4_hear 1 = .ok (.iload_n 1, 1) := by decide +kernel
theorem dX4_hear_2 : decode cX4_hear 2 = .ok (.invokevirtual 48, 3) := by decide +kernel
theorem dX4_hear_5 : decode cX4_hear 5 = .ok (.aload_n 0, 1) := by decide +kernel
theorem dX4_hear_6 : decode cX4_hear 6 = .ok (.iload_n 2, 1) := by decide +kernel
theorem dX4_hear_7 : decode cX4_hear 7 = .ok (.invokevirtual 52, 3) := by decide +kernel
theorem dX4_hear_10 : decode cX4_hear 10 = .ok (.istore_n 3, 1) := by decide +kernel
theorem dX4_hear_11 : decode cX4_hear 11 = .ok (.iconst 0, 1) := by decide +kernel
theorem dX4_hear_12 : decode cX4_hear 12 = .ok (.istore 4, 2) := by decide +kernel
theorem dX4_hear_14 : decode cX4_hear 14 = .ok (.iconst 0, 1) := by decide +kernel
theorem dX4_hear_15 : decode cX4_hear 15 = .ok (.istore 5, 2) := by decide +kernel
theorem dX4_hear_17 : decode cX4_hear 17 = .ok (.iload 5, 2) := by decide +kernel
theorem dX4_hear_19 : decode cX4_hear 19 = .ok (.aload_n 0, 1) := by decide +kernel
theorem dX4_hear_20 : decode cX4_hear 20 = .ok (.getfield 38, 3) := by decide +kernel
theorem dX4_hear_23 : decode cX4_hear 23 = .ok (.if_icmp .ge 86, 3) := by decide +kernel
theorem dX4_hear_26 : decode cX4_hear 26 = .ok (.aload_n 0, 1) := by decide +kernel
theorem dX4_hear_27 : decode cX4_hear 27 = .ok (.getfield 15, 3) := by decide +kernel
theorem dX4_hear_30 : decode cX4_hear 30 = .ok (.iload 5, 2) := by decide +kernel
theorem dX4_hear_32 : decode cX4_hear 32 = .ok (.iaload, 1) := by decide +kernel
theorem dX4_hear_33 : decode cX4_hear 33 = .ok (.istore 6, 2) := by decide +kernel
theorem dX4_hear_35 : decode cX4_hear 35 = .ok (.iload_n 1, 1) := by decide +kernel
theorem dX4_hear_36 : decode cX4_hear 36 = .ok (.iload_n 2, 1) := by decide +kernel
theorem dX4_hear_37 : decode cX4_hear 37 = .ok (.if_icmp .ne 17, 3) := by decide +kernel
theorem dX4_hear_40 : decode cX4_hear 40 = .ok (.iload 6, 2) := by decide +kernel
theorem dX4_hear_42 : decode cX4_hear 42 = .ok (.iload_n 1, 1) := by decide +kernel
theorem dX4_hear_43 : decode cX4_hear 43 = .ok (.if_icmp .ne 7, 3) := by decide +kernel
theorem dX4_hear_46 : decode cX4_hear 46 = .ok (.iconst 1, 1) := by decide +kernel
theorem dX4_hear_47 : decode cX4_hear 47 = .ok (.goto 28, 3) := by decide +kernel
theorem dX4_hear_50 : decode cX4_hear 50 = .ok (.iconst 0, 1) := by decide +kernel
theorem dX4_hear_51 : decode cX4_hear 51 = .ok (.goto 24, 3) := by decide +kernel
theorem dX4_hear_54 : decode cX4_hear 54 = .ok (.iload 6, 2) := by decide +kernel
theorem dX4_hear_56 : decode cX4_hear 56 = .ok (.iload_n 1, 1) := by decide +kernel
theorem dX4_hear_57 : decode cX4_hear 57 = .ok (.if_icmp .eq 17, 3) := by decide +kernel
theorem dX4_hear_60 : decode cX4_hear 60 = .ok (.aload_n 0, 1) := by decide +kernel
theorem dX4_hear_61 : decode cX4_hear 61 = .ok (.iload 6, 2) := by decide +kernel
theorem dX4_hear_63 : decode cX4_hear 63 = .ok (.invokevirtual 52, 3) := by decide +kernel
theorem dX4_hear_66 : decode cX4_hear 66 = .ok (.iload_n 3, 1) := by decide +kernel
theorem dX4_hear_67 : decode cX4_hear 67 = .ok (.if_icmp .ne 7, 3) := by decide +kernel
theorem dX4_hear_70 : decode cX4_hear 70 = .ok (.iconst 1, 1) := by decide +kernel
theorem dX4_hear_71 : decode cX4_hear 71 = .ok (.goto 4, 3) := by decide +kernel
theorem dX4_hear_74 : decode cX4_hear 74 = .ok (.iconst 0, 1) := by decide +kernel
theorem dX4_hear_75 : decode cX4_hear 75 = .ok (.istore 7, 2) := by decide +kernel
theorem dX4_hear_77 : decode cX4_hear 77 = .ok (.aload_n 0, 1) := by decide +kernel
theorem dX4_hear_78 : decode cX4_hear 78 = .ok (.getfield 19, 3) := by decide +kernel
theorem dX4_hear_81 : decode cX4_hear 81 = .ok (.iload 6, 2) := by decide +kernel
theorem dX4_hear_83 : decode cX4_hear 83 = .ok (.iload 7, 2) := by decide +kernel
theorem dX4_hear_85 : decode cX4_hear 85 = .ok (.bastore, 1) := by decide +kernel
theorem dX4_hear_86 : decode cX4_hear 86 = .ok (.iload 7, 2) := by decide +kernel
theorem dX4_hear_88 : decode cX4_hear 88 = .ok (.ifCond .eq 15, 3) := by decide +kernel
theorem dX4_hear_91 : decode cX4_hear 91 = .ok (.aload_n 0, 1) := by decide +kernel
theorem dX4_hear_92 : decode cX4_hear 92 = .ok (.getfield 15, 3) := by decide +kernel
theorem dX4_hear_95 : decode cX4_hear 95 = .ok (.iload 4, 2) := by decide +kernel
theorem dX4_hear_97 : decode cX4_hear 97 = .ok (.iload 6, 2) := by decide +kernel
theorem dX4_hear_99 : decode cX4_hear 99 = .ok (.iastore, 1) := by decide +kernel
theorem dX4_hear_100 : decode cX4_hear 100 = .ok (.iinc 4 1, 3) := by decide +kernel
theorem dX4_hear_103 : decode cX4_hear 103 = .ok (.iinc 5 1, 3) := by decide +kernel
theorem dX4_hear_106 : decode cX4_hear 106 = .ok (.goto (-89), 3) := by decide +kernel
theorem dX4_hear_109 : decode cX4_hear 109 = .ok (.aload_n 0, 1) := by decide +kernel
theorem dX4_hear_110 : decode cX4_hear 110 = .ok (.iload 4, 2) := by decide +kernel
theorem dX4_hear_112 : decode cX4_hear 112 = .ok (.putfield 38, 3) := by decide +kernel
theorem dX4_hear_115 : decode cX4_hear 115 = .ok (.return_, 1) := by decide +kernel
theorem dX4_sidesOf_0 : decode cX4_sidesOf 0 = .ok (.iload_n 1, 1) := by decide +kernel
theorem dX4_sidesOf_1 : decode cX4_sidesOf 1 = .ok (.ifCond .ne 8, 3) := by decide +kernel
theorem dX4_sidesOf_4 : decode cX4_sidesOf 4 = .ok (.bipush 36, 2) := by decide +kernel
theorem dX4_sidesOf_6 : decode cX4_sidesOf 6 = .ok (.goto 14, 3) := by decide +kernel
theorem dX4_sidesOf_9 : decode cX4_sidesOf 9 = .ok (.iload_n 1, 1) := by decide +kernel
theorem dX4_sidesOf_10 : decode cX4_sidesOf 10 = .ok (.iconst 1, 1) := by decide +kernel
theorem dX4_sidesOf_11 : decode cX4_sidesOf 11 = .ok (.if_icmp .ne 8, 3) := by decide +kernel
theorem dX4_sidesOf_14 : decode cX4_sidesOf 14 = .ok (.bipush 6, 2) := by decide +kernel
theorem dX4_sidesOf_16 : decode cX4_sidesOf 16 = .ok (.goto 4, 3) := by decide +kernel
theorem dX4_sidesOf_19 : decode cX4_sidesOf 19 = .ok (.iconst 1, 1) := by decide +kernel
theorem dX4_sidesOf_20 : decode cX4_sidesOf 20 = .ok (.istore_n 2, 1) := by decide +kernel
theorem dX4_sidesOf_21 : decode cX4_sidesOf 21 = .ok (.iconst 0, 1) := by decide +kernel
theorem dX4_sidesOf_22 : decode cX4_sidesOf 22 = .ok (.istore_n 3, 1) := by decide +kernel
theorem dX4_sidesOf_23 : decode cX4_sidesOf 23 = .ok (.iconst 0, 1) := by decide +kernel
theorem dX4_sidesOf_24 : decode cX4_sidesOf 24 = .ok (.istore 4, 2) := by decide +kernel
theorem dX4_sidesOf_26 : decode cX4_sidesOf 26 = .ok (.iload 4, 2) := by decide +kernel
theorem dX4_sidesOf_28 : decode cX4_sidesOf 28 = .ok (.aload_n 0, 1) := by decide +kernel
theorem dX4_sidesOf_29 : decode cX4_sidesOf 29 = .ok (.getfield 38, 3) := by decide +kernel
theorem dX4_sidesOf_32 : decode cX4_sidesOf 32 = .ok (.if_icmp .ge 26, 3) := by decide +kernel
theorem dX4_sidesOf_35 : decode cX4_sidesOf 35 = .ok (.iload_n 3, 1) := by decide +kernel
theorem dX4_sidesOf_36 : decode cX4_sidesOf 36 = .ok (.iconst 1, 1) := by decide +kernel
theorem dX4_sidesOf_37 : decode cX4_sidesOf 37 = .ok (.aload_n 0, 1) := by decide +kernel
theorem dX4_sidesOf_38 : decode cX4_sidesOf 38 = .ok (.getfield 15, 3) := by decide +kernel
theorem dX4_sidesOf_41 : decode cX4_sidesOf 41 = .ok (.iload 4, 2) := by decide +kernel
theorem dX4_sidesOf_43 : decode cX4_sidesOf 43 = .ok (.iaload, 1) := by decide +kernel
theorem dX4_sidesOf_44 : decode cX4_sidesOf 44 = .ok (.iload_n 2, 1) := by decide +kernel
theorem dX4_sidesOf_45 : decode cX4_sidesOf 45 = .ok (.idiv, 1) := by decide +kernel
theorem dX4_sidesOf_46 : decode cX4_sidesOf 46 = .ok (.bipush 6, 2) := by decide +kernel
theorem dX4_sidesOf_48 : decode cX4_sidesOf 48 = .ok (.irem, 1) := by decide +kernel
theorem dX4_sidesOf_49 : decode cX4_sidesOf 49 = .ok (.ishl, 1) := by decide +kernel
theorem dX4_sidesOf_50 : decode cX4_sidesOf 50 = .ok (.ior, 1) := by decide +kernel
theorem dX4_sidesOf_51 : decode cX4_sidesOf 51 = .ok (.istore_n 3, 1) := by decide +kernel
theorem dX4_sidesOf_52 : decode cX4_sidesOf 52 = .ok (.iinc 4 1, 3) := by decide +kernel
theorem dX4_sidesOf_55 : decode cX4_sidesOf 55 = .ok (.goto (-29), 3) := by decide +kernel
theorem dX4_sidesOf_58 : decode cX4_sidesOf 58 = .ok (.iload_n 3, 1) := by decide +kernel
theorem dX4_sidesOf_59 : decode cX4_sidesOf 59 = .ok (.ireturn, 1) := by decide +kernel
theorem dX4_face_0 : decode cX4_face 0 = .ok (.aload_n 0, 1) := by decide +kernel
theorem dX4_face_1 : decode cX4_face 1 = .ok (.getfield 9, 3) := by decide +kernel
theorem dX4_face_4 : decode cX4_face 4 = .ok (.getfield 56, 3) := by decide +kernel
theorem dX4_face_7 : decode cX4_face 7 = .ok (.astore_n 2, 1) := by decide +kernel
theorem dX4_face_8 : decode cX4_face 8 = .ok (.iload_n 1, 1) := by decide +kernel
theorem dX4_face_9 : decode cX4_face 9 = .ok (.bipush 36, 2) := by decide +kernel
theorem dX4_face_11 : decode cX4_face 11 = .ok (.idiv, 1) := by decide +kernel
theorem dX4_face_12 : decode cX4_face 12 = .ok (.bipush 6, 2) := by decide +kernel
theorem dX4_face_14 : decode cX4_face 14 = .ok (.imul, 1) := by decide +kernel
theorem dX4_face_15 : decode cX4_face 15 = .ok (.istore_n 3, 1) := by decide +kernel
theorem dX4_face_16 : decode cX4_face 16 = .ok (.bipush 36, 2) := by decide +kernel
theorem dX4_face_18 : decode cX4_face 18 = .ok (.iload_n 1, 1) := by decide +kernel
theorem dX4_face_19 : decode cX4_face 19 = .ok (.bipush 6, 2) := by decide +kernel
theorem dX4_face_21 : decode cX4_face 21 = .ok (.idiv, 1) := by decide +kernel
theorem dX4_face_22 : decode cX4_face 22 = .ok (.bipush 6, 2) := by decide +kernel
theorem dX4_face_24 : decode cX4_face 24 = .ok (.irem, 1) := by decide +kernel
theorem dX4_face_25 : decode cX4_face 25 = .ok (.bipush 6, 2) := by decide +kernel
theorem dX4_face_27 : decode cX4_face 27 = .ok (.imul, 1) := by decide +kernel
theorem dX4_face_28 : decode cX4_face 28 = .ok (.iadd, 1) := by decide +kernel
theorem dX4_face_29 : decode cX4_face 29 = .ok (.istore 4, 2) := by decide +kernel
theorem dX4_face_31 : decode cX4_face 31 = .ok (.iconst 0, 1) := by decide +kernel
theorem dX4_face_32 : decode cX4_face 32 = .ok (.istore 5, 2) := by decide +kernel
theorem dX4_face_34 : decode cX4_face 34 = .ok (.iload 5, 2) := by decide +kernel
theorem dX4_face_36 : decode cX4_face 36 = .ok (.bipush 6, 2) := by decide +kernel
theorem dX4_face_38 : decode cX4_face 38 = .ok (.if_icmp .ge 60, 3) := by decide +kernel
theorem dX4_face_41 : decode cX4_face 41 = .ok (.aload_n 2, 1) := by decide +kernel
theorem dX4_face_42 : decode cX4_face 42 = .ok (.iload_n 3, 1) := by decide +kernel
theorem dX4_face_43 : decode cX4_face 43 = .ok (.iload 5, 2) := by decide +kernel
theorem dX4_face_45 : decode cX4_face 45 = .ok (.iadd, 1) := by decide +kernel
theorem dX4_face_46 : decode cX4_face 46 = .ok (.iaload, 1) := by decide +kernel
theorem dX4_face_47 : decode cX4_face 47 = .ok (.sipush 3564, 3) := by decide +kernel
theorem dX4_face_50 : decode cX4_face 50 = .ok (.iadd, 1) := by decide +kernel
theorem dX4_face_51 : decode cX4_face 51 = .ok (.istore 6, 2) := by decide +kernel
theorem dX4_face_53 : decode cX4_face 53 = .ok (.iconst 0, 1) := by decide +kernel
theorem dX4_face_54 : decode cX4_face 54 = .ok (.istore 7, 2) := by decide +kernel
theorem dX4_face_56 : decode cX4_face 56 = .ok (.iload 7, 2) := by decide +kernel
theorem dX4_face_58 : decode cX4_face 58 = .ok (.bipush 6, 2) := by decide +kernel
theorem dX4_face_60 : decode cX4_face 60 = .ok (.if_icmp .ge 32, 3) := by decide +kernel
theorem dX4_face_63 : decode cX4_face 63 = .ok (.aload_n 0, 1) := by decide +kernel
theorem dX4_face_64 : decode cX4_face 64 = .ok (.getfield 23, 3) := by decide +kernel
theorem dX4_face_67 : decode cX4_face 67 = .ok (.iload 5, 2) := by decide +kernel
theorem dX4_face_69 : decode cX4_face 69 = .ok (.bipush 6, 2) := by decide +kernel
theorem dX4_face_71 : decode cX4_face 71 = .ok (.imul, 1) := by decide +kernel
theorem dX4_face_72 : decode cX4_face 72 = .ok (.iload 7, 2) := by decide +kernel
theorem dX4_face_74 : decode cX4_face 74 = .ok (.iadd, 1) := by decide +kernel
theorem dX4_face_75 : decode cX4_face 75 = .ok (.iload 6, 2) := by decide +kernel
theorem dX4_face_77 : decode cX4_face 77 = .ok (.aload_n 2, 1) := by decide +kernel
theorem dX4_face_78 : decode cX4_face 78 = .ok (.iload 4, 2) := by decide +kernel
theorem dX4_face_80 : decode cX4_face 80 = .ok (.iload 7, 2) := by decide +kernel
theorem dX4_face_82 : decode cX4_face 82 = .ok (.iadd, 1) := by decide +kernel
theorem dX4_face_83 : decode cX4_face 83 = .ok (.iaload, 1) := by decide +kernel
theorem dX4_face_84 : decode cX4_face 84 = .ok (.iadd, 1) := by decide +kernel
theorem dX4_face_85 : decode cX4_face 85 = .ok (.iastore, 1) := by decide +kernel
theorem dX4_face_86 : decode cX4_face 86 = .ok (.iinc 7 1, 3) := by decide +kernel
theorem dX4_face_89 : decode cX4_face 89 = .ok (.goto (-33), 3) := by decide +kernel
theorem dX4_face_92 : decode cX4_face 92 = .ok (.iinc 5 1, 3) := by decide +kernel
theorem dX4_face_95 : decode cX4_face 95 = .ok (.goto (-61), 3) := by decide +kernel
theorem dX4_face_98 : decode cX4_face 98 = .ok (.aload_n 0, 1) := by decide +kernel
theorem dX4_face_99 : decode cX4_face 99 = .ok (.bipush 72, 2) := by decide +kernel
theorem dX4_face_101 : decode cX4_face 101 = .ok (.iload_n 1, 1) := by decide +kernel
theorem dX4_face_102 : decode cX4_face 102 = .ok (.bipush 6, 2) := by decide +kernel
theorem dX4_face_104 : decode cX4_face 104 = .ok (.irem, 1) := by decide +kernel
theorem dX4_face_105 : decode cX4_face 105 = .ok (.bipush 6, 2) := by decide +kernel
theorem dX4_face_107 : decode cX4_face 107 = .ok (.imul, 1) := by decide +kernel
theorem dX4_face_108 : decode cX4_face 108 = .ok (.iadd, 1) := by decide +kernel
theorem dX4_face_109 : decode cX4_face 109 = .ok (.putfield 59, 3) := by decide +kernel
theorem dX4_face_112 : decode cX4_face 112 = .ok (.return_, 1) := by decide +kernel
theorem dX4_slotOf_0 : decode cX4_slotOf 0 = .ok (.aload_n 0, 1) := by decide +kernel
theorem dX4_slotOf_1 : decode cX4_slotOf 1 = .ok (.getfield 23, 3) := by decide +kernel
theorem dX4_slotOf_4 : decode cX4_slotOf 4 = .ok (.iload_n 1, 1) := by decide +kernel
theorem dX4_slotOf_5 : decode cX4_slotOf 5 = .ok (.bipush 6, 2) := by decide +kernel
theorem dX4_slotOf_7 : decode cX4_slotOf 7 = .ok (.idiv, 1) := by decide +kernel
theorem dX4_slotOf_8 : decode cX4_slotOf 8 = .ok (.iaload, 1) := by decide +kernel
theorem dX4_slotOf_9 : decode cX4_slotOf 9 = .ok (.aload_n 0, 1) := by decide +kernel
theorem dX4_slotOf_10 : decode cX4_slotOf 10 = .ok (.getfield 9, 3) := by decide +kernel
theorem dX4_slotOf_13 : decode cX4_slotOf 13 = .ok (.getfield 56, 3) := by decide +kernel
theorem dX4_slotOf_16 : decode cX4_slotOf 16 = .ok (.aload_n 0, 1) := by decide +kernel
theorem dX4_slotOf_17 : decode cX4_slotOf 17 = .ok (.getfield 59, 3) := by decide +kernel
theorem dX4_slotOf_20 : decode cX4_slotOf 20 = .ok (.iload_n 1, 1) := by decide +kernel
theorem dX4_slotOf_21 : decode cX4_slotOf 21 = .ok (.bipush 6, 2) := by decide +kernel
theorem dX4_slotOf_23 : decode cX4_slotOf 23 = .ok (.irem, 1) := by decide +kernel
theorem dX4_slotOf_24 : decode cX4_slotOf 24 = .ok (.iadd, 1) := by decide +kernel
theorem dX4_slotOf_25 : decode cX4_slotOf 25 = .ok (.iaload, 1) := by decide +kernel
theorem dX4_slotOf_26 : decode cX4_slotOf 26 = .ok (.iadd, 1) := by decide +kernel
theorem dX4_slotOf_27 : decode cX4_slotOf 27 = .ok (.ireturn, 1) := by decide +kernel
theorem dX4_startTally_0 : decode cX4_startTally 0 = .ok (.aload_n 0, 1) := by decide +kernel
theorem dX4_startTally_1 : decode cX4_startTally 1 = .ok (.getfield 62, 3) := by decide +kernel
theorem dX4_startTally_4 : decode cX4_startTally 4 = .ok (.ldc 65, 2) := by decide +kernel
theorem dX4_startTally_6 : decode cX4_startTally 6 = .ok (.if_icmp .lt 16, 3) := by decide +kernel
theorem dX4_startTally_9 : decode cX4_startTally 9 = .ok (.aload_n 0, 1) := by decide +kernel
theorem dX4_startTally_10 : decode cX4_startTally 10 = .ok (.getfield 26, 3) := by decide +kernel
theorem dX4_startTally_13 : decode cX4_startTally 13 = .ok (.iconst 0, 1) := by decide +kernel
theorem dX4_startTally_14 : decode cX4_startTally 14 = .ok (.invokestatic 66, 3) := by decide +kernel
theorem dX4_startTally_17 : decode cX4_startTally 17 = .ok (.aload_n 0, 1) := by decide +kernel
theorem dX4_startTally_18 : decode cX4_startTally 18 = .ok (.iconst 0, 1) := by decide +kernel
theorem dX4_startTally_19 : decode cX4_startTally 19 = .ok (.putfield 62, 3) := by decide +kernel
theorem dX4_startTally_22 : decode cX4_startTally 22 = .ok (.aload_n 0, 1) := by decide +kernel
theorem dX4_startTally_23 : decode cX4_startTally 23 = .ok (.dup, 1) := by decide +kernel
theorem dX4_startTally_24 : decode cX4_startTally 24 = .ok (.getfield 62, 3) := by decide +kernel
theorem dX4_startTally_27 : decode cX4_startTally 27 = .ok (.sipush 216, 3) := by decide +kernel
theorem dX4_startTally_30 : decode cX4_startTally 30 = .ok (.iadd, 1) := by decide +kernel
theorem dX4_startTally_31 : decode cX4_startTally 31 = .ok (.putfield 62, 3) := by decide +kernel
theorem dX4_startTally_34 : decode cX4_startTally 34 = .ok (.return_, 1) := by decide +kernel
theorem dX4_countOne_0 : decode cX4_countOne 0 = .ok (.aload_n 0, 1) := by decide +kernel
theorem dX4_countOne_1 : decode cX4_countOne 1 = .ok (.getfield 26, 3) := by decide +kernel
theorem dX4_countOne_4 : decode cX4_countOne 4 = .ok (.iload_n 1, 1) := by decide +kernel
theorem dX4_countOne_5 : decode cX4_countOne 5 = .ok (.aload_n 0, 1) := by decide +kernel
theorem dX4_countOne_6 : decode cX4_countOne 6 = .ok (.getfield 26, 3) := by decide +kernel
theorem dX4_countOne_9 : decode cX4_countOne 9 = .ok (.iload_n 1, 1) := by decide +kernel
theorem dX4_countOne_10 : decode cX4_countOne 10 = .ok (.iaload, 1) := by decide +kernel
theorem dX4_countOne_11 : decode cX4_countOne 11 = .ok (.aload_n 0, 1) := by decide +kernel
theorem dX4_countOne_12 : decode cX4_countOne 12 = .ok (.getfield 62, 3) := by decide +kernel
theorem dX4_countOne_15 : decode cX4_countOne 15 = .ok (.invokestatic 72, 3) := by decide +kernel
theorem dX4_countOne_18 : decode cX4_countOne 18 = .ok (.iconst 1, 1) := by decide +kernel
theorem dX4_countOne_19 : decode cX4_countOne 19 = .ok (.iadd, 1) := by decide +kernel
theorem dX4_countOne_20 : decode cX4_countOne 20 = .ok (.iastore, 1) := by decide +kernel
theorem dX4_countOne_21 : decode cX4_countOne 21 = .ok (.aload_n 0, 1) := by decide +kernel
theorem dX4_countOne_22 : decode cX4_countOne 22 = .ok (.getfield 26, 3) := by decide +kernel
theorem dX4_countOne_25 : decode cX4_countOne 25 = .ok (.iload_n 1, 1) := by decide +kernel
theorem dX4_countOne_26 : decode cX4_countOne 26 = .ok (.iaload, 1) := by decide +kernel
theorem dX4_countOne_27 : decode cX4_countOne 27 = .ok (.aload_n 0, 1) := by decide +kernel
theorem dX4_countOne_28 : decode cX4_countOne 28 = .ok (.getfield 62, 3) := by decide +kernel
theorem dX4_countOne_31 : decode cX4_countOne 31 = .ok (.isub, 1) := by decide +kernel
theorem dX4_countOne_32 : decode cX4_countOne 32 = .ok (.ireturn, 1) := by decide +kernel
theorem dX4_partsBy_0 : decode cX4_partsBy 0 = .ok (.aload_n 0, 1) := by decide +kernel
theorem dX4_partsBy_1 : decode cX4_partsBy 1 = .ok (.iload_n 1, 1) := by decide +kernel
theorem dX4_partsBy_2 : decode cX4_partsBy 2 = .ok (.invokevirtual 48, 3) := by decide +kernel
theorem dX4_partsBy_5 : decode cX4_partsBy 5 = .ok (.aload_n 0, 1) := by decide +kernel
theorem dX4_partsBy_6 : decode cX4_partsBy 6 = .ok (.invokevirtual 78, 3) := by decide +kernel
theorem dX4_partsBy_9 : decode cX4_partsBy 9 = .ok (.iconst 0, 1) := by decide +kernel
theorem dX4_partsBy_10 : decode cX4_partsBy 10 = .ok (.istore_n 2, 1) := by decide +kernel
theorem dX4_partsBy_11 : decode cX4_partsBy 11 = .ok (.iconst 0, 1) := by decide +kernel
theorem dX4_partsBy_12 : decode cX4_partsBy 12 = .ok (.istore_n 3, 1) := by decide +kernel
theorem dX4_partsBy_13 : decode cX4_partsBy 13 = .ok (.iload_n 3, 1) := by decide +kernel
theorem dX4_partsBy_14 : decode cX4_partsBy 14 = .ok (.aload_n 0, 1) := by decide +kernel
theorem dX4_partsBy_15 : decode cX4_partsBy 15 = .ok (.getfield 38, 3) := by decide +kernel
theorem dX4_partsBy_18 : decode cX4_partsBy 18 = .ok (.if_icmp .ge 40, 3) := by decide +kernel
theorem dX4_partsBy_21 : decode cX4_partsBy 21 = .ok (.aload_n 0, 1) := by decide +kernel
theorem dX4_partsBy_22 : decode cX4_partsBy 22 = .ok (.getfield 15, 3) := by decide +kernel
theorem dX4_partsBy_25 : decode cX4_partsBy 25 = .ok (.iload_n 3, 1) := by decide +kernel
theorem dX4_partsBy_26 : decode cX4_partsBy 26 = .ok (.iaload, 1) := by decide +kernel
theorem dX4_partsBy_27 : decode cX4_partsBy 27 = .ok (.iload_n 1, 1) := by decide +kernel
theorem dX4_partsBy_28 : decode cX4_partsBy 28 = .ok (.if_icmp .eq 21, 3) := by decide +kernel
theorem dX4_partsBy_31 : decode cX4_partsBy 31 = .ok (.aload_n 0, 1) := by decide +kernel
theorem dX4_partsBy_32 : decode cX4_partsBy 32 = .ok (.aload_n 0, 1) := by decide +kernel
theorem dX4_partsBy_33 : decode cX4_partsBy 33 = .ok (.aload_n 0, 1) := by decide +kernel
theorem dX4_partsBy_34 : decode cX4_partsBy 34 = .ok (.getfield 15, 3) := by decide +kernel
theorem dX4_partsBy_37 : decode cX4_partsBy 37 = .ok (.iload_n 3, 1) := by decide +kernel
theorem dX4_partsBy_38 : decode cX4_partsBy 38 = .ok (.iaload, 1) := by decide +kernel
theorem dX4_partsBy_39 : decode cX4_partsBy 39 = .ok (.invokevirtual 52, 3) := by decide +kernel
theorem dX4_partsBy_42 : decode cX4_partsBy 42 = .ok (.invokevirtual 81, 3) := by decide +kernel
theorem dX4_partsBy_45 : decode cX4_partsBy 45 = .ok (.iconst 1, 1) := by decide +kernel
theorem dX4_partsBy_46 : decode cX4_partsBy 46 = .ok (.if_icmp .ne 6, 3) := by decide +kernel
theorem dX4_partsBy_49 : decode cX4_partsBy 49 = .ok (.iinc 2 1, 3) := by decide +kernel
theorem dX4_partsBy_52 : decode cX4_partsBy 52 = .ok (.iinc 3 1, 3) := by decide +kernel
theorem dX4_partsBy_55 : decode cX4_partsBy 55 = .ok (.goto (-42), 3) := by decide +kernel
theorem dX4_partsBy_58 : decode cX4_partsBy 58 = .ok (.iload_n 2, 1) := by decide +kernel
theorem dX4_partsBy_59 : decode cX4_partsBy 59 = .ok (.ireturn, 1) := by decide +kernel
theorem dX4_greatestPart_0 : decode cX4_greatestPart 0 = .ok (.aload_n 0, 1) := by decide +kernel
theorem dX4_greatestPart_1 : decode cX4_greatestPart 1 = .ok (.iload_n 1, 1) := by decide +kernel
theorem dX4_greatestPart_2 : decode cX4_greatestPart 2 = .ok (.invokevirtual 48, 3) := by decide +kernel
theorem dX4_greatestPart_5 : decode cX4_greatestPart 5 = .ok (.aload_n 0, 1) := by decide +kernel
theorem dX4_greatestPart_6 : decode cX4_greatestPart 6 = .ok (.invokevirtual 78, 3) := by decide +kernel
theorem dX4_greatestPart_9 : decode cX4_greatestPart 9 = .ok (.iconst 0, 1) := by decide +kernel
theorem dX4_greatestPart_10 : decode cX4_greatestPart 10 = .ok (.istore_n 3, 1) := by decide +kernel
theorem dX4_greatestPart_11 : decode cX4_greatestPart 11 = .ok (.iconst 0, 1) := by decide +kernel
theorem dX4_greatestPart_12 : decode cX4_greatestPart 12 = .ok (.istore 4, 2) := by decide +kernel
theorem dX4_greatestPart_14 : decode cX4_greatestPart 14 = .ok (.iload 4, 2) := by decide +kernel
theorem dX4_greatestPart_16 : decode cX4_greatestPart 16 = .ok (.aload_n 0, 1) := by decide +kernel
theorem dX4_greatestPart_17 : decode cX4_greatestPart 17 = .ok (.getfield 38, 3) := by decide +kernel
theorem dX4_greatestPart_20 : decode cX4_greatestPart 20 = .ok (.if_icmp .ge 49, 3) := by decide +kernel
theorem dX4_greatestPart_23 : decode cX4_greatestPart 23 = .ok (.iload_n 3, 1) := by decide +kernel
theorem dX4_greatestPart_24 : decode cX4_greatestPart 24 = .ok (.iload_n 2, 1) := by decide +kernel
theorem dX4_greatestPart_25 : decode cX4_greatestPart 25 = .ok (.if_icmp .ge 44, 3) := by decide +kernel
theorem dX4_greatestPart_28 : decode cX4_greatestPart 28 = .ok (.iload_n 3, 1) := by decide +kernel
theorem dX4_greatestPart_29 : decode cX4_greatestPart 29 = .ok (.aload_n 0, 1) := by decide +kernel
theorem dX4_greatestPart_30 : decode cX4_greatestPart 30 = .ok (.getfield 15, 3) := by decide +kernel
theorem dX4_greatestPart_33 : decode cX4_greatestPart 33 = .ok (.iload 4, 2) := by decide +kernel
theorem dX4_greatestPart_35 : decode cX4_greatestPart 35 = .ok (.iaload, 1) := by decide +kernel
theorem dX4_greatestPart_36 : decode cX4_greatestPart 36 = .ok (.iload_n 1, 1) := by decide +kernel
theorem dX4_greatestPart_37 : decode cX4_greatestPart 37 = .ok (.if_icmp .ne 7, 3) := by decide +kernel
theorem dX4_greatestPart_40 : decode cX4_greatestPart 40 = .ok (.iconst 1, 1) := by decide +kernel
theorem dX4_greatestPart_41 : decode cX4_greatestPart 41 = .ok (.goto 18, 3) := by decide +kernel
theorem dX4_greatestPart_44 : decode cX4_greatestPart 44 = .ok (.aload_n 0, 1) := by decide +kernel
theorem dX4_greatestPart_45 : decode cX4_greatestPart 45 = .ok (.aload_n 0, 1) := by decide +kernel
theorem dX4_greatestPart_46 : decode cX4_greatestPart 46 = .ok (.aload_n 0, 1) := by decide +kernel
theorem dX4_greatestPart_47 : decode cX4_greatestPart 47 = .ok (.getfield 15, 3) := by decide +kernel
theorem dX4_greatestPart_50 : decode cX4_greatestPart 50 = .ok (.iload 4, 2) := by decide +kernel
theorem dX4_greatestPart_52 : decode cX4_greatestPart 52 = .ok (.iaload, 1) := by decide +kernel
theorem dX4_greatestPart_53 : decode cX4_greatestPart 53 = .ok (.invokevirtual 52, 3) := by decide +kernel
theorem dX4_greatestPart_56 : decode cX4_greatestPart 56 = .ok (.invokevirtual 81, 3) := by decide +kernel
theorem dX4_greatestPart_59 : decode cX4_greatestPart 59 = .ok (.invokestatic 72, 3) := by decide +kernel
theorem dX4_greatestPart_62 : decode cX4_greatestPart 62 = .ok (.istore_n 3, 1) := by decide +kernel
theorem dX4_greatestPart_63 : decode cX4_greatestPart 63 = .ok (.iinc 4 1, 3) := by decide +kernel
theorem dX4_greatestPart_66 : decode cX4_greatestPart 66 = .ok (.goto (-52), 3) := by decide +kernel
theorem dX4_greatestPart_69 : decode cX4_greatestPart 69 = .ok (.iload_n 3, 1) := by decide +kernel
theorem dX4_greatestPart_70 : decode cX4_greatestPart 70 = .ok (.ireturn, 1) := by decide +kernel
theorem dX4_bestTurning_0 : decode cX4_bestTurning 0 = .ok (.aload_n 0, 1) := by decide +kernel
theorem dX4_bestTurning_1 : decode cX4_bestTurning 1 = .ok (.getfield 38, 3) := by decide +kernel
theorem dX4_bestTurning_4 : decode cX4_bestTurning 4 = .ok (.iconst 1, 1) := by decide +kernel
theorem dX4_bestTurning_5 : decode cX4_bestTurning 5 = .ok (.if_icmp .eq 11, 3) := by decide +kernel
theorem dX4_bestTurning_8 : decode cX4_bestTurning 8 = .ok (.aload_n 0, 1) := by decide +kernel
theorem dX4_bestTurning_9 : decode cX4_bestTurning 9 = .ok (.getfield 38, 3) := by decide +kernel
theorem dX4_bestTurning_12 : decode cX4_bestTurning 12 = .ok (.iconst 2, 1) := by decide +kernel
theorem dX4_bestTurning_13 : decode cX4_bestTurning 13 = .ok (.if_icmp .ne 10, 3) := by decide +kernel
theorem dX4_bestTurning_16 : decode cX4_bestTurning 16 = .ok (.aload_n 0, 1) := by decide +kernel
theorem dX4_bestTurning_17 : decode cX4_bestTurning 17 = .ok (.getfield 15, 3) := by decide +kernel
theorem dX4_bestTurning_20 : decode cX4_bestTurning 20 = .ok (.iconst 0, 1) := by decide +kernel
theorem dX4_bestTurning_21 : decode cX4_bestTurning 21 = .ok (.iaload, 1) := by decide +kernel
theorem dX4_bestTurning_22 : decode cX4_bestTurning 22 = .ok (.ireturn, 1) := by decide +kernel
theorem dX4_bestTurning_23 : decode cX4_bestTurning 23 = .ok (.aload_n 0, 1) := by decide +kernel
theorem dX4_bestTurning_24 : decode cX4_bestTurning 24 = .ok (.invokevirtual 84, 3) := by decide +kernel
theorem dX4_bestTurning_27 : decode cX4_bestTurning 27 = .ok (.aload_n 0, 1) := by decide +kernel
theorem dX4_bestTurning_28 : decode cX4_bestTurning 28 = .ok (.iconst 0, 1) := by decide +kernel
theorem dX4_bestTurning_29 : decode cX4_bestTurning 29 = .ok (.putfield 87, 3) := by decide +kernel
theorem dX4_bestTurning_32 : decode cX4_bestTurning 32 = .ok (.aload_n 0, 1) := by decide +kernel
theorem dX4_bestTurning_33 : decode cX4_bestTurning 33 = .ok (.sipush 217, 3) := by decide +kernel
theorem dX4_bestTurning_36 : decode cX4_bestTurning 36 = .ok (.putfield 90, 3) := by decide +kernel
theorem dX4_bestTurning_39 : decode cX4_bestTurning 39 = .ok (.aload_n 0, 1) := by decide +kernel
theorem dX4_bestTurning_40 : decode cX4_bestTurning 40 = .ok (.iconst 0, 1) := by decide +kernel
theorem dX4_bestTurning_41 : decode cX4_bestTurning 41 = .ok (.putfield 93, 3) := by decide +kernel
theorem dX4_bestTurning_44 : decode cX4_bestTurning 44 = .ok (.iconst 0, 1) := by decide +kernel
theorem dX4_bestTurning_45 : decode cX4_bestTurning 45 = .ok (.istore_n 1, 1) := by decide +kernel
theorem dX4_bestTurning_46 : decode cX4_bestTurning 46 = .ok (.iload_n 1, 1) := by decide +kernel
theorem dX4_bestTurning_47 : decode cX4_bestTurning 47 = .ok (.sipush 216, 3) := by decide +kernel
theorem dX4_bestTurning_50 : decode cX4_bestTurning 50 = .ok (.if_icmp .ge 78, 3) := by decide +kernel
theorem dX4_bestTurning_53 : decode cX4_bestTurning 53 = .ok (.aload_n 0, 1) := by decide +kernel
theorem dX4_bestTurning_54 : decode cX4_bestTurning 54 = .ok (.getfield 90, 3) := by decide +kernel
theorem dX4_bestTurning_57 : decode cX4_bestTurning 57 = .ok (.iconst 1, 1) := by decide +kernel
theorem dX4_bestTurning_58 : decode cX4_bestTurning 58 = .ok (.if_icmp .ne 23, 3) := by decide +kernel
theorem dX4_bestTurning_61 : decode cX4_bestTurning 61 = .ok (.aload_n 0, 1) := by decide +kernel
theorem dX4_bestTurning_62 : decode cX4_bestTurning 62 = .ok (.getfield 93, 3) := by decide +kernel
theorem dX4_bestTurning_65 : decode cX4_bestTurning 65 = .ok (.ifCond .eq 16, 3) := by decide +kernel
theorem dX4_bestTurning_68 : decode cX4_bestTurning 68 = .ok (.aload_n 0, 1) := by decide +kernel
theorem dX4_bestTurning_69 : decode cX4_bestTurning 69 = .ok (.getfield 87, 3) := by decide +kernel
theorem dX4_bestTurning_72 : decode cX4_bestTurning 72 = .ok (.iload_n 1, 1) := by decide +kernel
theorem dX4_bestTurning_73 : decode cX4_bestTurning 73 = .ok (.if_icmp .ge 8, 3) := by decide +kernel
theorem dX4_bestTurning_76 : decode cX4_bestTurning 76 = .ok (.aload_n 0, 1) := by decide +kernel
theorem dX4_bestTurning_77 : decode cX4_bestTurning 77 = .ok (.getfield 87, 3) := by decide +kernel
theorem dX4_bestTurning_80 : decode cX4_bestTurning 80 = .ok (.ireturn, 1) := by decide +kernel
theorem dX4_bestTurning_81 : decode cX4_bestTurning 81 = .ok (.aload_n 0, 1) := by decide +kernel
theorem dX4_bestTurning_82 : decode cX4_bestTurning 82 = .ok (.iload_n 1, 1) := by decide +kernel
theorem dX4_bestTurning_83 : decode cX4_bestTurning 83 = .ok (.invokevirtual 97, 3) := by decide +kernel
theorem dX4_bestTurning_86 : decode cX4_bestTurning 86 = .ok (.ifCond .eq 36, 3) := by decide +kernel
theorem dX4_bestTurning_89 : decode cX4_bestTurning 89 = .ok (.aload_n 0, 1) := by decide +kernel
theorem dX4_bestTurning_90 : decode cX4_bestTurning 90 = .ok (.iload_n 1, 1) := by decide +kernel
theorem dX4_bestTurning_91 : decode cX4_bestTurning 91 = .ok (.aload_n 0, 1) := by decide +kernel
theorem dX4_bestTurning_92 : decode cX4_bestTurning 92 = .ok (.getfield 90, 3) := by decide +kernel
theorem dX4_bestTurning_95 : decode cX4_bestTurning 95 = .ok (.iconst 2, 1) := by decide +kernel
theorem dX4_bestTurning_96 : decode cX4_bestTurning 96 = .ok (.iadd, 1) := by decide +kernel
theorem dX4_bestTurning_97 : decode cX4_bestTurning 97 = .ok (.invokevirtual 101, 3) := by decide +kernel
theorem dX4_bestTurning_100 : decode cX4_bestTurning 100 = .ok (.ifCond .eq 22, 3) := by decide +kernel
theorem dX4_bestTurning_103 : decode cX4_bestTurning 103 = .ok (.aload_n 0, 1) := by decide +kernel
theorem dX4_bestTurning_104 : decode cX4_bestTurning 104 = .ok (.iload_n 1, 1) := by decide +kernel
theorem dX4_bestTurning_105 : decode cX4_bestTurning 105 = .ok (.bipush 36, 2) := by decide +kernel
theorem dX4_bestTurning_107 : decode cX4_bestTurning 107 = .ok (.idiv, 1) := by decide +kernel
theorem dX4_bestTurning_108 : decode cX4_bestTurning 108 = .ok (.iload_n 1, 1) := by decide +kernel
theorem dX4_bestTurning_109 : decode cX4_bestTurning 109 = .ok (.bipush 6, 2) := by decide +kernel
theorem dX4_bestTurning_111 : decode cX4_bestTurning 111 = .ok (.idiv, 1) := by decide +kernel
theorem dX4_bestTurning_112 : decode cX4_bestTurning 112 = .ok (.bipush 6, 2) := by decide +kernel
theorem dX4_bestTurning_114 : decode cX4_bestTurning 114 = .ok (.irem, 1) := by decide +kernel
theorem dX4_bestTurning_115 : decode cX4_bestTurning 115 = .ok (.iload_n 1, 1) := by decide +kernel
theorem dX4_bestTurning_116 : decode cX4_bestTurning 116 = .ok (.bipush 6, 2) := by decide +kernel
theorem dX4_bestTurning_118 : decode cX4_bestTurning 118 = .ok (.irem, 1) := by decide +kernel
theorem dX4_bestTurning_119 : decode cX4_bestTurning 119 = .ok (.invokevirtual 105, 3) := by decide +kernel
theorem dX4_bestTurning_122 : decode cX4_bestTurning 122 = .ok (.iinc 1 1, 3) := by decide +kernel
theorem dX4_bestTurning_125 : decode cX4_bestTurning 125 = .ok (.goto (-79), 3) := by decide +kernel
theorem dX4_bestTurning_128 : decode cX4_bestTurning 128 = .ok (.aload_n 0, 1) := by decide +kernel
theorem dX4_bestTurning_129 : decode cX4_bestTurning 129 = .ok (.getfield 87, 3) := by decide +kernel
theorem dX4_bestTurning_132 : decode cX4_bestTurning 132 = .ok (.ireturn, 1) := by decide +kernel
theorem dX4_findLeaders_0 : decode cX4_findLeaders 0 = .ok (.iconst 0, 1) := by decide +kernel
theorem dX4_findLeaders_1 : decode cX4_findLeaders 1 = .ok (.istore_n 1, 1) := by decide +kernel
theorem dX4_findLeaders_2 : decode cX4_findLeaders 2 = .ok (.iload_n 1, 1) := by decide +kernel
theorem dX4_findLeaders_3 : decode cX4_findLeaders 3 = .ok (.iconst 3, 1) := by decide +kernel
theorem dX4_findLeaders_4 : decode cX4_findLeaders 4 = .ok (.if_icmp .ge 58, 3) := by decide +kernel
theorem dX4_findLeaders_7 : decode cX4_findLeaders 7 = .ok (.iconst 0, 1) := by decide +kernel
theorem dX4_findLeaders_8 : decode cX4_findLeaders 8 = .ok (.istore_n 2, 1) := by decide +kernel
theorem dX4_findLeaders_9 : decode cX4_findLeaders 9 = .ok (.iload_n 2, 1) := by decide +kernel
theorem dX4_findLeaders_10 : decode cX4_findLeaders 10 = .ok (.bipush 6, 2) := by decide +kernel
theorem dX4_findLeaders_12 : decode cX4_findLeaders 12 = .ok (.if_icmp .ge 44, 3) := by decide +kernel
theorem dX4_findLeaders_15 : decode cX4_findLeaders 15 = .ok (.iconst 0, 1) := by decide +kernel
theorem dX4_findLeaders_16 : decode cX4_findLeaders 16 = .ok (.istore_n 3, 1) := by decide +kernel
theorem dX4_findLeaders_17 : decode cX4_findLeaders 17 = .ok (.iload_n 3, 1) := by decide +kernel
theorem dX4_findLeaders_18 : decode cX4_findLeaders 18 = .ok (.iload_n 2, 1) := by decide +kernel
theorem dX4_findLeaders_19 : decode cX4_findLeaders 19 = .ok (.if_icmp .ge 19, 3) := by decide +kernel
theorem dX4_findLeaders_22 : decode cX4_findLeaders 22 = .ok (.aload_n 0, 1) := by decide +kernel
theorem dX4_findLeaders_23 : decode cX4_findLeaders 23 = .ok (.iload_n 1, 1) := by decide +kernel
theorem dX4_findLeaders_24 : decode cX4_findLeaders 24 = .ok (.iload_n 3, 1) := by decide +kernel
theorem dX4_findLeaders_25 : decode cX4_findLeaders 25 = .ok (.iload_n 2, 1) := by decide +kernel
theorem dX4_findLeaders_26 : decode cX4_findLeaders 26 = .ok (.invokevirtual 109, 3) := by decide +kernel
theorem dX4_findLeaders_29 : decode cX4_findLeaders 29 = .ok (.ifCond .ne 9, 3) := by decide +kernel
theorem dX4_findLeaders_32 : decode cX4_findLeaders 32 = .ok (.iinc 3 1, 3) := by decide +kernel
theorem dX4_findLeaders_35 : decode cX4_findLeaders 35 = .ok (.goto (-18), 3) := by decide +kernel
theorem dX4_findLeaders_38 : decode cX4_findLeaders 38 = .ok (.aload_n 0, 1) := by decide +kernel
theorem dX4_findLeaders_39 : decode cX4_findLeaders 39 = .ok (.getfield 35, 3) := by decide +kernel
theorem dX4_findLeaders_42 : decode cX4_findLeaders 42 = .ok (.iload_n 1, 1) := by decide +kernel
theorem dX4_findLeaders_43 : decode cX4_findLeaders 43 = .ok (.bipush 6, 2) := by decide +kernel
theorem dX4_findLeaders_45 : decode cX4_findLeaders 45 = .ok (.imul, 1) := by decide +kernel
theorem dX4_findLeaders_46 : decode cX4_findLeaders 46 = .ok (.iload_n 2, 1) := by decide +kernel
theorem dX4_findLeaders_47 : decode cX4_findLeaders 47 = .ok (.iadd, 1) := by decide +kernel
theorem dX4_findLeaders_48 : decode cX4_findLeaders 48 = .ok (.iload_n 3, 1) := by decide +kernel
theorem dX4_findLeaders_49 : decode cX4_findLeaders 49 = .ok (.iastore, 1) := by decide +kernel
theorem dX4_findLeaders_50 : decode cX4_findLeaders 50 = .ok (.iinc 2 1, 3) := by decide +kernel
theorem dX4_findLeaders_53 : decode cX4_findLeaders 53 = .ok (.goto (-44), 3) := by decide +kernel
theorem dX4_findLeaders_56 : decode cX4_findLeaders 56 = .ok (.iinc 1 1, 3) := by decide +kernel
theorem dX4_findLeaders_59 : decode cX4_findLeaders 59 = .ok (.goto (-57), 3) := by decide +kernel
theorem dX4_findLeaders_62 : decode cX4_findLeaders 62 = .ok (.return_, 1) := by decide +kernel
theorem dX4_soundsAlike_0 : decode cX4_soundsAlike 0 = .ok (.aload_n 0, 1) := by decide +kernel
theorem dX4_soundsAlike_1 : decode cX4_soundsAlike 1 = .ok (.getfield 9, 3) := by decide +kernel
theorem dX4_soundsAlike_4 : decode cX4_soundsAlike 4 = .ok (.getfield 56, 3) := by decide +kernel
theorem dX4_soundsAlike_7 : decode cX4_soundsAlike 7 = .ok (.astore 4, 2) := by decide +kernel
theorem dX4_soundsAlike_9 : decode cX4_soundsAlike 9 = .ok (.iload_n 1, 1) := by decide +kernel
theorem dX4_soundsAlike_10 : decode cX4_soundsAlike 10 = .ok (.bipush 36, 2) := by decide +kernel
theorem dX4_soundsAlike_12 : decode cX4_soundsAlike 12 = .ok (.imul, 1) := by decide +kernel
theorem dX4_soundsAlike_13 : decode cX4_soundsAlike 13 = .ok (.iload_n 2, 1) := by decide +kernel
theorem dX4_soundsAlike_14 : decode cX4_soundsAlike 14 = .ok (.bipush 6, 2) := by decide +kernel
theorem dX4_soundsAlike_16 : decode cX4_soundsAlike 16 = .ok (.imul, 1) := by decide +kernel
theorem dX4_soundsAlike_17 : decode cX4_soundsAlike 17 = .ok (.iadd, 1) := by decide +kernel
theorem dX4_soundsAlike_18 : decode cX4_soundsAlike 18 = .ok (.istore 5, 2) := by decide +kernel
theorem dX4_soundsAlike_20 : decode cX4_soundsAlike 20 = .ok (.iload_n 1, 1) := by decide +kernel
theorem dX4_soundsAlike_21 : decode cX4_soundsAlike 21 = .ok (.bipush 36, 2) := by decide +kernel
theorem dX4_soundsAlike_23 : decode cX4_soundsAlike 23 = .ok (.imul, 1) := by decide +kernel
theorem dX4_soundsAlike_24 : decode cX4_soundsAlike 24 = .ok (.iload_n 3, 1) := by decide +kernel
theorem dX4_soundsAlike_25 : decode cX4_soundsAlike 25 = .ok (.bipush 6, 2) := by decide +kernel
theorem dX4_soundsAlike_27 : decode cX4_soundsAlike 27 = .ok (.imul, 1) := by decide +kernel
theorem dX4_soundsAlike_28 : decode cX4_soundsAlike 28 = .ok (.iadd, 1) := by decide +kernel
theorem dX4_soundsAlike_29 : decode cX4_soundsAlike 29 = .ok (.istore 6, 2) := by decide +kernel
theorem dX4_soundsAlike_31 : decode cX4_soundsAlike 31 = .ok (.iconst 1, 1) := by decide +kernel
theorem dX4_soundsAlike_32 : decode cX4_soundsAlike 32 = .ok (.istore 7, 2) := by decide +kernel
theorem dX4_soundsAlike_34 : decode cX4_soundsAlike 34 = .ok (.iload 7, 2) := by decide +kernel
theorem dX4_soundsAlike_36 : decode cX4_soundsAlike 36 = .ok (.bipush 6, 2) := by decide +kernel
theorem dX4_soundsAlike_38 : decode cX4_soundsAlike 38 = .ok (.if_icmp .ge 42, 3) := by decide +kernel
theorem dX4_soundsAlike_41 : decode cX4_soundsAlike 41 = .ok (.aload 4, 2) := by decide +kernel
theorem dX4_soundsAlike_43 : decode cX4_soundsAlike 43 = .ok (.iload 5, 2) := by decide +kernel
theorem dX4_soundsAlike_45 : decode cX4_soundsAlike 45 = .ok (.iload 7, 2) := by decide +kernel
theorem dX4_soundsAlike_47 : decode cX4_soundsAlike 47 = .ok (.iadd, 1) := by decide +kernel
theorem dX4_soundsAlike_48 : decode cX4_soundsAlike 48 = .ok (.iaload, 1) := by decide +kernel
theorem dX4_soundsAlike_49 : decode cX4_soundsAlike 49 = .ok (.aload 4, 2) := by decide +kernel
theorem dX4_soundsAlike_51 : decode cX4_soundsAlike 51 = .ok (.iload 5, 2) := by decide +kernel
theorem dX4_soundsAlike_53 : decode cX4_soundsAlike 53 = .ok (.iaload, 1) := by decide +kernel
theorem dX4_soundsAlike_54 : decode cX4_soundsAlike 54 = .ok (.isub, 1) := by decide +kernel
theorem dX4_soundsAlike_55 : decode cX4_soundsAlike 55 = .ok (.aload 4, 2) := by decide +kernel
theorem dX4_soundsAlike_57 : decode cX4_soundsAlike 57 = .ok (.iload 6, 2) := by decide +kernel
theorem dX4_soundsAlike_59 : decode cX4_soundsAlike 59 = .ok (.iload 7, 2) := by decide +kernel
theorem dX4_soundsAlike_61 : decode cX4_soundsAlike 61 = .ok (.iadd, 1) := by decide +kernel
theorem dX4_soundsAlike_62 : decode cX4_soundsAlike 62 = .ok (.iaload, 1) := by decide +kernel
theorem dX4_soundsAlike_63 : decode cX4_soundsAlike 63 = .ok (.aload 4, 2) := by decide +kernel
theorem dX4_soundsAlike_65 : decode cX4_soundsAlike 65 = .ok (.iload 6, 2) := by decide +kernel
theorem dX4_soundsAlike_67 : decode cX4_soundsAlike 67 = .ok (.iaload, 1) := by decide +kernel
theorem dX4_soundsAlike_68 : decode cX4_soundsAlike 68 = .ok (.isub, 1) := by decide +kernel
theorem dX4_soundsAlike_69 : decode cX4_soundsAlike 69 = .ok (.if_icmp .eq 5, 3) := by decide +kernel
theorem dX4_soundsAlike_72 : decode cX4_soundsAlike 72 = .ok (.iconst 0, 1) := by decide +kernel
theorem dX4_soundsAlike_73 : decode cX4_soundsAlike 73 = .ok (.ireturn, 1) := by decide +kernel
theorem dX4_soundsAlike_74 : decode cX4_soundsAlike 74 = .ok (.iinc 7 1, 3) := by decide +kernel
theorem dX4_soundsAlike_77 : decode cX4_soundsAlike 77 = .ok (.goto (-43), 3) := by decide +kernel
theorem dX4_soundsAlike_80 : decode cX4_soundsAlike 80 = .ok (.iconst 1, 1) := by decide +kernel
theorem dX4_soundsAlike_81 : decode cX4_soundsAlike 81 = .ok (.ireturn, 1) := by decide +kernel
theorem dX4_leads_0 : decode cX4_leads 0 = .ok (.aload_n 0, 1) := by decide +kernel
theorem dX4_leads_1 : decode cX4_leads 1 = .ok (.getfield 35, 3) := by decide +kernel
theorem dX4_leads_4 : decode cX4_leads 4 = .ok (.iload_n 1, 1) := by decide +kernel
theorem dX4_leads_5 : decode cX4_leads 5 = .ok (.bipush 36, 2) := by decide +kernel
theorem dX4_leads_7 : decode cX4_leads 7 = .ok (.idiv, 1) := by decide +kernel
theorem dX4_leads_8 : decode cX4_leads 8 = .ok (.iaload, 1) := by decide +kernel
theorem dX4_leads_9 : decode cX4_leads 9 = .ok (.iload_n 1, 1) := by decide +kernel
theorem dX4_leads_10 : decode cX4_leads 10 = .ok (.bipush 36, 2) := by decide +kernel
theorem dX4_leads_12 : decode cX4_leads 12 = .ok (.idiv, 1) := by decide +kernel
theorem dX4_leads_13 : decode cX4_leads 13 = .ok (.if_icmp .ne 51, 3) := by decide +kernel
theorem dX4_leads_16 : decode cX4_leads 16 = .ok (.aload_n 0, 1) := by decide +kernel
theorem dX4_leads_17 : decode cX4_leads 17 = .ok (.getfield 35, 3) := by decide +kernel
theorem dX4_leads_20 : decode cX4_leads 20 = .ok (.bipush 6, 2) := by decide +kernel
theorem dX4_leads_22 : decode cX4_leads 22 = .ok (.iload_n 1, 1) := by decide +kernel
theorem dX4_leads_23 : decode cX4_leads 23 = .ok (.bipush 6, 2) := by decide +kernel
theorem dX4_leads_25 : decode cX4_leads 25 = .ok (.idiv, 1) := by decide +kernel
theorem dX4_leads_26 : decode cX4_leads 26 = .ok (.bipush 6, 2) := by decide +kernel
theorem dX4_leads_28 : decode cX4_leads 28 = .ok (.irem, 1) := by decide +kernel
theorem dX4_leads_29 : decode cX4_leads 29 = .ok (.iadd, 1) := by decide +kernel
theorem dX4_leads_30 : decode cX4_leads 30 = .ok (.iaload, 1) := by decide +kernel
theorem dX4_leads_31 : decode cX4_leads 31 = .ok (.iload_n 1, 1) := by decide +kernel
theorem dX4_leads_32 : decode cX4_leads 32 = .ok (.bipush 6, 2) := by decide +kernel
theorem dX4_leads_34 : decode cX4_leads 34 = .ok (.idiv, 1) := by decide +kernel
theorem dX4_leads_35 : decode cX4_leads 35 = .ok (.bipush 6, 2) := by decide +kernel
theorem dX4_leads_37 : decode cX4_leads 37 = .ok (.irem, 1) := by decide +kernel
theorem dX4_leads_38 : decode cX4_leads 38 = .ok (.if_icmp .ne 26, 3) := by decide +kernel
theorem dX4_leads_41 : decode cX4_leads 41 = .ok (.aload_n 0, 1) := by decide +kernel
theorem dX4_leads_42 : decode cX4_leads 42 = .ok (.getfield 35, 3) := by decide +kernel
theorem dX4_leads_45 : decode cX4_leads 45 = .ok (.bipush 12, 2) := by decide +kernel
theorem dX4_leads_47 : decode cX4_leads 47 = .ok (.iload_n 1, 1) := by decide +kernel
theorem dX4_leads_48 : decode cX4_leads 48 = .ok (.bipush 6, 2) := by decide +kernel
theorem dX4_leads_50 : decode cX4_leads 50 = .ok (.irem, 1) := by decide +kernel
theorem dX4_leads_51 : decode cX4_leads 51 = .ok (.iadd, 1) := by decide +kernel
theorem dX4_leads_52 : decode cX4_leads 52 = .ok (.iaload, 1) := by decide +kernel
theorem dX4_leads_53 : decode cX4_leads 53 = .ok (.iload_n 1, 1) := by decide +kernel
theorem dX4_leads_54 : decode cX4_leads 54 = .ok (.bipush 6, 2) := by decide +kernel
theorem dX4_leads_56 : decode cX4_leads 56 = .ok (.irem, 1) := by decide +kernel
theorem dX4_leads_57 : decode cX4_leads 57 = .ok (.if_icmp .ne 7, 3) := by decide +kernel
theorem dX4_leads_60 : decode cX4_leads 60 = .ok (.iconst 1, 1) := by decide +kernel
theorem dX4_leads_61 : decode cX4_leads 61 = .ok (.goto 4, 3) := by decide +kernel
theorem dX4_leads_64 : decode cX4_leads 64 = .ok (.iconst 0, 1) := by decide +kernel
theorem dX4_leads_65 : decode cX4_leads 65 = .ok (.ireturn, 1) := by decide +kernel
theorem dX4_partAll_0 : decode cX4_partAll 0 = .ok (.aload_n 0, 1) := by decide +kernel
theorem dX4_partAll_1 : decode cX4_partAll 1 = .ok (.iload_n 1, 1) := by decide +kernel
theorem dX4_partAll_2 : decode cX4_partAll 2 = .ok (.invokevirtual 48, 3) := by decide +kernel
theorem dX4_partAll_5 : decode cX4_partAll 5 = .ok (.aload_n 0, 1) := by decide +kernel
theorem dX4_partAll_6 : decode cX4_partAll 6 = .ok (.invokevirtual 78, 3) := by decide +kernel
theorem dX4_partAll_9 : decode cX4_partAll 9 = .ok (.aload_n 0, 1) := by decide +kernel
theorem dX4_partAll_10 : decode cX4_partAll 10 = .ok (.getfield 9, 3) := by decide +kernel
theorem dX4_partAll_13 : decode cX4_partAll 13 = .ok (.getfield 56, 3) := by decide +kernel
theorem dX4_partAll_16 : decode cX4_partAll 16 = .ok (.astore_n 3, 1) := by decide +kernel
theorem dX4_partAll_17 : decode cX4_partAll 17 = .ok (.iconst 0, 1) := by decide +kernel
theorem dX4_partAll_18 : decode cX4_partAll 18 = .ok (.istore 4, 2) := by decide +kernel
theorem dX4_partAll_20 : decode cX4_partAll 20 = .ok (.iconst 0, 1) := by decide +kernel
theorem dX4_partAll_21 : decode cX4_partAll 21 = .ok (.istore 5, 2) := by decide +kernel
theorem dX4_partAll_23 : decode cX4_partAll 23 = .ok (.iconst 0, 1) := by decide +kernel
theorem dX4_partAll_24 : decode cX4_partAll 24 = .ok (.istore 6, 2) := by decide +kernel
theorem dX4_partAll_26 : decode cX4_partAll 26 = .ok (.iload 6, 2) := by decide +kernel
theorem dX4_partAll_28 : decode cX4_partAll 28 = .ok (.aload_n 0, 1) := by decide +kernel
theorem dX4_partAll_29 : decode cX4_partAll 29 = .ok (.getfield 38, 3) := by decide +kernel
theorem dX4_partAll_32 : decode cX4_partAll 32 = .ok (.if_icmp .ge 123, 3) := by decide +kernel
theorem dX4_partAll_35 : decode cX4_partAll 35 = .ok (.iload 4, 2) := by decide +kernel
theorem dX4_partAll_37 : decode cX4_partAll 37 = .ok (.iload_n 2, 1) := by decide +kernel
theorem dX4_partAll_38 : decode cX4_partAll 38 = .ok (.if_icmp .ge 117, 3) := by decide +kernel
theorem dX4_partAll_41 : decode cX4_partAll 41 = .ok (.aload_n 0, 1) := by decide +kernel
theorem dX4_partAll_42 : decode cX4_partAll 42 = .ok (.getfield 15, 3) := by decide +kernel
theorem dX4_partAll_45 : decode cX4_partAll 45 = .ok (.iload 6, 2) := by decide +kernel
theorem dX4_partAll_47 : decode cX4_partAll 47 = .ok (.iaload, 1) := by decide +kernel
theorem dX4_partAll_48 : decode cX4_partAll 48 = .ok (.istore 7, 2) := by decide +kernel
theorem dX4_partAll_50 : decode cX4_partAll 50 = .ok (.aload_n 0, 1) := by decide +kernel
theorem dX4_partAll_51 : decode cX4_partAll 51 = .ok (.getfield 23, 3) := by decide +kernel
theorem dX4_partAll_54 : decode cX4_partAll 54 = .ok (.iload 7, 2) := by decide +kernel
theorem dX4_partAll_56 : decode cX4_partAll 56 = .ok (.bipush 6, 2) := by decide +kernel
theorem dX4_partAll_58 : decode cX4_partAll 58 = .ok (.idiv, 1) := by decide +kernel
theorem dX4_partAll_59 : decode cX4_partAll 59 = .ok (.iaload, 1) := by decide +kernel
theorem dX4_partAll_60 : decode cX4_partAll 60 = .ok (.aload_n 3, 1) := by decide +kernel
theorem dX4_partAll_61 : decode cX4_partAll 61 = .ok (.aload_n 0, 1) := by decide +kernel
theorem dX4_partAll_62 : decode cX4_partAll 62 = .ok (.getfield 59, 3) := by decide +kernel
theorem dX4_partAll_65 : decode cX4_partAll 65 = .ok (.iload 7, 2) := by decide +kernel
theorem dX4_partAll_67 : decode cX4_partAll 67 = .ok (.bipush 6, 2) := by decide +kernel
theorem dX4_partAll_69 : decode cX4_partAll 69 = .ok (.irem, 1) := by decide +kernel
theorem dX4_partAll_70 : decode cX4_partAll 70 = .ok (.iadd, 1) := by decide +kernel
theorem dX4_partAll_71 : decode cX4_partAll 71 = .ok (.iaload, 1) := by decide +kernel
theorem dX4_partAll_72 : decode cX4_partAll 72 = .ok (.iadd, 1) := by decide +kernel
theorem dX4_partAll_73 : decode cX4_partAll 73 = .ok (.istore 8, 2) := by decide +kernel
theorem dX4_partAll_75 : decode cX4_partAll 75 = .ok (.aload_n 0, 1) := by decide +kernel
theorem dX4_partAll_76 : decode cX4_partAll 76 = .ok (.getfield 26, 3) := by decide +kernel
theorem dX4_partAll_79 : decode cX4_partAll 79 = .ok (.iload 8, 2) := by decide +kernel
theorem dX4_partAll_81 : decode cX4_partAll 81 = .ok (.iaload, 1) := by decide +kernel
theorem dX4_partAll_82 : decode cX4_partAll 82 = .ok (.istore 9, 2) := by decide +kernel
theorem dX4_partAll_84 : decode cX4_partAll 84 = .ok (.iload 9, 2) := by decide +kernel
theorem dX4_partAll_86 : decode cX4_partAll 86 = .ok (.aload_n 0, 1) := by decide +kernel
theorem dX4_partAll_87 : decode cX4_partAll 87 = .ok (.getfield 62, 3) := by decide +kernel
theorem dX4_partAll_90 : decode cX4_partAll 90 = .ok (.if_icmp .le 15, 3) := by decide +kernel
theorem dX4_partAll_93 : decode cX4_partAll 93 = .ok (.iload 9, 2) := by decide +kernel
theorem dX4_partAll_95 : decode cX4_partAll 95 = .ok (.aload_n 0, 1) := by decide +kernel
theorem dX4_partAll_96 : decode cX4_partAll 96 = .ok (.getfield 62, 3) := by decide +kernel
theorem dX4_partAll_99 : decode cX4_partAll 99 = .ok (.isub, 1) := by decide +kernel
theorem dX4_partAll_100 : decode cX4_partAll 100 = .ok (.iconst 1, 1) := by decide +kernel
theorem dX4_partAll_101 : decode cX4_partAll 101 = .ok (.iadd, 1) := by decide +kernel
theorem dX4_partAll_102 : decode cX4_partAll 102 = .ok (.goto 4, 3) := by decide +kernel
theorem dX4_partAll_105 : decode cX4_partAll 105 = .ok (.iconst 1, 1) := by decide +kernel
theorem dX4_partAll_106 : decode cX4_partAll 106 = .ok (.istore 10, 2) := by decide +kernel
theorem dX4_partAll_108 : decode cX4_partAll 108 = .ok (.aload_n 0, 1) := by decide +kernel
theorem dX4_partAll_109 : decode cX4_partAll 109 = .ok (.getfield 26, 3) := by decide +kernel
theorem dX4_partAll_112 : decode cX4_partAll 112 = .ok (.iload 8, 2) := by decide +kernel
theorem dX4_partAll_114 : decode cX4_partAll 114 = .ok (.aload_n 0, 1) := by decide +kernel
theorem dX4_partAll_115 : decode cX4_partAll 115 = .ok (.getfield 62, 3) := by decide +kernel
theorem dX4_partAll_118 : decode cX4_partAll 118 = .ok (.iload 10, 2) := by decide +kernel
theorem dX4_partAll_120 : decode cX4_partAll 120 = .ok (.iadd, 1) := by decide +kernel
theorem dX4_partAll_121 : decode cX4_partAll 121 = .ok (.iastore, 1) := by decide +kernel
theorem dX4_partAll_122 : decode cX4_partAll 122 = .ok (.iload 10, 2) := by decide +kernel
theorem dX4_partAll_124 : decode cX4_partAll 124 = .ok (.iload 4, 2) := by decide +kernel
theorem dX4_partAll_126 : decode cX4_partAll 126 = .ok (.if_icmp .le 13, 3) := by decide +kernel
theorem dX4_partAll_129 : decode cX4_partAll 129 = .ok (.iload 10, 2) := by decide +kernel
theorem dX4_partAll_131 : decode cX4_partAll 131 = .ok (.istore 4, 2) := by decide +kernel
theorem dX4_partAll_133 : decode cX4_partAll 133 = .ok (.iconst 1, 1) := by decide +kernel
theorem dX4_partAll_134 : decode cX4_partAll 134 = .ok (.istore 5, 2) := by decide +kernel
theorem dX4_partAll_136 : decode cX4_partAll 136 = .ok (.goto 13, 3) := by decide +kernel
theorem dX4_partAll_139 : decode cX4_partAll 139 = .ok (.iload 10, 2) := by decide +kernel
theorem dX4_partAll_141 : decode cX4_partAll 141 = .ok (.iload 4, 2) := by decide +kernel
theorem dX4_partAll_143 : decode cX4_partAll 143 = .ok (.if_icmp .ne 6, 3) := by decide +kernel
theorem dX4_partAll_146 : decode cX4_partAll 146 = .ok (.iinc 5 1, 3) := by decide +kernel
theorem dX4_partAll_149 : decode cX4_partAll 149 = .ok (.iinc 6 1, 3) := by decide +kernel
theorem dX4_partAll_152 : decode cX4_partAll 152 = .ok (.goto (-126), 3) := by decide +kernel
theorem dX4_partAll_155 : decode cX4_partAll 155 = .ok (.aload_n 0, 1) := by decide +kernel
theorem dX4_partAll_156 : decode cX4_partAll 156 = .ok (.iload 4, 2) := by decide +kernel
theorem dX4_partAll_158 : decode cX4_partAll 158 = .ok (.putfield 112, 3) := by decide +kernel
theorem dX4_partAll_161 : decode cX4_partAll 161 = .ok (.aload_n 0, 1) := by decide +kernel
theorem dX4_partAll_162 : decode cX4_partAll 162 = .ok (.iload 5, 2) := by decide +kernel
theorem dX4_partAll_164 : decode cX4_partAll 164 = .ok (.putfield 115, 3) := by decide +kernel
theorem dX4_partAll_167 : decode cX4_partAll 167 = .ok (.iload 4, 2) := by decide +kernel
theorem dX4_partAll_169 : decode cX4_partAll 169 = .ok (.iload_n 2, 1) := by decide +kernel
theorem dX4_partAll_170 : decode cX4_partAll 170 = .ok (.if_icmp .ge 7, 3) := by decide +kernel
theorem dX4_partAll_173 : decode cX4_partAll 173 = .ok (.iconst 1, 1) := by decide +kernel
theorem dX4_partAll_174 : decode cX4_partAll 174 = .ok (.goto 4, 3) := by decide +kernel
theorem dX4_partAll_177 : decode cX4_partAll 177 = .ok (.iconst 0, 1) := by decide +kernel
theorem dX4_partAll_178 : decode cX4_partAll 178 = .ok (.ireturn, 1) := by decide +kernel
theorem dX4_weighAlike_0 : decode cX4_weighAlike 0 = .ok (.iload_n 1, 1) := by decide +kernel
theorem dX4_weighAlike_1 : decode cX4_weighAlike 1 = .ok (.istore 4, 2) := by decide +kernel
theorem dX4_weighAlike_3 : decode cX4_weighAlike 3 = .ok (.iload 4, 2) := by decide +kernel
theorem dX4_weighAlike_5 : decode cX4_weighAlike 5 = .ok (.bipush 6, 2) := by decide +kernel
theorem dX4_weighAlike_7 : decode cX4_weighAlike 7 = .ok (.if_icmp .ge 98, 3) := by decide +kernel
theorem dX4_weighAlike_10 : decode cX4_weighAlike 10 = .ok (.iload_n 2, 1) := by decide +kernel
theorem dX4_weighAlike_11 : decode cX4_weighAlike 11 = .ok (.istore 5, 2) := by decide +kernel
theorem dX4_weighAlike_13 : decode cX4_weighAlike 13 = .ok (.iload 5, 2) := by decide +kernel
theorem dX4_weighAlike_15 : decode cX4_weighAlike 15 = .ok (.bipush 6, 2) := by decide +kernel
theorem dX4_weighAlike_17 : decode cX4_weighAlike 17 = .ok (.if_icmp .ge 82, 3) := by decide +kernel
theorem dX4_weighAlike_20 : decode cX4_weighAlike 20 = .ok (.aload_n 0, 1) := by decide +kernel
theorem dX4_weighAlike_21 : decode cX4_weighAlike 21 = .ok (.getfield 35, 3) := by decide +kernel
theorem dX4_weighAlike_24 : decode cX4_weighAlike 24 = .ok (.iload 4, 2) := by decide +kernel
theorem dX4_weighAlike_26 : decode cX4_weighAlike 26 = .ok (.iaload, 1) := by decide +kernel
theorem dX4_weighAlike_27 : decode cX4_weighAlike 27 = .ok (.iload_n 1, 1) := by decide +kernel
theorem dX4_weighAlike_28 : decode cX4_weighAlike 28 = .ok (.if_icmp .ne 71, 3) := by decide +kernel
theorem dX4_weighAlike_31 : decode cX4_weighAlike 31 = .ok (.iload_n 3, 1) := by decide +kernel
theorem dX4_weighAlike_32 : decode cX4_weighAlike 32 = .ok (.istore 6, 2) := by decide +kernel
theorem dX4_weighAlike_34 : decode cX4_weighAlike 34 = .ok (.iload 6, 2) := by decide +kernel
theorem dX4_weighAlike_36 : decode cX4_weighAlike 36 = .ok (.bipush 6, 2) := by decide +kernel
theorem dX4_weighAlike_38 : decode cX4_weighAlike 38 = .ok (.if_icmp .ge 55, 3) := by decide +kernel
theorem dX4_weighAlike_41 : decode cX4_weighAlike 41 = .ok (.aload_n 0, 1) := by decide +kernel
theorem dX4_weighAlike_42 : decode cX4_weighAlike 42 = .ok (.getfield 35, 3) := by decide +kernel
theorem dX4_weighAlike_45 : decode cX4_weighAlike 45 = .ok (.bipush 6, 2) := by decide +kernel
theorem dX4_weighAlike_47 : decode cX4_weighAlike 47 = .ok (.iload 5, 2) := by decide +kernel
theorem dX4_weighAlike_49 : decode cX4_weighAlike 49 = .ok (.iadd, 1) := by decide +kernel
theorem dX4_weighAlike_50 : decode cX4_weighAlike 50 = .ok (.iaload, 1) := by decide +kernel
theorem dX4_weighAlike_51 : decode cX4_weighAlike 51 = .ok (.iload_n 2, 1) := by decide +kernel
theorem dX4_weighAlike_52 : decode cX4_weighAlike 52 = .ok (.if_icmp .ne 41, 3) := by decide +kernel
theorem dX4_weighAlike_55 : decode cX4_weighAlike 55 = .ok (.aload_n 0, 1) := by decide +kernel
theorem dX4_weighAlike_56 : decode cX4_weighAlike 56 = .ok (.getfield 35, 3) := by decide +kernel
theorem dX4_weighAlike_59 : decode cX4_weighAlike 59 = .ok (.bipush 12, 2) := by decide +kernel
theorem dX4_weighAlike_61 : decode cX4_weighAlike 61 = .ok (.iload 6, 2) := by decide +kernel
theorem dX4_weighAlike_63 : decode cX4_weighAlike 63 = .ok (.iadd, 1) := by decide +kernel
theorem dX4_weighAlike_64 : decode cX4_weighAlike 64 = .ok (.iaload, 1) := by decide +kernel
theorem dX4_weighAlike_65 : decode cX4_weighAlike 65 = .ok (.iload_n 3, 1) := by decide +kernel
theorem dX4_weighAlike_66 : decode cX4_weighAlike 66 = .ok (.if_icmp .ne 21, 3) := by decide +kernel
theorem dX4_weighAlike_69 : decode cX4_weighAlike 69 = .ok (.aload_n 0, 1) := by decide +kernel
theorem dX4_weighAlike_70 : decode cX4_weighAlike 70 = .ok (.bipush 36, 2) := by decide +kernel
theorem dX4_weighAlike_72 : decode cX4_weighAlike 72 = .ok (.iload 4, 2) := by decide +kernel
theorem dX4_weighAlike_74 : decode cX4_weighAlike 74 = .ok (.imul, 1) := by decide +kernel
theorem dX4_weighAlike_75 : decode cX4_weighAlike 75 = .ok (.bipush 6, 2) := by decide +kernel
theorem dX4_weighAlike_77 : decode cX4_weighAlike 77 = .ok (.iload 5, 2) := by decide +kernel
theorem dX4_weighAlike_79 : decode cX4_weighAlike 79 = .ok (.imul, 1) := by decide +kernel
theorem dX4_weighAlike_80 : decode cX4_weighAlike 80 = .ok (.iadd, 1) := by decide +kernel
theorem dX4_weighAlike_81 : decode cX4_weighAlike 81 = .ok (.iload 6, 2) := by decide +kernel
theorem dX4_weighAlike_83 : decode cX4_weighAlike 83 = .ok (.iadd, 1) := by decide +kernel
theorem dX4_weighAlike_84 : decode cX4_weighAlike 84 = .ok (.invokevirtual 118, 3) := by decide +kernel
theorem dX4_weighAlike_87 : decode cX4_weighAlike 87 = .ok (.iinc 6 1, 3) := by decide +kernel
theorem dX4_weighAlike_90 : decode cX4_weighAlike 90 = .ok (.goto (-56), 3) := by decide +kernel
theorem dX4_weighAlike_93 : decode cX4_weighAlike 93 = .ok (.iinc 5 1, 3) := by decide +kernel
theorem dX4_weighAlike_96 : decode cX4_weighAlike 96 = .ok (.goto (-83), 3) := by decide +kernel
theorem dX4_weighAlike_99 : decode cX4_weighAlike 99 = .ok (.iinc 4 1, 3) := by decide +kernel
theorem dX4_weighAlike_102 : decode cX4_weighAlike 102 = .ok (.goto (-99), 3) := by decide +kernel
theorem dX4_weighAlike_105 : decode cX4_weighAlike 105 = .ok (.return_, 1) := by decide +kernel
theorem dX4_weigh_0 : decode cX4_weigh 0 = .ok (.aload_n 0, 1) := by decide +kernel
theorem dX4_weigh_1 : decode cX4_weigh 1 = .ok (.getfield 19, 3) := by decide +kernel
theorem dX4_weigh_4 : decode cX4_weigh 4 = .ok (.iload_n 1, 1) := by decide +kernel
theorem dX4_weigh_5 : decode cX4_weigh 5 = .ok (.baload, 1) := by decide +kernel
theorem dX4_weigh_6 : decode cX4_weigh 6 = .ok (.istore_n 2, 1) := by decide +kernel
theorem dX4_weigh_7 : decode cX4_weigh 7 = .ok (.aload_n 0, 1) := by decide +kernel
theorem dX4_weigh_8 : decode cX4_weigh 8 = .ok (.getfield 112, 3) := by decide +kernel
theorem dX4_weigh_11 : decode cX4_weigh 11 = .ok (.istore_n 3, 1) := by decide +kernel
theorem dX4_weigh_12 : decode cX4_weigh 12 = .ok (.iload_n 2, 1) := by decide +kernel
theorem dX4_weigh_13 : decode cX4_weigh 13 = .ok (.ifCond .eq 38, 3) := by decide +kernel
theorem dX4_weigh_16 : decode cX4_weigh 16 = .ok (.aload_n 0, 1) := by decide +kernel
theorem dX4_weigh_17 : decode cX4_weigh 17 = .ok (.getfield 115, 3) := by decide +kernel
theorem dX4_weigh_20 : decode cX4_weigh 20 = .ok (.iconst 1, 1) := by decide +kernel
theorem dX4_weigh_21 : decode cX4_weigh 21 = .ok (.if_icmp .ne 30, 3) := by decide +kernel
theorem dX4_weigh_24 : decode cX4_weigh 24 = .ok (.iload_n 3, 1) := by decide +kernel
theorem dX4_weigh_25 : decode cX4_weigh 25 = .ok (.iconst 1, 1) := by decide +kernel
theorem dX4_weigh_26 : decode cX4_weigh 26 = .ok (.if_icmp .le 25, 3) := by decide +kernel
theorem dX4_weigh_29 : decode cX4_weigh 29 = .ok (.aload_n 0, 1) := by decide +kernel
theorem dX4_weigh_30 : decode cX4_weigh 30 = .ok (.getfield 26, 3) := by decide +kernel
theorem dX4_weigh_33 : decode cX4_weigh 33 = .ok (.aload_n 0, 1) := by decide +kernel
theorem dX4_weigh_34 : decode cX4_weigh 34 = .ok (.iload_n 1, 1) := by decide +kernel
theorem dX4_weigh_35 : decode cX4_weigh 35 = .ok (.invokevirtual 52, 3) := by decide +kernel
theorem dX4_weigh_38 : decode cX4_weigh 38 = .ok (.iaload, 1) := by decide +kernel
theorem dX4_weigh_39 : decode cX4_weigh 39 = .ok (.aload_n 0, 1) := by decide +kernel
theorem dX4_weigh_40 : decode cX4_weigh 40 = .ok (.getfield 62, 3) := by decide +kernel
theorem dX4_weigh_43 : decode cX4_weigh 43 = .ok (.iload_n 3, 1) := by decide +kernel
theorem dX4_weigh_44 : decode cX4_weigh 44 = .ok (.iadd, 1) := by decide +kernel
theorem dX4_weigh_45 : decode cX4_weigh 45 = .ok (.if_icmp .ne 6, 3) := by decide +kernel
theorem dX4_weigh_48 : decode cX4_weigh 48 = .ok (.iinc 3 (-1), 3) := by decide +kernel
theorem dX4_weigh_51 : decode cX4_weigh 51 = .ok (.iload_n 2, 1) := by decide +kernel
theorem dX4_weigh_52 : decode cX4_weigh 52 = .ok (.aload_n 0, 1) := by decide +kernel
theorem dX4_weigh_53 : decode cX4_weigh 53 = .ok (.getfield 93, 3) := by decide +kernel
theorem dX4_weigh_56 : decode cX4_weigh 56 = .ok (.if_icmp .ne 19, 3) := by decide +kernel
theorem dX4_weigh_59 : decode cX4_weigh 59 = .ok (.iload_n 1, 1) := by decide +kernel
theorem dX4_weigh_60 : decode cX4_weigh 60 = .ok (.aload_n 0, 1) := by decide +kernel
theorem dX4_weigh_61 : decode cX4_weigh 61 = .ok (.getfield 87, 3) := by decide +kernel
theorem dX4_weigh_64 : decode cX4_weigh 64 = .ok (.if_icmp .ge 7, 3) := by decide +kernel
theorem dX4_weigh_67 : decode cX4_weigh 67 = .ok (.iconst 1, 1) := by decide +kernel
theorem dX4_weigh_68 : decode cX4_weigh 68 = .ok (.goto 8, 3) := by decide +kernel
theorem dX4_weigh_71 : decode cX4_weigh 71 = .ok (.iconst 0, 1) := by decide +kernel
theorem dX4_weigh_72 : decode cX4_weigh 72 = .ok (.goto 4, 3) := by decide +kernel
theorem dX4_weigh_75 : decode cX4_weigh 75 = .ok (.iload_n 2, 1) := by decide +kernel
theorem dX4_weigh_76 : decode cX4_weigh 76 = .ok (.istore 4, 2) := by decide +kernel
theorem dX4_weigh_78 : decode cX4_weigh 78 = .ok (.iload_n 3, 1) := by decide +kernel
theorem dX4_weigh_79 : decode cX4_weigh 79 = .ok (.aload_n 0, 1) := by decide +kernel
theorem dX4_weigh_80 : decode cX4_weigh 80 = .ok (.getfield 90, 3) := by decide +kernel
theorem dX4_weigh_83 : decode cX4_weigh 83 = .ok (.if_icmp .lt 16, 3) := by decide +kernel
theorem dX4_weigh_86 : decode cX4_weigh 86 = .ok (.iload_n 3, 1) := by decide +kernel
theorem dX4_weigh_87 : decode cX4_weigh 87 = .ok (.aload_n 0, 1) := by decide +kernel
theorem dX4_weigh_88 : decode cX4_weigh 88 = .ok (.getfield 90, 3) := by decide +kernel
theorem dX4_weigh_91 : decode cX4_weigh 91 = .ok (.if_icmp .ne 23, 3) := by decide +kernel
theorem dX4_weigh_94 : decode cX4_weigh 94 = .ok (.iload 4, 2) := by decide +kernel
theorem dX4_weigh_96 : decode cX4_weigh 96 = .ok (.ifCond .eq 18, 3) := by decide +kernel
theorem dX4_weigh_99 : decode cX4_weigh 99 = .ok (.aload_n 0, 1) := by decide +kernel
theorem dX4_weigh_100 : decode cX4_weigh 100 = .ok (.iload_n 1, 1) := by decide +kernel
theorem dX4_weigh_101 : decode cX4_weigh 101 = .ok (.putfield 87, 3) := by decide +kernel
theorem dX4_weigh_104 : decode cX4_weigh 104 = .ok (.aload_n 0, 1) := by decide +kernel
theorem dX4_weigh_105 : decode cX4_weigh 105 = .ok (.iload_n 3, 1) := by decide +kernel
theorem dX4_weigh_106 : decode cX4_weigh 106 = .ok (.putfield 90, 3) := by decide +kernel
theorem dX4_weigh_109 : decode cX4_weigh 109 = .ok (.aload_n 0, 1) := by decide +kernel
theorem dX4_weigh_110 : decode cX4_weigh 110 = .ok (.iload_n 2, 1) := by decide +kernel
theorem dX4_weigh_111 : decode cX4_weigh 111 = .ok (.putfield 93, 3) := by decide +kernel
theorem dX4_weigh_114 : decode cX4_weigh 114 = .ok (.return_, 1) := by decide +kernel
theorem dX4_mostShared_0 : decode cX4_mostShared 0 = .ok (.aload_n 0, 1) := by decide +kernel
theorem dX4_mostShared_1 : decode cX4_mostShared 1 = .ok (.iload_n 1, 1) := by decide +kernel
theorem dX4_mostShared_2 : decode cX4_mostShared 2 = .ok (.invokevirtual 48, 3) := by decide +kernel
theorem dX4_mostShared_5 : decode cX4_mostShared 5 = .ok (.aload_n 0, 1) := by decide +kernel
theorem dX4_mostShared_6 : decode cX4_mostShared 6 = .ok (.invokevirtual 78, 3) := by decide +kernel
theorem dX4_mostShared_9 : decode cX4_mostShared 9 = .ok (.iconst 0, 1) := by decide +kernel
theorem dX4_mostShared_10 : decode cX4_mostShared 10 = .ok (.istore_n 2, 1) := by decide +kernel
theorem dX4_mostShared_11 : decode cX4_mostShared 11 = .ok (.iload_n 2, 1) := by decide +kernel
theorem dX4_mostShared_12 : decode cX4_mostShared 12 = .ok (.aload_n 0, 1) := by decide +kernel
theorem dX4_mostShared_13 : decode cX4_mostShared 13 = .ok (.getfield 38, 3) := by decide +kernel
theorem dX4_mostShared_16 : decode cX4_mostShared 16 = .ok (.if_icmp .ge 24, 3) := by decide +kernel
theorem dX4_mostShared_19 : decode cX4_mostShared 19 = .ok (.aload_n 0, 1) := by decide +kernel
theorem dX4_mostShared_20 : decode cX4_mostShared 20 = .ok (.aload_n 0, 1) := by decide +kernel
theorem dX4_mostShared_21 : decode cX4_mostShared 21 = .ok (.aload_n 0, 1) := by decide +kernel
theorem dX4_mostShared_22 : decode cX4_mostShared 22 = .ok (.getfield 15, 3) := by decide +kernel
theorem dX4_mostShared_25 : decode cX4_mostShared 25 = .ok (.iload_n 2, 1) := by decide +kernel
theorem dX4_mostShared_26 : decode cX4_mostShared 26 = .ok (.iaload, 1) := by decide +kernel
theorem dX4_mostShared_27 : decode cX4_mostShared 27 = .ok (.invokevirtual 52, 3) := by decide +kernel
theorem dX4_mostShared_30 : decode cX4_mostShared 30 = .ok (.invokevirtual 81, 3) := by decide +kernel
theorem dX4_mostShared_33 : decode cX4_mostShared 33 = .ok (.pop, 1) := by decide +kernel
theorem dX4_mostShared_34 : decode cX4_mostShared 34 = .ok (.iinc 2 1, 3) := by decide +kernel
theorem dX4_mostShared_37 : decode cX4_mostShared 37 = .ok (.goto (-26), 3) := by decide +kernel
theorem dX4_mostShared_40 : decode cX4_mostShared 40 = .ok (.iconst (-1), 1) := by decide +kernel
theorem dX4_mostShared_41 : decode cX4_mostShared 41 = .ok (.istore_n 2, 1) := by decide +kernel
theorem dX4_mostShared_42 : decode cX4_mostShared 42 = .ok (.aload_n 0, 1) := by decide +kernel
theorem dX4_mostShared_43 : decode cX4_mostShared 43 = .ok (.getfield 62, 3) := by decide +kernel
theorem dX4_mostShared_46 : decode cX4_mostShared 46 = .ok (.istore_n 3, 1) := by decide +kernel
theorem dX4_mostShared_47 : decode cX4_mostShared 47 = .ok (.iconst 0, 1) := by decide +kernel
theorem dX4_mostShared_48 : decode cX4_mostShared 48 = .ok (.istore 4, 2) := by decide +kernel
theorem dX4_mostShared_50 : decode cX4_mostShared 50 = .ok (.iload 4, 2) := by decide +kernel
theorem dX4_mostShared_52 : decode cX4_mostShared 52 = .ok (.aload_n 0, 1) := by decide +kernel
theorem dX4_mostShared_53 : decode cX4_mostShared 53 = .ok (.getfield 38, 3) := by decide +kernel
theorem dX4_mostShared_56 : decode cX4_mostShared 56 = .ok (.if_icmp .ge 44, 3) := by decide +kernel
theorem dX4_mostShared_59 : decode cX4_mostShared 59 = .ok (.aload_n 0, 1) := by decide +kernel
theorem dX4_mostShared_60 : decode cX4_mostShared 60 = .ok (.getfield 26, 3) := by decide +kernel
theorem dX4_mostShared_63 : decode cX4_mostShared 63 = .ok (.aload_n 0, 1) := by decide +kernel
theorem dX4_mostShared_64 : decode cX4_mostShared 64 = .ok (.aload_n 0, 1) := by decide +kernel
theorem dX4_mostShared_65 : decode cX4_mostShared 65 = .ok (.getfield 15, 3) := by decide +kernel
theorem dX4_mostShared_68 : decode cX4_mostShared 68 = .ok (.iload 4, 2) := by decide +kernel
theorem dX4_mostShared_70 : decode cX4_mostShared 70 = .ok (.iaload, 1) := by decide +kernel
theorem dX4_mostShared_71 : decode cX4_mostShared 71 = .ok (.invokevirtual 52, 3) := by decide +kernel
theorem dX4_mostShared_74 : decode cX4_mostShared 74 = .ok (.iaload, 1) := by decide +kernel
theorem dX4_mostShared_75 : decode cX4_mostShared 75 = .ok (.istore 5, 2) := by decide +kernel
theorem dX4_mostShared_77 : decode cX4_mostShared 77 = .ok (.iload 5, 2) := by decide +kernel
theorem dX4_mostShared_79 : decode cX4_mostShared 79 = .ok (.iload_n 3, 1) := by decide +kernel
theorem dX4_mostShared_80 : decode cX4_mostShared 80 = .ok (.if_icmp .le 14, 3) := by decide +kernel
theorem dX4_mostShared_83 : decode cX4_mostShared 83 = .ok (.aload_n 0, 1) := by decide +kernel
theorem dX4_mostShared_84 : decode cX4_mostShared 84 = .ok (.getfield 15, 3) := by decide +kernel
theorem dX4_mostShared_87 : decode cX4_mostShared 87 = .ok (.iload 4, 2) := by decide +kernel
theorem dX4_mostShared_89 : decode cX4_mostShared 89 = .ok (.iaload, 1) := by decide +kernel
theorem dX4_mostShared_90 : decode cX4_mostShared 90 = .ok (.istore_n 2, 1) := by decide +kernel
theorem dX4_mostShared_91 : decode cX4_mostShared 91 = .ok (.iload 5, 2) := by decide +kernel
theorem dX4_mostShared_93 : decode cX4_mostShared 93 = .ok (.istore_n 3, 1) := by decide +kernel
theorem dX4_mostShared_94 : decode cX4_mostShared 94 = .ok (.iinc 4 1, 3) := by decide +kernel
theorem dX4_mostShared_97 : decode cX4_mostShared 97 = .ok (.goto (-47), 3) := by decide +kernel
theorem dX4_mostShared_100 : decode cX4_mostShared 100 = .ok (.iload_n 2, 1) := by decide +kernel
theorem dX4_mostShared_101 : decode cX4_mostShared 101 = .ok (.ireturn, 1) := by decide +kernel
theorem dX4_turningsNeeded_0 : decode cX4_turningsNeeded 0 = .ok (.aload_n 0, 1) := by decide +kernel
theorem dX4_turningsNeeded_1 : decode cX4_turningsNeeded 1 = .ok (.getfield 38, 3) := by decide +kernel
theorem dX4_turningsNeeded_4 : decode cX4_turningsNeeded 4 = .ok (.bipush 6, 2) := by decide +kernel
theorem dX4_turningsNeeded_6 : decode cX4_turningsNeeded 6 = .ok (.if_icmp .le 6, 3) := by decide +kernel
theorem dX4_turningsNeeded_9 : decode cX4_turningsNeeded 9 = .ok (.bipush (-3), 2) := by decide +kernel
theorem dX4_turningsNeeded_11 : decode cX4_turningsNeeded 11 = .ok (.ireturn, 1) := by decide +kernel
theorem dX4_turningsNeeded_12 : decode cX4_turningsNeeded 12 = .ok (.iconst 0, 1) := by decide +kernel
theorem dX4_turningsNeeded_13 : decode cX4_turningsNeeded 13 = .ok (.istore_n 1, 1) := by decide +kernel
theorem dX4_turningsNeeded_14 : decode cX4_turningsNeeded 14 = .ok (.iload_n 1, 1) := by decide +kernel
theorem dX4_turningsNeeded_15 : decode cX4_turningsNeeded 15 = .ok (.sipush 216, 3) := by decide +kernel
theorem dX4_turningsNeeded_18 : decode cX4_turningsNeeded 18 = .ok (.if_icmp .ge 14, 3) := by decide +kernel
theorem dX4_turningsNeeded_21 : decode cX4_turningsNeeded 21 = .ok (.aload_n 0, 1) := by decide +kernel
theorem dX4_turningsNeeded_22 : decode cX4_turningsNeeded 22 = .ok (.iload_n 1, 1) := by decide +kernel
theorem dX4_turningsNeeded_23 : decode cX4_turningsNeeded 23 = .ok (.invokevirtual 121, 3) := by decide +kernel
theorem dX4_turningsNeeded_26 : decode cX4_turningsNeeded 26 = .ok (.iinc 1 1, 3) := by decide +kernel
theorem dX4_turningsNeeded_29 : decode cX4_turningsNeeded 29 = .ok (.goto (-15), 3) := by decide +kernel
theorem dX4_turningsNeeded_32 : decode cX4_turningsNeeded 32 = .ok (.iconst 1, 1) := by decide +kernel
theorem dX4_turningsNeeded_33 : decode cX4_turningsNeeded 33 = .ok (.aload_n 0, 1) := by decide +kernel
theorem dX4_turningsNeeded_34 : decode cX4_turningsNeeded 34 = .ok (.getfield 38, 3) := by decide +kernel
theorem dX4_turningsNeeded_37 : decode cX4_turningsNeeded 37 = .ok (.ishl, 1) := by decide +kernel
theorem dX4_turningsNeeded_38 : decode cX4_turningsNeeded 38 = .ok (.iconst 1, 1) := by decide +kernel
theorem dX4_turningsNeeded_39 : decode cX4_turningsNeeded 39 = .ok (.isub, 1) := by decide +kernel
theorem dX4_turningsNeeded_40 : decode cX4_turningsNeeded 40 = .ok (.istore_n 1, 1) := by decide +kernel
theorem dX4_turningsNeeded_41 : decode cX4_turningsNeeded 41 = .ok (.aload_n 0, 1) := by decide +kernel
theorem dX4_turningsNeeded_42 : decode cX4_turningsNeeded 42 = .ok (.getfield 32, 3) := by decide +kernel
theorem dX4_turningsNeeded_45 : decode cX4_turningsNeeded 45 = .ok (.iconst 0, 1) := by decide +kernel
theorem dX4_turningsNeeded_46 : decode cX4_turningsNeeded 46 = .ok (.iconst 0, 1) := by decide +kernel
theorem dX4_turningsNeeded_47 : decode cX4_turningsNeeded 47 = .ok (.iastore, 1) := by decide +kernel
theorem dX4_turningsNeeded_48 : decode cX4_turningsNeeded 48 = .ok (.iconst 1, 1) := by decide +kernel
theorem dX4_turningsNeeded_49 : decode cX4_turningsNeeded 49 = .ok (.istore_n 2, 1) := by decide +kernel
theorem dX4_turningsNeeded_50 : decode cX4_turningsNeeded 50 = .ok (.iload_n 2, 1) := by decide +kernel
theorem dX4_turningsNeeded_51 : decode cX4_turningsNeeded 51 = .ok (.iload_n 1, 1) := by decide +kernel
theorem dX4_turningsNeeded_52 : decode cX4_turningsNeeded 52 = .ok (.if_icmp .gt 67, 3) := by decide +kernel
theorem dX4_turningsNeeded_55 : decode cX4_turningsNeeded 55 = .ok (.aload_n 0, 1) := by decide +kernel
theorem dX4_turningsNeeded_56 : decode cX4_turningsNeeded 56 = .ok (.getfield 32, 3) := by decide +kernel
theorem dX4_turningsNeeded_59 : decode cX4_turningsNeeded 59 = .ok (.iload_n 2, 1) := by decide +kernel
theorem dX4_turningsNeeded_60 : decode cX4_turningsNeeded 60 = .ok (.iload_n 2, 1) := by decide +kernel
theorem dX4_turningsNeeded_61 : decode cX4_turningsNeeded 61 = .ok (.invokestatic 124, 3) := by decide +kernel
theorem dX4_turningsNeeded_64 : decode cX4_turningsNeeded 64 = .ok (.iastore, 1) := by decide +kernel
theorem dX4_turningsNeeded_65 : decode cX4_turningsNeeded 65 = .ok (.iconst 0, 1) := by decide +kernel
theorem dX4_turningsNeeded_66 : decode cX4_turningsNeeded 66 = .ok (.istore_n 3, 1) := by decide +kernel
theorem dX4_turningsNeeded_67 : decode cX4_turningsNeeded 67 = .ok (.iload_n 3, 1) := by decide +kernel
theorem dX4_turningsNeeded_68 : decode cX4_turningsNeeded 68 = .ok (.sipush 216, 3) := by decide +kernel
theorem dX4_turningsNeeded_71 : decode cX4_turningsNeeded 71 = .ok (.if_icmp .ge 42, 3) := by decide +kernel
theorem dX4_turningsNeeded_74 : decode cX4_turningsNeeded 74 = .ok (.aload_n 0, 1) := by decide +kernel
theorem dX4_turningsNeeded_75 : decode cX4_turningsNeeded 75 = .ok (.getfield 32, 3) := by decide +kernel
theorem dX4_turningsNeeded_78 : decode cX4_turningsNeeded 78 = .ok (.iload_n 2, 1) := by decide +kernel
theorem dX4_turningsNeeded_79 : decode cX4_turningsNeeded 79 = .ok (.iaload, 1) := by decide +kernel
theorem dX4_turningsNeeded_80 : decode cX4_turningsNeeded 80 = .ok (.iconst 2, 1) := by decide +kernel
theorem dX4_turningsNeeded_81 : decode cX4_turningsNeeded 81 = .ok (.if_icmp .le 32, 3) := by decide +kernel
theorem dX4_turningsNeeded_84 : decode cX4_turningsNeeded 84 = .ok (.aload_n 0, 1) := by decide +kernel
theorem dX4_turningsNeeded_85 : decode cX4_turningsNeeded 85 = .ok (.getfield 32, 3) := by decide +kernel
theorem dX4_turningsNeeded_88 : decode cX4_turningsNeeded 88 = .ok (.iload_n 2, 1) := by decide +kernel
theorem dX4_turningsNeeded_89 : decode cX4_turningsNeeded 89 = .ok (.aload_n 0, 1) := by decide +kernel
theorem dX4_turningsNeeded_90 : decode cX4_turningsNeeded 90 = .ok (.getfield 32, 3) := by decide +kernel
theorem dX4_turningsNeeded_93 : decode cX4_turningsNeeded 93 = .ok (.iload_n 2, 1) := by decide +kernel
theorem dX4_turningsNeeded_94 : decode cX4_turningsNeeded 94 = .ok (.iaload, 1) := by decide +kernel
theorem dX4_turningsNeeded_95 : decode cX4_turningsNeeded 95 = .ok (.iconst 1, 1) := by decide +kernel
theorem dX4_turningsNeeded_96 : decode cX4_turningsNeeded 96 = .ok (.aload_n 0, 1) := by decide +kernel
theorem dX4_turningsNeeded_97 : decode cX4_turningsNeeded 97 = .ok (.iload_n 3, 1) := by decide +kernel
theorem dX4_turningsNeeded_98 : decode cX4_turningsNeeded 98 = .ok (.iload_n 2, 1) := by decide +kernel
theorem dX4_turningsNeeded_99 : decode cX4_turningsNeeded 99 = .ok (.invokevirtual 129, 3) := by decide +kernel
theorem dX4_turningsNeeded_102 : decode cX4_turningsNeeded 102 = .ok (.iadd, 1) := by decide +kernel
theorem dX4_turningsNeeded_103 : decode cX4_turningsNeeded 103 = .ok (.invokestatic 132, 3) := by decide +kernel
theorem dX4_turningsNeeded_106 : decode cX4_turningsNeeded 106 = .ok (.iastore, 1) := by decide +kernel
theorem dX4_turningsNeeded_107 : decode cX4_turningsNeeded 107 = .ok (.iinc 3 1, 3) := by decide +kernel
theorem dX4_turningsNeeded_110 : decode cX4_turningsNeeded 110 = .ok (.goto (-43), 3) := by decide +kernel
theorem dX4_turningsNeeded_113 : decode cX4_turningsNeeded 113 = .ok (.iinc 2 1, 3) := by decide +kernel
theorem dX4_turningsNeeded_116 : decode cX4_turningsNeeded 116 = .ok (.goto (-66), 3) := by decide +kernel
theorem dX4_turningsNeeded_119 : decode cX4_turningsNeeded 119 = .ok (.aload_n 0, 1) := by decide +kernel
theorem dX4_turningsNeeded_120 : decode cX4_turningsNeeded 120 = .ok (.getfield 32, 3) := by decide +kernel
theorem dX4_turningsNeeded_123 : decode cX4_turningsNeeded 123 = .ok (.iload_n 1, 1) := by decide +kernel
theorem dX4_turningsNeeded_124 : decode cX4_turningsNeeded 124 = .ok (.iaload, 1) := by decide +kernel
theorem dX4_turningsNeeded_125 : decode cX4_turningsNeeded 125 = .ok (.ireturn, 1) := by decide +kernel
theorem dX4_compare_0 : decode cX4_compare 0 = .ok (.aload_n 0, 1) := by decide +kernel
theorem dX4_compare_1 : decode cX4_compare 1 = .ok (.iload_n 1, 1) := by decide +kernel
theorem dX4_compare_2 : decode cX4_compare 2 = .ok (.invokevirtual 48, 3) := by decide +kernel
theorem dX4_compare_5 : decode cX4_compare 5 = .ok (.iconst 0, 1) := by decide +kernel
theorem dX4_compare_6 : decode cX4_compare 6 = .ok (.istore_n 2, 1) := by decide +kernel
theorem dX4_compare_7 : decode cX4_compare 7 = .ok (.iload_n 2, 1) := by decide +kernel
theorem dX4_compare_8 : decode cX4_compare 8 = .ok (.aload_n 0, 1) := by decide +kernel
theorem dX4_compare_9 : decode cX4_compare 9 = .ok (.getfield 38, 3) := by decide +kernel
theorem dX4_compare_12 : decode cX4_compare 12 = .ok (.if_icmp .ge 93, 3) := by decide +kernel
theorem dX4_compare_15 : decode cX4_compare 15 = .ok (.iconst 0, 1) := by decide +kernel
theorem dX4_compare_16 : decode cX4_compare 16 = .ok (.istore_n 3, 1) := by decide +kernel
theorem dX4_compare_17 : decode cX4_compare 17 = .ok (.iconst 0, 1) := by decide +kernel
theorem dX4_compare_18 : decode cX4_compare 18 = .ok (.istore 4, 2) := by decide +kernel
theorem dX4_compare_20 : decode cX4_compare 20 = .ok (.iload 4, 2) := by decide +kernel
theorem dX4_compare_22 : decode cX4_compare 22 = .ok (.aload_n 0, 1) := by decide +kernel
theorem dX4_compare_23 : decode cX4_compare 23 = .ok (.getfield 38, 3) := by decide +kernel
theorem dX4_compare_26 : decode cX4_compare 26 = .ok (.if_icmp .ge 61, 3) := by decide +kernel
theorem dX4_compare_29 : decode cX4_compare 29 = .ok (.aload_n 0, 1) := by decide +kernel
theorem dX4_compare_30 : decode cX4_compare 30 = .ok (.getfield 15, 3) := by decide +kernel
theorem dX4_compare_33 : decode cX4_compare 33 = .ok (.iload_n 2, 1) := by decide +kernel
theorem dX4_compare_34 : decode cX4_compare 34 = .ok (.iaload, 1) := by decide +kernel
theorem dX4_compare_35 : decode cX4_compare 35 = .ok (.iload_n 1, 1) := by decide +kernel
theorem dX4_compare_36 : decode cX4_compare 36 = .ok (.if_icmp .eq 51, 3) := by decide +kernel
theorem dX4_compare_39 : decode cX4_compare 39 = .ok (.aload_n 0, 1) := by decide +kernel
theorem dX4_compare_40 : decode cX4_compare 40 = .ok (.getfield 15, 3) := by decide +kernel
theorem dX4_compare_43 : decode cX4_compare 43 = .ok (.iload 4, 2) := by decide +kernel
theorem dX4_compare_45 : decode cX4_compare 45 = .ok (.iaload, 1) := by decide +kernel
theorem dX4_compare_46 : decode cX4_compare 46 = .ok (.iload_n 1, 1) := by decide +kernel
theorem dX4_compare_47 : decode cX4_compare 47 = .ok (.if_icmp .eq 34, 3) := by decide +kernel
theorem dX4_compare_50 : decode cX4_compare 50 = .ok (.aload_n 0, 1) := by decide +kernel
theorem dX4_compare_51 : decode cX4_compare 51 = .ok (.aload_n 0, 1) := by decide +kernel
theorem dX4_compare_52 : decode cX4_compare 52 = .ok (.getfield 15, 3) := by decide +kernel
theorem dX4_compare_55 : decode cX4_compare 55 = .ok (.iload 4, 2) := by decide +kernel
theorem dX4_compare_57 : decode cX4_compare 57 = .ok (.iaload, 1) := by decide +kernel
theorem dX4_compare_58 : decode cX4_compare 58 = .ok (.invokevirtual 52, 3) := by decide +kernel
theorem dX4_compare_61 : decode cX4_compare 61 = .ok (.aload_n 0, 1) := by decide +kernel
theorem dX4_compare_62 : decode cX4_compare 62 = .ok (.aload_n 0, 1) := by decide +kernel
theorem dX4_compare_63 : decode cX4_compare 63 = .ok (.getfield 15, 3) := by decide +kernel
theorem dX4_compare_66 : decode cX4_compare 66 = .ok (.iload_n 2, 1) := by decide +kernel
theorem dX4_compare_67 : decode cX4_compare 67 = .ok (.iaload, 1) := by decide +kernel
theorem dX4_compare_68 : decode cX4_compare 68 = .ok (.invokevirtual 52, 3) := by decide +kernel
theorem dX4_compare_71 : decode cX4_compare 71 = .ok (.if_icmp .ne 10, 3) := by decide +kernel
theorem dX4_compare_74 : decode cX4_compare 74 = .ok (.iload_n 3, 1) := by decide +kernel
theorem dX4_compare_75 : decode cX4_compare 75 = .ok (.iconst 1, 1) := by decide +kernel
theorem dX4_compare_76 : decode cX4_compare 76 = .ok (.iload 4, 2) := by decide +kernel
theorem dX4_compare_78 : decode cX4_compare 78 = .ok (.ishl, 1) := by decide +kernel
theorem dX4_compare_79 : decode cX4_compare 79 = .ok (.ior, 1) := by decide +kernel
theorem dX4_compare_80 : decode cX4_compare 80 = .ok (.istore_n 3, 1) := by decide +kernel
theorem dX4_compare_81 : decode cX4_compare 81 = .ok (.iinc 4 1, 3) := by decide +kernel
theorem dX4_compare_84 : decode cX4_compare 84 = .ok (.goto (-64), 3) := by decide +kernel
theorem dX4_compare_87 : decode cX4_compare 87 = .ok (.aload_n 0, 1) := by decide +kernel
theorem dX4_compare_88 : decode cX4_compare 88 = .ok (.getfield 29, 3) := by decide +kernel
theorem dX4_compare_91 : decode cX4_compare 91 = .ok (.iload_n 1, 1) := by decide +kernel
theorem dX4_compare_92 : decode cX4_compare 92 = .ok (.bipush 6, 2) := by decide +kernel
theorem dX4_compare_94 : decode cX4_compare 94 = .ok (.imul, 1) := by decide +kernel
theorem dX4_compare_95 : decode cX4_compare 95 = .ok (.iload_n 2, 1) := by decide +kernel
theorem dX4_compare_96 : decode cX4_compare 96 = .ok (.iadd, 1) := by decide +kernel
theorem dX4_compare_97 : decode cX4_compare 97 = .ok (.iload_n 3, 1) := by decide +kernel
theorem dX4_compare_98 : decode cX4_compare 98 = .ok (.iastore, 1) := by decide +kernel
theorem dX4_compare_99 : decode cX4_compare 99 = .ok (.iinc 2 1, 3) := by decide +kernel
theorem dX4_compare_102 : decode cX4_compare 102 = .ok (.goto (-95), 3) := by decide +kernel
theorem dX4_compare_105 : decode cX4_compare 105 = .ok (.return_, 1) := by decide +kernel
theorem dX4_neededBehind_0 : decode cX4_neededBehind 0 = .ok (.iconst 0, 1) := by decide +kernel
theorem dX4_neededBehind_1 : decode cX4_neededBehind 1 = .ok (.istore_n 3, 1) := by decide +kernel
theorem dX4_neededBehind_2 : decode cX4_neededBehind 2 = .ok (.iconst 0, 1) := by decide +kernel
theorem dX4_neededBehind_3 : decode cX4_neededBehind 3 = .ok (.istore 4, 2) := by decide +kernel
theorem dX4_neededBehind_5 : decode cX4_neededBehind 5 = .ok (.iload 4, 2) := by decide +kernel
theorem dX4_neededBehind_7 : decode cX4_neededBehind 7 = .ok (.aload_n 0, 1) := by decide +kernel
theorem dX4_neededBehind_8 : decode cX4_neededBehind 8 = .ok (.getfield 38, 3) := by decide +kernel
theorem dX4_neededBehind_11 : decode cX4_neededBehind 11 = .ok (.if_icmp .ge 43, 3) := by decide +kernel
theorem dX4_neededBehind_14 : decode cX4_neededBehind 14 = .ok (.iload_n 2, 1) := by decide +kernel
theorem dX4_neededBehind_15 : decode cX4_neededBehind 15 = .ok (.iload 4, 2) := by decide +kernel
theorem dX4_neededBehind_17 : decode cX4_neededBehind 17 = .ok (.ishr, 1) := by decide +kernel
theorem dX4_neededBehind_18 : decode cX4_neededBehind 18 = .ok (.iconst 1, 1) := by decide +kernel
theorem dX4_neededBehind_19 : decode cX4_neededBehind 19 = .ok (.iand, 1) := by decide +kernel
theorem dX4_neededBehind_20 : decode cX4_neededBehind 20 = .ok (.iconst 1, 1) := by decide +kernel
theorem dX4_neededBehind_21 : decode cX4_neededBehind 21 = .ok (.if_icmp .ne 27, 3) := by decide +kernel
theorem dX4_neededBehind_24 : decode cX4_neededBehind 24 = .ok (.iload_n 3, 1) := by decide +kernel
theorem dX4_neededBehind_25 : decode cX4_neededBehind 25 = .ok (.aload_n 0, 1) := by decide +kernel
theorem dX4_neededBehind_26 : decode cX4_neededBehind 26 = .ok (.getfield 32, 3) := by decide +kernel
theorem dX4_neededBehind_29 : decode cX4_neededBehind 29 = .ok (.aload_n 0, 1) := by decide +kernel
theorem dX4_neededBehind_30 : decode cX4_neededBehind 30 = .ok (.getfield 29, 3) := by decide +kernel
theorem dX4_neededBehind_33 : decode cX4_neededBehind 33 = .ok (.iload_n 1, 1) := by decide +kernel
theorem dX4_neededBehind_34 : decode cX4_neededBehind 34 = .ok (.bipush 6, 2) := by decide +kernel
theorem dX4_neededBehind_36 : decode cX4_neededBehind 36 = .ok (.imul, 1) := by decide +kernel
theorem dX4_neededBehind_37 : decode cX4_neededBehind 37 = .ok (.iload 4, 2) := by decide +kernel
theorem dX4_neededBehind_39 : decode cX4_neededBehind 39 = .ok (.iadd, 1) := by decide +kernel
theorem dX4_neededBehind_40 : decode cX4_neededBehind 40 = .ok (.iaload, 1) := by decide +kernel
theorem dX4_neededBehind_41 : decode cX4_neededBehind 41 = .ok (.iload_n 2, 1) := by decide +kernel
theorem dX4_neededBehind_42 : decode cX4_neededBehind 42 = .ok (.iand, 1) := by decide +kernel
theorem dX4_neededBehind_43 : decode cX4_neededBehind 43 = .ok (.iaload, 1) := by decide +kernel
theorem dX4_neededBehind_44 : decode cX4_neededBehind 44 = .ok (.invokestatic 72, 3) := by decide +kernel
theorem dX4_neededBehind_47 : decode cX4_neededBehind 47 = .ok (.istore_n 3, 1) := by decide +kernel
theorem dX4_neededBehind_48 : decode cX4_neededBehind 48 = .ok (.iinc 4 1, 3) := by decide +kernel
theorem dX4_neededBehind_51 : decode cX4_neededBehind 51 = .ok (.goto (-46), 3) := by decide +kernel
theorem dX4_neededBehind_54 : decode cX4_neededBehind 54 = .ok (.iload_n 3, 1) := by decide +kernel
theorem dX4_neededBehind_55 : decode cX4_neededBehind 55 = .ok (.ireturn, 1) := by decide +kernel
