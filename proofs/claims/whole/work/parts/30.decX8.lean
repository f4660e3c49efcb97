theorem dX8_thrown_0 : decode cX8_thrown 0 = .ok (.aload_n 0, 1) := by decide +kernel
theorem dX8_thrown_1 : decode cX8_thrown 1 = .ok (.getfield 3, 3) := by decide +kernel
theorem dX8_thrown_4 : decode cX8_thrown 4 = .ok (.ireturn, 1) := by decide +kernel
theorem dX8_throwsIf_0 : decode cX8_throwsIf 0 = .ok (.iload_n 1, 1) := by decide +kernel
theorem dX8_throwsIf_1 : decode cX8_throwsIf 1 = .ok (.ifCond .eq 8, 3) := by decide +kernel
theorem dX8_throwsIf_4 : decode cX8_throwsIf 4 = .ok (.aload_n 0, 1) := by decide +kernel
theorem dX8_throwsIf_5 : decode cX8_throwsIf 5 = .ok (.iload_n 2, 1) := by decide +kernel
theorem dX8_throwsIf_6 : decode cX8_throwsIf 6 = .ok (.putfield 3, 3) := by decide +kernel
theorem dX8_throwsIf_9 : decode cX8_throwsIf 9 = .ok (.iload_n 1, 1) := by decide +kernel
theorem dX8_throwsIf_10 : decode cX8_throwsIf 10 = .ok (.ireturn, 1) := by decide +kernel
theorem dX8_in_0 : decode cX8_in 0 = .ok (.iload_n 0, 1) := by decide +kernel
theorem dX8_in_1 : decode cX8_in 1 = .ok (.iload_n 1, 1) := by decide +kernel
theorem dX8_in_2 : decode cX8_in 2 = .ok (.if_icmp .lt 12, 3) := by decide +kernel
theorem dX8_in_5 : decode cX8_in 5 = .ok (.iload_n 0, 1) := by decide +kernel
theorem dX8_in_6 : decode cX8_in 6 = .ok (.iload_n 2, 1) := by decide +kernel
theorem dX8_in_7 : decode cX8_in 7 = .ok (.if_icmp .gt 7, 3) := by decide +kernel
theorem dX8_in_10 : decode cX8_in 10 = .ok (.iconst 1, 1) := by decide +kernel
theorem dX8_in_11 : decode cX8_in 11 = .ok (.goto 4, 3) := by decide +kernel
theorem dX8_in_14 : decode cX8_in 14 = .ok (.iconst 0, 1) := by decide +kernel
theorem dX8_in_15 : decode cX8_in 15 = .ok (.ireturn, 1) := by decide +kernel
theorem dX8_has_0 : decode cX8_has 0 = .ok (.iload_n 0, 1) := by decide +kernel
theorem dX8_has_1 : decode cX8_has 1 = .ok (.iload_n 1, 1) := by decide +kernel
theorem dX8_has_2 : decode cX8_has 2 = .ok (.ishr, 1) := by decide +kernel
theorem dX8_has_3 : decode cX8_has 3 = .ok (.iconst 1, 1) := by decide +kernel
theorem dX8_has_4 : decode cX8_has 4 = .ok (.iand, 1) := by decide +kernel
theorem dX8_has_5 : decode cX8_has 5 = .ok (.iconst 1, 1) := by decide +kernel
theorem dX8_has_6 : decode cX8_has 6 = .ok (.if_icmp .ne 7, 3) := by decide +kernel
theorem dX8_has_9 : decode cX8_has 9 = .ok (.iconst 1, 1) := by decide +kernel
theorem dX8_has_10 : decode cX8_has 10 = .ok (.goto 4, 3) := by decide +kernel
theorem dX8_has_13 : decode cX8_has 13 = .ok (.iconst 0, 1) := by decide +kernel
theorem dX8_has_14 : decode cX8_has 14 = .ok (.ireturn, 1) := by decide +kernel
theorem dX8_init_0 : decode cX8_init 0 = .ok (.aload_n 0, 1) := by decide +kernel
theorem dX8_init_1 : decode cX8_init 1 = .ok (.invokespecial 7, 3) := by decide +kernel
theorem dX8_init_4 : decode cX8_init 4 = .ok (.aload_n 0, 1) := by decide +kernel
theorem dX8_init_5 : decode cX8_init 5 = .ok (.sipush 2260, 3) := by decide +kernel
theorem dX8_init_8 : decode cX8_init 8 = .ok (.newarray .int, 2) := by decide +kernel
theorem dX8_init_10 : decode cX8_init 10 = .ok (.putfield 13, 3) := by decide +kernel
theorem dX8_init_13 : decode cX8_init 13 = .ok (.aload_n 0, 1) := by decide +kernel
theorem dX8_init_14 : decode cX8_init 14 = .ok (.sipush 1411, 3) := by decide +kernel
theorem dX8_init_17 : decode cX8_init 17 = .ok (.newarray .int, 2) := by decide +kernel
theorem dX8_init_19 : decode cX8_init 19 = .ok (.putfield 17, 3) := by decide +kernel
theorem dX8_init_22 : decode cX8_init 22 = .ok (.aload_n 0, 1) := by decide +kernel
theorem dX8_init_23 : decode cX8_init 23 = .ok (.sipush 1411, 3) := by decide +kernel
theorem dX8_init_26 : decode cX8_init 26 = .ok (.newarray .int, 2) := by decide +kernel
theorem dX8_init_28 : decode cX8_init 28 = .ok (.putfield 20, 3) := by decide +kernel
theorem dX8_init_31 : decode cX8_init 31 = .ok (.aload_n 0, 1) := by decide +kernel
theorem dX8_init_32 : decode cX8_init 32 = .ok (.sipush 562, 3) := by decide +kernel
theorem dX8_init_35 : decode cX8_init 35 = .ok (.newarray .int, 2) := by decide +kernel
theorem dX8_init_37 : decode cX8_init 37 = .ok (.putfield 23, 3) := by decide +kernel
theorem dX8_init_40 : decode cX8_init 40 = .ok (.aload_n 0, 1) := by decide +kernel
theorem dX8_init_41 : decode cX8_init 41 = .ok (.sipush 5620, 3) := by decide +kernel
theorem dX8_init_44 : decode cX8_init 44 = .ok (.newarray .int, 2) := by decide +kernel
theorem dX8_init_46 : decode cX8_init 46 = .ok (.putfield 26, 3) := by decide +kernel
theorem dX8_init_49 : decode cX8_init 49 = .ok (.aload_n 0, 1) := by decide +kernel
theorem dX8_init_50 : decode cX8_init 50 = .ok (.sipush 144, 3) := by decide +kernel
theorem dX8_init_53 : decode cX8_init 53 = .ok (.newarray .long, 2) := by decide +kernel
theorem dX8_init_55 : decode cX8_init 55 = .ok (.putfield 29, 3) := by decide +kernel
theorem dX8_init_58 : decode cX8_init 58 = .ok (.aload_n 0, 1) := by decide +kernel
theorem dX8_init_59 : decode cX8_init 59 = .ok (.sipush 144, 3) := by decide +kernel
theorem dX8_init_62 : decode cX8_init 62 = .ok (.newarray .long, 2) := by decide +kernel
theorem dX8_init_64 : decode cX8_init 64 = .ok (.putfield 33, 3) := by decide +kernel
theorem dX8_init_67 : decode cX8_init 67 = .ok (.aload_n 0, 1) := by decide +kernel
theorem dX8_init_68 : decode cX8_init 68 = .ok (.sipush 144, 3) := by decide +kernel
theorem dX8_init_71 : decode cX8_init 71 = .ok (.newarray .long, 2) := by decide +kernel
theorem dX8_init_73 : decode cX8_init 73 = .ok (.putfield 36, 3) := by decide +kernel
theorem dX8_init_76 : decode cX8_init 76 = .ok (.aload_n 0, 1) := by decide +kernel
theorem dX8_init_77 : decode cX8_init 77 = .ok (.sipush 144, 3) := by decide +kernel
theorem dX8_init_80 : decode cX8_init 80 = .ok (.newarray .long, 2) := by decide +kernel
theorem dX8_init_82 : decode cX8_init 82 = .ok (.putfield 39, 3) := by decide +kernel
theorem dX8_init_85 : decode cX8_init 85 = .ok (.aload_n 0, 1) := by decide +kernel
theorem dX8_init_86 : decode cX8_init 86 = .ok (.sipush 1440, 3) := by decide +kernel
theorem dX8_init_89 : decode cX8_init 89 = .ok (.newarray .long, 2) := by decide +kernel
theorem dX8_init_91 : decode cX8_init 91 = .ok (.putfield 42, 3) := by decide +kernel
theorem dX8_init_94 : decode cX8_init 94 = .ok (.aload_n 0, 1) := by decide +kernel
theorem dX8_init_95 : decode cX8_init 95 = .ok (.sipush 400, 3) := by decide +kernel
theorem dX8_init_98 : decode cX8_init 98 = .ok (.newarray .byte, 2) := by decide +kernel
theorem dX8_init_100 : decode cX8_init 100 = .ok (.putfield 45, 3) := by decide +kernel
theorem dX8_init_103 : decode cX8_init 103 = .ok (.aload_n 0, 1) := by decide +kernel
theorem dX8_init_104 : decode cX8_init 104 = .ok (.iconst (-1), 1) := by decide +kernel
theorem dX8_init_105 : decode cX8_init 105 = .ok (.putfield 49, 3) := by decide +kernel
theorem dX8_init_108 : decode cX8_init 108 = .ok (.aload_n 0, 1) := by decide +kernel
theorem dX8_init_109 : decode cX8_init 109 = .ok (.iconst 5, 1) := by decide +kernel
theorem dX8_init_110 : decode cX8_init 110 = .ok (.newarray .int, 2) := by decide +kernel
theorem dX8_init_112 : decode cX8_init 112 = .ok (.putfield 52, 3) := by decide +kernel
theorem dX8_init_115 : decode cX8_init 115 = .ok (.aload_n 0, 1) := by decide +kernel
theorem dX8_init_116 : decode cX8_init 116 = .ok (.sipush 400, 3) := by decide +kernel
theorem dX8_init_119 : decode cX8_init 119 = .ok (.newarray .int, 2) := by decide +kernel
theorem dX8_init_121 : decode cX8_init 121 = .ok (.putfield 55, 3) := by decide +kernel
theorem dX8_init_124 : decode cX8_init 124 = .ok (.aload_n 0, 1) := by decide +kernel
theorem dX8_init_125 : decode cX8_init 125 = .ok (.bipush 108, 2) := by decide +kernel
theorem dX8_init_127 : decode cX8_init 127 = .ok (.newarray .int, 2) := by decide +kernel
theorem dX8_init_129 : decode cX8_init 129 = .ok (.putfield 58, 3) := by decide +kernel
theorem dX8_init_132 : decode cX8_init 132 = .ok (.aload_n 0, 1) := by decide +kernel
theorem dX8_init_133 : decode cX8_init 133 = .ok (.sipush 7129, 3) := by decide +kernel
theorem dX8_init_136 : decode cX8_init 136 = .ok (.newarray .int, 2) := by decide +kernel
theorem dX8_init_138 : decode cX8_init 138 = .ok (.putfield 61, 3) := by decide +kernel
theorem dX8_init_141 : decode cX8_init 141 = .ok (.aload_n 0, 1) := by decide +kernel
theorem dX8_init_142 : decode cX8_init 142 = .ok (.bipush 6, 2) := by decide +kernel
theorem dX8_init_144 : decode cX8_init 144 = .ok (.newarray .int, 2) := by decide +kernel
theorem dX8_init_146 : decode cX8_init 146 = .ok (.putfield 64, 3) := by decide +kernel
theorem dX8_init_149 : decode cX8_init 149 = .ok (.aload_n 0, 1) := by decide +kernel
theorem dX8_init_150 : decode cX8_init 150 = .ok (.bipush 64, 2) := by decide +kernel
theorem dX8_init_152 : decode cX8_init 152 = .ok (.newarray .int, 2) := by decide +kernel
theorem dX8_init_154 : decode cX8_init 154 = .ok (.putfield 67, 3) := by decide +kernel
theorem dX8_init_157 : decode cX8_init 157 = .ok (.aload_n 0, 1) := by decide +kernel
theorem dX8_init_158 : decode cX8_init 158 = .ok (.getfield 13, 3) := by decide +kernel
theorem dX8_init_161 : decode cX8_init 161 = .ok (.bipush 9, 2) := by decide +kernel
theorem dX8_init_163 : decode cX8_init 163 = .ok (.iconst 1, 1) := by decide +kernel
theorem dX8_init_164 : decode cX8_init 164 = .ok (.iastore, 1) := by decide +kernel
theorem dX8_init_165 : decode cX8_init 165 = .ok (.return_, 1) := by decide +kernel
theorem dX8_copies_0 : decode cX8_copies 0 = .ok (.iconst 0, 1) := by decide +kernel
theorem dX8_copies_1 : decode cX8_copies 1 = .ok (.istore_n 2, 1) := by decide +kernel
theorem dX8_copies_2 : decode cX8_copies 2 = .ok (.iload_n 2, 1) := by decide +kernel
theorem dX8_copies_3 : decode cX8_copies 3 = .ok (.sipush 144, 3) := by decide +kernel
theorem dX8_copies_6 : decode cX8_copies 6 = .ok (.if_icmp .ge 15, 3) := by decide +kernel
theorem dX8_copies_9 : decode cX8_copies 9 = .ok (.aload_n 1, 1) := by decide +kernel
theorem dX8_copies_10 : decode cX8_copies 10 = .ok (.iload_n 2, 1) := by decide +kernel
theorem dX8_copies_11 : decode cX8_copies 11 = .ok (.aload_n 0, 1) := by decide +kernel
theorem dX8_copies_12 : decode cX8_copies 12 = .ok (.iload_n 2, 1) := by decide +kernel
theorem dX8_copies_13 : decode cX8_copies 13 = .ok (.laload, 1) := by decide +kernel
theorem dX8_copies_14 : decode cX8_copies 14 = .ok (.lastore, 1) := by decide +kernel
theorem dX8_copies_15 : decode cX8_copies 15 = .ok (.iinc 2 1, 3) := by decide +kernel
theorem dX8_copies_18 : decode cX8_copies 18 = .ok (.goto (-16), 3) := by decide +kernel
theorem dX8_copies_21 : decode cX8_copies 21 = .ok (.return_, 1) := by decide +kernel
theorem dX8_image_0 : decode cX8_image 0 = .ok (.aload_n 0, 1) := by decide +kernel
theorem dX8_image_1 : decode cX8_image 1 = .ok (.iconst 0, 1) := by decide +kernel
theorem dX8_image_2 : decode cX8_image 2 = .ok (.putfield 3, 3) := by decide +kernel
theorem dX8_image_5 : decode cX8_image 5 = .ok (.iconst 0, 1) := by decide +kernel
theorem dX8_image_6 : decode cX8_image 6 = .ok (.istore_n 1, 1) := by decide +kernel
theorem dX8_image_7 : decode cX8_image 7 = .ok (.iload_n 1, 1) := by decide +kernel
theorem dX8_image_8 : decode cX8_image 8 = .ok (.sipush 1411, 3) := by decide +kernel
theorem dX8_image_11 : decode cX8_image 11 = .ok (.if_icmp .ge 21, 3) := by decide +kernel
theorem dX8_image_14 : decode cX8_image 14 = .ok (.aload_n 0, 1) := by decide +kernel
theorem dX8_image_15 : decode cX8_image 15 = .ok (.getfield 17, 3) := by decide +kernel
theorem dX8_image_18 : decode cX8_image 18 = .ok (.iload_n 1, 1) := by decide +kernel
theorem dX8_image_19 : decode cX8_image 19 = .ok (.aload_n 0, 1) := by decide +kernel
theorem dX8_image_20 : decode cX8_image 20 = .ok (.getfield 13, 3) := by decide +kernel
theorem dX8_image_23 : decode cX8_image 23 = .ok (.iload_n 1, 1) := by decide +kernel
theorem dX8_image_24 : decode cX8_image 24 = .ok (.iaload, 1) := by decide +kernel
theorem dX8_image_25 : decode cX8_image 25 = .ok (.iastore, 1) := by decide +kernel
theorem dX8_image_26 : decode cX8_image 26 = .ok (.iinc 1 1, 3) := by decide +kernel
theorem dX8_image_29 : decode cX8_image 29 = .ok (.goto (-22), 3) := by decide +kernel
theorem dX8_image_32 : decode cX8_image 32 = .ok (.aload_n 0, 1) := by decide +kernel
theorem dX8_image_33 : decode cX8_image 33 = .ok (.getfield 29, 3) := by decide +kernel
theorem dX8_image_36 : decode cX8_image 36 = .ok (.aload_n 0, 1) := by decide +kernel
theorem dX8_image_37 : decode cX8_image 37 = .ok (.getfield 33, 3) := by decide +kernel
theorem dX8_image_40 : decode cX8_image 40 = .ok (.invokestatic 70, 3) := by decide +kernel
theorem dX8_image_43 : decode cX8_image 43 = .ok (.aload_n 0, 1) := by decide +kernel
theorem dX8_image_44 : decode cX8_image 44 = .ok (.iconst 1, 1) := by decide +kernel
theorem dX8_image_45 : decode cX8_image 45 = .ok (.putfield 74, 3) := by decide +kernel
theorem dX8_image_48 : decode cX8_image 48 = .ok (.return_, 1) := by decide +kernel
theorem dX8_back_0 : decode cX8_back 0 = .ok (.aload_n 0, 1) := by decide +kernel
theorem dX8_back_1 : decode cX8_back 1 = .ok (.iconst 0, 1) := by decide +kernel
theorem dX8_back_2 : decode cX8_back 2 = .ok (.putfield 3, 3) := by decide +kernel
theorem dX8_back_5 : decode cX8_back 5 = .ok (.aload_n 0, 1) := by decide +kernel
theorem dX8_back_6 : decode cX8_back 6 = .ok (.getfield 74, 3) := by decide +kernel
theorem dX8_back_9 : decode cX8_back 9 = .ok (.ifCond .ne 5, 3) := by decide +kernel
theorem dX8_back_12 : decode cX8_back 12 = .ok (.iconst 0, 1) := by decide +kernel
theorem dX8_back_13 : decode cX8_back 13 = .ok (.ireturn, 1) := by decide +kernel
theorem dX8_back_14 : decode cX8_back 14 = .ok (.iconst 0, 1) := by decide +kernel
theorem dX8_back_15 : decode cX8_back 15 = .ok (.istore_n 1, 1) := by decide +kernel
theorem dX8_back_16 : decode cX8_back 16 = .ok (.iload_n 1, 1) := by decide +kernel
theorem dX8_back_17 : decode cX8_back 17 = .ok (.sipush 1411, 3) := by decide +kernel
theorem dX8_back_20 : decode cX8_back 20 = .ok (.if_icmp .ge 21, 3) := by decide +kernel
theorem dX8_back_23 : decode cX8_back 23 = .ok (.aload_n 0, 1) := by decide +kernel
theorem dX8_back_24 : decode cX8_back 24 = .ok (.getfield 13, 3) := by decide +kernel
theorem dX8_back_27 : decode cX8_back 27 = .ok (.iload_n 1, 1) := by decide +kernel
theorem dX8_back_28 : decode cX8_back 28 = .ok (.aload_n 0, 1) := by decide +kernel
theorem dX8_back_29 : decode cX8_back 29 = .ok (.getfield 17, 3) := by decide +kernel
theorem dX8_back_32 : decode cX8_back 32 = .ok (.iload_n 1, 1) := by decide +kernel
theorem dX8_back_33 : decode cX8_back 33 = .ok (.iaload, 1) := by decide +kernel
theorem dX8_back_34 : decode cX8_back 34 = .ok (.iastore, 1) := by decide +kernel
theorem dX8_back_35 : decode cX8_back 35 = .ok (.iinc 1 1, 3) := by decide +kernel
theorem dX8_back_38 : decode cX8_back 38 = .ok (.goto (-22), 3) := by decide +kernel
theorem dX8_back_41 : decode cX8_back 41 = .ok (.aload_n 0, 1) := by decide +kernel
theorem dX8_back_42 : decode cX8_back 42 = .ok (.getfield 33, 3) := by decide +kernel
theorem dX8_back_45 : decode cX8_back 45 = .ok (.aload_n 0, 1) := by decide +kernel
theorem dX8_back_46 : decode cX8_back 46 = .ok (.getfield 29, 3) := by decide +kernel
theorem dX8_back_49 : decode cX8_back 49 = .ok (.invokestatic 70, 3) := by decide +kernel
theorem dX8_back_52 : decode cX8_back 52 = .ok (.aload_n 0, 1) := by decide +kernel
theorem dX8_back_53 : decode cX8_back 53 = .ok (.iconst 0, 1) := by decide +kernel
theorem dX8_back_54 : decode cX8_back 54 = .ok (.putfield 78, 3) := by decide +kernel
theorem dX8_back_57 : decode cX8_back 57 = .ok (.iconst 1, 1) := by decide +kernel
theorem dX8_back_58 : decode cX8_back 58 = .ok (.ireturn, 1) := by decide +kernel
theorem dX8_remembers_0 : decode cX8_remembers 0 = .ok (.aload_n 0, 1) := by decide +kernel
theorem dX8_remembers_1 : decode cX8_remembers 1 = .ok (.getfield 78, 3) := by decide +kernel
theorem dX8_remembers_4 : decode cX8_remembers 4 = .ok (.bipush 10, 2) := by decide +kernel
theorem dX8_remembers_6 : decode cX8_remembers 6 = .ok (.if_icmp .ne 68, 3) := by decide +kernel
theorem dX8_remembers_9 : decode cX8_remembers 9 = .ok (.iconst 0, 1) := by decide +kernel
theorem dX8_remembers_10 : decode cX8_remembers 10 = .ok (.istore_n 1, 1) := by decide +kernel
theorem dX8_remembers_11 : decode cX8_remembers 11 = .ok (.iload_n 1, 1) := by decide +kernel
theorem dX8_remembers_12 : decode cX8_remembers 12 = .ok (.sipush 5058, 3) := by decide +kernel
theorem dX8_remembers_15 : decode cX8_remembers 15 = .ok (.if_icmp .ge 25, 3) := by decide +kernel
theorem dX8_remembers_18 : decode cX8_remembers 18 = .ok (.aload_n 0, 1) := by decide +kernel
theorem dX8_remembers_19 : decode cX8_remembers 19 = .ok (.getfield 26, 3) := by decide +kernel
theorem dX8_remembers_22 : decode cX8_remembers 22 = .ok (.iload_n 1, 1) := by decide +kernel
theorem dX8_remembers_23 : decode cX8_remembers 23 = .ok (.aload_n 0, 1) := by decide +kernel
theorem dX8_remembers_24 : decode cX8_remembers 24 = .ok (.getfield 26, 3) := by decide +kernel
theorem dX8_remembers_27 : decode cX8_remembers 27 = .ok (.iload_n 1, 1) := by decide +kernel
theorem dX8_remembers_28 : decode cX8_remembers 28 = .ok (.sipush 562, 3) := by decide +kernel
theorem dX8_remembers_31 : decode cX8_remembers 31 = .ok (.iadd, 1) := by decide +kernel
theorem dX8_remembers_32 : decode cX8_remembers 32 = .ok (.iaload, 1) := by decide +kernel
theorem dX8_remembers_33 : decode cX8_remembers 33 = .ok (.iastore, 1) := by decide +kernel
theorem dX8_remembers_34 : decode cX8_remembers 34 = .ok (.iinc 1 1, 3) := by decide +kernel
theorem dX8_remembers_37 : decode cX8_remembers 37 = .ok (.goto (-26), 3) := by decide +kernel
theorem dX8_remembers_40 : decode cX8_remembers 40 = .ok (.iconst 0, 1) := by decide +kernel
theorem dX8_remembers_41 : decode cX8_remembers 41 = .ok (.istore_n 1, 1) := by decide +kernel
theorem dX8_remembers_42 : decode cX8_remembers 42 = .ok (.iload_n 1, 1) := by decide +kernel
theorem dX8_remembers_43 : decode cX8_remembers 43 = .ok (.sipush 1296, 3) := by decide +kernel
theorem dX8_remembers_46 : decode cX8_remembers 46 = .ok (.if_icmp .ge 25, 3) := by decide +kernel
theorem dX8_remembers_49 : decode cX8_remembers 49 = .ok (.aload_n 0, 1) := by decide +kernel
theorem dX8_remembers_50 : decode cX8_remembers 50 = .ok (.getfield 42, 3) := by decide +kernel
theorem dX8_remembers_53 : decode cX8_remembers 53 = .ok (.iload_n 1, 1) := by decide +kernel
theorem dX8_remembers_54 : decode cX8_remembers 54 = .ok (.aload_n 0, 1) := by decide +kernel
theorem dX8_remembers_55 : decode cX8_remembers 55 = .ok (.getfield 42, 3) := by decide +kernel
theorem dX8_remembers_58 : decode cX8_remembers 58 = .ok (.iload_n 1, 1) := by decide +kernel
theorem dX8_remembers_59 : decode cX8_remembers 59 = .ok (.sipush 144, 3) := by decide +kernel
theorem dX8_remembers_62 : decode cX8_remembers 62 = .ok (.iadd, 1) := by decide +kernel
theorem dX8_remembers_63 : decode cX8_remembers 63 = .ok (.laload, 1) := by decide +kernel
theorem dX8_remembers_64 : decode cX8_remembers 64 = .ok (.lastore, 1) := by decide +kernel
theorem dX8_remembers_65 : decode cX8_remembers 65 = .ok (.iinc 1 1, 3) := by decide +kernel
theorem dX8_remembers_68 : decode cX8_remembers 68 = .ok (.goto (-26), 3) := by decide +kernel
theorem dX8_remembers_71 : decode cX8_remembers 71 = .ok (.goto 13, 3) := by decide +kernel
theorem dX8_remembers_74 : decode cX8_remembers 74 = .ok (.aload_n 0, 1) := by decide +kernel
theorem dX8_remembers_75 : decode cX8_remembers 75 = .ok (.dup, 1) := by decide +kernel
theorem dX8_remembers_76 : decode cX8_remembers 76 = .ok (.getfield 78, 3) := by decide +kernel
theorem dX8_remembers_79 : decode cX8_remembers 79 = .ok (.iconst 1, 1) := by decide +kernel
theorem dX8_remembers_80 : decode cX8_remembers 80 = .ok (.iadd, 1) := by decide +kernel
theorem dX8_remembers_81 : decode cX8_remembers 81 = .ok (.putfield 78, 3) := by decide +kernel
theorem dX8_remembers_84 : decode cX8_remembers 84 = .ok (.iconst 0, 1) := by decide +kernel
theorem dX8_remembers_85 : decode cX8_remembers 85 = .ok (.istore_n 1, 1) := by decide +kernel
theorem dX8_remembers_86 : decode cX8_remembers 86 = .ok (.iload_n 1, 1) := by decide +kernel
theorem dX8_remembers_87 : decode cX8_remembers 87 = .ok (.sipush 562, 3) := by decide +kernel
theorem dX8_remembers_90 : decode cX8_remembers 90 = .ok (.if_icmp .ge 32, 3) := by decide +kernel
theorem dX8_remembers_93 : decode cX8_remembers 93 = .ok (.aload_n 0, 1) := by decide +kernel
theorem dX8_remembers_94 : decode cX8_remembers 94 = .ok (.getfield 26, 3) := by decide +kernel
theorem dX8_remembers_97 : decode cX8_remembers 97 = .ok (.sipush 562, 3) := by decide +kernel
theorem dX8_remembers_100 : decode cX8_remembers 100 = .ok (.aload_n 0, 1) := by decide +kernel
theorem dX8_remembers_101 : decode cX8_remembers 101 = .ok (.getfield 78, 3) := by decide +kernel
theorem dX8_remembers_104 : decode cX8_remembers 104 = .ok (.iconst 1, 1) := by decide +kernel
theorem dX8_remembers_105 : decode cX8_remembers 105 = .ok (.isub, 1) := by decide +kernel
theorem dX8_remembers_106 : decode cX8_remembers 106 = .ok (.imul, 1) := by decide +kernel
theorem dX8_remembers_107 : decode cX8_remembers 107 = .ok (.iload_n 1, 1) := by decide +kernel
theorem dX8_remembers_108 : decode cX8_remembers 108 = .ok (.iadd, 1) := by decide +kernel
theorem dX8_remembers_109 : decode cX8_remembers 109 = .ok (.aload_n 0, 1) := by decide +kernel
theorem dX8_remembers_110 : decode cX8_remembers 110 = .ok (.getfield 13, 3) := by decide +kernel
theorem dX8_remembers_113 : decode cX8_remembers 113 = .ok (.iload_n 1, 1) := by decide +kernel
theorem dX8_remembers_114 : decode cX8_remembers 114 = .ok (.iaload, 1) := by decide +kernel
theorem dX8_remembers_115 : decode cX8_remembers 115 = .ok (.iastore, 1) := by decide +kernel
theorem dX8_remembers_116 : decode cX8_remembers 116 = .ok (.iinc 1 1, 3) := by decide +kernel
theorem dX8_remembers_119 : decode cX8_remembers 119 = .ok (.goto (-33), 3) := by decide +kernel
theorem dX8_remembers_122 : decode cX8_remembers 122 = .ok (.iconst 0, 1) := by decide +kernel
theorem dX8_remembers_123 : decode cX8_remembers 123 = .ok (.istore_n 1, 1) := by decide +kernel
theorem dX8_remembers_124 : decode cX8_remembers 124 = .ok (.iload_n 1, 1) := by decide +kernel
theorem dX8_remembers_125 : decode cX8_remembers 125 = .ok (.sipush 144, 3) := by decide +kernel
theorem dX8_remembers_128 : decode cX8_remembers 128 = .ok (.if_icmp .ge 32, 3) := by decide +kernel
theorem dX8_remembers_131 : decode cX8_remembers 131 = .ok (.aload_n 0, 1) := by decide +kernel
theorem dX8_remembers_132 : decode cX8_remembers 132 = .ok (.getfield 42, 3) := by decide +kernel
theorem dX8_remembers_135 : decode cX8_remembers 135 = .ok (.sipush 144, 3) := by decide +kernel
theorem dX8_remembers_138 : decode cX8_remembers 138 = .ok (.aload_n 0, 1) := by decide +kernel
theorem dX8_remembers_139 : decode cX8_remembers 139 = .ok (.getfield 78, 3) := by decide +kernel
theorem dX8_remembers_142 : decode cX8_remembers 142 = .ok (.iconst 1, 1) := by decide +kernel
theorem dX8_remembers_143 : decode cX8_remembers 143 = .ok (.isub, 1) := by decide +kernel
theorem dX8_remembers_144 : decode cX8_remembers 144 = .ok (.imul, 1) := by decide +kernel
theorem dX8_remembers_145 : decode cX8_remembers 145 = .ok (.iload_n 1, 1) := by decide +kernel
theorem dX8_remembers_146 : decode cX8_remembers 146 = .ok (.iadd, 1) := by decide +kernel
theorem dX8_remembers_147 : decode cX8_remembers 147 = .ok (.aload_n 0, 1) := by decide +kernel
theorem dX8_remembers_148 : decode cX8_remembers 148 = .ok (.getfield 29, 3) := by decide +kernel
theorem dX8_remembers_151 : decode cX8_remembers 151 = .ok (.iload_n 1, 1) := by decide +kernel
theorem dX8_remembers_152 : decode cX8_remembers 152 = .ok (.laload, 1) := by decide +kernel
theorem dX8_remembers_153 : decode cX8_remembers 153 = .ok (.lastore, 1) := by decide +kernel
theorem dX8_remembers_154 : decode cX8_remembers 154 = .ok (.iinc 1 1, 3) := by decide +kernel
theorem dX8_remembers_157 : decode cX8_remembers 157 = .ok (.goto (-33), 3) := by decide +kernel
theorem dX8_remembers_160 : decode cX8_remembers 160 = .ok (.return_, 1) := by decide +kernel
theorem dX8_undo_0 : decode cX8_undo 0 = .ok (.aload_n 0, 1) := by decide +kernel
theorem dX8_undo_1 : decode cX8_undo 1 = .ok (.iconst 0, 1) := by decide +kernel
theorem dX8_undo_2 : decode cX8_undo 2 = .ok (.putfield 3, 3) := by decide +kernel
theorem dX8_undo_5 : decode cX8_undo 5 = .ok (.aload_n 0, 1) := by decide +kernel
theorem dX8_undo_6 : decode cX8_undo 6 = .ok (.getfield 78, 3) := by decide +kernel
theorem dX8_undo_9 : decode cX8_undo 9 = .ok (.ifCond .ne 5, 3) := by decide +kernel
theorem dX8_undo_12 : decode cX8_undo 12 = .ok (.iconst 0, 1) := by decide +kernel
theorem dX8_undo_13 : decode cX8_undo 13 = .ok (.ireturn, 1) := by decide +kernel
theorem dX8_undo_14 : decode cX8_undo 14 = .ok (.aload_n 0, 1) := by decide +kernel
theorem dX8_undo_15 : decode cX8_undo 15 = .ok (.dup, 1) := by decide +kernel
theorem dX8_undo_16 : decode cX8_undo 16 = .ok (.getfield 78, 3) := by decide +kernel
theorem dX8_undo_19 : decode cX8_undo 19 = .ok (.iconst 1, 1) := by decide +kernel
theorem dX8_undo_20 : decode cX8_undo 20 = .ok (.isub, 1) := by decide +kernel
theorem dX8_undo_21 : decode cX8_undo 21 = .ok (.putfield 78, 3) := by decide +kernel
theorem dX8_undo_24 : decode cX8_undo 24 = .ok (.iconst 0, 1) := by decide +kernel
theorem dX8_undo_25 : decode cX8_undo 25 = .ok (.istore_n 1, 1) := by decide +kernel
theorem dX8_undo_26 : decode cX8_undo 26 = .ok (.iload_n 1, 1) := by decide +kernel
theorem dX8_undo_27 : decode cX8_undo 27 = .ok (.sipush 562, 3) := by decide +kernel
theorem dX8_undo_30 : decode cX8_undo 30 = .ok (.if_icmp .ge 30, 3) := by decide +kernel
theorem dX8_undo_33 : decode cX8_undo 33 = .ok (.aload_n 0, 1) := by decide +kernel
theorem dX8_undo_34 : decode cX8_undo 34 = .ok (.getfield 13, 3) := by decide +kernel
theorem dX8_undo_37 : decode cX8_undo 37 = .ok (.iload_n 1, 1) := by decide +kernel
theorem dX8_undo_38 : decode cX8_undo 38 = .ok (.aload_n 0, 1) := by decide +kernel
theorem dX8_undo_39 : decode cX8_undo 39 = .ok (.getfield 26, 3) := by decide +kernel
theorem dX8_undo_42 : decode cX8_undo 42 = .ok (.sipush 562, 3) := by decide +kernel
theorem dX8_undo_45 : decode cX8_undo 45 = .ok (.aload_n 0, 1) := by decide +kernel
theorem dX8_undo_46 : decode cX8_undo 46 = .ok (.getfield 78, 3) := by decide +kernel
theorem dX8_undo_49 : decode cX8_undo 49 = .ok (.imul, 1) := by decide +kernel
theorem dX8_undo_50 : decode cX8_undo 50 = .ok (.iload_n 1, 1) := by decide +kernel
theorem dX8_undo_51 : decode cX8_undo 51 = .ok (.iadd, 1) := by decide +kernel
theorem dX8_undo_52 : decode cX8_undo 52 = .ok (.iaload, 1) := by decide +kernel
theorem dX8_undo_53 : decode cX8_undo 53 = .ok (.iastore, 1) := by decide +kernel
theorem dX8_undo_54 : decode cX8_undo 54 = .ok (.iinc 1 1, 3) := by decide +kernel
theorem dX8_undo_57 : decode cX8_undo 57 = .ok (.goto (-31), 3) := by decide +kernel
theorem dX8_undo_60 : decode cX8_undo 60 = .ok (.iconst 0, 1) := by decide +kernel
theorem dX8_undo_61 : decode cX8_undo 61 = .ok (.istore_n 1, 1) := by decide +kernel
theorem dX8_undo_62 : decode cX8_undo 62 = .ok (.iload_n 1, 1) := by decide +kernel
theorem dX8_undo_63 : decode cX8_undo 63 = .ok (.sipush 144, 3) := by decide +kernel
theorem dX8_undo_66 : decode cX8_undo 66 = .ok (.if_icmp .ge 30, 3) := by decide +kernel
theorem dX8_undo_69 : decode cX8_undo 69 = .ok (.aload_n 0, 1) := by decide +kernel
theorem dX8_undo_70 : decode cX8_undo 70 = .ok (.getfield 29, 3) := by decide +kernel
theorem dX8_undo_73 : decode cX8_undo 73 = .ok (.iload_n 1, 1) := by decide +kernel
theorem dX8_undo_74 : decode cX8_undo 74 = .ok (.aload_n 0, 1) := by decide +kernel
theorem dX8_undo_75 : decode cX8_undo 75 = .ok (.getfield 42, 3) := by decide +kernel
theorem dX8_undo_78 : decode cX8_undo 78 = .ok (.sipush 144, 3) := by decide +kernel
theorem dX8_undo_81 : decode cX8_undo 81 = .ok (.aload_n 0, 1) := by decide +kernel
theorem dX8_undo_82 : decode cX8_undo 82 = .ok (.getfield 78, 3) := by decide +kernel
theorem dX8_undo_85 : decode cX8_undo 85 = .ok (.imul, 1) := by decide +kernel
theorem dX8_undo_86 : decode cX8_undo 86 = .ok (.iload_n 1, 1) := by decide +kernel
theorem dX8_undo_87 : decode cX8_undo 87 = .ok (.iadd, 1) := by decide +kernel
theorem dX8_undo_88 : decode cX8_undo 88 = .ok (.laload, 1) := by decide +kernel
theorem dX8_undo_89 : decode cX8_undo 89 = .ok (.lastore, 1) := by decide +kernel
theorem dX8_undo_90 : decode cX8_undo 90 = .ok (.iinc 1 1, 3) := by decide +kernel
theorem dX8_undo_93 : decode cX8_undo 93 = .ok (.goto (-31), 3) := by decide +kernel
theorem dX8_undo_96 : decode cX8_undo 96 = .ok (.iconst 1, 1) := by decide +kernel
theorem dX8_undo_97 : decode cX8_undo 97 = .ok (.ireturn, 1) := by decide +kernel
theorem dX8_vaults_0 : decode cX8_vaults 0 = .ok (.aload_n 0, 1) := by decide +kernel
theorem dX8_vaults_1 : decode cX8_vaults 1 = .ok (.getfield 13, 3) := by decide +kernel
theorem dX8_vaults_4 : decode cX8_vaults 4 = .ok (.iconst 0, 1) := by decide +kernel
theorem dX8_vaults_5 : decode cX8_vaults 5 = .ok (.iaload, 1) := by decide +kernel
theorem dX8_vaults_6 : decode cX8_vaults 6 = .ok (.ireturn, 1) := by decide +kernel
theorem dX8_people_0 : decode cX8_people 0 = .ok (.aload_n 0, 1) := by decide +kernel
theorem dX8_people_1 : decode cX8_people 1 = .ok (.getfield 13, 3) := by decide +kernel
theorem dX8_people_4 : decode cX8_people 4 = .ok (.iconst 1, 1) := by decide +kernel
theorem dX8_people_5 : decode cX8_people 5 = .ok (.iaload, 1) := by decide +kernel
theorem dX8_people_6 : decode cX8_people 6 = .ok (.ireturn, 1) := by decide +kernel
theorem dX8_contracts_0 : decode cX8_contracts 0 = .ok (.aload_n 0, 1) := by decide +kernel
theorem dX8_contracts_1 : decode cX8_contracts 1 = .ok (.getfield 13, 3) := by decide +kernel
theorem dX8_contracts_4 : decode cX8_contracts 4 = .ok (.iconst 2, 1) := by decide +kernel
theorem dX8_contracts_5 : decode cX8_contracts 5 = .ok (.iaload, 1) := by decide +kernel
theorem dX8_contracts_6 : decode cX8_contracts 6 = .ok (.ireturn, 1) := by decide +kernel
theorem dX8_of_0 : decode cX8_of 0 = .ok (.aload_n 0, 1) := by decide +kernel
theorem dX8_of_1 : decode cX8_of 1 = .ok (.getfield 13, 3) := by decide +kernel
theorem dX8_of_4 : decode cX8_of 4 = .ok (.bipush 10, 2) := by decide +kernel
theorem dX8_of_6 : decode cX8_of 6 = .ok (.iconst 4, 1) := by decide +kernel
theorem dX8_of_7 : decode cX8_of 7 = .ok (.iload_n 1, 1) := by decide +kernel
theorem dX8_of_8 : decode cX8_of 8 = .ok (.imul, 1) := by decide +kernel
theorem dX8_of_9 : decode cX8_of 9 = .ok (.iadd, 1) := by decide +kernel
theorem dX8_of_10 : decode cX8_of 10 = .ok (.iload_n 2, 1) := by decide +kernel
theorem dX8_of_11 : decode cX8_of 11 = .ok (.iadd, 1) := by decide +kernel
theorem dX8_of_12 : decode cX8_of 12 = .ok (.iaload, 1) := by decide +kernel
theorem dX8_of_13 : decode cX8_of 13 = .ok (.ireturn, 1) := by decide +kernel
theorem dX8_sets_0 : decode cX8_sets 0 = .ok (.aload_n 0, 1) := by decide +kernel
theorem dX8_sets_1 : decode cX8_sets 1 = .ok (.getfield 13, 3) := by decide +kernel
theorem dX8_sets_4 : decode cX8_sets 4 = .ok (.bipush 10, 2) := by decide +kernel
theorem dX8_sets_6 : decode cX8_sets 6 = .ok (.iconst 4, 1) := by decide +kernel
theorem dX8_sets_7 : decode cX8_sets 7 = .ok (.iload_n 1, 1) := by decide +kernel
theorem dX8_sets_8 : decode cX8_sets 8 = .ok (.imul, 1) := by decide +kernel
theorem dX8_sets_9 : decode cX8_sets 9 = .ok (.iadd, 1) := by decide +kernel
theorem dX8_sets_10 : decode cX8_sets 10 = .ok (.iload_n 2, 1) := by decide +kernel
theorem dX8_sets_11 : decode cX8_sets 11 = .ok (.iadd, 1) := by decide +kernel
theorem dX8_sets_12 : decode cX8_sets 12 = .ok (.iload_n 3, 1) := by decide +kernel
theorem dX8_sets_13 : decode cX8_sets 13 = .ok (.iastore, 1) := by decide +kernel
theorem dX8_sets_14 : decode cX8_sets 14 = .ok (.return_, 1) := by decide +kernel
theorem dX8_ofContract_0 : decode cX8_ofContract 0 = .ok (.aload_n 0, 1) := by decide +kernel
theorem dX8_ofContract_1 : decode cX8_ofContract 1 = .ok (.getfield 13, 3) := by decide +kernel
theorem dX8_ofContract_4 : decode cX8_ofContract 4 = .ok (.bipush 34, 2) := by decide +kernel
theorem dX8_ofContract_6 : decode cX8_ofContract 6 = .ok (.iconst 4, 1) := by decide +kernel
theorem dX8_ofContract_7 : decode cX8_ofContract 7 = .ok (.iload_n 1, 1) := by decide +kernel
theorem dX8_ofContract_8 : decode cX8_ofContract 8 = .ok (.imul, 1) := by decide +kernel
theorem dX8_ofContract_9 : decode cX8_ofContract 9 = .ok (.iadd, 1) := by decide +kernel
theorem dX8_ofContract_10 : decode cX8_ofContract 10 = .ok (.iload_n 2, 1) := by decide +kernel
theorem dX8_ofContract_11 : decode cX8_ofContract 11 = .ok (.iadd, 1) := by decide +kernel
theorem dX8_ofContract_12 : decode cX8_ofContract 12 = .ok (.iaload, 1) := by decide +kernel
theorem dX8_ofContract_13 : decode cX8_ofContract 13 = .ok (.ireturn, 1) := by decide +kernel
theorem dX8_noVault_0 : decode cX8_noVault 0 = .ok (.iload_n 1, 1) := by decide +kernel
theorem dX8_noVault_1 : decode cX8_noVault 1 = .ok (.iconst 0, 1) := by decide +kernel
theorem dX8_noVault_2 : decode cX8_noVault 2 = .ok (.aload_n 0, 1) := by decide +kernel
theorem dX8_noVault_3 : decode cX8_noVault 3 = .ok (.invokevirtual 81, 3) := by decide +kernel
theorem dX8_noVault_6 : decode cX8_noVault 6 = .ok (.iconst 1, 1) := by decide +kernel
theorem dX8_noVault_7 : decode cX8_noVault 7 = .ok (.isub, 1) := by decide +kernel
theorem dX8_noVault_8 : decode cX8_noVault 8 = .ok (.invokestatic 85, 3) := by decide +kernel
theorem dX8_noVault_11 : decode cX8_noVault 11 = .ok (.ifCond .ne 7, 3) := by decide +kernel
theorem dX8_noVault_14 : decode cX8_noVault 14 = .ok (.iconst 1, 1) := by decide +kernel
theorem dX8_noVault_15 : decode cX8_noVault 15 = .ok (.goto 4, 3) := by decide +kernel
theorem dX8_noVault_18 : decode cX8_noVault 18 = .ok (.iconst 0, 1) := by decide +kernel
theorem dX8_noVault_19 : decode cX8_noVault 19 = .ok (.ireturn, 1) := by decide +kernel
theorem dX8_noPerson_0 : decode cX8_noPerson 0 = .ok (.iload_n 1, 1) := by decide +kernel
theorem dX8_noPerson_1 : decode cX8_noPerson 1 = .ok (.iconst 0, 1) := by decide +kernel
theorem dX8_noPerson_2 : decode cX8_noPerson 2 = .ok (.aload_n 0, 1) := by decide +kernel
theorem dX8_noPerson_3 : decode cX8_noPerson 3 = .ok (.invokevirtual 89, 3) := by decide +kernel
theorem dX8_noPerson_6 : decode cX8_noPerson 6 = .ok (.iconst 1, 1) := by decide +kernel
theorem dX8_noPerson_7 : decode cX8_noPerson 7 = .ok (.isub, 1) := by decide +kernel
theorem dX8_noPerson_8 : decode cX8_noPerson 8 = .ok (.invokestatic 85, 3) := by decide +kernel
theorem dX8_noPerson_11 : decode cX8_noPerson 11 = .ok (.ifCond .ne 7, 3) := by decide +kernel
theorem dX8_noPerson_14 : decode cX8_noPerson 14 = .ok (.iconst 1, 1) := by decide +kernel
theorem dX8_noPerson_15 : decode cX8_noPerson 15 = .ok (.goto 4, 3) := by decide +kernel
theorem dX8_noPerson_18 : decode cX8_noPerson 18 = .ok (.iconst 0, 1) := by decide +kernel
theorem dX8_noPerson_19 : decode cX8_noPerson 19 = .ok (.ireturn, 1) := by decide +kernel
theorem dX8_noCode_0 : decode cX8_noCode 0 = .ok (.iload_n 0, 1) := by decide +kernel
theorem dX8_noCode_1 : decode cX8_noCode 1 = .ok (.iconst 0, 1) := by decide +kernel
theorem dX8_noCode_2 : decode cX8_noCode 2 = .ok (.sipush 215, 3) := by decide +kernel
theorem dX8_noCode_5 : decode cX8_noCode 5 = .ok (.invokestatic 85, 3) := by decide +kernel
theorem dX8_noCode_8 : decode cX8_noCode 8 = .ok (.ifCond .ne 7, 3) := by decide +kernel
theorem dX8_noCode_11 : decode cX8_noCode 11 = .ok (.iconst 1, 1) := by decide +kernel
theorem dX8_noCode_12 : decode cX8_noCode 12 = .ok (.goto 4, 3) := by decide +kernel
theorem dX8_noCode_15 : decode cX8_noCode 15 = .ok (.iconst 0, 1) := by decide +kernel
theorem dX8_noCode_16 : decode cX8_noCode 16 = .ok (.ireturn, 1) := by decide +kernel
theorem dX8_draw_0 : decode cX8_draw 0 = .ok (.aload_n 0, 1) := by decide +kernel
theorem dX8_draw_1 : decode cX8_draw 1 = .ok (.getfield 13, 3) := by decide +kernel
theorem dX8_draw_4 : decode cX8_draw 4 = .ok (.bipush 9, 2) := by decide +kernel
theorem dX8_draw_6 : decode cX8_draw 6 = .ok (.ldc 92, 2) := by decide +kernel
theorem dX8_draw_8 : decode cX8_draw 8 = .ok (.aload_n 0, 1) := by decide +kernel
theorem dX8_draw_9 : decode cX8_draw 9 = .ok (.getfield 13, 3) := by decide +kernel
theorem dX8_draw_12 : decode cX8_draw 12 = .ok (.bipush 9, 2) := by decide +kernel
theorem dX8_draw_14 : decode cX8_draw 14 = .ok (.iaload, 1) := by decide +kernel
theorem dX8_draw_15 : decode cX8_draw 15 = .ok (.imul, 1) := by decide +kernel
theorem dX8_draw_16 : decode cX8_draw 16 = .ok (.sipush 12345, 3) := by decide +kernel
theorem dX8_draw_19 : decode cX8_draw 19 = .ok (.iadd, 1) := by decide +kernel
theorem dX8_draw_20 : decode cX8_draw 20 = .ok (.iastore, 1) := by decide +kernel
theorem dX8_draw_21 : decode cX8_draw 21 = .ok (.aload_n 0, 1) := by decide +kernel
theorem dX8_draw_22 : decode cX8_draw 22 = .ok (.getfield 13, 3) := by decide +kernel
theorem dX8_draw_25 : decode cX8_draw 25 = .ok (.bipush 9, 2) := by decide +kernel
theorem dX8_draw_27 : decode cX8_draw 27 = .ok (.iaload, 1) := by decide +kernel
theorem dX8_draw_28 : decode cX8_draw 28 = .ok (.bipush 16, 2) := by decide +kernel
theorem dX8_draw_30 : decode cX8_draw 30 = .ok (.ishr, 1) := by decide +kernel
theorem dX8_draw_31 : decode cX8_draw 31 = .ok (.sipush 32767, 3) := by decide +kernel
theorem dX8_draw_34 : decode cX8_draw 34 = .ok (.iand, 1) := by decide +kernel
theorem dX8_draw_35 : decode cX8_draw 35 = .ok (.iload_n 1, 1) := by decide +kernel
theorem dX8_draw_36 : decode cX8_draw 36 = .ok (.irem, 1) := by decide +kernel
theorem dX8_draw_37 : decode cX8_draw 37 = .ok (.ireturn, 1) := by decide +kernel
theorem dX8_at_0 : decode cX8_at 0 = .ok (.iconst 4, 1) := by decide +kernel
theorem dX8_at_1 : decode cX8_at 1 = .ok (.bipush 6, 2) := by decide +kernel
theorem dX8_at_3 : decode cX8_at 3 = .ok (.iload_n 0, 1) := by decide +kernel
theorem dX8_at_4 : decode cX8_at 4 = .ok (.imul, 1) := by decide +kernel
theorem dX8_at_5 : decode cX8_at 5 = .ok (.iload_n 1, 1) := by decide +kernel
theorem dX8_at_6 : decode cX8_at 6 = .ok (.iadd, 1) := by decide +kernel
theorem dX8_at_7 : decode cX8_at 7 = .ok (.imul, 1) := by decide +kernel
theorem dX8_at_8 : decode cX8_at 8 = .ok (.ireturn, 1) := by decide +kernel
theorem dX8_canBe_0 : decode cX8_canBe 0 = .ok (.aload_n 0, 1) := by decide +kernel
theorem dX8_canBe_1 : decode cX8_canBe 1 = .ok (.getfield 29, 3) := by decide +kernel
theorem dX8_canBe_4 : decode cX8_canBe 4 = .ok (.iload_n 1, 1) := by decide +kernel
theorem dX8_canBe_5 : decode cX8_canBe 5 = .ok (.iload_n 2, 1) := by decide +kernel
theorem dX8_canBe_6 : decode cX8_canBe 6 = .ok (.invokestatic 93, 3) := by decide +kernel
theorem dX8_canBe_9 : decode cX8_canBe 9 = .ok (.iload_n 3, 1) := by decide +kernel
theorem dX8_canBe_10 : decode cX8_canBe 10 = .ok (.bipush 64, 2) := by decide +kernel
theorem dX8_canBe_12 : decode cX8_canBe 12 = .ok (.idiv, 1) := by decide +kernel
theorem dX8_canBe_13 : decode cX8_canBe 13 = .ok (.iadd, 1) := by decide +kernel
theorem dX8_canBe_14 : decode cX8_canBe 14 = .ok (.laload, 1) := by decide +kernel
theorem dX8_canBe_15 : decode cX8_canBe 15 = .ok (.iload_n 3, 1) := by decide +kernel
theorem dX8_canBe_16 : decode cX8_canBe 16 = .ok (.bipush 64, 2) := by decide +kernel
theorem dX8_canBe_18 : decode cX8_canBe 18 = .ok (.irem, 1) := by decide +kernel
theorem dX8_canBe_19 : decode cX8_canBe 19 = .ok (.lshr, 1) := by decide +kernel
theorem dX8_canBe_20 : decode cX8_canBe 20 = .ok (.lconst 1, 1) := by decide +kernel
theorem dX8_canBe_21 : decode cX8_canBe 21 = .ok (.land, 1) := by decide +kernel
theorem dX8_canBe_22 : decode cX8_canBe 22 = .ok (.lconst 1, 1) := by decide +kernel
theorem dX8_canBe_23 : decode cX8_canBe 23 = .ok (.lcmp, 1) := by decide +kernel
theorem dX8_canBe_24 : decode cX8_canBe 24 = .ok (.ifCond .ne 7, 3) := by decide +kernel
theorem dX8_canBe_27 : decode cX8_canBe 27 = .ok (.iconst 1, 1) := by decide +kernel
theorem dX8_canBe_28 : decode cX8_canBe 28 = .ok (.goto 4, 3) := by decide +kernel
theorem dX8_canBe_31 : decode cX8_canBe 31 = .ok (.iconst 0, 1) := by decide +kernel
theorem dX8_canBe_32 : decode cX8_canBe 32 = .ok (.ireturn, 1) := by decide +kernel
theorem dX8_isNot_0 : decode cX8_isNot 0 = .ok (.aload_n 0, 1) := by decide +kernel
theorem dX8_isNot_1 : decode cX8_isNot 1 = .ok (.getfield 29, 3) := by decide +kernel
theorem dX8_isNot_4 : decode cX8_isNot 4 = .ok (.iload_n 1, 1) := by decide +kernel
theorem dX8_isNot_5 : decode cX8_isNot 5 = .ok (.iload_n 2, 1) := by decide +kernel
theorem dX8_isNot_6 : decode cX8_isNot 6 = .ok (.invokestatic 93, 3) := by decide +kernel
theorem dX8_isNot_9 : decode cX8_isNot 9 = .ok (.iload_n 3, 1) := by decide +kernel
theorem dX8_isNot_10 : decode cX8_isNot 10 = .ok (.bipush 64, 2) := by decide +kernel
theorem dX8_isNot_12 : decode cX8_isNot 12 = .ok (.idiv, 1) := by decide +kernel
theorem dX8_isNot_13 : decode cX8_isNot 13 = .ok (.iadd, 1) := by decide +kernel
theorem dX8_isNot_14 : decode cX8_isNot 14 = .ok (.dup2, 1) := by decide +kernel
theorem dX8_isNot_15 : decode cX8_isNot 15 = .ok (.laload, 1) := by decide +kernel
theorem dX8_isNot_16 : decode cX8_isNot 16 = .ok (.lconst 1, 1) := by decide +kernel
theorem dX8_isNot_17 : decode cX8_isNot 17 = .ok (.iload_n 3, 1) := by decide +kernel
theorem dX8_isNot_18 : decode cX8_isNot 18 = .ok (.bipush 64, 2) := by decide +kernel
theorem dX8_isNot_20 : decode cX8_isNot 20 = .ok (.irem, 1) := by decide +kernel
theorem dX8_isNot_21 : decode cX8_isNot 21 = .ok (.lshl, 1) := by decide +kernel
theorem dX8_isNot_22 : decode cX8_isNot 22 = .ok (.ldc2_w 97, 3) := by decide +kernel
theorem dX8_isNot_25 : decode cX8_isNot 25 = .ok (.lxor, 1) := by decide +kernel
theorem dX8_isNot_26 : decode cX8_isNot 26 = .ok (.land, 1) := by decide +kernel
theorem dX8_isNot_27 : decode cX8_isNot 27 = .ok (.lastore, 1) := by decide +kernel
theorem dX8_isNot_28 : decode cX8_isNot 28 = .ok (.return_, 1) := by decide +kernel
theorem dX8_forgets_0 : decode cX8_forgets 0 = .ok (.iconst 0, 1) := by decide +kernel
theorem dX8_forgets_1 : decode cX8_forgets 1 = .ok (.istore_n 3, 1) := by decide +kernel
theorem dX8_forgets_2 : decode cX8_forgets 2 = .ok (.iload_n 3, 1) := by decide +kernel
theorem dX8_forgets_3 : decode cX8_forgets 3 = .ok (.iconst 4, 1) := by decide +kernel
theorem dX8_forgets_4 : decode cX8_forgets 4 = .ok (.if_icmp .ge 35, 3) := by decide +kernel
theorem dX8_forgets_7 : decode cX8_forgets 7 = .ok (.aload_n 0, 1) := by decide +kernel
theorem dX8_forgets_8 : decode cX8_forgets 8 = .ok (.getfield 29, 3) := by decide +kernel
theorem dX8_forgets_11 : decode cX8_forgets 11 = .ok (.iload_n 1, 1) := by decide +kernel
theorem dX8_forgets_12 : decode cX8_forgets 12 = .ok (.iload_n 2, 1) := by decide +kernel
theorem dX8_forgets_13 : decode cX8_forgets 13 = .ok (.invokestatic 93, 3) := by decide +kernel
theorem dX8_forgets_16 : decode cX8_forgets 16 = .ok (.iload_n 3, 1) := by decide +kernel
theorem dX8_forgets_17 : decode cX8_forgets 17 = .ok (.iadd, 1) := by decide +kernel
theorem dX8_forgets_18 : decode cX8_forgets 18 = .ok (.iload_n 3, 1) := by decide +kernel
theorem dX8_forgets_19 : decode cX8_forgets 19 = .ok (.iconst 3, 1) := by decide +kernel
theorem dX8_forgets_20 : decode cX8_forgets 20 = .ok (.if_icmp .ge 9, 3) := by decide +kernel
theorem dX8_forgets_23 : decode cX8_forgets 23 = .ok (.ldc2_w 97, 3) := by decide +kernel
theorem dX8_forgets_26 : decode cX8_forgets 26 = .ok (.goto 6, 3) := by decide +kernel
theorem dX8_forgets_29 : decode cX8_forgets 29 = .ok (.ldc2_w 99, 3) := by decide +kernel
theorem dX8_forgets_32 : decode cX8_forgets 32 = .ok (.lastore, 1) := by decide +kernel
theorem dX8_forgets_33 : decode cX8_forgets 33 = .ok (.iinc 3 1, 3) := by decide +kernel
theorem dX8_forgets_36 : decode cX8_forgets 36 = .ok (.goto (-34), 3) := by decide +kernel
theorem dX8_forgets_39 : decode cX8_forgets 39 = .ok (.return_, 1) := by decide +kernel
theorem dX8_allForget_0 : decode cX8_allForget 0 = .ok (.iconst 0, 1) := by decide +kernel
theorem dX8_allForget_1 : decode cX8_allForget 1 = .ok (.istore_n 2, 1) := by decide +kernel
theorem dX8_allForget_2 : decode cX8_allForget 2 = .ok (.iload_n 2, 1) := by decide +kernel
theorem dX8_allForget_3 : decode cX8_allForget 3 = .ok (.bipush 6, 2) := by decide +kernel
theorem dX8_allForget_5 : decode cX8_allForget 5 = .ok (.if_icmp .ge 15, 3) := by decide +kernel
theorem dX8_allForget_8 : decode cX8_allForget 8 = .ok (.aload_n 0, 1) := by decide +kernel
theorem dX8_allForget_9 : decode cX8_allForget 9 = .ok (.iload_n 2, 1) := by decide +kernel
theorem dX8_allForget_10 : decode cX8_allForget 10 = .ok (.iload_n 1, 1) := by decide +kernel
theorem dX8_allForget_11 : decode cX8_allForget 11 = .ok (.invokevirtual 101, 3) := by decide +kernel
theorem dX8_allForget_14 : decode cX8_allForget 14 = .ok (.iinc 2 1, 3) := by decide +kernel
theorem dX8_allForget_17 : decode cX8_allForget 17 = .ok (.goto (-15), 3) := by decide +kernel
theorem dX8_allForget_20 : decode cX8_allForget 20 = .ok (.return_, 1) := by decide +kernel
theorem dX8_leftOf_0 : decode cX8_leftOf 0 = .ok (.iconst 0, 1) := by decide +kernel
theorem dX8_leftOf_1 : decode cX8_leftOf 1 = .ok (.istore_n 3, 1) := by decide +kernel
theorem dX8_leftOf_2 : decode cX8_leftOf 2 = .ok (.iconst 0, 1) := by decide +kernel
theorem dX8_leftOf_3 : decode cX8_leftOf 3 = .ok (.istore 4, 2) := by decide +kernel
theorem dX8_leftOf_5 : decode cX8_leftOf 5 = .ok (.iload 4, 2) := by decide +kernel
theorem dX8_leftOf_7 : decode cX8_leftOf 7 = .ok (.iconst 4, 1) := by decide +kernel
theorem dX8_leftOf_8 : decode cX8_leftOf 8 = .ok (.if_icmp .ge 28, 3) := by decide +kernel
theorem dX8_leftOf_11 : decode cX8_leftOf 11 = .ok (.iload_n 3, 1) := by decide +kernel
theorem dX8_leftOf_12 : decode cX8_leftOf 12 = .ok (.aload_n 0, 1) := by decide +kernel
theorem dX8_leftOf_13 : decode cX8_leftOf 13 = .ok (.getfield 29, 3) := by decide +kernel
theorem dX8_leftOf_16 : decode cX8_leftOf 16 = .ok (.iload_n 1, 1) := by decide +kernel
theorem dX8_leftOf_17 : decode cX8_leftOf 17 = .ok (.iload_n 2, 1) := by decide +kernel
theorem dX8_leftOf_18 : decode cX8_leftOf 18 = .ok (.invokestatic 93, 3) := by decide +kernel
theorem dX8_leftOf_21 : decode cX8_leftOf 21 = .ok (.iload 4, 2) := by decide +kernel
theorem dX8_leftOf_23 : decode cX8_leftOf 23 = .ok (.iadd, 1) := by decide +kernel
theorem dX8_leftOf_24 : decode cX8_leftOf 24 = .ok (.laload, 1) := by decide +kernel
theorem dX8_leftOf_25 : decode cX8_leftOf 25 = .ok (.invokestatic 105, 3) := by decide +kernel
theorem dX8_leftOf_28 : decode cX8_leftOf 28 = .ok (.iadd, 1) := by decide +kernel
theorem dX8_leftOf_29 : decode cX8_leftOf 29 = .ok (.istore_n 3, 1) := by decide +kernel
theorem dX8_leftOf_30 : decode cX8_leftOf 30 = .ok (.iinc 4 1, 3) := by decide +kernel
theorem dX8_leftOf_33 : decode cX8_leftOf 33 = .ok (.goto (-28), 3) := by decide +kernel
theorem dX8_leftOf_36 : decode cX8_leftOf 36 = .ok (.iload_n 3, 1) := by decide +kernel
theorem dX8_leftOf_37 : decode cX8_leftOf 37 = .ok (.ireturn, 1) := by decide +kernel
theorem dX8_figureOf_0 : decode cX8_figureOf 0 = .ok (.iload_n 1, 1) := by decide +kernel
theorem dX8_figureOf_1 : decode cX8_figureOf 1 = .ok (.ifCond .ne 10, 3) := by decide +kernel
theorem dX8_figureOf_4 : decode cX8_figureOf 4 = .ok (.iload_n 0, 1) := by decide +kernel
theorem dX8_figureOf_5 : decode cX8_figureOf 5 = .ok (.bipush 36, 2) := by decide +kernel
theorem dX8_figureOf_7 : decode cX8_figureOf 7 = .ok (.idiv, 1) := by decide +kernel
theorem dX8_figureOf_8 : decode cX8_figureOf 8 = .ok (.goto 22, 3) := by decide +kernel
theorem dX8_figureOf_11 : decode cX8_figureOf 11 = .ok (.iload_n 1, 1) := by decide +kernel
theorem dX8_figureOf_12 : decode cX8_figureOf 12 = .ok (.iconst 1, 1) := by decide +kernel
theorem dX8_figureOf_13 : decode cX8_figureOf 13 = .ok (.if_icmp .ne 13, 3) := by decide +kernel
theorem dX8_figureOf_16 : decode cX8_figureOf 16 = .ok (.iload_n 0, 1) := by decide +kernel
theorem dX8_figureOf_17 : decode cX8_figureOf 17 = .ok (.bipush 6, 2) := by decide +kernel
theorem dX8_figureOf_19 : decode cX8_figureOf 19 = .ok (.idiv, 1) := by decide +kernel
theorem dX8_figureOf_20 : decode cX8_figureOf 20 = .ok (.bipush 6, 2) := by decide +kernel
theorem dX8_figureOf_22 : decode cX8_figureOf 22 = .ok (.irem, 1) := by decide +kernel
theorem dX8_figureOf_23 : decode cX8_figureOf 23 = .ok (.goto 7, 3) := by decide +kernel
theorem dX8_figureOf_26 : decode cX8_figureOf 26 = .ok (.iload_n 0, 1) := by decide +kernel
theorem dX8_figureOf_27 : decode cX8_figureOf 27 = .ok (.bipush 6, 2) := by decide +kernel
theorem dX8_figureOf_29 : decode cX8_figureOf 29 = .ok (.irem, 1) := by decide +kernel
theorem dX8_figureOf_30 : decode cX8_figureOf 30 = .ok (.ireturn, 1) := by decide +kernel
theorem dX8_feed_0 : decode cX8_feed 0 = .ok (.aload_n 0, 1) := by decide +kernel
theorem dX8_feed_1 : decode cX8_feed 1 = .ok (.iconst 0, 1) := by decide +kernel
theorem dX8_feed_2 : decode cX8_feed 2 = .ok (.putfield 3, 3) := by decide +kernel
theorem dX8_feed_5 : decode cX8_feed 5 = .ok (.aload_n 0, 1) := by decide +kernel
theorem dX8_feed_6 : decode cX8_feed 6 = .ok (.getfield 111, 3) := by decide +kernel
theorem dX8_feed_9 : decode cX8_feed 9 = .ok (.bipush 20, 2) := by decide +kernel
theorem dX8_feed_11 : decode cX8_feed 11 = .ok (.iadd, 1) := by decide +kernel
theorem dX8_feed_12 : decode cX8_feed 12 = .ok (.sipush 400, 3) := by decide +kernel
theorem dX8_feed_15 : decode cX8_feed 15 = .ok (.if_icmp .le 5, 3) := by decide +kernel
theorem dX8_feed_18 : decode cX8_feed 18 = .ok (.iconst (-1), 1) := by decide +kernel
theorem dX8_feed_19 : decode cX8_feed 19 = .ok (.ireturn, 1) := by decide +kernel
theorem dX8_feed_20 : decode cX8_feed 20 = .ok (.aload_n 0, 1) := by decide +kernel
theorem dX8_feed_21 : decode cX8_feed 21 = .ok (.getfield 52, 3) := by decide +kernel
theorem dX8_feed_24 : decode cX8_feed 24 = .ok (.iconst 0, 1) := by decide +kernel
theorem dX8_feed_25 : decode cX8_feed 25 = .ok (.iload_n 1, 1) := by decide +kernel
theorem dX8_feed_26 : decode cX8_feed 26 = .ok (.iastore, 1) := by decide +kernel
theorem dX8_feed_27 : decode cX8_feed 27 = .ok (.aload_n 0, 1) := by decide +kernel
theorem dX8_feed_28 : decode cX8_feed 28 = .ok (.getfield 52, 3) := by decide +kernel
theorem dX8_feed_31 : decode cX8_feed 31 = .ok (.iconst 1, 1) := by decide +kernel
theorem dX8_feed_32 : decode cX8_feed 32 = .ok (.iload_n 2, 1) := by decide +kernel
theorem dX8_feed_33 : decode cX8_feed 33 = .ok (.iastore, 1) := by decide +kernel
theorem dX8_feed_34 : decode cX8_feed 34 = .ok (.aload_n 0, 1) := by decide +kernel
theorem dX8_feed_35 : decode cX8_feed 35 = .ok (.getfield 52, 3) := by decide +kernel
theorem dX8_feed_38 : decode cX8_feed 38 = .ok (.iconst 2, 1) := by decide +kernel
theorem dX8_feed_39 : decode cX8_feed 39 = .ok (.iload_n 3, 1) := by decide +kernel
theorem dX8_feed_40 : decode cX8_feed 40 = .ok (.iastore, 1) := by decide +kernel
theorem dX8_feed_41 : decode cX8_feed 41 = .ok (.aload_n 0, 1) := by decide +kernel
theorem dX8_feed_42 : decode cX8_feed 42 = .ok (.getfield 52, 3) := by decide +kernel
theorem dX8_feed_45 : decode cX8_feed 45 = .ok (.iconst 3, 1) := by decide +kernel
theorem dX8_feed_46 : decode cX8_feed 46 = .ok (.iload 4, 2) := by decide +kernel
theorem dX8_feed_48 : decode cX8_feed 48 = .ok (.iastore, 1) := by decide +kernel
theorem dX8_feed_49 : decode cX8_feed 49 = .ok (.aload_n 0, 1) := by decide +kernel
theorem dX8_feed_50 : decode cX8_feed 50 = .ok (.getfield 52, 3) := by decide +kernel
theorem dX8_feed_53 : decode cX8_feed 53 = .ok (.iconst 4, 1) := by decide +kernel
theorem dX8_feed_54 : decode cX8_feed 54 = .ok (.iload 5, 2) := by decide +kernel
theorem dX8_feed_56 : decode cX8_feed 56 = .ok (.iastore, 1) := by decide +kernel
theorem dX8_feed_57 : decode cX8_feed 57 = .ok (.iconst 0, 1) := by decide +kernel
theorem dX8_feed_58 : decode cX8_feed 58 = .ok (.istore 6, 2) := by decide +kernel
theorem dX8_feed_60 : decode cX8_feed 60 = .ok (.iload 6, 2) := by decide +kernel
theorem dX8_feed_62 : decode cX8_feed 62 = .ok (.bipush 20, 2) := by decide +kernel
theorem dX8_feed_64 : decode cX8_feed 64 = .ok (.if_icmp .ge 42, 3) := by decide +kernel
theorem dX8_feed_67 : decode cX8_feed 67 = .ok (.aload_n 0, 1) := by decide +kernel
theorem dX8_feed_68 : decode cX8_feed 68 = .ok (.getfield 45, 3) := by decide +kernel
theorem dX8_feed_71 : decode cX8_feed 71 = .ok (.aload_n 0, 1) := by decide +kernel
theorem dX8_feed_72 : decode cX8_feed 72 = .ok (.getfield 111, 3) := by decide +kernel
theorem dX8_feed_75 : decode cX8_feed 75 = .ok (.iload 6, 2) := by decide +kernel
theorem dX8_feed_77 : decode cX8_feed 77 = .ok (.iadd, 1) := by decide +kernel
theorem dX8_feed_78 : decode cX8_feed 78 = .ok (.aload_n 0, 1) := by decide +kernel
theorem dX8_feed_79 : decode cX8_feed 79 = .ok (.getfield 52, 3) := by decide +kernel
theorem dX8_feed_82 : decode cX8_feed 82 = .ok (.iload 6, 2) := by decide +kernel
theorem dX8_feed_84 : decode cX8_feed 84 = .ok (.iconst 4, 1) := by decide +kernel
theorem dX8_feed_85 : decode cX8_feed 85 = .ok (.idiv, 1) := by decide +kernel
theorem dX8_feed_86 : decode cX8_feed 86 = .ok (.iaload, 1) := by decide +kernel
theorem dX8_feed_87 : decode cX8_feed 87 = .ok (.bipush 24, 2) := by decide +kernel
theorem dX8_feed_89 : decode cX8_feed 89 = .ok (.bipush 8, 2) := by decide +kernel
theorem dX8_feed_91 : decode cX8_feed 91 = .ok (.iload 6, 2) := by decide +kernel
theorem dX8_feed_93 : decode cX8_feed 93 = .ok (.iconst 4, 1) := by decide +kernel
theorem dX8_feed_94 : decode cX8_feed 94 = .ok (.irem, 1) := by decide +kernel
theorem dX8_feed_95 : decode cX8_feed 95 = .ok (.imul, 1) := by decide +kernel
theorem dX8_feed_96 : decode cX8_feed 96 = .ok (.isub, 1) := by decide +kernel
theorem dX8_feed_97 : decode cX8_feed 97 = .ok (.ishr, 1) := by decide +kernel
theorem dX8_feed_98 : decode cX8_feed 98 = .ok (.i2b, 1) := by decide +kernel
theorem dX8_feed_99 : decode cX8_feed 99 = .ok (.bastore, 1) := by decide +kernel
theorem dX8_feed_100 : decode cX8_feed 100 = .ok (.iinc 6 1, 3) := by decide +kernel
theorem dX8_feed_103 : decode cX8_feed 103 = .ok (.goto (-43), 3) := by decide +kernel
theorem dX8_feed_106 : decode cX8_feed 106 = .ok (.aload_n 0, 1) := by decide +kernel
theorem dX8_feed_107 : decode cX8_feed 107 = .ok (.dup, 1) := by decide +kernel
theorem dX8_feed_108 : decode cX8_feed 108 = .ok (.getfield 111, 3) := by decide +kernel
theorem dX8_feed_111 : decode cX8_feed 111 = .ok (.bipush 20, 2) := by decide +kernel
theorem dX8_feed_113 : decode cX8_feed 113 = .ok (.iadd, 1) := by decide +kernel
theorem dX8_feed_114 : decode cX8_feed 114 = .ok (.putfield 111, 3) := by decide +kernel
theorem dX8_feed_117 : decode cX8_feed 117 = .ok (.aload_n 0, 1) := by decide +kernel
theorem dX8_feed_118 : decode cX8_feed 118 = .ok (.getfield 111, 3) := by decide +kernel
theorem dX8_feed_121 : decode cX8_feed 121 = .ok (.ireturn, 1) := by decide +kernel
theorem dX8_end_0 : decode cX8_end 0 = .ok (.aload_n 0, 1) := by decide +kernel
theorem dX8_end_1 : decode cX8_end 1 = .ok (.iconst 0, 1) := by decide +kernel
theorem dX8_end_2 : decode cX8_end 2 = .ok (.putfield 3, 3) := by decide +kernel
theorem dX8_end_5 : decode cX8_end 5 = .ok (.iload_n 1, 1) := by decide +kernel
theorem dX8_end_6 : decode cX8_end 6 = .ok (.ifCond .lt 11, 3) := by decide +kernel
theorem dX8_end_9 : decode cX8_end 9 = .ok (.iload_n 1, 1) := by decide +kernel
theorem dX8_end_10 : decode cX8_end 10 = .ok (.aload_n 0, 1) := by decide +kernel
theorem dX8_end_11 : decode cX8_end 11 = .ok (.getfield 111, 3) := by decide +kernel
theorem dX8_end_14 : decode cX8_end 14 = .ok (.if_icmp .le 5, 3) := by decide +kernel
theorem dX8_end_17 : decode cX8_end 17 = .ok (.iconst 0, 1) := by decide +kernel
theorem dX8_end_18 : decode cX8_end 18 = .ok (.ireturn, 1) := by decide +kernel
theorem dX8_end_19 : decode cX8_end 19 = .ok (.aload_n 0, 1) := by decide +kernel
theorem dX8_end_20 : decode cX8_end 20 = .ok (.iload_n 1, 1) := by decide +kernel
theorem dX8_end_21 : decode cX8_end 21 = .ok (.putfield 111, 3) := by decide +kernel
theorem dX8_end_24 : decode cX8_end 24 = .ok (.iconst 1, 1) := by decide +kernel
theorem dX8_end_25 : decode cX8_end 25 = .ok (.ireturn, 1) := by decide +kernel
theorem dX8_isAt_0 : decode cX8_isAt 0 = .ok (.aload_n 0, 1) := by decide +kernel
theorem dX8_isAt_1 : decode cX8_isAt 1 = .ok (.getfield 114, 3) := by decide +kernel
theorem dX8_isAt_4 : decode cX8_isAt 4 = .ok (.aload_n 0, 1) := by decide +kernel
theorem dX8_isAt_5 : decode cX8_isAt 5 = .ok (.getfield 117, 3) := by decide +kernel
theorem dX8_isAt_8 : decode cX8_isAt 8 = .ok (.if_icmp .ge 33, 3) := by decide +kernel
theorem dX8_isAt_11 : decode cX8_isAt 11 = .ok (.aload_n 0, 1) := by decide +kernel
theorem dX8_isAt_12 : decode cX8_isAt 12 = .ok (.getfield 45, 3) := by decide +kernel
theorem dX8_isAt_15 : decode cX8_isAt 15 = .ok (.aload_n 0, 1) := by decide +kernel
theorem dX8_isAt_16 : decode cX8_isAt 16 = .ok (.getfield 114, 3) := by decide +kernel
theorem dX8_isAt_19 : decode cX8_isAt 19 = .ok (.baload, 1) := by decide +kernel
theorem dX8_isAt_20 : decode cX8_isAt 20 = .ok (.iload_n 1, 1) := by decide +kernel
theorem dX8_isAt_21 : decode cX8_isAt 21 = .ok (.if_icmp .lt 20, 3) := by decide +kernel
theorem dX8_isAt_24 : decode cX8_isAt 24 = .ok (.aload_n 0, 1) := by decide +kernel
theorem dX8_isAt_25 : decode cX8_isAt 25 = .ok (.getfield 45, 3) := by decide +kernel
theorem dX8_isAt_28 : decode cX8_isAt 28 = .ok (.aload_n 0, 1) := by decide +kernel
theorem dX8_isAt_29 : decode cX8_isAt 29 = .ok (.getfield 114, 3) := by decide +kernel
theorem dX8_isAt_32 : decode cX8_isAt 32 = .ok (.baload, 1) := by decide +kernel
theorem dX8_isAt_33 : decode cX8_isAt 33 = .ok (.iload_n 2, 1) := by decide +kernel
theorem dX8_isAt_34 : decode cX8_isAt 34 = .ok (.if_icmp .gt 7, 3) := by decide +kernel
theorem dX8_isAt_37 : decode cX8_isAt 37 = .ok (.iconst 1, 1) := by decide +kernel
theorem dX8_isAt_38 : decode cX8_isAt 38 = .ok (.goto 4, 3) := by decide +kernel
theorem dX8_isAt_41 : decode cX8_isAt 41 = .ok (.iconst 0, 1) := by decide +kernel
theorem dX8_isAt_42 : decode cX8_isAt 42 = .ok (.ireturn, 1) := by decide +kernel
theorem dX8_blanks_0 : decode cX8_blanks 0 = .ok (.aload_n 0, 1) := by decide +kernel
theorem dX8_blanks_1 : decode cX8_blanks 1 = .ok (.bipush 32, 2) := by decide +kernel
theorem dX8_blanks_3 : decode cX8_blanks 3 = .ok (.bipush 32, 2) := by decide +kernel
theorem dX8_blanks_5 : decode cX8_blanks 5 = .ok (.invokevirtual 120, 3) := by decide +kernel
theorem dX8_blanks_8 : decode cX8_blanks 8 = .ok (.ifCond .eq 16, 3) := by decide +kernel
theorem dX8_blanks_11 : decode cX8_blanks 11 = .ok (.aload_n 0, 1) := by decide +kernel
theorem dX8_blanks_12 : decode cX8_blanks 12 = .ok (.dup, 1) := by decide +kernel
theorem dX8_blanks_13 : decode cX8_blanks 13 = .ok (.getfield 114, 3) := by decide +kernel
theorem dX8_blanks_16 : decode cX8_blanks 16 = .ok (.iconst 1, 1) := by decide +kernel
theorem dX8_blanks_17 : decode cX8_blanks 17 = .ok (.iadd, 1) := by decide +kernel
theorem dX8_blanks_18 : decode cX8_blanks 18 = .ok (.putfield 114, 3) := by decide +kernel
theorem dX8_blanks_21 : decode cX8_blanks 21 = .ok (.goto (-21), 3) := by decide +kernel
theorem dX8_blanks_24 : decode cX8_blanks 24 = .ok (.aload_n 0, 1) := by decide +kernel
theorem dX8_blanks_25 : decode cX8_blanks 25 = .ok (.aload_n 0, 1) := by decide +kernel
theorem dX8_blanks_26 : decode cX8_blanks 26 = .ok (.getfield 114, 3) := by decide +kernel
theorem dX8_blanks_29 : decode cX8_blanks 29 = .ok (.putfield 124, 3) := by decide +kernel
theorem dX8_blanks_32 : decode cX8_blanks 32 = .ok (.return_, 1) := by decide +kernel
theorem dX8_letters_0 : decode cX8_letters 0 = .ok (.aload_n 0, 1) := by decide +kernel
theorem dX8_letters_1 : decode cX8_letters 1 = .ok (.invokevirtual 127, 3) := by decide +kernel
theorem dX8_letters_4 : decode cX8_letters 4 = .ok (.aload_n 0, 1) := by decide +kernel
theorem dX8_letters_5 : decode cX8_letters 5 = .ok (.bipush 97, 2) := by decide +kernel
theorem dX8_letters_7 : decode cX8_letters 7 = .ok (.bipush 122, 2) := by decide +kernel
theorem dX8_letters_9 : decode cX8_letters 9 = .ok (.invokevirtual 120, 3) := by decide +kernel
theorem dX8_letters_12 : decode cX8_letters 12 = .ok (.ifCond .eq 16, 3) := by decide +kernel
theorem dX8_letters_15 : decode cX8_letters 15 = .ok (.aload_n 0, 1) := by decide +kernel
theorem dX8_letters_16 : decode cX8_letters 16 = .ok (.dup, 1) := by decide +kernel
theorem dX8_letters_17 : decode cX8_letters 17 = .ok (.getfield 114, 3) := by decide +kernel
theorem dX8_letters_20 : decode cX8_letters 20 = .ok (.iconst 1, 1) := by decide +kernel
theorem dX8_letters_21 : decode cX8_letters 21 = .ok (.iadd, 1) := by decide +kernel
theorem dX8_letters_22 : decode cX8_letters 22 = .ok (.putfield 114, 3) := by decide +kernel
theorem dX8_letters_25 : decode cX8_letters 25 = .ok (.goto (-21), 3) := by decide +kernel
theorem dX8_letters_28 : decode cX8_letters 28 = .ok (.return_, 1) := by decide +kernel
theorem dX8_isWord_0 : decode cX8_isWord 0 = .ok (.aload_n 0, 1) := by decide +kernel
theorem dX8_isWord_1 : decode cX8_isWord 1 = .ok (.getfield 114, 3) := by decide +kernel
theorem dX8_isWord_4 : decode cX8_isWord 4 = .ok (.aload_n 0, 1) := by decide +kernel
theorem dX8_isWord_5 : decode cX8_isWord 5 = .ok (.getfield 124, 3) := by decide +kernel
theorem dX8_isWord_8 : decode cX8_isWord 8 = .ok (.isub, 1) := by decide +kernel
theorem dX8_isWord_9 : decode cX8_isWord 9 = .ok (.aload_n 1, 1) := by decide +kernel
theorem dX8_isWord_10 : decode cX8_isWord 10 = .ok (.invokevirtual 130, 3) := by decide +kernel
theorem dX8_isWord_13 : decode cX8_isWord 13 = .ok (.if_icmp .ne 7, 3) := by decide +kernel
theorem dX8_isWord_16 : decode cX8_isWord 16 = .ok (.iconst 1, 1) := by decide +kernel
theorem dX8_isWord_17 : decode cX8_isWord 17 = .ok (.goto 4, 3) := by decide +kernel
theorem dX8_isWord_20 : decode cX8_isWord 20 = .ok (.iconst 0, 1) := by decide +kernel
theorem dX8_isWord_21 : decode cX8_isWord 21 = .ok (.istore_n 2, 1) := by decide +kernel
theorem dX8_isWord_22 : decode cX8_isWord 22 = .ok (.iconst 0, 1) := by decide +kernel
theorem dX8_isWord_23 : decode cX8_isWord 23 = .ok (.istore_n 3, 1) := by decide +kernel
theorem dX8_isWord_24 : decode cX8_isWord 24 = .ok (.iload_n 2, 1) := by decide +kernel
theorem dX8_isWord_25 : decode cX8_isWord 25 = .ok (.ifCond .eq 42, 3) := by decide +kernel
theorem dX8_isWord_28 : decode cX8_isWord 28 = .ok (.iload_n 3, 1) := by decide +kernel
theorem dX8_isWord_29 : decode cX8_isWord 29 = .ok (.aload_n 1, 1) := by decide +kernel
theorem dX8_isWord_30 : decode cX8_isWord 30 = .ok (.invokevirtual 130, 3) := by decide +kernel
theorem dX8_isWord_33 : decode cX8_isWord 33 = .ok (.if_icmp .ge 34, 3) := by decide +kernel
theorem dX8_isWord_36 : decode cX8_isWord 36 = .ok (.aload_n 0, 1) := by decide +kernel
theorem dX8_isWord_37 : decode cX8_isWord 37 = .ok (.getfield 45, 3) := by decide +kernel
theorem dX8_isWord_40 : decode cX8_isWord 40 = .ok (.aload_n 0, 1) := by decide +kernel
theorem dX8_isWord_41 : decode cX8_isWord 41 = .ok (.getfield 124, 3) := by decide +kernel
theorem dX8_isWord_44 : decode cX8_isWord 44 = .ok (.iload_n 3, 1) := by decide +kernel
theorem dX8_isWord_45 : decode cX8_isWord 45 = .ok (.iadd, 1) := by decide +kernel
theorem dX8_isWord_46 : decode cX8_isWord 46 = .ok (.baload, 1) := by decide +kernel
theorem dX8_isWord_47 : decode cX8_isWord 47 = .ok (.aload_n 1, 1) := by decide +kernel
theorem dX8_isWord_48 : decode cX8_isWord 48 = .ok (.iload_n 3, 1) := by decide +kernel
theorem dX8_isWord_49 : decode cX8_isWord 49 = .ok (.invokevirtual 135, 3) := by decide +kernel
theorem dX8_isWord_52 : decode cX8_isWord 52 = .ok (.if_icmp .ne 7, 3) := by decide +kernel
theorem dX8_isWord_55 : decode cX8_isWord 55 = .ok (.iconst 1, 1) := by decide +kernel
theorem dX8_isWord_56 : decode cX8_isWord 56 = .ok (.goto 4, 3) := by decide +kernel
theorem dX8_isWord_59 : decode cX8_isWord 59 = .ok (.iconst 0, 1) := by decide +kernel
theorem dX8_isWord_60 : decode cX8_isWord 60 = .ok (.istore_n 2, 1) := by decide +kernel
theorem dX8_isWord_61 : decode cX8_isWord 61 = .ok (.iinc 3 1, 3) := by decide +kernel
theorem dX8_isWord_64 : decode cX8_isWord 64 = .ok (.goto (-40), 3) := by decide +kernel
theorem dX8_isWord_67 : decode cX8_isWord 67 = .ok (.iload_n 2, 1) := by decide +kernel
theorem dX8_isWord_68 : decode cX8_isWord 68 = .ok (.ireturn, 1) := by decide +kernel
theorem dX8_passes_0 : decode cX8_passes 0 = .ok (.aload_n 0, 1) := by decide +kernel
theorem dX8_passes_1 : decode cX8_passes 1 = .ok (.invokevirtual 139, 3) := by decide +kernel
theorem dX8_passes_4 : decode cX8_passes 4 = .ok (.aload_n 0, 1) := by decide +kernel
theorem dX8_passes_5 : decode cX8_passes 5 = .ok (.aload_n 1, 1) := by decide +kernel
theorem dX8_passes_6 : decode cX8_passes 6 = .ok (.invokevirtual 142, 3) := by decide +kernel
theorem dX8_passes_9 : decode cX8_passes 9 = .ok (.ifCond .eq 5, 3) := by decide +kernel
theorem dX8_passes_12 : decode cX8_passes 12 = .ok (.iconst 1, 1) := by decide +kernel
theorem dX8_passes_13 : decode cX8_passes 13 = .ok (.ireturn, 1) := by decide +kernel
theorem dX8_passes_14 : decode cX8_passes 14 = .ok (.aload_n 0, 1) := by decide +kernel
theorem dX8_passes_15 : decode cX8_passes 15 = .ok (.aload_n 0, 1) := by decide +kernel
theorem dX8_passes_16 : decode cX8_passes 16 = .ok (.getfield 124, 3) := by decide +kernel
theorem dX8_passes_19 : decode cX8_passes 19 = .ok (.putfield 114, 3) := by decide +kernel
theorem dX8_passes_22 : decode cX8_passes 22 = .ok (.iconst 0, 1) := by decide +kernel
theorem dX8_passes_23 : decode cX8_passes 23 = .ok (.ireturn, 1) := by decide +kernel
theorem dX8_sign_0 : decode cX8_sign 0 = .ok (.aload_n 0, 1) := by decide +kernel
theorem dX8_sign_1 : decode cX8_sign 1 = .ok (.invokevirtual 127, 3) := by decide +kernel
theorem dX8_sign_4 : decode cX8_sign 4 = .ok (.aload_n 0, 1) := by decide +kernel
theorem dX8_sign_5 : decode cX8_sign 5 = .ok (.iload_n 1, 1) := by decide +kernel
theorem dX8_sign_6 : decode cX8_sign 6 = .ok (.iload_n 1, 1) := by decide +kernel
theorem dX8_sign_7 : decode cX8_sign 7 = .ok (.invokevirtual 120, 3) := by decide +kernel
theorem dX8_sign_10 : decode cX8_sign 10 = .ok (.ifCond .ne 5, 3) := by decide +kernel
theorem dX8_sign_13 : decode cX8_sign 13 = .ok (.iconst 0, 1) := by decide +kernel
theorem dX8_sign_14 : decode cX8_sign 14 = .ok (.ireturn, 1) := by decide +kernel
theorem dX8_sign_15 : decode cX8_sign 15 = .ok (.aload_n 0, 1) := by decide +kernel
theorem dX8_sign_16 : decode cX8_sign 16 = .ok (.dup, 1) := by decide +kernel
theorem dX8_sign_17 : decode cX8_sign 17 = .ok (.getfield 114, 3) := by decide +kernel
theorem dX8_sign_20 : decode cX8_sign 20 = .ok (.iconst 1, 1) := by decide +kernel
theorem dX8_sign_21 : decode cX8_sign 21 = .ok (.iadd, 1) := by decide +kernel
theorem dX8_sign_22 : decode cX8_sign 22 = .ok (.putfield 114, 3) := by decide +kernel
theorem dX8_sign_25 : decode cX8_sign 25 = .ok (.iconst 1, 1) := by decide +kernel
theorem dX8_sign_26 : decode cX8_sign 26 = .ok (.ireturn, 1) := by decide +kernel
theorem dX8_number_0 : decode cX8_number 0 = .ok (.aload_n 0, 1) := by decide +kernel
theorem dX8_number_1 : decode cX8_number 1 = .ok (.invokevirtual 127, 3) := by decide +kernel
theorem dX8_number_4 : decode cX8_number 4 = .ok (.iconst 0, 1) := by decide +kernel
theorem dX8_number_5 : decode cX8_number 5 = .ok (.istore_n 3, 1) := by decide +kernel
theorem dX8_number_6 : decode cX8_number 6 = .ok (.aload_n 0, 1) := by decide +kernel
theorem dX8_number_7 : decode cX8_number 7 = .ok (.bipush 48, 2) := by decide +kernel
theorem dX8_number_9 : decode cX8_number 9 = .ok (.bipush 57, 2) := by decide +kernel
theorem dX8_number_11 : decode cX8_number 11 = .ok (.invokevirtual 120, 3) := by decide +kernel
theorem dX8_number_14 : decode cX8_number 14 = .ok (.ifCond .eq 51, 3) := by decide +kernel
theorem dX8_number_17 : decode cX8_number 17 = .ok (.aload_n 0, 1) := by decide +kernel
theorem dX8_number_18 : decode cX8_number 18 = .ok (.getfield 114, 3) := by decide +kernel
theorem dX8_number_21 : decode cX8_number 21 = .ok (.aload_n 0, 1) := by decide +kernel
theorem dX8_number_22 : decode cX8_number 22 = .ok (.getfield 124, 3) := by decide +kernel
theorem dX8_number_25 : decode cX8_number 25 = .ok (.isub, 1) := by decide +kernel
theorem dX8_number_26 : decode cX8_number 26 = .ok (.iconst 3, 1) := by decide +kernel
theorem dX8_number_27 : decode cX8_number 27 = .ok (.if_icmp .ge 23, 3) := by decide +kernel
theorem dX8_number_30 : decode cX8_number 30 = .ok (.bipush 10, 2) := by decide +kernel
theorem dX8_number_32 : decode cX8_number 32 = .ok (.iload_n 3, 1) := by decide +kernel
theorem dX8_number_33 : decode cX8_number 33 = .ok (.imul, 1) := by decide +kernel
theorem dX8_number_34 : decode cX8_number 34 = .ok (.aload_n 0, 1) := by decide +kernel
theorem dX8_number_35 : decode cX8_number 35 = .ok (.getfield 45, 3) := by decide +kernel
theorem dX8_number_38 : decode cX8_number 38 = .ok (.aload_n 0, 1) := by decide +kernel
theorem dX8_number_39 : decode cX8_number 39 = .ok (.getfield 114, 3) := by decide +kernel
theorem dX8_number_42 : decode cX8_number 42 = .ok (.baload, 1) := by decide +kernel
theorem dX8_number_43 : decode cX8_number 43 = .ok (.iadd, 1) := by decide +kernel
theorem dX8_number_44 : decode cX8_number 44 = .ok (.bipush 48, 2) := by decide +kernel
theorem dX8_number_46 : decode cX8_number 46 = .ok (.isub, 1) := by decide +kernel
theorem dX8_number_47 : decode cX8_number 47 = .ok (.goto 4, 3) := by decide +kernel
theorem dX8_number_50 : decode cX8_number 50 = .ok (.iload_n 3, 1) := by decide +kernel
theorem dX8_number_51 : decode cX8_number 51 = .ok (.istore_n 3, 1) := by decide +kernel
theorem dX8_number_52 : decode cX8_number 52 = .ok (.aload_n 0, 1) := by decide +kernel
theorem dX8_number_53 : decode cX8_number 53 = .ok (.dup, 1) := by decide +kernel
theorem dX8_number_54 : decode cX8_number 54 = .ok (.getfield 114, 3) := by decide +kernel
theorem dX8_number_57 : decode cX8_number 57 = .ok (.iconst 1, 1) := by decide +kernel
theorem dX8_number_58 : decode cX8_number 58 = .ok (.iadd, 1) := by decide +kernel
theorem dX8_number_59 : decode cX8_number 59 = .ok (.putfield 114, 3) := by decide +kernel
theorem dX8_number_62 : decode cX8_number 62 = .ok (.goto (-56), 3) := by decide +kernel
theorem dX8_number_65 : decode cX8_number 65 = .ok (.aload_n 0, 1) := by decide +kernel
theorem dX8_number_66 : decode cX8_number 66 = .ok (.getfield 114, 3) := by decide +kernel
theorem dX8_number_69 : decode cX8_number 69 = .ok (.aload_n 0, 1) := by decide +kernel
theorem dX8_number_70 : decode cX8_number 70 = .ok (.getfield 124, 3) := by decide +kernel
theorem dX8_number_73 : decode cX8_number 73 = .ok (.if_icmp .eq 26, 3) := by decide +kernel
theorem dX8_number_76 : decode cX8_number 76 = .ok (.aload_n 0, 1) := by decide +kernel
theorem dX8_number_77 : decode cX8_number 77 = .ok (.getfield 114, 3) := by decide +kernel
theorem dX8_number_80 : decode cX8_number 80 = .ok (.aload_n 0, 1) := by decide +kernel
theorem dX8_number_81 : decode cX8_number 81 = .ok (.getfield 124, 3) := by decide +kernel
theorem dX8_number_84 : decode cX8_number 84 = .ok (.isub, 1) := by decide +kernel
theorem dX8_number_85 : decode cX8_number 85 = .ok (.iconst 3, 1) := by decide +kernel
theorem dX8_number_86 : decode cX8_number 86 = .ok (.if_icmp .gt 13, 3) := by decide +kernel
theorem dX8_number_89 : decode cX8_number 89 = .ok (.iload_n 3, 1) := by decide +kernel
theorem dX8_number_90 : decode cX8_number 90 = .ok (.iload_n 1, 1) := by decide +kernel
theorem dX8_number_91 : decode cX8_number 91 = .ok (.if_icmp .lt 8, 3) := by decide +kernel
theorem dX8_number_94 : decode cX8_number 94 = .ok (.iload_n 3, 1) := by decide +kernel
theorem dX8_number_95 : decode cX8_number 95 = .ok (.iload_n 2, 1) := by decide +kernel
theorem dX8_number_96 : decode cX8_number 96 = .ok (.if_icmp .le 7, 3) := by decide +kernel
theorem dX8_number_99 : decode cX8_number 99 = .ok (.iconst (-1), 1) := by decide +kernel
theorem dX8_number_100 : decode cX8_number 100 = .ok (.goto 4, 3) := by decide +kernel
theorem dX8_number_103 : decode cX8_number 103 = .ok (.iload_n 3, 1) := by decide +kernel
theorem dX8_number_104 : decode cX8_number 104 = .ok (.ireturn, 1) := by decide +kernel
theorem dX8_after_0 : decode cX8_after 0 = .ok (.aload_n 0, 1) := by decide +kernel
theorem dX8_after_1 : decode cX8_after 1 = .ok (.invokevirtual 139, 3) := by decide +kernel
theorem dX8_after_4 : decode cX8_after 4 = .ok (.aload_n 0, 1) := by decide +kernel
theorem dX8_after_5 : decode cX8_after 5 = .ok (.aload_n 1, 1) := by decide +kernel
theorem dX8_after_6 : decode cX8_after 6 = .ok (.invokevirtual 142, 3) := by decide +kernel
theorem dX8_after_9 : decode cX8_after 9 = .ok (.ifCond .eq 12, 3) := by decide +kernel
theorem dX8_after_12 : decode cX8_after 12 = .ok (.aload_n 0, 1) := by decide +kernel
theorem dX8_after_13 : decode cX8_after 13 = .ok (.iload_n 2, 1) := by decide +kernel
theorem dX8_after_14 : decode cX8_after 14 = .ok (.iload_n 3, 1) := by decide +kernel
theorem dX8_after_15 : decode cX8_after 15 = .ok (.invokevirtual 146, 3) := by decide +kernel
theorem dX8_after_18 : decode cX8_after 18 = .ok (.goto 4, 3) := by decide +kernel
theorem dX8_after_21 : decode cX8_after 21 = .ok (.iconst (-1), 1) := by decide +kernel
theorem dX8_after_22 : decode cX8_after 22 = .ok (.ireturn, 1) := by decide +kernel
theorem dX8_isFigure_0 : decode cX8_isFigure 0 = .ok (.aload_n 0, 1) := by decide +kernel
theorem dX8_isFigure_1 : decode cX8_isFigure 1 = .ok (.invokevirtual 127, 3) := by decide +kernel
theorem dX8_isFigure_4 : decode cX8_isFigure 4 = .ok (.aload_n 0, 1) := by decide +kernel
theorem dX8_isFigure_5 : decode cX8_isFigure 5 = .ok (.bipush 48, 2) := by decide +kernel
theorem dX8_isFigure_7 : decode cX8_isFigure 7 = .ok (.bipush 57, 2) := by decide +kernel
theorem dX8_isFigure_9 : decode cX8_isFigure 9 = .ok (.invokevirtual 120, 3) := by decide +kernel
theorem dX8_isFigure_12 : decode cX8_isFigure 12 = .ok (.ireturn, 1) := by decide +kernel
theorem dX8_fault_0 : decode cX8_fault 0 = .ok (.aload_n 0, 1) := by decide +kernel
theorem dX8_fault_1 : decode cX8_fault 1 = .ok (.iconst 0, 1) := by decide +kernel
theorem dX8_fault_2 : decode cX8_fault 2 = .ok (.putfield 3, 3) := by decide +kernel
theorem dX8_fault_5 : decode cX8_fault 5 = .ok (.aload_n 0, 1) := by decide +kernel
theorem dX8_fault_6 : decode cX8_fault 6 = .ok (.getfield 49, 3) := by decide +kernel
theorem dX8_fault_9 : decode cX8_fault 9 = .ok (.ireturn, 1) := by decide +kernel
theorem dX8_uses_0 : decode cX8_uses 0 = .ok (.aload_n 0, 1) := by decide +kernel
theorem dX8_uses_1 : decode cX8_uses 1 = .ok (.iconst 0, 1) := by decide +kernel
theorem dX8_uses_2 : decode cX8_uses 2 = .ok (.putfield 3, 3) := by decide +kernel
theorem dX8_uses_5 : decode cX8_uses 5 = .ok (.aload_n 0, 1) := by decide +kernel
theorem dX8_uses_6 : decode cX8_uses 6 = .ok (.aload_n 0, 1) := by decide +kernel
theorem dX8_uses_7 : decode cX8_uses 7 = .ok (.getfield 111, 3) := by decide +kernel
theorem dX8_uses_10 : decode cX8_uses 10 = .ok (.putfield 117, 3) := by decide +kernel
theorem dX8_uses_13 : decode cX8_uses 13 = .ok (.aload_n 0, 1) := by decide +kernel
theorem dX8_uses_14 : decode cX8_uses 14 = .ok (.iconst 0, 1) := by decide +kernel
theorem dX8_uses_15 : decode cX8_uses 15 = .ok (.putfield 111, 3) := by decide +kernel
theorem dX8_uses_18 : decode cX8_uses 18 = .ok (.aload_n 0, 1) := by decide +kernel
theorem dX8_uses_19 : decode cX8_uses 19 = .ok (.iconst 0, 1) := by decide +kernel
theorem dX8_uses_20 : decode cX8_uses 20 = .ok (.putfield 114, 3) := by decide +kernel
theorem dX8_uses_23 : decode cX8_uses 23 = .ok (.return_, 1) := by decide +kernel
theorem dX8_personTold_0 : decode cX8_personTold 0 = .ok (.aload_n 0, 1) := by decide +kernel
theorem dX8_personTold_1 : decode cX8_personTold 1 = .ok (.iconst 0, 1) := by decide +kernel
theorem dX8_personTold_2 : decode cX8_personTold 2 = .ok (.aload_n 0, 1) := by decide +kernel
theorem dX8_personTold_3 : decode cX8_personTold 3 = .ok (.invokevirtual 89, 3) := by decide +kernel
theorem dX8_personTold_6 : decode cX8_personTold 6 = .ok (.iconst 1, 1) := by decide +kernel
theorem dX8_personTold_7 : decode cX8_personTold 7 = .ok (.isub, 1) := by decide +kernel
theorem dX8_personTold_8 : decode cX8_personTold 8 = .ok (.invokevirtual 146, 3) := by decide +kernel
theorem dX8_personTold_11 : decode cX8_personTold 11 = .ok (.ireturn, 1) := by decide +kernel
theorem dX8_vaultTold_0 : decode cX8_vaultTold 0 = .ok (.aload_n 0, 1) := by decide +kernel
theorem dX8_vaultTold_1 : decode cX8_vaultTold 1 = .ok (.iconst 0, 1) := by decide +kernel
theorem dX8_vaultTold_2 : decode cX8_vaultTold 2 = .ok (.aload_n 0, 1) := by decide +kernel
theorem dX8_vaultTold_3 : decode cX8_vaultTold 3 = .ok (.invokevirtual 81, 3) := by decide +kernel
theorem dX8_vaultTold_6 : decode cX8_vaultTold 6 = .ok (.iconst 1, 1) := by decide +kernel
theorem dX8_vaultTold_7 : decode cX8_vaultTold 7 = .ok (.isub, 1) := by decide +kernel
theorem dX8_vaultTold_8 : decode cX8_vaultTold 8 = .ok (.invokevirtual 146, 3) := by decide +kernel
theorem dX8_vaultTold_11 : decode cX8_vaultTold 11 = .ok (.ireturn, 1) := by decide +kernel
theorem dX8_codeTold_0 : decode cX8_codeTold 0 = .ok (.aload_n 0, 1) := by decide +kernel
theorem dX8_codeTold_1 : decode cX8_codeTold 1 = .ok (.invokevirtual 127, 3) := by decide +kernel
theorem dX8_codeTold_4 : decode cX8_codeTold 4 = .ok (.iconst 0, 1) := by decide +kernel
theorem dX8_codeTold_5 : decode cX8_codeTold 5 = .ok (.istore_n 1, 1) := by decide +kernel
theorem dX8_codeTold_6 : decode cX8_codeTold 6 = .ok (.iconst 1, 1) := by decide +kernel
theorem dX8_codeTold_7 : decode cX8_codeTold 7 = .ok (.istore_n 2, 1) := by decide +kernel
theorem dX8_codeTold_8 : decode cX8_codeTold 8 = .ok (.aload_n 0, 1) := by decide +kernel
theorem dX8_codeTold_9 : decode cX8_codeTold 9 = .ok (.bipush 48, 2) := by decide +kernel
theorem dX8_codeTold_11 : decode cX8_codeTold 11 = .ok (.bipush 57, 2) := by decide +kernel
theorem dX8_codeTold_13 : decode cX8_codeTold 13 = .ok (.invokevirtual 120, 3) := by decide +kernel
theorem dX8_codeTold_16 : decode cX8_codeTold 16 = .ok (.ifCond .eq 79, 3) := by decide +kernel
theorem dX8_codeTold_19 : decode cX8_codeTold 19 = .ok (.iload_n 2, 1) := by decide +kernel
theorem dX8_codeTold_20 : decode cX8_codeTold 20 = .ok (.ifCond .eq 34, 3) := by decide +kernel
theorem dX8_codeTold_23 : decode cX8_codeTold 23 = .ok (.aload_n 0, 1) := by decide +kernel
theorem dX8_codeTold_24 : decode cX8_codeTold 24 = .ok (.getfield 114, 3) := by decide +kernel
theorem dX8_codeTold_27 : decode cX8_codeTold 27 = .ok (.aload_n 0, 1) := by decide +kernel
theorem dX8_codeTold_28 : decode cX8_codeTold 28 = .ok (.getfield 124, 3) := by decide +kernel
theorem dX8_codeTold_31 : decode cX8_codeTold 31 = .ok (.isub, 1) := by decide +kernel
theorem dX8_codeTold_32 : decode cX8_codeTold 32 = .ok (.iconst 3, 1) := by decide +kernel
theorem dX8_codeTold_33 : decode cX8_codeTold 33 = .ok (.if_icmp .ge 21, 3) := by decide +kernel
theorem dX8_codeTold_36 : decode cX8_codeTold 36 = .ok (.aload_n 0, 1) := by decide +kernel
theorem dX8_codeTold_37 : decode cX8_codeTold 37 = .ok (.getfield 45, 3) := by decide +kernel
theorem dX8_codeTold_40 : decode cX8_codeTold 40 = .ok (.aload_n 0, 1) := by decide +kernel
theorem dX8_codeTold_41 : decode cX8_codeTold 41 = .ok (.getfield 114, 3) := by decide +kernel
theorem dX8_codeTold_44 : decode cX8_codeTold 44 = .ok (.baload, 1) := by decide +kernel
theorem dX8_codeTold_45 : decode cX8_codeTold 45 = .ok (.bipush 54, 2) := by decide +kernel
theorem dX8_codeTold_47 : decode cX8_codeTold 47 = .ok (.if_icmp .ge 7, 3) := by decide +kernel
theorem dX8_codeTold_50 : decode cX8_codeTold 50 = .ok (.iconst 1, 1) := by decide +kernel
theorem dX8_codeTold_51 : decode cX8_codeTold 51 = .ok (.goto 4, 3) := by decide +kernel
theorem dX8_codeTold_54 : decode cX8_codeTold 54 = .ok (.iconst 0, 1) := by decide +kernel
theorem dX8_codeTold_55 : decode cX8_codeTold 55 = .ok (.istore_n 2, 1) := by decide +kernel
theorem dX8_codeTold_56 : decode cX8_codeTold 56 = .ok (.iload_n 2, 1) := by decide +kernel
theorem dX8_codeTold_57 : decode cX8_codeTold 57 = .ok (.ifCond .eq 23, 3) := by decide +kernel
theorem dX8_codeTold_60 : decode cX8_codeTold 60 = .ok (.bipush 6, 2) := by decide +kernel
theorem dX8_codeTold_62 : decode cX8_codeTold 62 = .ok (.iload_n 1, 1) := by decide +kernel
theorem dX8_codeTold_63 : decode cX8_codeTold 63 = .ok (.imul, 1) := by decide +kernel
theorem dX8_codeTold_64 : decode cX8_codeTold 64 = .ok (.aload_n 0, 1) := by decide +kernel
theorem dX8_codeTold_65 : decode cX8_codeTold 65 = .ok (.getfield 45, 3) := by decide +kernel
theorem dX8_codeTold_68 : decode cX8_codeTold 68 = .ok (.aload_n 0, 1) := by decide +kernel
theorem dX8_codeTold_69 : decode cX8_codeTold 69 = .ok (.getfield 114, 3) := by decide +kernel
theorem dX8_codeTold_72 : decode cX8_codeTold 72 = .ok (.baload, 1) := by decide +kernel
theorem dX8_codeTold_73 : decode cX8_codeTold 73 = .ok (.iadd, 1) := by decide +kernel
theorem dX8_codeTold_74 : decode cX8_codeTold 74 = .ok (.bipush 48, 2) := by decide +kernel
theorem dX8_codeTold_76 : decode cX8_codeTold 76 = .ok (.isub, 1) := by decide +kernel
theorem dX8_codeTold_77 : decode cX8_codeTold 77 = .ok (.goto 4, 3) := by decide +kernel
theorem dX8_codeTold_80 : decode cX8_codeTold 80 = .ok (.iload_n 1, 1) := by decide +kernel
theorem dX8_codeTold_81 : decode cX8_codeTold 81 = .ok (.istore_n 1, 1) := by decide +kernel
theorem dX8_codeTold_82 : decode cX8_codeTold 82 = .ok (.aload_n 0, 1) := by decide +kernel
theorem dX8_codeTold_83 : decode cX8_codeTold 83 = .ok (.dup, 1) := by decide +kernel
theorem dX8_codeTold_84 : decode cX8_codeTold 84 = .ok (.getfield 114, 3) := by decide +kernel
theorem dX8_codeTold_87 : decode cX8_codeTold 87 = .ok (.iconst 1, 1) := by decide +kernel
theorem dX8_codeTold_88 : decode cX8_codeTold 88 = .ok (.iadd, 1) := by decide +kernel
theorem dX8_codeTold_89 : decode cX8_codeTold 89 = .ok (.putfield 114, 3) := by decide +kernel
theorem dX8_codeTold_92 : decode cX8_codeTold 92 = .ok (.goto (-84), 3) := by decide +kernel
theorem dX8_codeTold_95 : decode cX8_codeTold 95 = .ok (.iload_n 2, 1) := by decide +kernel
theorem dX8_codeTold_96 : decode cX8_codeTold 96 = .ok (.ifCond .eq 20, 3) := by decide +kernel
theorem dX8_codeTold_99 : decode cX8_codeTold 99 = .ok (.aload_n 0, 1) := by decide +kernel
theorem dX8_codeTold_100 : decode cX8_codeTold 100 = .ok (.getfield 114, 3) := by decide +kernel
theorem dX8_codeTold_103 : decode cX8_codeTold 103 = .ok (.aload_n 0, 1) := by decide +kernel
theorem dX8_codeTold_104 : decode cX8_codeTold 104 = .ok (.getfield 124, 3) := by decide +kernel
theorem dX8_codeTold_107 : decode cX8_codeTold 107 = .ok (.isub, 1) := by decide +kernel
theorem dX8_codeTold_108 : decode cX8_codeTold 108 = .ok (.iconst 3, 1) := by decide +kernel
theorem dX8_codeTold_109 : decode cX8_codeTold 109 = .ok (.if_icmp .ne 7, 3) := by decide +kernel
theorem dX8_codeTold_112 : decode cX8_codeTold 112 = .ok (.iload_n 1, 1) := by decide +kernel
theorem dX8_codeTold_113 : decode cX8_codeTold 113 = .ok (.goto 4, 3) := by decide +kernel
theorem dX8_codeTold_116 : decode cX8_codeTold 116 = .ok (.iconst (-1), 1) := by decide +kernel
theorem dX8_codeTold_117 : decode cX8_codeTold 117 = .ok (.ireturn, 1) := by decide +kernel
theorem dX8_readVault_0 : decode cX8_readVault 0 = .ok (.aload_n 0, 1) := by decide +kernel
theorem dX8_readVault_1 : decode cX8_readVault 1 = .ok (.invokevirtual 81, 3) := by decide +kernel
theorem dX8_readVault_4 : decode cX8_readVault 4 = .ok (.istore_n 1, 1) := by decide +kernel
theorem dX8_readVault_5 : decode cX8_readVault 5 = .ok (.iload_n 1, 1) := by decide +kernel
theorem dX8_readVault_6 : decode cX8_readVault 6 = .ok (.bipush 6, 2) := by decide +kernel
theorem dX8_readVault_8 : decode cX8_readVault 8 = .ok (.if_icmp .ne 5, 3) := by decide +kernel
theorem dX8_readVault_11 : decode cX8_readVault 11 = .ok (.iconst 0, 1) := by decide +kernel
theorem dX8_readVault_12 : decode cX8_readVault 12 = .ok (.ireturn, 1) := by decide +kernel
theorem dX8_readVault_13 : decode cX8_readVault 13 = .ok (.aload_n 0, 1) := by decide +kernel
theorem dX8_readVault_14 : decode cX8_readVault 14 = .ok (.invokevirtual 149, 3) := by decide +kernel
theorem dX8_readVault_17 : decode cX8_readVault 17 = .ok (.istore_n 2, 1) := by decide +kernel
theorem dX8_readVault_18 : decode cX8_readVault 18 = .ok (.iload_n 2, 1) := by decide +kernel
theorem dX8_readVault_19 : decode cX8_readVault 19 = .ok (.ifCond .ge 7, 3) := by decide +kernel
theorem dX8_readVault_22 : decode cX8_readVault 22 = .ok (.iconst (-1), 1) := by decide +kernel
theorem dX8_readVault_23 : decode cX8_readVault 23 = .ok (.goto 13, 3) := by decide +kernel
theorem dX8_readVault_26 : decode cX8_readVault 26 = .ok (.aload_n 0, 1) := by decide +kernel
theorem dX8_readVault_27 : decode cX8_readVault 27 = .ok (.ldc 152, 2) := by decide +kernel
theorem dX8_readVault_29 : decode cX8_readVault 29 = .ok (.iconst 0, 1) := by decide +kernel
theorem dX8_readVault_30 : decode cX8_readVault 30 = .ok (.sipush 999, 3) := by decide +kernel
theorem dX8_readVault_33 : decode cX8_readVault 33 = .ok (.invokevirtual 154, 3) := by decide +kernel
theorem dX8_readVault_36 : decode cX8_readVault 36 = .ok (.istore_n 3, 1) := by decide +kernel
theorem dX8_readVault_37 : decode cX8_readVault 37 = .ok (.iload_n 3, 1) := by decide +kernel
theorem dX8_readVault_38 : decode cX8_readVault 38 = .ok (.ifCond .ge 5, 3) := by decide +kernel
theorem dX8_readVault_41 : decode cX8_readVault 41 = .ok (.iconst 0, 1) := by decide +kernel
theorem dX8_readVault_42 : decode cX8_readVault 42 = .ok (.ireturn, 1) := by decide +kernel
theorem dX8_readVault_43 : decode cX8_readVault 43 = .ok (.aload_n 0, 1) := by decide +kernel
theorem dX8_readVault_44 : decode cX8_readVault 44 = .ok (.iload_n 1, 1) := by decide +kernel
theorem dX8_readVault_45 : decode cX8_readVault 45 = .ok (.iconst 0, 1) := by decide +kernel
theorem dX8_readVault_46 : decode cX8_readVault 46 = .ok (.iload_n 2, 1) := by decide +kernel
theorem dX8_readVault_47 : decode cX8_readVault 47 = .ok (.invokevirtual 158, 3) := by decide +kernel
theorem dX8_readVault_50 : decode cX8_readVault 50 = .ok (.aload_n 0, 1) := by decide +kernel
theorem dX8_readVault_51 : decode cX8_readVault 51 = .ok (.iload_n 1, 1) := by decide +kernel
theorem dX8_readVault_52 : decode cX8_readVault 52 = .ok (.iconst 1, 1) := by decide +kernel
theorem dX8_readVault_53 : decode cX8_readVault 53 = .ok (.iconst 0, 1) := by decide +kernel
theorem dX8_readVault_54 : decode cX8_readVault 54 = .ok (.invokevirtual 158, 3) := by decide +kernel
theorem dX8_readVault_57 : decode cX8_readVault 57 = .ok (.aload_n 0, 1) := by decide +kernel
theorem dX8_readVault_58 : decode cX8_readVault 58 = .ok (.iload_n 1, 1) := by decide +kernel
theorem dX8_readVault_59 : decode cX8_readVault 59 = .ok (.iconst 2, 1) := by decide +kernel
theorem dX8_readVault_60 : decode cX8_readVault 60 = .ok (.iload_n 3, 1) := by decide +kernel
theorem dX8_readVault_61 : decode cX8_readVault 61 = .ok (.invokevirtual 158, 3) := by decide +kernel
theorem dX8_readVault_64 : decode cX8_readVault 64 = .ok (.aload_n 0, 1) := by decide +kernel
theorem dX8_readVault_65 : decode cX8_readVault 65 = .ok (.iload_n 1, 1) := by decide +kernel
theorem dX8_readVault_66 : decode cX8_readVault 66 = .ok (.iconst 3, 1) := by decide +kernel
theorem dX8_readVault_67 : decode cX8_readVault 67 = .ok (.iconst 0, 1) := by decide +kernel
theorem dX8_readVault_68 : decode cX8_readVault 68 = .ok (.invokevirtual 158, 3) := by decide +kernel
theorem dX8_readVault_71 : decode cX8_readVault 71 = .ok (.aload_n 0, 1) := by decide +kernel
theorem dX8_readVault_72 : decode cX8_readVault 72 = .ok (.ldc 162, 2) := by decide +kernel
theorem dX8_readVault_74 : decode cX8_readVault 74 = .ok (.invokevirtual 164, 3) := by decide +kernel
theorem dX8_readVault_77 : decode cX8_readVault 77 = .ok (.ifCond .eq 43, 3) := by decide +kernel
theorem dX8_readVault_80 : decode cX8_readVault 80 = .ok (.aload_n 0, 1) := by decide +kernel
theorem dX8_readVault_81 : decode cX8_readVault 81 = .ok (.iconst 0, 1) := by decide +kernel
theorem dX8_readVault_82 : decode cX8_readVault 82 = .ok (.bipush 6, 2) := by decide +kernel
theorem dX8_readVault_84 : decode cX8_readVault 84 = .ok (.invokevirtual 146, 3) := by decide +kernel
theorem dX8_readVault_87 : decode cX8_readVault 87 = .ok (.istore 4, 2) := by decide +kernel
theorem dX8_readVault_89 : decode cX8_readVault 89 = .ok (.iload 4, 2) := by decide +kernel
theorem dX8_readVault_91 : decode cX8_readVault 91 = .ok (.ifCond .ge 5, 3) := by decide +kernel
theorem dX8_readVault_94 : decode cX8_readVault 94 = .ok (.iconst 0, 1) := by decide +kernel
theorem dX8_readVault_95 : decode cX8_readVault 95 = .ok (.ireturn, 1) := by decide +kernel
theorem dX8_readVault_96 : decode cX8_readVault 96 = .ok (.aload_n 0, 1) := by decide +kernel
theorem dX8_readVault_97 : decode cX8_readVault 97 = .ok (.iload_n 1, 1) := by decide +kernel
theorem dX8_readVault_98 : decode cX8_readVault 98 = .ok (.iconst 1, 1) := by decide +kernel
theorem dX8_readVault_99 : decode cX8_readVault 99 = .ok (.aload_n 0, 1) := by decide +kernel
theorem dX8_readVault_100 : decode cX8_readVault 100 = .ok (.iload_n 1, 1) := by decide +kernel
theorem dX8_readVault_101 : decode cX8_readVault 101 = .ok (.iconst 1, 1) := by decide +kernel
theorem dX8_readVault_102 : decode cX8_readVault 102 = .ok (.invokevirtual 167, 3) := by decide +kernel
theorem dX8_readVault_105 : decode cX8_readVault 105 = .ok (.iconst 1, 1) := by decide +kernel
theorem dX8_readVault_106 : decode cX8_readVault 106 = .ok (.iload 4, 2) := by decide +kernel
theorem dX8_readVault_108 : decode cX8_readVault 108 = .ok (.ishl, 1) := by decide +kernel
theorem dX8_readVault_109 : decode cX8_readVault 109 = .ok (.ior, 1) := by decide +kernel
theorem dX8_readVault_110 : decode cX8_readVault 110 = .ok (.invokevirtual 158, 3) := by decide +kernel
theorem dX8_readVault_113 : decode cX8_readVault 113 = .ok (.aload_n 0, 1) := by decide +kernel
theorem dX8_readVault_114 : decode cX8_readVault 114 = .ok (.invokevirtual 170, 3) := by decide +kernel
theorem dX8_readVault_117 : decode cX8_readVault 117 = .ok (.ifCond .ne (-37), 3) := by decide +kernel
theorem dX8_readVault_120 : decode cX8_readVault 120 = .ok (.aload_n 0, 1) := by decide +kernel
theorem dX8_readVault_121 : decode cX8_readVault 121 = .ok (.iload_n 1, 1) := by decide +kernel
theorem dX8_readVault_122 : decode cX8_readVault 122 = .ok (.invokevirtual 174, 3) := by decide +kernel
theorem dX8_readVault_125 : decode cX8_readVault 125 = .ok (.aload_n 0, 1) := by decide +kernel
theorem dX8_readVault_126 : decode cX8_readVault 126 = .ok (.getfield 13, 3) := by decide +kernel
theorem dX8_readVault_129 : decode cX8_readVault 129 = .ok (.iconst 0, 1) := by decide +kernel
theorem dX8_readVault_130 : decode cX8_readVault 130 = .ok (.dup2, 1) := by decide +kernel
theorem dX8_readVault_131 : decode cX8_readVault 131 = .ok (.iaload, 1) := by decide +kernel
theorem dX8_readVault_132 : decode cX8_readVault 132 = .ok (.iconst 1, 1) := by decide +kernel
theorem dX8_readVault_133 : decode cX8_readVault 133 = .ok (.iadd, 1) := by decide +kernel
theorem dX8_readVault_134 : decode cX8_readVault 134 = .ok (.iastore, 1) := by decide +kernel
theorem dX8_readVault_135 : decode cX8_readVault 135 = .ok (.iconst 1, 1) := by decide +kernel
theorem dX8_readVault_136 : decode cX8_readVault 136 = .ok (.ireturn, 1) := by decide +kernel
theorem dX8_readPerson_0 : decode cX8_readPerson 0 = .ok (.aload_n 0, 1) := by decide +kernel
theorem dX8_readPerson_1 : decode cX8_readPerson 1 = .ok (.invokevirtual 89, 3) := by decide +kernel
theorem dX8_readPerson_4 : decode cX8_readPerson 4 = .ok (.bipush 6, 2) := by decide +kernel
theorem dX8_readPerson_6 : decode cX8_readPerson 6 = .ok (.if_icmp .ne 5, 3) := by decide +kernel
theorem dX8_readPerson_9 : decode cX8_readPerson 9 = .ok (.iconst 0, 1) := by decide +kernel
theorem dX8_readPerson_10 : decode cX8_readPerson 10 = .ok (.ireturn, 1) := by decide +kernel
theorem dX8_readPerson_11 : decode cX8_readPerson 11 = .ok (.iconst 0, 1) := by decide +kernel
theorem dX8_readPerson_12 : decode cX8_readPerson 12 = .ok (.istore_n 1, 1) := by decide +kernel
theorem dX8_readPerson_13 : decode cX8_readPerson 13 = .ok (.iload_n 1, 1) := by decide +kernel
theorem dX8_readPerson_14 : decode cX8_readPerson 14 = .ok (.bipush 6, 2) := by decide +kernel
theorem dX8_readPerson_16 : decode cX8_readPerson 16 = .ok (.if_icmp .ge 18, 3) := by decide +kernel
theorem dX8_readPerson_19 : decode cX8_readPerson 19 = .ok (.aload_n 0, 1) := by decide +kernel
theorem dX8_readPerson_20 : decode cX8_readPerson 20 = .ok (.aload_n 0, 1) := by decide +kernel
theorem dX8_readPerson_21 : decode cX8_readPerson 21 = .ok (.invokevirtual 89, 3) := by decide +kernel
theorem dX8_readPerson_24 : decode cX8_readPerson 24 = .ok (.iload_n 1, 1) := by decide +kernel
theorem dX8_readPerson_25 : decode cX8_readPerson 25 = .ok (.invokevirtual 101, 3) := by decide +kernel
theorem dX8_readPerson_28 : decode cX8_readPerson 28 = .ok (.iinc 1 1, 3) := by decide +kernel
theorem dX8_readPerson_31 : decode cX8_readPerson 31 = .ok (.goto (-18), 3) := by decide +kernel
theorem dX8_readPerson_34 : decode cX8_readPerson 34 = .ok (.aload_n 0, 1) := by decide +kernel
theorem dX8_readPerson_35 : decode cX8_readPerson 35 = .ok (.getfield 13, 3) := by decide +kernel
theorem dX8_readPerson_38 : decode cX8_readPerson 38 = .ok (.iconst 1, 1) := by decide +kernel
theorem dX8_readPerson_39 : decode cX8_readPerson 39 = .ok (.dup2, 1) := by decide +kernel
theorem dX8_readPerson_40 : decode cX8_readPerson 40 = .ok (.iaload, 1) := by decide +kernel
theorem dX8_readPerson_41 : decode cX8_readPerson 41 = .ok (.iconst 1, 1) := by decide +kernel
theorem dX8_readPerson_42 : decode cX8_readPerson 42 = .ok (.iadd, 1) := by decide +kernel
theorem dX8_readPerson_43 : decode cX8_readPerson 43 = .ok (.iastore, 1) := by decide +kernel
theorem dX8_readPerson_44 : decode cX8_readPerson 44 = .ok (.iconst 1, 1) := by decide +kernel
theorem dX8_readPerson_45 : decode cX8_readPerson 45 = .ok (.ireturn, 1) := by decide +kernel
theorem dX8_readContract_0 : decode cX8_readContract 0 = .ok (.aload_n 0, 1) := by decide +kernel
theorem dX8_readContract_1 : decode cX8_readContract 1 = .ok (.invokevirtual 178, 3) := by decide +kernel
theorem dX8_readContract_4 : decode cX8_readContract 4 = .ok (.bipush 12, 2) := by decide +kernel
theorem dX8_readContract_6 : decode cX8_readContract 6 = .ok (.if_icmp .ne 5, 3) := by decide +kernel
theorem dX8_readContract_9 : decode cX8_readContract 9 = .ok (.iconst 0, 1) := by decide +kernel
theorem dX8_readContract_10 : decode cX8_readContract 10 = .ok (.ireturn, 1) := by decide +kernel
theorem dX8_readContract_11 : decode cX8_readContract 11 = .ok (.aload_n 0, 1) := by decide +kernel
theorem dX8_readContract_12 : decode cX8_readContract 12 = .ok (.invokevirtual 181, 3) := by decide +kernel
theorem dX8_readContract_15 : decode cX8_readContract 15 = .ok (.istore_n 2, 1) := by decide +kernel
theorem dX8_readContract_16 : decode cX8_readContract 16 = .ok (.iload_n 2, 1) := by decide +kernel
theorem dX8_readContract_17 : decode cX8_readContract 17 = .ok (.ifCond .ge 7, 3) := by decide +kernel
theorem dX8_readContract_20 : decode cX8_readContract 20 = .ok (.iconst (-1), 1) := by decide +kernel
theorem dX8_readContract_21 : decode cX8_readContract 21 = .ok (.goto 7, 3) := by decide +kernel
theorem dX8_readContract_24 : decode cX8_readContract 24 = .ok (.aload_n 0, 1) := by decide +kernel
theorem dX8_readContract_25 : decode cX8_readContract 25 = .ok (.invokevirtual 184, 3) := by decide +kernel
theorem dX8_readContract_28 : decode cX8_readContract 28 = .ok (.istore_n 3, 1) := by decide +kernel
theorem dX8_readContract_29 : decode cX8_readContract 29 = .ok (.iload_n 3, 1) := by decide +kernel
theorem dX8_readContract_30 : decode cX8_readContract 30 = .ok (.ifCond .ge 5, 3) := by decide +kernel
theorem dX8_readContract_33 : decode cX8_readContract 33 = .ok (.iconst 0, 1) := by decide +kernel
theorem dX8_readContract_34 : decode cX8_readContract 34 = .ok (.ireturn, 1) := by decide +kernel
theorem dX8_readContract_35 : decode cX8_readContract 35 = .ok (.iload_n 1, 1) := by decide +kernel
theorem dX8_readContract_36 : decode cX8_readContract 36 = .ok (.ifCond .eq 16, 3) := by decide +kernel
theorem dX8_readContract_39 : decode cX8_readContract 39 = .ok (.aload_n 0, 1) := by decide +kernel
theorem dX8_readContract_40 : decode cX8_readContract 40 = .ok (.ldc 187, 2) := by decide +kernel
theorem dX8_readContract_42 : decode cX8_readContract 42 = .ok (.iconst 0, 1) := by decide +kernel
theorem dX8_readContract_43 : decode cX8_readContract 43 = .ok (.sipush 999, 3) := by decide +kernel
theorem dX8_readContract_46 : decode cX8_readContract 46 = .ok (.invokevirtual 154, 3) := by decide +kernel
theorem dX8_readContract_49 : decode cX8_readContract 49 = .ok (.goto 4, 3) := by decide +kernel
theorem dX8_readContract_52 : decode cX8_readContract 52 = .ok (.iconst (-1), 1) := by decide +kernel
theorem dX8_readContract_53 : decode cX8_readContract 53 = .ok (.istore 4, 2) := by decide +kernel
theorem dX8_readContract_55 : decode cX8_readContract 55 = .ok (.iload_n 1, 1) := by decide +kernel
theorem dX8_readContract_56 : decode cX8_readContract 56 = .ok (.ifCond .eq 10, 3) := by decide +kernel
theorem dX8_readContract_59 : decode cX8_readContract 59 = .ok (.iload 4, 2) := by decide +kernel
theorem dX8_readContract_61 : decode cX8_readContract 61 = .ok (.ifCond .ge 5, 3) := by decide +kernel
theorem dX8_readContract_64 : decode cX8_readContract 64 = .ok (.iconst 0, 1) := by decide +kernel
theorem dX8_readContract_65 : decode cX8_readContract 65 = .ok (.ireturn, 1) := by decide +kernel
theorem dX8_readContract_66 : decode cX8_readContract 66 = .ok (.bipush 34, 2) := by decide +kernel
theorem dX8_readContract_68 : decode cX8_readContract 68 = .ok (.iconst 4, 1) := by decide +kernel
theorem dX8_readContract_69 : decode cX8_readContract 69 = .ok (.aload_n 0, 1) := by decide +kernel
theorem dX8_readContract_70 : decode cX8_readContract 70 = .ok (.invokevirtual 178, 3) := by decide +kernel
theorem dX8_readContract_73 : decode cX8_readContract 73 = .ok (.imul, 1) := by decide +kernel
theorem dX8_readContract_74 : decode cX8_readContract 74 = .ok (.iadd, 1) := by decide +kernel
theorem dX8_readContract_75 : decode cX8_readContract 75 = .ok (.istore 5, 2) := by decide +kernel
theorem dX8_readContract_77 : decode cX8_readContract 77 = .ok (.aload_n 0, 1) := by decide +kernel
theorem dX8_readContract_78 : decode cX8_readContract 78 = .ok (.getfield 13, 3) := by decide +kernel
theorem dX8_readContract_81 : decode cX8_readContract 81 = .ok (.iload 5, 2) := by decide +kernel
theorem dX8_readContract_83 : decode cX8_readContract 83 = .ok (.iconst 0, 1) := by decide +kernel
theorem dX8_readContract_84 : decode cX8_readContract 84 = .ok (.iadd, 1) := by decide +kernel
theorem dX8_readContract_85 : decode cX8_readContract 85 = .ok (.iload_n 1, 1) := by decide +kernel
theorem dX8_readContract_86 : decode cX8_readContract 86 = .ok (.ifCond .eq 7, 3) := by decide +kernel
theorem dX8_readContract_89 : decode cX8_readContract 89 = .ok (.iconst 1, 1) := by decide +kernel
theorem dX8_readContract_90 : decode cX8_readContract 90 = .ok (.goto 4, 3) := by decide +kernel
theorem dX8_readContract_93 : decode cX8_readContract 93 = .ok (.iconst 0, 1) := by decide +kernel
theorem dX8_readContract_94 : decode cX8_readContract 94 = .ok (.iastore, 1) := by decide +kernel
theorem dX8_readContract_95 : decode cX8_readContract 95 = .ok (.aload_n 0, 1) := by decide +kernel
theorem dX8_readContract_96 : decode cX8_readContract 96 = .ok (.getfield 13, 3) := by decide +kernel
theorem dX8_readContract_99 : decode cX8_readContract 99 = .ok (.iload 5, 2) := by decide +kernel
theorem dX8_readContract_101 : decode cX8_readContract 101 = .ok (.iconst 1, 1) := by decide +kernel
theorem dX8_readContract_102 : decode cX8_readContract 102 = .ok (.iadd, 1) := by decide +kernel
theorem dX8_readContract_103 : decode cX8_readContract 103 = .ok (.iload_n 2, 1) := by decide +kernel
theorem dX8_readContract_104 : decode cX8_readContract 104 = .ok (.iastore, 1) := by decide +kernel
theorem dX8_readContract_105 : decode cX8_readContract 105 = .ok (.aload_n 0, 1) := by decide +kernel
theorem dX8_readContract_106 : decode cX8_readContract 106 = .ok (.getfield 13, 3) := by decide +kernel
theorem dX8_readContract_109 : decode cX8_readContract 109 = .ok (.iload 5, 2) := by decide +kernel
theorem dX8_readContract_111 : decode cX8_readContract 111 = .ok (.iconst 2, 1) := by decide +kernel
theorem dX8_readContract_112 : decode cX8_readContract 112 = .ok (.iadd, 1) := by decide +kernel
theorem dX8_readContract_113 : decode cX8_readContract 113 = .ok (.iload_n 3, 1) := by decide +kernel
theorem dX8_readContract_114 : decode cX8_readContract 114 = .ok (.iastore, 1) := by decide +kernel
theorem dX8_readContract_115 : decode cX8_readContract 115 = .ok (.aload_n 0, 1) := by decide +kernel
theorem dX8_readContract_116 : decode cX8_readContract 116 = .ok (.getfield 13, 3) := by decide +kernel
theorem dX8_readContract_119 : decode cX8_readContract 119 = .ok (.iload 5, 2) := by decide +kernel
theorem dX8_readContract_121 : decode cX8_readContract 121 = .ok (.iconst 3, 1) := by decide +kernel
theorem dX8_readContract_122 : decode cX8_readContract 122 = .ok (.iadd, 1) := by decide +kernel
theorem dX8_readContract_123 : decode cX8_readContract 123 = .ok (.iload 4, 2) := by decide +kernel
theorem dX8_readContract_125 : decode cX8_readContract 125 = .ok (.iastore, 1) := by decide +kernel
theorem dX8_readContract_126 : decode cX8_readContract 126 = .ok (.aload_n 0, 1) := by decide +kernel
theorem dX8_readContract_127 : decode cX8_readContract 127 = .ok (.getfield 13, 3) := by decide +kernel
theorem dX8_readContract_130 : decode cX8_readContract 130 = .ok (.iconst 2, 1) := by decide +kernel
theorem dX8_readContract_131 : decode cX8_readContract 131 = .ok (.dup2, 1) := by decide +kernel
theorem dX8_readContract_132 : decode cX8_readContract 132 = .ok (.iaload, 1) := by decide +kernel
theorem dX8_readContract_133 : decode cX8_readContract 133 = .ok (.iconst 1, 1) := by decide +kernel
theorem dX8_readContract_134 : decode cX8_readContract 134 = .ok (.iadd, 1) := by decide +kernel
theorem dX8_readContract_135 : decode cX8_readContract 135 = .ok (.iastore, 1) := by decide +kernel
theorem dX8_readContract_136 : decode cX8_readContract 136 = .ok (.iconst 1, 1) := by decide +kernel
theorem dX8_readContract_137 : decode cX8_readContract 137 = .ok (.ireturn, 1) := by decide +kernel
theorem dX8_readBankLine_0 : decode cX8_readBankLine 0 = .ok (.aload_n 0, 1) := by decide +kernel
theorem dX8_readBankLine_1 : decode cX8_readBankLine 1 = .ok (.ldc 189, 2) := by decide +kernel
theorem dX8_readBankLine_3 : decode cX8_readBankLine 3 = .ok (.invokevirtual 142, 3) := by decide +kernel
theorem dX8_readBankLine_6 : decode cX8_readBankLine 6 = .ok (.ifCond .eq 8, 3) := by decide +kernel
theorem dX8_readBankLine_9 : decode cX8_readBankLine 9 = .ok (.aload_n 0, 1) := by decide +kernel
theorem dX8_readBankLine_10 : decode cX8_readBankLine 10 = .ok (.invokevirtual 191, 3) := by decide +kernel
theorem dX8_readBankLine_13 : decode cX8_readBankLine 13 = .ok (.ireturn, 1) := by decide +kernel
theorem dX8_readBankLine_14 : decode cX8_readBankLine 14 = .ok (.aload_n 0, 1) := by decide +kernel
theorem dX8_readBankLine_15 : decode cX8_readBankLine 15 = .ok (.ldc 194, 2) := by decide +kernel
theorem dX8_readBankLine_17 : decode cX8_readBankLine 17 = .ok (.invokevirtual 142, 3) := by decide +kernel
theorem dX8_readBankLine_20 : decode cX8_readBankLine 20 = .ok (.ifCond .eq 8, 3) := by decide +kernel
theorem dX8_readBankLine_23 : decode cX8_readBankLine 23 = .ok (.aload_n 0, 1) := by decide +kernel
theorem dX8_readBankLine_24 : decode cX8_readBankLine 24 = .ok (.invokevirtual 196, 3) := by decide +kernel
theorem dX8_readBankLine_27 : decode cX8_readBankLine 27 = .ok (.ireturn, 1) := by decide +kernel
theorem dX8_readBankLine_28 : decode cX8_readBankLine 28 = .ok (.aload_n 0, 1) := by decide +kernel
theorem dX8_readBankLine_29 : decode cX8_readBankLine 29 = .ok (.ldc 199, 2) := by decide +kernel
theorem dX8_readBankLine_31 : decode cX8_readBankLine 31 = .ok (.invokevirtual 142, 3) := by decide +kernel
theorem dX8_readBankLine_34 : decode cX8_readBankLine 34 = .ok (.istore_n 1, 1) := by decide +kernel
theorem dX8_readBankLine_35 : decode cX8_readBankLine 35 = .ok (.iload_n 1, 1) := by decide +kernel
theorem dX8_readBankLine_36 : decode cX8_readBankLine 36 = .ok (.ifCond .ne 12, 3) := by decide +kernel
theorem dX8_readBankLine_39 : decode cX8_readBankLine 39 = .ok (.aload_n 0, 1) := by decide +kernel
theorem dX8_readBankLine_40 : decode cX8_readBankLine 40 = .ok (.ldc 201, 2) := by decide +kernel
theorem dX8_readBankLine_42 : decode cX8_readBankLine 42 = .ok (.invokevirtual 142, 3) := by decide +kernel
theorem dX8_readBankLine_45 : decode cX8_readBankLine 45 = .ok (.ifCond .eq 9, 3) := by decide +kernel
theorem dX8_readBankLine_48 : decode cX8_readBankLine 48 = .ok (.aload_n 0, 1) := by decide +kernel
theorem dX8_readBankLine_49 : decode cX8_readBankLine 49 = .ok (.iload_n 1, 1) := by decide +kernel
theorem dX8_readBankLine_50 : decode cX8_readBankLine 50 = .ok (.invokevirtual 203, 3) := by decide +kernel
theorem dX8_readBankLine_53 : decode cX8_readBankLine 53 = .ok (.ireturn, 1) := by decide +kernel
theorem dX8_readBankLine_54 : decode cX8_readBankLine 54 = .ok (.aload_n 0, 1) := by decide +kernel
theorem dX8_readBankLine_55 : decode cX8_readBankLine 55 = .ok (.ldc 207, 2) := by decide +kernel
theorem dX8_readBankLine_57 : decode cX8_readBankLine 57 = .ok (.invokevirtual 142, 3) := by decide +kernel
theorem dX8_readBankLine_60 : decode cX8_readBankLine 60 = .ok (.ifCond .ne 5, 3) := by decide +kernel
theorem dX8_readBankLine_63 : decode cX8_readBankLine 63 = .ok (.iconst 0, 1) := by decide +kernel
theorem dX8_readBankLine_64 : decode cX8_readBankLine 64 = .ok (.ireturn, 1) := by decide +kernel
theorem dX8_readBankLine_65 : decode cX8_readBankLine 65 = .ok (.aload_n 0, 1) := by decide +kernel
theorem dX8_readBankLine_66 : decode cX8_readBankLine 66 = .ok (.iconst 0, 1) := by decide +kernel
theorem dX8_readBankLine_67 : decode cX8_readBankLine 67 = .ok (.bipush 100, 2) := by decide +kernel
theorem dX8_readBankLine_69 : decode cX8_readBankLine 69 = .ok (.invokevirtual 146, 3) := by decide +kernel
theorem dX8_readBankLine_72 : decode cX8_readBankLine 72 = .ok (.istore_n 2, 1) := by decide +kernel
theorem dX8_readBankLine_73 : decode cX8_readBankLine 73 = .ok (.iload_n 2, 1) := by decide +kernel
theorem dX8_readBankLine_74 : decode cX8_readBankLine 74 = .ok (.ifCond .lt 11, 3) := by decide +kernel
theorem dX8_readBankLine_77 : decode cX8_readBankLine 77 = .ok (.aload_n 0, 1) := by decide +kernel
theorem dX8_readBankLine_78 : decode cX8_readBankLine 78 = .ok (.getfield 13, 3) := by decide +kernel
theorem dX8_readBankLine_81 : decode cX8_readBankLine 81 = .ok (.bipush 6, 2) := by decide +kernel
theorem dX8_readBankLine_83 : decode cX8_readBankLine 83 = .ok (.iload_n 2, 1) := by decide +kernel
theorem dX8_readBankLine_84 : decode cX8_readBankLine 84 = .ok (.iastore, 1) := by decide +kernel
theorem dX8_readBankLine_85 : decode cX8_readBankLine 85 = .ok (.iload_n 2, 1) := by decide +kernel
theorem dX8_readBankLine_86 : decode cX8_readBankLine 86 = .ok (.ifCond .lt 7, 3) := by decide +kernel
theorem dX8_readBankLine_89 : decode cX8_readBankLine 89 = .ok (.iconst 1, 1) := by decide +kernel
theorem dX8_readBankLine_90 : decode cX8_readBankLine 90 = .ok (.goto 4, 3) := by decide +kernel
theorem dX8_readBankLine_93 : decode cX8_readBankLine 93 = .ok (.iconst 0, 1) := by decide +kernel
theorem dX8_readBankLine_94 : decode cX8_readBankLine 94 = .ok (.ireturn, 1) := by decide +kernel
theorem dX8_emits_0 : decode cX8_emits 0 = .ok (.aload_n 0, 1) := by decide +kernel
theorem dX8_emits_1 : decode cX8_emits 1 = .ok (.getfield 13, 3) := by decide +kernel
theorem dX8_emits_4 : decode cX8_emits 4 = .ok (.sipush 1460, 3) := by decide +kernel
theorem dX8_emits_7 : decode cX8_emits 7 = .ok (.iconst 2, 1) := by decide +kernel
theorem dX8_emits_8 : decode cX8_emits 8 = .ok (.aload_n 0, 1) := by decide +kernel
theorem dX8_emits_9 : decode cX8_emits 9 = .ok (.getfield 209, 3) := by decide +kernel
theorem dX8_emits_12 : decode cX8_emits 12 = .ok (.imul, 1) := by decide +kernel
theorem dX8_emits_13 : decode cX8_emits 13 = .ok (.iadd, 1) := by decide +kernel
theorem dX8_emits_14 : decode cX8_emits 14 = .ok (.iload_n 1, 1) := by decide +kernel
theorem dX8_emits_15 : decode cX8_emits 15 = .ok (.iastore, 1) := by decide +kernel
theorem dX8_emits_16 : decode cX8_emits 16 = .ok (.aload_n 0, 1) := by decide +kernel
theorem dX8_emits_17 : decode cX8_emits 17 = .ok (.getfield 13, 3) := by decide +kernel
theorem dX8_emits_20 : decode cX8_emits 20 = .ok (.sipush 1460, 3) := by decide +kernel
theorem dX8_emits_23 : decode cX8_emits 23 = .ok (.iconst 2, 1) := by decide +kernel
theorem dX8_emits_24 : decode cX8_emits 24 = .ok (.aload_n 0, 1) := by decide +kernel
theorem dX8_emits_25 : decode cX8_emits 25 = .ok (.getfield 209, 3) := by decide +kernel
theorem dX8_emits_28 : decode cX8_emits 28 = .ok (.imul, 1) := by decide +kernel
theorem dX8_emits_29 : decode cX8_emits 29 = .ok (.iadd, 1) := by decide +kernel
theorem dX8_emits_30 : decode cX8_emits 30 = .ok (.iconst 1, 1) := by decide +kernel
theorem dX8_emits_31 : decode cX8_emits 31 = .ok (.iadd, 1) := by decide +kernel
theorem dX8_emits_32 : decode cX8_emits 32 = .ok (.iload_n 2, 1) := by decide +kernel
theorem dX8_emits_33 : decode cX8_emits 33 = .ok (.iastore, 1) := by decide +kernel
theorem dX8_emits_34 : decode cX8_emits 34 = .ok (.aload_n 0, 1) := by decide +kernel
theorem dX8_emits_35 : decode cX8_emits 35 = .ok (.dup, 1) := by decide +kernel
theorem dX8_emits_36 : decode cX8_emits 36 = .ok (.getfield 209, 3) := by decide +kernel
theorem dX8_emits_39 : decode cX8_emits 39 = .ok (.iconst 1, 1) := by decide +kernel
theorem dX8_emits_40 : decode cX8_emits 40 = .ok (.iadd, 1) := by decide +kernel
theorem dX8_emits_41 : decode cX8_emits 41 = .ok (.putfield 209, 3) := by decide +kernel
theorem dX8_emits_44 : decode cX8_emits 44 = .ok (.return_, 1) := by decide +kernel
theorem dX8_readPart_0 : decode cX8_readPart 0 = .ok (.aload_n 0, 1) := by decide +kernel
theorem dX8_readPart_1 : decode cX8_readPart 1 = .ok (.invokevirtual 139, 3) := by decide +kernel
theorem dX8_readPart_4 : decode cX8_readPart 4 = .ok (.aload_n 0, 1) := by decide +kernel
theorem dX8_readPart_5 : decode cX8_readPart 5 = .ok (.getfield 114, 3) := by decide +kernel
theorem dX8_readPart_8 : decode cX8_readPart 8 = .ok (.aload_n 0, 1) := by decide +kernel
theorem dX8_readPart_9 : decode cX8_readPart 9 = .ok (.getfield 124, 3) := by decide +kernel
theorem dX8_readPart_12 : decode cX8_readPart 12 = .ok (.if_icmp .ne 22, 3) := by decide +kernel
theorem dX8_readPart_15 : decode cX8_readPart 15 = .ok (.aload_n 0, 1) := by decide +kernel
theorem dX8_readPart_16 : decode cX8_readPart 16 = .ok (.iconst 0, 1) := by decide +kernel
theorem dX8_readPart_17 : decode cX8_readPart 17 = .ok (.sipush 999, 3) := by decide +kernel
theorem dX8_readPart_20 : decode cX8_readPart 20 = .ok (.invokevirtual 146, 3) := by decide +kernel
theorem dX8_readPart_23 : decode cX8_readPart 23 = .ok (.istore_n 1, 1) := by decide +kernel
theorem dX8_readPart_24 : decode cX8_readPart 24 = .ok (.aload_n 0, 1) := by decide +kernel
theorem dX8_readPart_25 : decode cX8_readPart 25 = .ok (.bipush 6, 2) := by decide +kernel
theorem dX8_readPart_27 : decode cX8_readPart 27 = .ok (.iload_n 1, 1) := by decide +kernel
theorem dX8_readPart_28 : decode cX8_readPart 28 = .ok (.invokevirtual 212, 3) := by decide +kernel
theorem dX8_readPart_31 : decode cX8_readPart 31 = .ok (.goto 63, 3) := by decide +kernel
theorem dX8_readPart_34 : decode cX8_readPart 34 = .ok (.aload_n 0, 1) := by decide +kernel
theorem dX8_readPart_35 : decode cX8_readPart 35 = .ok (.ldc 215, 2) := by decide +kernel
theorem dX8_readPart_37 : decode cX8_readPart 37 = .ok (.invokevirtual 142, 3) := by decide +kernel
theorem dX8_readPart_40 : decode cX8_readPart 40 = .ok (.ifCond .eq 7, 3) := by decide +kernel
theorem dX8_readPart_43 : decode cX8_readPart 43 = .ok (.iconst 0, 1) := by decide +kernel
theorem dX8_readPart_44 : decode cX8_readPart 44 = .ok (.goto 43, 3) := by decide +kernel
theorem dX8_readPart_47 : decode cX8_readPart 47 = .ok (.aload_n 0, 1) := by decide +kernel
theorem dX8_readPart_48 : decode cX8_readPart 48 = .ok (.ldc 217, 2) := by decide +kernel
theorem dX8_readPart_50 : decode cX8_readPart 50 = .ok (.invokevirtual 142, 3) := by decide +kernel
theorem dX8_readPart_53 : decode cX8_readPart 53 = .ok (.ifCond .eq 7, 3) := by decide +kernel
theorem dX8_readPart_56 : decode cX8_readPart 56 = .ok (.iconst 1, 1) := by decide +kernel
theorem dX8_readPart_57 : decode cX8_readPart 57 = .ok (.goto 30, 3) := by decide +kernel
theorem dX8_readPart_60 : decode cX8_readPart 60 = .ok (.aload_n 0, 1) := by decide +kernel
theorem dX8_readPart_61 : decode cX8_readPart 61 = .ok (.ldc 219, 2) := by decide +kernel
theorem dX8_readPart_63 : decode cX8_readPart 63 = .ok (.invokevirtual 142, 3) := by decide +kernel
theorem dX8_readPart_66 : decode cX8_readPart 66 = .ok (.ifCond .eq 7, 3) := by decide +kernel
theorem dX8_readPart_69 : decode cX8_readPart 69 = .ok (.iconst 2, 1) := by decide +kernel
theorem dX8_readPart_70 : decode cX8_readPart 70 = .ok (.goto 17, 3) := by decide +kernel
theorem dX8_readPart_73 : decode cX8_readPart 73 = .ok (.aload_n 0, 1) := by decide +kernel
theorem dX8_readPart_74 : decode cX8_readPart 74 = .ok (.ldc 221, 2) := by decide +kernel
theorem dX8_readPart_76 : decode cX8_readPart 76 = .ok (.invokevirtual 142, 3) := by decide +kernel
theorem dX8_readPart_79 : decode cX8_readPart 79 = .ok (.ifCond .eq 7, 3) := by decide +kernel
theorem dX8_readPart_82 : decode cX8_readPart 82 = .ok (.iconst 3, 1) := by decide +kernel
theorem dX8_readPart_83 : decode cX8_readPart 83 = .ok (.goto 4, 3) := by decide +kernel
theorem dX8_readPart_86 : decode cX8_readPart 86 = .ok (.iconst (-1), 1) := by decide +kernel
theorem dX8_readPart_87 : decode cX8_readPart 87 = .ok (.istore_n 1, 1) := by decide +kernel
theorem dX8_readPart_88 : decode cX8_readPart 88 = .ok (.aload_n 0, 1) := by decide +kernel
theorem dX8_readPart_89 : decode cX8_readPart 89 = .ok (.iload_n 1, 1) := by decide +kernel
theorem dX8_readPart_90 : decode cX8_readPart 90 = .ok (.iconst 0, 1) := by decide +kernel
theorem dX8_readPart_91 : decode cX8_readPart 91 = .ok (.invokevirtual 212, 3) := by decide +kernel
theorem dX8_readPart_94 : decode cX8_readPart 94 = .ok (.iload_n 1, 1) := by decide +kernel
theorem dX8_readPart_95 : decode cX8_readPart 95 = .ok (.ifCond .lt 7, 3) := by decide +kernel
theorem dX8_readPart_98 : decode cX8_readPart 98 = .ok (.iconst 1, 1) := by decide +kernel
theorem dX8_readPart_99 : decode cX8_readPart 99 = .ok (.goto 4, 3) := by decide +kernel
theorem dX8_readPart_102 : decode cX8_readPart 102 = .ok (.iconst 0, 1) := by decide +kernel
theorem dX8_readPart_103 : decode cX8_readPart 103 = .ok (.ireturn, 1) := by decide +kernel
theorem dX8_readSum_0 : decode cX8_readSum 0 = .ok (.aload_n 0, 1) := by decide +kernel
theorem dX8_readSum_1 : decode cX8_readSum 1 = .ok (.invokevirtual 223, 3) := by decide +kernel
theorem dX8_readSum_4 : decode cX8_readSum 4 = .ok (.ifCond .ne 5, 3) := by decide +kernel
theorem dX8_readSum_7 : decode cX8_readSum 7 = .ok (.iconst 0, 1) := by decide +kernel
theorem dX8_readSum_8 : decode cX8_readSum 8 = .ok (.ireturn, 1) := by decide +kernel
theorem dX8_readSum_9 : decode cX8_readSum 9 = .ok (.aload_n 0, 1) := by decide +kernel
theorem dX8_readSum_10 : decode cX8_readSum 10 = .ok (.bipush 43, 2) := by decide +kernel
theorem dX8_readSum_12 : decode cX8_readSum 12 = .ok (.invokevirtual 226, 3) := by decide +kernel
theorem dX8_readSum_15 : decode cX8_readSum 15 = .ok (.ifCond .eq 22, 3) := by decide +kernel
theorem dX8_readSum_18 : decode cX8_readSum 18 = .ok (.aload_n 0, 1) := by decide +kernel
theorem dX8_readSum_19 : decode cX8_readSum 19 = .ok (.invokevirtual 223, 3) := by decide +kernel
theorem dX8_readSum_22 : decode cX8_readSum 22 = .ok (.ifCond .ne 5, 3) := by decide +kernel
theorem dX8_readSum_25 : decode cX8_readSum 25 = .ok (.iconst 0, 1) := by decide +kernel
theorem dX8_readSum_26 : decode cX8_readSum 26 = .ok (.ireturn, 1) := by decide +kernel
theorem dX8_readSum_27 : decode cX8_readSum 27 = .ok (.aload_n 0, 1) := by decide +kernel
theorem dX8_readSum_28 : decode cX8_readSum 28 = .ok (.bipush 7, 2) := by decide +kernel
theorem dX8_readSum_30 : decode cX8_readSum 30 = .ok (.iconst 0, 1) := by decide +kernel
theorem dX8_readSum_31 : decode cX8_readSum 31 = .ok (.invokevirtual 212, 3) := by decide +kernel
theorem dX8_readSum_34 : decode cX8_readSum 34 = .ok (.goto (-25), 3) := by decide +kernel
theorem dX8_readSum_37 : decode cX8_readSum 37 = .ok (.iconst 1, 1) := by decide +kernel
theorem dX8_readSum_38 : decode cX8_readSum 38 = .ok (.ireturn, 1) := by decide +kernel
theorem dX8_readTag_0 : decode cX8_readTag 0 = .ok (.aload_n 0, 1) := by decide +kernel
theorem dX8_readTag_1 : decode cX8_readTag 1 = .ok (.invokevirtual 139, 3) := by decide +kernel
theorem dX8_readTag_4 : decode cX8_readTag 4 = .ok (.aload_n 0, 1) := by decide +kernel
theorem dX8_readTag_5 : decode cX8_readTag 5 = .ok (.ldc 230, 2) := by decide +kernel
theorem dX8_readTag_7 : decode cX8_readTag 7 = .ok (.invokevirtual 142, 3) := by decide +kernel
theorem dX8_readTag_10 : decode cX8_readTag 10 = .ok (.ifCond .eq 7, 3) := by decide +kernel
theorem dX8_readTag_13 : decode cX8_readTag 13 = .ok (.iconst 4, 1) := by decide +kernel
theorem dX8_readTag_14 : decode cX8_readTag 14 = .ok (.goto 17, 3) := by decide +kernel
theorem dX8_readTag_17 : decode cX8_readTag 17 = .ok (.aload_n 0, 1) := by decide +kernel
theorem dX8_readTag_18 : decode cX8_readTag 18 = .ok (.ldc 232, 2) := by decide +kernel
theorem dX8_readTag_20 : decode cX8_readTag 20 = .ok (.invokevirtual 142, 3) := by decide +kernel
theorem dX8_readTag_23 : decode cX8_readTag 23 = .ok (.ifCond .eq 7, 3) := by decide +kernel
theorem dX8_readTag_26 : decode cX8_readTag 26 = .ok (.iconst 5, 1) := by decide +kernel
theorem dX8_readTag_27 : decode cX8_readTag 27 = .ok (.goto 4, 3) := by decide +kernel
theorem dX8_readTag_30 : decode cX8_readTag 30 = .ok (.iconst (-1), 1) := by decide +kernel
theorem dX8_readTag_31 : decode cX8_readTag 31 = .ok (.istore_n 1, 1) := by decide +kernel
theorem dX8_readTag_32 : decode cX8_readTag 32 = .ok (.iload_n 1, 1) := by decide +kernel
theorem dX8_readTag_33 : decode cX8_readTag 33 = .ok (.ifCond .lt 12, 3) := by decide +kernel
theorem dX8_readTag_36 : decode cX8_readTag 36 = .ok (.aload_n 0, 1) := by decide +kernel
theorem dX8_readTag_37 : decode cX8_readTag 37 = .ok (.iload_n 1, 1) := by decide +kernel
theorem dX8_readTag_38 : decode cX8_readTag 38 = .ok (.iconst 0, 1) := by decide +kernel
theorem dX8_readTag_39 : decode cX8_readTag 39 = .ok (.invokevirtual 212, 3) := by decide +kernel
theorem dX8_readTag_42 : decode cX8_readTag 42 = .ok (.goto 11, 3) := by decide +kernel
theorem dX8_readTag_45 : decode cX8_readTag 45 = .ok (.aload_n 0, 1) := by decide +kernel
theorem dX8_readTag_46 : decode cX8_readTag 46 = .ok (.aload_n 0, 1) := by decide +kernel
theorem dX8_readTag_47 : decode cX8_readTag 47 = .ok (.getfield 124, 3) := by decide +kernel
theorem dX8_readTag_50 : decode cX8_readTag 50 = .ok (.putfield 114, 3) := by decide +kernel
theorem dX8_readTag_53 : decode cX8_readTag 53 = .ok (.iload_n 1, 1) := by decide +kernel
theorem dX8_readTag_54 : decode cX8_readTag 54 = .ok (.ifCond .lt 7, 3) := by decide +kernel
theorem dX8_readTag_57 : decode cX8_readTag 57 = .ok (.iconst 1, 1) := by decide +kernel
theorem dX8_readTag_58 : decode cX8_readTag 58 = .ok (.goto 4, 3) := by decide +kernel
theorem dX8_readTag_61 : decode cX8_readTag 61 = .ok (.iconst 0, 1) := by decide +kernel
theorem dX8_readTag_62 : decode cX8_readTag 62 = .ok (.ireturn, 1) := by decide +kernel
theorem dX8_readAtom_0 : decode cX8_readAtom 0 = .ok (.aload_n 0, 1) := by decide +kernel
theorem dX8_readAtom_1 : decode cX8_readAtom 1 = .ok (.bipush 40, 2) := by decide +kernel
theorem dX8_readAtom_3 : decode cX8_readAtom 3 = .ok (.invokevirtual 226, 3) := by decide +kernel
theorem dX8_readAtom_6 : decode cX8_readAtom 6 = .ok (.ifCond .eq 50, 3) := by decide +kernel
theorem dX8_readAtom_9 : decode cX8_readAtom 9 = .ok (.aload_n 0, 1) := by decide +kernel
theorem dX8_readAtom_10 : decode cX8_readAtom 10 = .ok (.getfield 234, 3) := by decide +kernel
theorem dX8_readAtom_13 : decode cX8_readAtom 13 = .ok (.bipush 6, 2) := by decide +kernel
theorem dX8_readAtom_15 : decode cX8_readAtom 15 = .ok (.if_icmp .ne 5, 3) := by decide +kernel
theorem dX8_readAtom_18 : decode cX8_readAtom 18 = .ok (.iconst 0, 1) := by decide +kernel
theorem dX8_readAtom_19 : decode cX8_readAtom 19 = .ok (.ireturn, 1) := by decide +kernel
theorem dX8_readAtom_20 : decode cX8_readAtom 20 = .ok (.aload_n 0, 1) := by decide +kernel
theorem dX8_readAtom_21 : decode cX8_readAtom 21 = .ok (.dup, 1) := by decide +kernel
theorem dX8_readAtom_22 : decode cX8_readAtom 22 = .ok (.getfield 234, 3) := by decide +kernel
theorem dX8_readAtom_25 : decode cX8_readAtom 25 = .ok (.iconst 1, 1) := by decide +kernel
theorem dX8_readAtom_26 : decode cX8_readAtom 26 = .ok (.iadd, 1) := by decide +kernel
theorem dX8_readAtom_27 : decode cX8_readAtom 27 = .ok (.putfield 234, 3) := by decide +kernel
theorem dX8_readAtom_30 : decode cX8_readAtom 30 = .ok (.aload_n 0, 1) := by decide +kernel
theorem dX8_readAtom_31 : decode cX8_readAtom 31 = .ok (.invokevirtual 237, 3) := by decide +kernel
theorem dX8_readAtom_34 : decode cX8_readAtom 34 = .ok (.ifCond .ne 5, 3) := by decide +kernel
theorem dX8_readAtom_37 : decode cX8_readAtom 37 = .ok (.iconst 0, 1) := by decide +kernel
theorem dX8_readAtom_38 : decode cX8_readAtom 38 = .ok (.ireturn, 1) := by decide +kernel
theorem dX8_readAtom_39 : decode cX8_readAtom 39 = .ok (.aload_n 0, 1) := by decide +kernel
theorem dX8_readAtom_40 : decode cX8_readAtom 40 = .ok (.dup, 1) := by decide +kernel
theorem dX8_readAtom_41 : decode cX8_readAtom 41 = .ok (.getfield 234, 3) := by decide +kernel
theorem dX8_readAtom_44 : decode cX8_readAtom 44 = .ok (.iconst 1, 1) := by decide +kernel
theorem dX8_readAtom_45 : decode cX8_readAtom 45 = .ok (.isub, 1) := by decide +kernel
theorem dX8_readAtom_46 : decode cX8_readAtom 46 = .ok (.putfield 234, 3) := by decide +kernel
theorem dX8_readAtom_49 : decode cX8_readAtom 49 = .ok (.aload_n 0, 1) := by decide +kernel
theorem dX8_readAtom_50 : decode cX8_readAtom 50 = .ok (.bipush 41, 2) := by decide +kernel
theorem dX8_readAtom_52 : decode cX8_readAtom 52 = .ok (.invokevirtual 226, 3) := by decide +kernel
theorem dX8_readAtom_55 : decode cX8_readAtom 55 = .ok (.ireturn, 1) := by decide +kernel
theorem dX8_readAtom_56 : decode cX8_readAtom 56 = .ok (.aload_n 0, 1) := by decide +kernel
theorem dX8_readAtom_57 : decode cX8_readAtom 57 = .ok (.ldc 240, 2) := by decide +kernel
theorem dX8_readAtom_59 : decode cX8_readAtom 59 = .ok (.invokevirtual 164, 3) := by decide +kernel
theorem dX8_readAtom_62 : decode cX8_readAtom 62 = .ok (.ifCond .eq 52, 3) := by decide +kernel
theorem dX8_readAtom_65 : decode cX8_readAtom 65 = .ok (.aload_n 0, 1) := by decide +kernel
theorem dX8_readAtom_66 : decode cX8_readAtom 66 = .ok (.getfield 234, 3) := by decide +kernel
theorem dX8_readAtom_69 : decode cX8_readAtom 69 = .ok (.bipush 6, 2) := by decide +kernel
theorem dX8_readAtom_71 : decode cX8_readAtom 71 = .ok (.if_icmp .ne 5, 3) := by decide +kernel
theorem dX8_readAtom_74 : decode cX8_readAtom 74 = .ok (.iconst 0, 1) := by decide +kernel
theorem dX8_readAtom_75 : decode cX8_readAtom 75 = .ok (.ireturn, 1) := by decide +kernel
theorem dX8_readAtom_76 : decode cX8_readAtom 76 = .ok (.aload_n 0, 1) := by decide +kernel
theorem dX8_readAtom_77 : decode cX8_readAtom 77 = .ok (.dup, 1) := by decide +kernel
theorem dX8_readAtom_78 : decode cX8_readAtom 78 = .ok (.getfield 234, 3) := by decide +kernel
theorem dX8_readAtom_81 : decode cX8_readAtom 81 = .ok (.iconst 1, 1) := by decide +kernel
theorem dX8_readAtom_82 : decode cX8_readAtom 82 = .ok (.iadd, 1) := by decide +kernel
theorem dX8_readAtom_83 : decode cX8_readAtom 83 = .ok (.putfield 234, 3) := by decide +kernel
theorem dX8_readAtom_86 : decode cX8_readAtom 86 = .ok (.aload_n 0, 1) := by decide +kernel
theorem dX8_readAtom_87 : decode cX8_readAtom 87 = .ok (.invokevirtual 242, 3) := by decide +kernel
theorem dX8_readAtom_90 : decode cX8_readAtom 90 = .ok (.ifCond .ne 5, 3) := by decide +kernel
theorem dX8_readAtom_93 : decode cX8_readAtom 93 = .ok (.iconst 0, 1) := by decide +kernel
theorem dX8_readAtom_94 : decode cX8_readAtom 94 = .ok (.ireturn, 1) := by decide +kernel
theorem dX8_readAtom_95 : decode cX8_readAtom 95 = .ok (.aload_n 0, 1) := by decide +kernel
theorem dX8_readAtom_96 : decode cX8_readAtom 96 = .ok (.dup, 1) := by decide +kernel
theorem dX8_readAtom_97 : decode cX8_readAtom 97 = .ok (.getfield 234, 3) := by decide +kernel
theorem dX8_readAtom_100 : decode cX8_readAtom 100 = .ok (.iconst 1, 1) := by decide +kernel
theorem dX8_readAtom_101 : decode cX8_readAtom 101 = .ok (.isub, 1) := by decide +kernel
theorem dX8_readAtom_102 : decode cX8_readAtom 102 = .ok (.putfield 234, 3) := by decide +kernel
theorem dX8_readAtom_105 : decode cX8_readAtom 105 = .ok (.aload_n 0, 1) := by decide +kernel
theorem dX8_readAtom_106 : decode cX8_readAtom 106 = .ok (.bipush 10, 2) := by decide +kernel
theorem dX8_readAtom_108 : decode cX8_readAtom 108 = .ok (.iconst 0, 1) := by decide +kernel
theorem dX8_readAtom_109 : decode cX8_readAtom 109 = .ok (.invokevirtual 212, 3) := by decide +kernel
theorem dX8_readAtom_112 : decode cX8_readAtom 112 = .ok (.iconst 1, 1) := by decide +kernel
theorem dX8_readAtom_113 : decode cX8_readAtom 113 = .ok (.ireturn, 1) := by decide +kernel
theorem dX8_readAtom_114 : decode cX8_readAtom 114 = .ok (.aload_n 0, 1) := by decide +kernel
theorem dX8_readAtom_115 : decode cX8_readAtom 115 = .ok (.invokevirtual 245, 3) := by decide +kernel
theorem dX8_readAtom_118 : decode cX8_readAtom 118 = .ok (.ifCond .eq 5, 3) := by decide +kernel
theorem dX8_readAtom_121 : decode cX8_readAtom 121 = .ok (.iconst 1, 1) := by decide +kernel
theorem dX8_readAtom_122 : decode cX8_readAtom 122 = .ok (.ireturn, 1) := by decide +kernel
theorem dX8_readAtom_123 : decode cX8_readAtom 123 = .ok (.aload_n 0, 1) := by decide +kernel
theorem dX8_readAtom_124 : decode cX8_readAtom 124 = .ok (.invokevirtual 248, 3) := by decide +kernel
theorem dX8_readAtom_127 : decode cX8_readAtom 127 = .ok (.ifCond .ne 5, 3) := by decide +kernel
theorem dX8_readAtom_130 : decode cX8_readAtom 130 = .ok (.iconst 0, 1) := by decide +kernel
theorem dX8_readAtom_131 : decode cX8_readAtom 131 = .ok (.ireturn, 1) := by decide +kernel
theorem dX8_readAtom_132 : decode cX8_readAtom 132 = .ok (.aload_n 0, 1) := by decide +kernel
theorem dX8_readAtom_133 : decode cX8_readAtom 133 = .ok (.bipush 60, 2) := by decide +kernel
theorem dX8_readAtom_135 : decode cX8_readAtom 135 = .ok (.invokevirtual 226, 3) := by decide +kernel
theorem dX8_readAtom_138 : decode cX8_readAtom 138 = .ok (.istore_n 1, 1) := by decide +kernel
theorem dX8_readAtom_139 : decode cX8_readAtom 139 = .ok (.iload_n 1, 1) := by decide +kernel
theorem dX8_readAtom_140 : decode cX8_readAtom 140 = .ok (.ifCond .ne 12, 3) := by decide +kernel
theorem dX8_readAtom_143 : decode cX8_readAtom 143 = .ok (.aload_n 0, 1) := by decide +kernel
theorem dX8_readAtom_144 : decode cX8_readAtom 144 = .ok (.bipush 62, 2) := by decide +kernel
theorem dX8_readAtom_146 : decode cX8_readAtom 146 = .ok (.invokevirtual 226, 3) := by decide +kernel
theorem dX8_readAtom_149 : decode cX8_readAtom 149 = .ok (.ifCond .eq 10, 3) := by decide +kernel
theorem dX8_readAtom_152 : decode cX8_readAtom 152 = .ok (.aload_n 0, 1) := by decide +kernel
theorem dX8_readAtom_153 : decode cX8_readAtom 153 = .ok (.invokevirtual 248, 3) := by decide +kernel
theorem dX8_readAtom_156 : decode cX8_readAtom 156 = .ok (.ifCond .ne 5, 3) := by decide +kernel
theorem dX8_readAtom_159 : decode cX8_readAtom 159 = .ok (.iconst 0, 1) := by decide +kernel
theorem dX8_readAtom_160 : decode cX8_readAtom 160 = .ok (.ireturn, 1) := by decide +kernel
theorem dX8_readAtom_161 : decode cX8_readAtom 161 = .ok (.aload_n 0, 1) := by decide +kernel
theorem dX8_readAtom_162 : decode cX8_readAtom 162 = .ok (.iload_n 1, 1) := by decide +kernel
theorem dX8_readAtom_163 : decode cX8_readAtom 163 = .ok (.ifCond .eq 8, 3) := by decide +kernel
theorem dX8_readAtom_166 : decode cX8_readAtom 166 = .ok (.bipush 8, 2) := by decide +kernel
theorem dX8_readAtom_168 : decode cX8_readAtom 168 = .ok (.goto 5, 3) := by decide +kernel
theorem dX8_readAtom_171 : decode cX8_readAtom 171 = .ok (.bipush 9, 2) := by decide +kernel
theorem dX8_readAtom_173 : decode cX8_readAtom 173 = .ok (.iconst 0, 1) := by decide +kernel
theorem dX8_readAtom_174 : decode cX8_readAtom 174 = .ok (.invokevirtual 212, 3) := by decide +kernel
theorem dX8_readAtom_177 : decode cX8_readAtom 177 = .ok (.iconst 1, 1) := by decide +kernel
theorem dX8_readAtom_178 : decode cX8_readAtom 178 = .ok (.ireturn, 1) := by decide +kernel
theorem dX8_readAllOf_0 : decode cX8_readAllOf 0 = .ok (.aload_n 0, 1) := by decide +kernel
theorem dX8_readAllOf_1 : decode cX8_readAllOf 1 = .ok (.invokevirtual 242, 3) := by decide +kernel
theorem dX8_readAllOf_4 : decode cX8_readAllOf 4 = .ok (.ifCond .ne 5, 3) := by decide +kernel
theorem dX8_readAllOf_7 : decode cX8_readAllOf 7 = .ok (.iconst 0, 1) := by decide +kernel
theorem dX8_readAllOf_8 : decode cX8_readAllOf 8 = .ok (.ireturn, 1) := by decide +kernel
theorem dX8_readAllOf_9 : decode cX8_readAllOf 9 = .ok (.aload_n 0, 1) := by decide +kernel
theorem dX8_readAllOf_10 : decode cX8_readAllOf 10 = .ok (.ldc 251, 2) := by decide +kernel
theorem dX8_readAllOf_12 : decode cX8_readAllOf 12 = .ok (.invokevirtual 164, 3) := by decide +kernel
theorem dX8_readAllOf_15 : decode cX8_readAllOf 15 = .ok (.ifCond .eq 22, 3) := by decide +kernel
theorem dX8_readAllOf_18 : decode cX8_readAllOf 18 = .ok (.aload_n 0, 1) := by decide +kernel
theorem dX8_readAllOf_19 : decode cX8_readAllOf 19 = .ok (.invokevirtual 242, 3) := by decide +kernel
theorem dX8_readAllOf_22 : decode cX8_readAllOf 22 = .ok (.ifCond .ne 5, 3) := by decide +kernel
theorem dX8_readAllOf_25 : decode cX8_readAllOf 25 = .ok (.iconst 0, 1) := by decide +kernel
theorem dX8_readAllOf_26 : decode cX8_readAllOf 26 = .ok (.ireturn, 1) := by decide +kernel
theorem dX8_readAllOf_27 : decode cX8_readAllOf 27 = .ok (.aload_n 0, 1) := by decide +kernel
theorem dX8_readAllOf_28 : decode cX8_readAllOf 28 = .ok (.bipush 11, 2) := by decide +kernel
theorem dX8_readAllOf_30 : decode cX8_readAllOf 30 = .ok (.iconst 0, 1) := by decide +kernel
theorem dX8_readAllOf_31 : decode cX8_readAllOf 31 = .ok (.invokevirtual 212, 3) := by decide +kernel
theorem dX8_readAllOf_34 : decode cX8_readAllOf 34 = .ok (.goto (-25), 3) := by decide +kernel
theorem dX8_readAllOf_37 : decode cX8_readAllOf 37 = .ok (.iconst 1, 1) := by decide +kernel
theorem dX8_readAllOf_38 : decode cX8_readAllOf 38 = .ok (.ireturn, 1) := by decide +kernel
theorem dX8_readCond_0 : decode cX8_readCond 0 = .ok (.aload_n 0, 1) := by decide +kernel
theorem dX8_readCond_1 : decode cX8_readCond 1 = .ok (.invokevirtual 253, 3) := by decide +kernel
theorem dX8_readCond_4 : decode cX8_readCond 4 = .ok (.ifCond .ne 5, 3) := by decide +kernel
theorem dX8_readCond_7 : decode cX8_readCond 7 = .ok (.iconst 0, 1) := by decide +kernel
theorem dX8_readCond_8 : decode cX8_readCond 8 = .ok (.ireturn, 1) := by decide +kernel
theorem dX8_readCond_9 : decode cX8_readCond 9 = .ok (.aload_n 0, 1) := by decide +kernel
theorem dX8_readCond_10 : decode cX8_readCond 10 = .ok (.ldc_w 256, 3) := by decide +kernel
theorem dX8_readCond_13 : decode cX8_readCond 13 = .ok (.invokevirtual 164, 3) := by decide +kernel
theorem dX8_readCond_16 : decode cX8_readCond 16 = .ok (.ifCond .eq 22, 3) := by decide +kernel
theorem dX8_readCond_19 : decode cX8_readCond 19 = .ok (.aload_n 0, 1) := by decide +kernel
theorem dX8_readCond_20 : decode cX8_readCond 20 = .ok (.invokevirtual 253, 3) := by decide +kernel
theorem dX8_readCond_23 : decode cX8_readCond 23 = .ok (.ifCond .ne 5, 3) := by decide +kernel
theorem dX8_readCond_26 : decode cX8_readCond 26 = .ok (.iconst 0, 1) := by decide +kernel
theorem dX8_readCond_27 : decode cX8_readCond 27 = .ok (.ireturn, 1) := by decide +kernel
theorem dX8_readCond_28 : decode cX8_readCond 28 = .ok (.aload_n 0, 1) := by decide +kernel
theorem dX8_readCond_29 : decode cX8_readCond 29 = .ok (.bipush 12, 2) := by decide +kernel
theorem dX8_readCond_31 : decode cX8_readCond 31 = .ok (.iconst 0, 1) := by decide +kernel
theorem dX8_readCond_32 : decode cX8_readCond 32 = .ok (.invokevirtual 212, 3) := by decide +kernel
theorem dX8_readCond_35 : decode cX8_readCond 35 = .ok (.goto (-26), 3) := by decide +kernel
theorem dX8_readCond_38 : decode cX8_readCond 38 = .ok (.iconst 1, 1) := by decide +kernel
theorem dX8_readCond_39 : decode cX8_readCond 39 = .ok (.ireturn, 1) := by decide +kernel
theorem dX8_readLawLine_0 : decode cX8_readLawLine 0 = .ok (.sipush 1412, 3) := by decide +kernel
theorem dX8_readLawLine_3 : decode cX8_readLawLine 3 = .ok (.iconst 4, 1) := by decide +kernel
theorem dX8_readLawLine_4 : decode cX8_readLawLine 4 = .ok (.iload_n 1, 1) := by decide +kernel
theorem dX8_readLawLine_5 : decode cX8_readLawLine 5 = .ok (.imul, 1) := by decide +kernel
theorem dX8_readLawLine_6 : decode cX8_readLawLine 6 = .ok (.iadd, 1) := by decide +kernel
theorem dX8_readLawLine_7 : decode cX8_readLawLine 7 = .ok (.istore_n 2, 1) := by decide +kernel
theorem dX8_readLawLine_8 : decode cX8_readLawLine 8 = .ok (.aload_n 0, 1) := by decide +kernel
theorem dX8_readLawLine_9 : decode cX8_readLawLine 9 = .ok (.ldc_w 258, 3) := by decide +kernel
theorem dX8_readLawLine_12 : decode cX8_readLawLine 12 = .ok (.invokevirtual 142, 3) := by decide +kernel
theorem dX8_readLawLine_15 : decode cX8_readLawLine 15 = .ok (.istore_n 3, 1) := by decide +kernel
theorem dX8_readLawLine_16 : decode cX8_readLawLine 16 = .ok (.iload_n 3, 1) := by decide +kernel
theorem dX8_readLawLine_17 : decode cX8_readLawLine 17 = .ok (.ifCond .ne 15, 3) := by decide +kernel
theorem dX8_readLawLine_20 : decode cX8_readLawLine 20 = .ok (.aload_n 0, 1) := by decide +kernel
theorem dX8_readLawLine_21 : decode cX8_readLawLine 21 = .ok (.ldc_w 260, 3) := by decide +kernel
theorem dX8_readLawLine_24 : decode cX8_readLawLine 24 = .ok (.invokevirtual 142, 3) := by decide +kernel
theorem dX8_readLawLine_27 : decode cX8_readLawLine 27 = .ok (.ifCond .ne 5, 3) := by decide +kernel
theorem dX8_readLawLine_30 : decode cX8_readLawLine 30 = .ok (.iconst 0, 1) := by decide +kernel
theorem dX8_readLawLine_31 : decode cX8_readLawLine 31 = .ok (.ireturn, 1) := by decide +kernel
theorem dX8_readLawLine_32 : decode cX8_readLawLine 32 = .ok (.aload_n 0, 1) := by decide +kernel
theorem dX8_readLawLine_33 : decode cX8_readLawLine 33 = .ok (.getfield 13, 3) := by decide +kernel
theorem dX8_readLawLine_36 : decode cX8_readLawLine 36 = .ok (.iload_n 2, 1) := by decide +kernel
theorem dX8_readLawLine_37 : decode cX8_readLawLine 37 = .ok (.iload_n 3, 1) := by decide +kernel
theorem dX8_readLawLine_38 : decode cX8_readLawLine 38 = .ok (.ifCond .eq 7, 3) := by decide +kernel
theorem dX8_readLawLine_41 : decode cX8_readLawLine 41 = .ok (.iconst 1, 1) := by decide +kernel
theorem dX8_readLawLine_42 : decode cX8_readLawLine 42 = .ok (.goto 4, 3) := by decide +kernel
theorem dX8_readLawLine_45 : decode cX8_readLawLine 45 = .ok (.iconst (-1), 1) := by decide +kernel
theorem dX8_readLawLine_46 : decode cX8_readLawLine 46 = .ok (.iastore, 1) := by decide +kernel
theorem dX8_readLawLine_47 : decode cX8_readLawLine 47 = .ok (.aload_n 0, 1) := by decide +kernel
theorem dX8_readLawLine_48 : decode cX8_readLawLine 48 = .ok (.getfield 13, 3) := by decide +kernel
theorem dX8_readLawLine_51 : decode cX8_readLawLine 51 = .ok (.iload_n 2, 1) := by decide +kernel
theorem dX8_readLawLine_52 : decode cX8_readLawLine 52 = .ok (.iconst 1, 1) := by decide +kernel
theorem dX8_readLawLine_53 : decode cX8_readLawLine 53 = .ok (.iadd, 1) := by decide +kernel
theorem dX8_readLawLine_54 : decode cX8_readLawLine 54 = .ok (.aload_n 0, 1) := by decide +kernel
theorem dX8_readLawLine_55 : decode cX8_readLawLine 55 = .ok (.iconst 0, 1) := by decide +kernel
theorem dX8_readLawLine_56 : decode cX8_readLawLine 56 = .ok (.bipush 99, 2) := by decide +kernel
theorem dX8_readLawLine_58 : decode cX8_readLawLine 58 = .ok (.invokevirtual 146, 3) := by decide +kernel
theorem dX8_readLawLine_61 : decode cX8_readLawLine 61 = .ok (.iastore, 1) := by decide +kernel
theorem dX8_readLawLine_62 : decode cX8_readLawLine 62 = .ok (.aload_n 0, 1) := by decide +kernel
theorem dX8_readLawLine_63 : decode cX8_readLawLine 63 = .ok (.getfield 13, 3) := by decide +kernel
theorem dX8_readLawLine_66 : decode cX8_readLawLine 66 = .ok (.iload_n 2, 1) := by decide +kernel
theorem dX8_readLawLine_67 : decode cX8_readLawLine 67 = .ok (.iconst 1, 1) := by decide +kernel
theorem dX8_readLawLine_68 : decode cX8_readLawLine 68 = .ok (.iadd, 1) := by decide +kernel
theorem dX8_readLawLine_69 : decode cX8_readLawLine 69 = .ok (.iaload, 1) := by decide +kernel
theorem dX8_readLawLine_70 : decode cX8_readLawLine 70 = .ok (.ifCond .ge 5, 3) := by decide +kernel
theorem dX8_readLawLine_73 : decode cX8_readLawLine 73 = .ok (.iconst 0, 1) := by decide +kernel
theorem dX8_readLawLine_74 : decode cX8_readLawLine 74 = .ok (.ireturn, 1) := by decide +kernel
theorem dX8_readLawLine_75 : decode cX8_readLawLine 75 = .ok (.aload_n 0, 1) := by decide +kernel
theorem dX8_readLawLine_76 : decode cX8_readLawLine 76 = .ok (.getfield 13, 3) := by decide +kernel
theorem dX8_readLawLine_79 : decode cX8_readLawLine 79 = .ok (.iload_n 2, 1) := by decide +kernel
theorem dX8_readLawLine_80 : decode cX8_readLawLine 80 = .ok (.iconst 2, 1) := by decide +kernel
theorem dX8_readLawLine_81 : decode cX8_readLawLine 81 = .ok (.iadd, 1) := by decide +kernel
theorem dX8_readLawLine_82 : decode cX8_readLawLine 82 = .ok (.aload_n 0, 1) := by decide +kernel
theorem dX8_readLawLine_83 : decode cX8_readLawLine 83 = .ok (.getfield 209, 3) := by decide +kernel
theorem dX8_readLawLine_86 : decode cX8_readLawLine 86 = .ok (.iastore, 1) := by decide +kernel
theorem dX8_readLawLine_87 : decode cX8_readLawLine 87 = .ok (.aload_n 0, 1) := by decide +kernel
theorem dX8_readLawLine_88 : decode cX8_readLawLine 88 = .ok (.iconst 0, 1) := by decide +kernel
theorem dX8_readLawLine_89 : decode cX8_readLawLine 89 = .ok (.putfield 234, 3) := by decide +kernel
theorem dX8_readLawLine_92 : decode cX8_readLawLine 92 = .ok (.aload_n 0, 1) := by decide +kernel
theorem dX8_readLawLine_93 : decode cX8_readLawLine 93 = .ok (.ldc_w 262, 3) := by decide +kernel
theorem dX8_readLawLine_96 : decode cX8_readLawLine 96 = .ok (.invokevirtual 164, 3) := by decide +kernel
theorem dX8_readLawLine_99 : decode cX8_readLawLine 99 = .ok (.ifCond .eq 12, 3) := by decide +kernel
theorem dX8_readLawLine_102 : decode cX8_readLawLine 102 = .ok (.aload_n 0, 1) := by decide +kernel
theorem dX8_readLawLine_103 : decode cX8_readLawLine 103 = .ok (.invokevirtual 237, 3) := by decide +kernel
theorem dX8_readLawLine_106 : decode cX8_readLawLine 106 = .ok (.ifCond .ne 5, 3) := by decide +kernel
theorem dX8_readLawLine_109 : decode cX8_readLawLine 109 = .ok (.iconst 0, 1) := by decide +kernel
theorem dX8_readLawLine_110 : decode cX8_readLawLine 110 = .ok (.ireturn, 1) := by decide +kernel
theorem dX8_readLawLine_111 : decode cX8_readLawLine 111 = .ok (.aload_n 0, 1) := by decide +kernel
theorem dX8_readLawLine_112 : decode cX8_readLawLine 112 = .ok (.getfield 13, 3) := by decide +kernel
theorem dX8_readLawLine_115 : decode cX8_readLawLine 115 = .ok (.iload_n 2, 1) := by decide +kernel
theorem dX8_readLawLine_116 : decode cX8_readLawLine 116 = .ok (.iconst 3, 1) := by decide +kernel
theorem dX8_readLawLine_117 : decode cX8_readLawLine 117 = .ok (.iadd, 1) := by decide +kernel
theorem dX8_readLawLine_118 : decode cX8_readLawLine 118 = .ok (.aload_n 0, 1) := by decide +kernel
theorem dX8_readLawLine_119 : decode cX8_readLawLine 119 = .ok (.getfield 209, 3) := by decide +kernel
theorem dX8_readLawLine_122 : decode cX8_readLawLine 122 = .ok (.iastore, 1) := by decide +kernel
theorem dX8_readLawLine_123 : decode cX8_readLawLine 123 = .ok (.iconst 1, 1) := by decide +kernel
theorem dX8_readLawLine_124 : decode cX8_readLawLine 124 = .ok (.ireturn, 1) := by decide +kernel
theorem dX8_readLine_0 : decode cX8_readLine 0 = .ok (.aload_n 0, 1) := by decide +kernel
theorem dX8_readLine_1 : decode cX8_readLine 1 = .ok (.invokevirtual 139, 3) := by decide +kernel
theorem dX8_readLine_4 : decode cX8_readLine 4 = .ok (.iload_n 2, 1) := by decide +kernel
theorem dX8_readLine_5 : decode cX8_readLine 5 = .ok (.iload_n 1, 1) := by decide +kernel
theorem dX8_readLine_6 : decode cX8_readLine 6 = .ok (.ifCond .eq 8, 3) := by decide +kernel
theorem dX8_readLine_9 : decode cX8_readLine 9 = .ok (.bipush 14, 2) := by decide +kernel
theorem dX8_readLine_11 : decode cX8_readLine 11 = .ok (.goto 5, 3) := by decide +kernel
theorem dX8_readLine_14 : decode cX8_readLine 14 = .ok (.bipush 12, 2) := by decide +kernel
theorem dX8_readLine_16 : decode cX8_readLine 16 = .ok (.if_icmp .ge 29, 3) := by decide +kernel
theorem dX8_readLine_19 : decode cX8_readLine 19 = .ok (.iload_n 1, 1) := by decide +kernel
theorem dX8_readLine_20 : decode cX8_readLine 20 = .ok (.ifCond .eq 13, 3) := by decide +kernel
theorem dX8_readLine_23 : decode cX8_readLine 23 = .ok (.aload_n 0, 1) := by decide +kernel
theorem dX8_readLine_24 : decode cX8_readLine 24 = .ok (.invokevirtual 264, 3) := by decide +kernel
theorem dX8_readLine_27 : decode cX8_readLine 27 = .ok (.ifCond .eq 18, 3) := by decide +kernel
theorem dX8_readLine_30 : decode cX8_readLine 30 = .ok (.goto 11, 3) := by decide +kernel
theorem dX8_readLine_33 : decode cX8_readLine 33 = .ok (.aload_n 0, 1) := by decide +kernel
theorem dX8_readLine_34 : decode cX8_readLine 34 = .ok (.iload_n 2, 1) := by decide +kernel
theorem dX8_readLine_35 : decode cX8_readLine 35 = .ok (.invokevirtual 267, 3) := by decide +kernel
theorem dX8_readLine_38 : decode cX8_readLine 38 = .ok (.ifCond .eq 7, 3) := by decide +kernel
theorem dX8_readLine_41 : decode cX8_readLine 41 = .ok (.iconst 1, 1) := by decide +kernel
theorem dX8_readLine_42 : decode cX8_readLine 42 = .ok (.goto 4, 3) := by decide +kernel
theorem dX8_readLine_45 : decode cX8_readLine 45 = .ok (.iconst 0, 1) := by decide +kernel
theorem dX8_readLine_46 : decode cX8_readLine 46 = .ok (.ireturn, 1) := by decide +kernel
theorem dX8_readAll_0 : decode cX8_readAll 0 = .ok (.aload_n 0, 1) := by decide +kernel
theorem dX8_readAll_1 : decode cX8_readAll 1 = .ok (.invokevirtual 270, 3) := by decide +kernel
theorem dX8_readAll_4 : decode cX8_readAll 4 = .ok (.aload_n 0, 1) := by decide +kernel
theorem dX8_readAll_5 : decode cX8_readAll 5 = .ok (.iconst 0, 1) := by decide +kernel
theorem dX8_readAll_6 : decode cX8_readAll 6 = .ok (.putfield 209, 3) := by decide +kernel
theorem dX8_readAll_9 : decode cX8_readAll 9 = .ok (.aload_n 0, 1) := by decide +kernel
theorem dX8_readAll_10 : decode cX8_readAll 10 = .ok (.invokevirtual 127, 3) := by decide +kernel
theorem dX8_readAll_13 : decode cX8_readAll 13 = .ok (.aload_n 0, 1) := by decide +kernel
theorem dX8_readAll_14 : decode cX8_readAll 14 = .ok (.getfield 114, 3) := by decide +kernel
theorem dX8_readAll_17 : decode cX8_readAll 17 = .ok (.aload_n 0, 1) := by decide +kernel
theorem dX8_readAll_18 : decode cX8_readAll 18 = .ok (.getfield 117, 3) := by decide +kernel
theorem dX8_readAll_21 : decode cX8_readAll 21 = .ok (.if_icmp .ne 5, 3) := by decide +kernel
theorem dX8_readAll_24 : decode cX8_readAll 24 = .ok (.iconst 0, 1) := by decide +kernel
theorem dX8_readAll_25 : decode cX8_readAll 25 = .ok (.ireturn, 1) := by decide +kernel
theorem dX8_readAll_26 : decode cX8_readAll 26 = .ok (.iconst 0, 1) := by decide +kernel
theorem dX8_readAll_27 : decode cX8_readAll 27 = .ok (.istore_n 2, 1) := by decide +kernel
theorem dX8_readAll_28 : decode cX8_readAll 28 = .ok (.aload_n 0, 1) := by decide +kernel
theorem dX8_readAll_29 : decode cX8_readAll 29 = .ok (.iload_n 1, 1) := by decide +kernel
theorem dX8_readAll_30 : decode cX8_readAll 30 = .ok (.iload_n 2, 1) := by decide +kernel
theorem dX8_readAll_31 : decode cX8_readAll 31 = .ok (.invokevirtual 273, 3) := by decide +kernel
theorem dX8_readAll_34 : decode cX8_readAll 34 = .ok (.ifCond .ne 5, 3) := by decide +kernel
theorem dX8_readAll_37 : decode cX8_readAll 37 = .ok (.iconst (-1), 1) := by decide +kernel
theorem dX8_readAll_38 : decode cX8_readAll 38 = .ok (.ireturn, 1) := by decide +kernel
theorem dX8_readAll_39 : decode cX8_readAll 39 = .ok (.aload_n 0, 1) := by decide +kernel
theorem dX8_readAll_40 : decode cX8_readAll 40 = .ok (.invokevirtual 127, 3) := by decide +kernel
theorem dX8_readAll_43 : decode cX8_readAll 43 = .ok (.aload_n 0, 1) := by decide +kernel
theorem dX8_readAll_44 : decode cX8_readAll 44 = .ok (.getfield 114, 3) := by decide +kernel
theorem dX8_readAll_47 : decode cX8_readAll 47 = .ok (.aload_n 0, 1) := by decide +kernel
theorem dX8_readAll_48 : decode cX8_readAll 48 = .ok (.getfield 117, 3) := by decide +kernel
theorem dX8_readAll_51 : decode cX8_readAll 51 = .ok (.if_icmp .ne 7, 3) := by decide +kernel
theorem dX8_readAll_54 : decode cX8_readAll 54 = .ok (.iload_n 2, 1) := by decide +kernel
theorem dX8_readAll_55 : decode cX8_readAll 55 = .ok (.iconst 1, 1) := by decide +kernel
theorem dX8_readAll_56 : decode cX8_readAll 56 = .ok (.iadd, 1) := by decide +kernel
theorem dX8_readAll_57 : decode cX8_readAll 57 = .ok (.ireturn, 1) := by decide +kernel
theorem dX8_readAll_58 : decode cX8_readAll 58 = .ok (.aload_n 0, 1) := by decide +kernel
theorem dX8_readAll_59 : decode cX8_readAll 59 = .ok (.bipush 59, 2) := by decide +kernel
theorem dX8_readAll_61 : decode cX8_readAll 61 = .ok (.bipush 59, 2) := by decide +kernel
theorem dX8_readAll_63 : decode cX8_readAll 63 = .ok (.invokevirtual 120, 3) := by decide +kernel
theorem dX8_readAll_66 : decode cX8_readAll 66 = .ok (.ifCond .ne 5, 3) := by decide +kernel
theorem dX8_readAll_69 : decode cX8_readAll 69 = .ok (.iconst (-1), 1) := by decide +kernel
theorem dX8_readAll_70 : decode cX8_readAll 70 = .ok (.ireturn, 1) := by decide +kernel
theorem dX8_readAll_71 : decode cX8_readAll 71 = .ok (.aload_n 0, 1) := by decide +kernel
theorem dX8_readAll_72 : decode cX8_readAll 72 = .ok (.dup, 1) := by decide +kernel
theorem dX8_readAll_73 : decode cX8_readAll 73 = .ok (.getfield 114, 3) := by decide +kernel
theorem dX8_readAll_76 : decode cX8_readAll 76 = .ok (.iconst 1, 1) := by decide +kernel
theorem dX8_readAll_77 : decode cX8_readAll 77 = .ok (.iadd, 1) := by decide +kernel
theorem dX8_readAll_78 : decode cX8_readAll 78 = .ok (.putfield 114, 3) := by decide +kernel
theorem dX8_readAll_81 : decode cX8_readAll 81 = .ok (.iinc 2 1, 3) := by decide +kernel
theorem dX8_readAll_84 : decode cX8_readAll 84 = .ok (.goto (-56), 3) := by decide +kernel
theorem dX8_bank_0 : decode cX8_bank 0 = .ok (.iconst 0, 1) := by decide +kernel
theorem dX8_bank_1 : decode cX8_bank 1 = .ok (.istore_n 1, 1) := by decide +kernel
theorem dX8_bank_2 : decode cX8_bank 2 = .ok (.iload_n 1, 1) := by decide +kernel
theorem dX8_bank_3 : decode cX8_bank 3 = .ok (.sipush 1411, 3) := by decide +kernel
theorem dX8_bank_6 : decode cX8_bank 6 = .ok (.if_icmp .ge 21, 3) := by decide +kernel
theorem dX8_bank_9 : decode cX8_bank 9 = .ok (.aload_n 0, 1) := by decide +kernel
theorem dX8_bank_10 : decode cX8_bank 10 = .ok (.getfield 20, 3) := by decide +kernel
theorem dX8_bank_13 : decode cX8_bank 13 = .ok (.iload_n 1, 1) := by decide +kernel
theorem dX8_bank_14 : decode cX8_bank 14 = .ok (.aload_n 0, 1) := by decide +kernel
theorem dX8_bank_15 : decode cX8_bank 15 = .ok (.getfield 13, 3) := by decide +kernel
theorem dX8_bank_18 : decode cX8_bank 18 = .ok (.iload_n 1, 1) := by decide +kernel
theorem dX8_bank_19 : decode cX8_bank 19 = .ok (.iaload, 1) := by decide +kernel
theorem dX8_bank_20 : decode cX8_bank 20 = .ok (.iastore, 1) := by decide +kernel
theorem dX8_bank_21 : decode cX8_bank 21 = .ok (.iinc 1 1, 3) := by decide +kernel
theorem dX8_bank_24 : decode cX8_bank 24 = .ok (.goto (-22), 3) := by decide +kernel
theorem dX8_bank_27 : decode cX8_bank 27 = .ok (.aload_n 0, 1) := by decide +kernel
theorem dX8_bank_28 : decode cX8_bank 28 = .ok (.getfield 29, 3) := by decide +kernel
theorem dX8_bank_31 : decode cX8_bank 31 = .ok (.aload_n 0, 1) := by decide +kernel
theorem dX8_bank_32 : decode cX8_bank 32 = .ok (.getfield 36, 3) := by decide +kernel
theorem dX8_bank_35 : decode cX8_bank 35 = .ok (.invokestatic 70, 3) := by decide +kernel
theorem dX8_bank_38 : decode cX8_bank 38 = .ok (.aload_n 0, 1) := by decide +kernel
theorem dX8_bank_39 : decode cX8_bank 39 = .ok (.iconst 1, 1) := by decide +kernel
theorem dX8_bank_40 : decode cX8_bank 40 = .ok (.invokevirtual 277, 3) := by decide +kernel
theorem dX8_bank_43 : decode cX8_bank 43 = .ok (.istore_n 1, 1) := by decide +kernel
theorem dX8_bank_44 : decode cX8_bank 44 = .ok (.aload_n 0, 1) := by decide +kernel
theorem dX8_bank_45 : decode cX8_bank 45 = .ok (.iload_n 1, 1) := by decide +kernel
theorem dX8_bank_46 : decode cX8_bank 46 = .ok (.ifCond .ge 10, 3) := by decide +kernel
theorem dX8_bank_49 : decode cX8_bank 49 = .ok (.aload_n 0, 1) := by decide +kernel
theorem dX8_bank_50 : decode cX8_bank 50 = .ok (.getfield 124, 3) := by decide +kernel
theorem dX8_bank_53 : decode cX8_bank 53 = .ok (.goto 4, 3) := by decide +kernel
theorem dX8_bank_56 : decode cX8_bank 56 = .ok (.iconst (-1), 1) := by decide +kernel
theorem dX8_bank_57 : decode cX8_bank 57 = .ok (.putfield 49, 3) := by decide +kernel
theorem dX8_bank_60 : decode cX8_bank 60 = .ok (.aload_n 0, 1) := by decide +kernel
theorem dX8_bank_61 : decode cX8_bank 61 = .ok (.iload_n 1, 1) := by decide +kernel
theorem dX8_bank_62 : decode cX8_bank 62 = .ok (.ifCond .ge 7, 3) := by decide +kernel
theorem dX8_bank_65 : decode cX8_bank 65 = .ok (.iconst 1, 1) := by decide +kernel
theorem dX8_bank_66 : decode cX8_bank 66 = .ok (.goto 4, 3) := by decide +kernel
theorem dX8_bank_69 : decode cX8_bank 69 = .ok (.iconst 0, 1) := by decide +kernel
theorem dX8_bank_70 : decode cX8_bank 70 = .ok (.iconst 1, 1) := by decide +kernel
theorem dX8_bank_71 : decode cX8_bank 71 = .ok (.invokevirtual 281, 3) := by decide +kernel
theorem dX8_bank_74 : decode cX8_bank 74 = .ok (.ifCond .ne 27, 3) := by decide +kernel
theorem dX8_bank_77 : decode cX8_bank 77 = .ok (.aload_n 0, 1) := by decide +kernel
theorem dX8_bank_78 : decode cX8_bank 78 = .ok (.aload_n 0, 1) := by decide +kernel
theorem dX8_bank_79 : decode cX8_bank 79 = .ok (.getfield 13, 3) := by decide +kernel
theorem dX8_bank_82 : decode cX8_bank 82 = .ok (.iconst 3, 1) := by decide +kernel
theorem dX8_bank_83 : decode cX8_bank 83 = .ok (.iaload, 1) := by decide +kernel
theorem dX8_bank_84 : decode cX8_bank 84 = .ok (.bipush 12, 2) := by decide +kernel
theorem dX8_bank_86 : decode cX8_bank 86 = .ok (.if_icmp .ne 7, 3) := by decide +kernel
theorem dX8_bank_89 : decode cX8_bank 89 = .ok (.iconst 1, 1) := by decide +kernel
theorem dX8_bank_90 : decode cX8_bank 90 = .ok (.goto 4, 3) := by decide +kernel
theorem dX8_bank_93 : decode cX8_bank 93 = .ok (.iconst 0, 1) := by decide +kernel
theorem dX8_bank_94 : decode cX8_bank 94 = .ok (.iconst 2, 1) := by decide +kernel
theorem dX8_bank_95 : decode cX8_bank 95 = .ok (.invokevirtual 281, 3) := by decide +kernel
theorem dX8_bank_98 : decode cX8_bank 98 = .ok (.ifCond .eq 43, 3) := by decide +kernel
theorem dX8_bank_101 : decode cX8_bank 101 = .ok (.iconst 0, 1) := by decide +kernel
theorem dX8_bank_102 : decode cX8_bank 102 = .ok (.istore_n 2, 1) := by decide +kernel
theorem dX8_bank_103 : decode cX8_bank 103 = .ok (.iload_n 2, 1) := by decide +kernel
theorem dX8_bank_104 : decode cX8_bank 104 = .ok (.sipush 1411, 3) := by decide +kernel
theorem dX8_bank_107 : decode cX8_bank 107 = .ok (.if_icmp .ge 21, 3) := by decide +kernel
theorem dX8_bank_110 : decode cX8_bank 110 = .ok (.aload_n 0, 1) := by decide +kernel
theorem dX8_bank_111 : decode cX8_bank 111 = .ok (.getfield 13, 3) := by decide +kernel
theorem dX8_bank_114 : decode cX8_bank 114 = .ok (.iload_n 2, 1) := by decide +kernel
theorem dX8_bank_115 : decode cX8_bank 115 = .ok (.aload_n 0, 1) := by decide +kernel
theorem dX8_bank_116 : decode cX8_bank 116 = .ok (.getfield 20, 3) := by decide +kernel
theorem dX8_bank_119 : decode cX8_bank 119 = .ok (.iload_n 2, 1) := by decide +kernel
theorem dX8_bank_120 : decode cX8_bank 120 = .ok (.iaload, 1) := by decide +kernel
theorem dX8_bank_121 : decode cX8_bank 121 = .ok (.iastore, 1) := by decide +kernel
theorem dX8_bank_122 : decode cX8_bank 122 = .ok (.iinc 2 1, 3) := by decide +kernel
theorem dX8_bank_125 : decode cX8_bank 125 = .ok (.goto (-22), 3) := by decide +kernel
theorem dX8_bank_128 : decode cX8_bank 128 = .ok (.aload_n 0, 1) := by decide +kernel
theorem dX8_bank_129 : decode cX8_bank 129 = .ok (.getfield 36, 3) := by decide +kernel
theorem dX8_bank_132 : decode cX8_bank 132 = .ok (.aload_n 0, 1) := by decide +kernel
theorem dX8_bank_133 : decode cX8_bank 133 = .ok (.getfield 29, 3) := by decide +kernel
theorem dX8_bank_136 : decode cX8_bank 136 = .ok (.invokestatic 70, 3) := by decide +kernel
theorem dX8_bank_139 : decode cX8_bank 139 = .ok (.iconst 0, 1) := by decide +kernel
theorem dX8_bank_140 : decode cX8_bank 140 = .ok (.ireturn, 1) := by decide +kernel
theorem dX8_bank_141 : decode cX8_bank 141 = .ok (.aload_n 0, 1) := by decide +kernel
theorem dX8_bank_142 : decode cX8_bank 142 = .ok (.getfield 13, 3) := by decide +kernel
theorem dX8_bank_145 : decode cX8_bank 145 = .ok (.iconst 3, 1) := by decide +kernel
theorem dX8_bank_146 : decode cX8_bank 146 = .ok (.dup2, 1) := by decide +kernel
theorem dX8_bank_147 : decode cX8_bank 147 = .ok (.iaload, 1) := by decide +kernel
theorem dX8_bank_148 : decode cX8_bank 148 = .ok (.iconst 1, 1) := by decide +kernel
theorem dX8_bank_149 : decode cX8_bank 149 = .ok (.iadd, 1) := by decide +kernel
theorem dX8_bank_150 : decode cX8_bank 150 = .ok (.iastore, 1) := by decide +kernel
theorem dX8_bank_151 : decode cX8_bank 151 = .ok (.aload_n 0, 1) := by decide +kernel
theorem dX8_bank_152 : decode cX8_bank 152 = .ok (.iconst 0, 1) := by decide +kernel
theorem dX8_bank_153 : decode cX8_bank 153 = .ok (.putfield 78, 3) := by decide +kernel
theorem dX8_bank_156 : decode cX8_bank 156 = .ok (.aload_n 0, 1) := by decide +kernel
theorem dX8_bank_157 : decode cX8_bank 157 = .ok (.getfield 13, 3) := by decide +kernel
theorem dX8_bank_160 : decode cX8_bank 160 = .ok (.iconst 3, 1) := by decide +kernel
theorem dX8_bank_161 : decode cX8_bank 161 = .ok (.iaload, 1) := by decide +kernel
theorem dX8_bank_162 : decode cX8_bank 162 = .ok (.ireturn, 1) := by decide +kernel
theorem dX8_law_0 : decode cX8_law 0 = .ok (.aload_n 0, 1) := by decide +kernel
theorem dX8_law_1 : decode cX8_law 1 = .ok (.iconst 0, 1) := by decide +kernel
theorem dX8_law_2 : decode cX8_law 2 = .ok (.invokevirtual 277, 3) := by decide +kernel
theorem dX8_law_5 : decode cX8_law 5 = .ok (.istore_n 1, 1) := by decide +kernel
theorem dX8_law_6 : decode cX8_law 6 = .ok (.aload_n 0, 1) := by decide +kernel
theorem dX8_law_7 : decode cX8_law 7 = .ok (.iload_n 1, 1) := by decide +kernel
theorem dX8_law_8 : decode cX8_law 8 = .ok (.ifCond .ge 10, 3) := by decide +kernel
theorem dX8_law_11 : decode cX8_law 11 = .ok (.aload_n 0, 1) := by decide +kernel
theorem dX8_law_12 : decode cX8_law 12 = .ok (.getfield 124, 3) := by decide +kernel
theorem dX8_law_15 : decode cX8_law 15 = .ok (.goto 4, 3) := by decide +kernel
theorem dX8_law_18 : decode cX8_law 18 = .ok (.iconst (-1), 1) := by decide +kernel
theorem dX8_law_19 : decode cX8_law 19 = .ok (.putfield 49, 3) := by decide +kernel
theorem dX8_law_22 : decode cX8_law 22 = .ok (.aload_n 0, 1) := by decide +kernel
theorem dX8_law_23 : decode cX8_law 23 = .ok (.iload_n 1, 1) := by decide +kernel
theorem dX8_law_24 : decode cX8_law 24 = .ok (.ifCond .ge 7, 3) := by decide +kernel
theorem dX8_law_27 : decode cX8_law 27 = .ok (.iconst 1, 1) := by decide +kernel
theorem dX8_law_28 : decode cX8_law 28 = .ok (.goto 4, 3) := by decide +kernel
theorem dX8_law_31 : decode cX8_law 31 = .ok (.iconst 0, 1) := by decide +kernel
theorem dX8_law_32 : decode cX8_law 32 = .ok (.iconst 1, 1) := by decide +kernel
theorem dX8_law_33 : decode cX8_law 33 = .ok (.invokevirtual 281, 3) := by decide +kernel
theorem dX8_law_36 : decode cX8_law 36 = .ok (.ifCond .eq 5, 3) := by decide +kernel
theorem dX8_law_39 : decode cX8_law 39 = .ok (.iconst 0, 1) := by decide +kernel
theorem dX8_law_40 : decode cX8_law 40 = .ok (.ireturn, 1) := by decide +kernel
theorem dX8_law_41 : decode cX8_law 41 = .ok (.aload_n 0, 1) := by decide +kernel
theorem dX8_law_42 : decode cX8_law 42 = .ok (.getfield 13, 3) := by decide +kernel
theorem dX8_law_45 : decode cX8_law 45 = .ok (.sipush 1411, 3) := by decide +kernel
theorem dX8_law_48 : decode cX8_law 48 = .ok (.iload_n 1, 1) := by decide +kernel
theorem dX8_law_49 : decode cX8_law 49 = .ok (.iastore, 1) := by decide +kernel
theorem dX8_law_50 : decode cX8_law 50 = .ok (.iconst 0, 1) := by decide +kernel
theorem dX8_law_51 : decode cX8_law 51 = .ok (.istore_n 2, 1) := by decide +kernel
theorem dX8_law_52 : decode cX8_law 52 = .ok (.iload_n 2, 1) := by decide +kernel
theorem dX8_law_53 : decode cX8_law 53 = .ok (.sipush 849, 3) := by decide +kernel
theorem dX8_law_56 : decode cX8_law 56 = .ok (.if_icmp .ge 29, 3) := by decide +kernel
theorem dX8_law_59 : decode cX8_law 59 = .ok (.aload_n 0, 1) := by decide +kernel
theorem dX8_law_60 : decode cX8_law 60 = .ok (.getfield 13, 3) := by decide +kernel
theorem dX8_law_63 : decode cX8_law 63 = .ok (.sipush 562, 3) := by decide +kernel
theorem dX8_law_66 : decode cX8_law 66 = .ok (.iload_n 2, 1) := by decide +kernel
theorem dX8_law_67 : decode cX8_law 67 = .ok (.iadd, 1) := by decide +kernel
theorem dX8_law_68 : decode cX8_law 68 = .ok (.aload_n 0, 1) := by decide +kernel
theorem dX8_law_69 : decode cX8_law 69 = .ok (.getfield 13, 3) := by decide +kernel
theorem dX8_law_72 : decode cX8_law 72 = .ok (.sipush 1411, 3) := by decide +kernel
theorem dX8_law_75 : decode cX8_law 75 = .ok (.iload_n 2, 1) := by decide +kernel
theorem dX8_law_76 : decode cX8_law 76 = .ok (.iadd, 1) := by decide +kernel
theorem dX8_law_77 : decode cX8_law 77 = .ok (.iaload, 1) := by decide +kernel
theorem dX8_law_78 : decode cX8_law 78 = .ok (.iastore, 1) := by decide +kernel
theorem dX8_law_79 : decode cX8_law 79 = .ok (.iinc 2 1, 3) := by decide +kernel
theorem dX8_law_82 : decode cX8_law 82 = .ok (.goto (-30), 3) := by decide +kernel
theorem dX8_law_85 : decode cX8_law 85 = .ok (.aload_n 0, 1) := by decide +kernel
theorem dX8_law_86 : decode cX8_law 86 = .ok (.getfield 13, 3) := by decide +kernel
theorem dX8_law_89 : decode cX8_law 89 = .ok (.iconst 4, 1) := by decide +kernel
theorem dX8_law_90 : decode cX8_law 90 = .ok (.iconst 1, 1) := by decide +kernel
theorem dX8_law_91 : decode cX8_law 91 = .ok (.iastore, 1) := by decide +kernel
theorem dX8_law_92 : decode cX8_law 92 = .ok (.iconst 0, 1) := by decide +kernel
theorem dX8_law_93 : decode cX8_law 93 = .ok (.istore_n 2, 1) := by decide +kernel
theorem dX8_law_94 : decode cX8_law 94 = .ok (.iload_n 2, 1) := by decide +kernel
theorem dX8_law_95 : decode cX8_law 95 = .ok (.bipush 6, 2) := by decide +kernel
theorem dX8_law_97 : decode cX8_law 97 = .ok (.if_icmp .ge 14, 3) := by decide +kernel
theorem dX8_law_100 : decode cX8_law 100 = .ok (.aload_n 0, 1) := by decide +kernel
theorem dX8_law_101 : decode cX8_law 101 = .ok (.iload_n 2, 1) := by decide +kernel
theorem dX8_law_102 : decode cX8_law 102 = .ok (.invokevirtual 174, 3) := by decide +kernel
theorem dX8_law_105 : decode cX8_law 105 = .ok (.iinc 2 1, 3) := by decide +kernel
theorem dX8_law_108 : decode cX8_law 108 = .ok (.goto (-14), 3) := by decide +kernel
theorem dX8_law_111 : decode cX8_law 111 = .ok (.aload_n 0, 1) := by decide +kernel
theorem dX8_law_112 : decode cX8_law 112 = .ok (.iconst 0, 1) := by decide +kernel
theorem dX8_law_113 : decode cX8_law 113 = .ok (.putfield 78, 3) := by decide +kernel
theorem dX8_law_116 : decode cX8_law 116 = .ok (.iload_n 1, 1) := by decide +kernel
theorem dX8_law_117 : decode cX8_law 117 = .ok (.ireturn, 1) := by decide +kernel
theorem dX8_apartOf_0 : decode cX8_apartOf 0 = .ok (.iload_n 0, 1) := by decide +kernel
theorem dX8_apartOf_1 : decode cX8_apartOf 1 = .ok (.iload_n 1, 1) := by decide +kernel
theorem dX8_apartOf_2 : decode cX8_apartOf 2 = .ok (.isub, 1) := by decide +kernel
theorem dX8_apartOf_3 : decode cX8_apartOf 3 = .ok (.invokestatic 284, 3) := by decide +kernel
theorem dX8_apartOf_6 : decode cX8_apartOf 6 = .ok (.istore_n 2, 1) := by decide +kernel
theorem dX8_apartOf_7 : decode cX8_apartOf 7 = .ok (.iload_n 2, 1) := by decide +kernel
theorem dX8_apartOf_8 : decode cX8_apartOf 8 = .ok (.bipush 6, 2) := by decide +kernel
theorem dX8_apartOf_10 : decode cX8_apartOf 10 = .ok (.iload_n 2, 1) := by decide +kernel
theorem dX8_apartOf_11 : decode cX8_apartOf 11 = .ok (.isub, 1) := by decide +kernel
theorem dX8_apartOf_12 : decode cX8_apartOf 12 = .ok (.invokestatic 290, 3) := by decide +kernel
theorem dX8_apartOf_15 : decode cX8_apartOf 15 = .ok (.ireturn, 1) := by decide +kernel
theorem dX8_factOf_0 : decode cX8_factOf 0 = .ok (.iload_n 0, 1) := by decide +kernel
theorem dX8_factOf_1 : decode cX8_factOf 1 = .ok (.tableswitch 81 0 5 #[39, 41, 43, 46, 53, 65], 39) := by decide +kernel
theorem dX8_factOf_40 : decode cX8_factOf 40 = .ok (.iload_n 2, 1) := by decide +kernel
theorem dX8_factOf_41 : decode cX8_factOf 41 = .ok (.ireturn, 1) := by decide +kernel
theorem dX8_factOf_42 : decode cX8_factOf 42 = .ok (.iload_n 3, 1) := by decide +kernel
theorem dX8_factOf_43 : decode cX8_factOf 43 = .ok (.ireturn, 1) := by decide +kernel
theorem dX8_factOf_44 : decode cX8_factOf 44 = .ok (.iload 4, 2) := by decide +kernel
theorem dX8_factOf_46 : decode cX8_factOf 46 = .ok (.ireturn, 1) := by decide +kernel
theorem dX8_factOf_47 : decode cX8_factOf 47 = .ok (.iload_n 3, 1) := by decide +kernel
theorem dX8_factOf_48 : decode cX8_factOf 48 = .ok (.iload 4, 2) := by decide +kernel
theorem dX8_factOf_50 : decode cX8_factOf 50 = .ok (.invokestatic 293, 3) := by decide +kernel
theorem dX8_factOf_53 : decode cX8_factOf 53 = .ok (.ireturn, 1) := by decide +kernel
theorem dX8_factOf_54 : decode cX8_factOf 54 = .ok (.iload_n 3, 1) := by decide +kernel
theorem dX8_factOf_55 : decode cX8_factOf 55 = .ok (.iload 4, 2) := by decide +kernel
theorem dX8_factOf_57 : decode cX8_factOf 57 = .ok (.if_icmp .ne 7, 3) := by decide +kernel
theorem dX8_factOf_60 : decode cX8_factOf 60 = .ok (.iconst 1, 1) := by decide +kernel
theorem dX8_factOf_61 : decode cX8_factOf 61 = .ok (.goto 4, 3) := by decide +kernel
theorem dX8_factOf_64 : decode cX8_factOf 64 = .ok (.iconst 0, 1) := by decide +kernel
theorem dX8_factOf_65 : decode cX8_factOf 65 = .ok (.ireturn, 1) := by decide +kernel
theorem dX8_factOf_66 : decode cX8_factOf 66 = .ok (.iload_n 3, 1) := by decide +kernel
theorem dX8_factOf_67 : decode cX8_factOf 67 = .ok (.iload 4, 2) := by decide +kernel
theorem dX8_factOf_69 : decode cX8_factOf 69 = .ok (.invokestatic 293, 3) := by decide +kernel
theorem dX8_factOf_72 : decode cX8_factOf 72 = .ok (.iconst 1, 1) := by decide +kernel
theorem dX8_factOf_73 : decode cX8_factOf 73 = .ok (.if_icmp .ne 7, 3) := by decide +kernel
theorem dX8_factOf_76 : decode cX8_factOf 76 = .ok (.iconst 1, 1) := by decide +kernel
theorem dX8_factOf_77 : decode cX8_factOf 77 = .ok (.goto 4, 3) := by decide +kernel
theorem dX8_factOf_80 : decode cX8_factOf 80 = .ok (.iconst 0, 1) := by decide +kernel
theorem dX8_factOf_81 : decode cX8_factOf 81 = .ok (.ireturn, 1) := by decide +kernel
theorem dX8_factOf_82 : decode cX8_factOf 82 = .ok (.iload_n 1, 1) := by decide +kernel
theorem dX8_factOf_83 : decode cX8_factOf 83 = .ok (.ireturn, 1) := by decide +kernel
theorem dX8_holdsLine_0 : decode cX8_holdsLine 0 = .ok (.iconst 0, 1) := by decide +kernel
theorem dX8_holdsLine_1 : decode cX8_holdsLine 1 = .ok (.istore 5, 2) := by decide +kernel
theorem dX8_holdsLine_3 : decode cX8_holdsLine 3 = .ok (.sipush 563, 3) := by decide +kernel
theorem dX8_holdsLine_6 : decode cX8_holdsLine 6 = .ok (.iconst 4, 1) := by decide +kernel
theorem dX8_holdsLine_7 : decode cX8_holdsLine 7 = .ok (.iload_n 1, 1) := by decide +kernel
theorem dX8_holdsLine_8 : decode cX8_holdsLine 8 = .ok (.imul, 1) := by decide +kernel
theorem dX8_holdsLine_9 : decode cX8_holdsLine 9 = .ok (.iadd, 1) := by decide +kernel
theorem dX8_holdsLine_10 : decode cX8_holdsLine 10 = .ok (.istore 6, 2) := by decide +kernel
theorem dX8_holdsLine_12 : decode cX8_holdsLine 12 = .ok (.aload_n 0, 1) := by decide +kernel
theorem dX8_holdsLine_13 : decode cX8_holdsLine 13 = .ok (.getfield 13, 3) := by decide +kernel
theorem dX8_holdsLine_16 : decode cX8_holdsLine 16 = .ok (.iload 6, 2) := by decide +kernel
theorem dX8_holdsLine_18 : decode cX8_holdsLine 18 = .ok (.iconst 2, 1) := by decide +kernel
theorem dX8_holdsLine_19 : decode cX8_holdsLine 19 = .ok (.iadd, 1) := by decide +kernel
theorem dX8_holdsLine_20 : decode cX8_holdsLine 20 = .ok (.iaload, 1) := by decide +kernel
theorem dX8_holdsLine_21 : decode cX8_holdsLine 21 = .ok (.istore 7, 2) := by decide +kernel
theorem dX8_holdsLine_23 : decode cX8_holdsLine 23 = .ok (.iload 7, 2) := by decide +kernel
theorem dX8_holdsLine_25 : decode cX8_holdsLine 25 = .ok (.aload_n 0, 1) := by decide +kernel
theorem dX8_holdsLine_26 : decode cX8_holdsLine 26 = .ok (.getfield 13, 3) := by decide +kernel
theorem dX8_holdsLine_29 : decode cX8_holdsLine 29 = .ok (.iload 6, 2) := by decide +kernel
theorem dX8_holdsLine_31 : decode cX8_holdsLine 31 = .ok (.iconst 3, 1) := by decide +kernel
theorem dX8_holdsLine_32 : decode cX8_holdsLine 32 = .ok (.iadd, 1) := by decide +kernel
theorem dX8_holdsLine_33 : decode cX8_holdsLine 33 = .ok (.iaload, 1) := by decide +kernel
theorem dX8_holdsLine_34 : decode cX8_holdsLine 34 = .ok (.if_icmp .ge 238, 3) := by decide +kernel
theorem dX8_holdsLine_37 : decode cX8_holdsLine 37 = .ok (.aload_n 0, 1) := by decide +kernel
theorem dX8_holdsLine_38 : decode cX8_holdsLine 38 = .ok (.getfield 13, 3) := by decide +kernel
theorem dX8_holdsLine_41 : decode cX8_holdsLine 41 = .ok (.sipush 611, 3) := by decide +kernel
theorem dX8_holdsLine_44 : decode cX8_holdsLine 44 = .ok (.iconst 2, 1) := by decide +kernel
theorem dX8_holdsLine_45 : decode cX8_holdsLine 45 = .ok (.iload 7, 2) := by decide +kernel
theorem dX8_holdsLine_47 : decode cX8_holdsLine 47 = .ok (.imul, 1) := by decide +kernel
theorem dX8_holdsLine_48 : decode cX8_holdsLine 48 = .ok (.iadd, 1) := by decide +kernel
theorem dX8_holdsLine_49 : decode cX8_holdsLine 49 = .ok (.iaload, 1) := by decide +kernel
theorem dX8_holdsLine_50 : decode cX8_holdsLine 50 = .ok (.istore 8, 2) := by decide +kernel
theorem dX8_holdsLine_52 : decode cX8_holdsLine 52 = .ok (.iload 8, 2) := by decide +kernel
theorem dX8_holdsLine_54 : decode cX8_holdsLine 54 = .ok (.bipush 6, 2) := by decide +kernel
theorem dX8_holdsLine_56 : decode cX8_holdsLine 56 = .ok (.if_icmp .gt 40, 3) := by decide +kernel
theorem dX8_holdsLine_59 : decode cX8_holdsLine 59 = .ok (.aload_n 0, 1) := by decide +kernel
theorem dX8_holdsLine_60 : decode cX8_holdsLine 60 = .ok (.getfield 55, 3) := by decide +kernel
theorem dX8_holdsLine_63 : decode cX8_holdsLine 63 = .ok (.iload 5, 2) := by decide +kernel
theorem dX8_holdsLine_65 : decode cX8_holdsLine 65 = .ok (.iload 8, 2) := by decide +kernel
theorem dX8_holdsLine_67 : decode cX8_holdsLine 67 = .ok (.aload_n 0, 1) := by decide +kernel
theorem dX8_holdsLine_68 : decode cX8_holdsLine 68 = .ok (.getfield 13, 3) := by decide +kernel
theorem dX8_holdsLine_71 : decode cX8_holdsLine 71 = .ok (.sipush 611, 3) := by decide +kernel
theorem dX8_holdsLine_74 : decode cX8_holdsLine 74 = .ok (.iconst 2, 1) := by decide +kernel
theorem dX8_holdsLine_75 : decode cX8_holdsLine 75 = .ok (.iload 7, 2) := by decide +kernel
theorem dX8_holdsLine_77 : decode cX8_holdsLine 77 = .ok (.imul, 1) := by decide +kernel
theorem dX8_holdsLine_78 : decode cX8_holdsLine 78 = .ok (.iadd, 1) := by decide +kernel
theorem dX8_holdsLine_79 : decode cX8_holdsLine 79 = .ok (.iconst 1, 1) := by decide +kernel
theorem dX8_holdsLine_80 : decode cX8_holdsLine 80 = .ok (.iadd, 1) := by decide +kernel
theorem dX8_holdsLine_81 : decode cX8_holdsLine 81 = .ok (.iaload, 1) := by decide +kernel
theorem dX8_holdsLine_82 : decode cX8_holdsLine 82 = .ok (.iload_n 2, 1) := by decide +kernel
theorem dX8_holdsLine_83 : decode cX8_holdsLine 83 = .ok (.iload_n 3, 1) := by decide +kernel
theorem dX8_holdsLine_84 : decode cX8_holdsLine 84 = .ok (.iload 4, 2) := by decide +kernel
theorem dX8_holdsLine_86 : decode cX8_holdsLine 86 = .ok (.invokestatic 296, 3) := by decide +kernel
theorem dX8_holdsLine_89 : decode cX8_holdsLine 89 = .ok (.iastore, 1) := by decide +kernel
theorem dX8_holdsLine_90 : decode cX8_holdsLine 90 = .ok (.iinc 5 1, 3) := by decide +kernel
theorem dX8_holdsLine_93 : decode cX8_holdsLine 93 = .ok (.goto 173, 3) := by decide +kernel
theorem dX8_holdsLine_96 : decode cX8_holdsLine 96 = .ok (.iload 8, 2) := by decide +kernel
theorem dX8_holdsLine_98 : decode cX8_holdsLine 98 = .ok (.bipush 10, 2) := by decide +kernel
theorem dX8_holdsLine_100 : decode cX8_holdsLine 100 = .ok (.if_icmp .ne 26, 3) := by decide +kernel
theorem dX8_holdsLine_103 : decode cX8_holdsLine 103 = .ok (.aload_n 0, 1) := by decide +kernel
theorem dX8_holdsLine_104 : decode cX8_holdsLine 104 = .ok (.getfield 55, 3) := by decide +kernel
theorem dX8_holdsLine_107 : decode cX8_holdsLine 107 = .ok (.iload 5, 2) := by decide +kernel
theorem dX8_holdsLine_109 : decode cX8_holdsLine 109 = .ok (.iconst 1, 1) := by decide +kernel
theorem dX8_holdsLine_110 : decode cX8_holdsLine 110 = .ok (.isub, 1) := by decide +kernel
theorem dX8_holdsLine_111 : decode cX8_holdsLine 111 = .ok (.iconst 1, 1) := by decide +kernel
theorem dX8_holdsLine_112 : decode cX8_holdsLine 112 = .ok (.aload_n 0, 1) := by decide +kernel
theorem dX8_holdsLine_113 : decode cX8_holdsLine 113 = .ok (.getfield 55, 3) := by decide +kernel
theorem dX8_holdsLine_116 : decode cX8_holdsLine 116 = .ok (.iload 5, 2) := by decide +kernel
theorem dX8_holdsLine_118 : decode cX8_holdsLine 118 = .ok (.iconst 1, 1) := by decide +kernel
theorem dX8_holdsLine_119 : decode cX8_holdsLine 119 = .ok (.isub, 1) := by decide +kernel
theorem dX8_holdsLine_120 : decode cX8_holdsLine 120 = .ok (.iaload, 1) := by decide +kernel
theorem dX8_holdsLine_121 : decode cX8_holdsLine 121 = .ok (.isub, 1) := by decide +kernel
theorem dX8_holdsLine_122 : decode cX8_holdsLine 122 = .ok (.iastore, 1) := by decide +kernel
theorem dX8_holdsLine_123 : decode cX8_holdsLine 123 = .ok (.goto 143, 3) := by decide +kernel
theorem dX8_holdsLine_126 : decode cX8_holdsLine 126 = .ok (.iinc 5 (-1), 3) := by decide +kernel
theorem dX8_holdsLine_129 : decode cX8_holdsLine 129 = .ok (.aload_n 0, 1) := by decide +kernel
theorem dX8_holdsLine_130 : decode cX8_holdsLine 130 = .ok (.getfield 55, 3) := by decide +kernel
theorem dX8_holdsLine_133 : decode cX8_holdsLine 133 = .ok (.iload 5, 2) := by decide +kernel
theorem dX8_holdsLine_135 : decode cX8_holdsLine 135 = .ok (.iconst 1, 1) := by decide +kernel
theorem dX8_holdsLine_136 : decode cX8_holdsLine 136 = .ok (.isub, 1) := by decide +kernel
theorem dX8_holdsLine_137 : decode cX8_holdsLine 137 = .ok (.iaload, 1) := by decide +kernel
theorem dX8_holdsLine_138 : decode cX8_holdsLine 138 = .ok (.istore 9, 2) := by decide +kernel
theorem dX8_holdsLine_140 : decode cX8_holdsLine 140 = .ok (.aload_n 0, 1) := by decide +kernel
theorem dX8_holdsLine_141 : decode cX8_holdsLine 141 = .ok (.getfield 55, 3) := by decide +kernel
theorem dX8_holdsLine_144 : decode cX8_holdsLine 144 = .ok (.iload 5, 2) := by decide +kernel
theorem dX8_holdsLine_146 : decode cX8_holdsLine 146 = .ok (.iaload, 1) := by decide +kernel
theorem dX8_holdsLine_147 : decode cX8_holdsLine 147 = .ok (.istore 10, 2) := by decide +kernel
theorem dX8_holdsLine_149 : decode cX8_holdsLine 149 = .ok (.iload 8, 2) := by decide +kernel
theorem dX8_holdsLine_151 : decode cX8_holdsLine 151 = .ok (.bipush 8, 2) := by decide +kernel
theorem dX8_holdsLine_153 : decode cX8_holdsLine 153 = .ok (.if_icmp .ne 18, 3) := by decide +kernel
theorem dX8_holdsLine_156 : decode cX8_holdsLine 156 = .ok (.iload 9, 2) := by decide +kernel
theorem dX8_holdsLine_158 : decode cX8_holdsLine 158 = .ok (.iload 10, 2) := by decide +kernel
theorem dX8_holdsLine_160 : decode cX8_holdsLine 160 = .ok (.if_icmp .ge 7, 3) := by decide +kernel
theorem dX8_holdsLine_163 : decode cX8_holdsLine 163 = .ok (.iconst 1, 1) := by decide +kernel
theorem dX8_holdsLine_164 : decode cX8_holdsLine 164 = .ok (.goto 66, 3) := by decide +kernel
theorem dX8_holdsLine_167 : decode cX8_holdsLine 167 = .ok (.iconst 0, 1) := by decide +kernel
theorem dX8_holdsLine_168 : decode cX8_holdsLine 168 = .ok (.goto 62, 3) := by decide +kernel
theorem dX8_holdsLine_171 : decode cX8_holdsLine 171 = .ok (.iload 8, 2) := by decide +kernel
theorem dX8_holdsLine_173 : decode cX8_holdsLine 173 = .ok (.bipush 9, 2) := by decide +kernel
theorem dX8_holdsLine_175 : decode cX8_holdsLine 175 = .ok (.if_icmp .ne 18, 3) := by decide +kernel
theorem dX8_holdsLine_178 : decode cX8_holdsLine 178 = .ok (.iload 9, 2) := by decide +kernel
theorem dX8_holdsLine_180 : decode cX8_holdsLine 180 = .ok (.iload 10, 2) := by decide +kernel
theorem dX8_holdsLine_182 : decode cX8_holdsLine 182 = .ok (.if_icmp .le 7, 3) := by decide +kernel
theorem dX8_holdsLine_185 : decode cX8_holdsLine 185 = .ok (.iconst 1, 1) := by decide +kernel
theorem dX8_holdsLine_186 : decode cX8_holdsLine 186 = .ok (.goto 44, 3) := by decide +kernel
theorem dX8_holdsLine_189 : decode cX8_holdsLine 189 = .ok (.iconst 0, 1) := by decide +kernel
theorem dX8_holdsLine_190 : decode cX8_holdsLine 190 = .ok (.goto 40, 3) := by decide +kernel
theorem dX8_holdsLine_193 : decode cX8_holdsLine 193 = .ok (.iload 8, 2) := by decide +kernel
theorem dX8_holdsLine_195 : decode cX8_holdsLine 195 = .ok (.bipush 11, 2) := by decide +kernel
theorem dX8_holdsLine_197 : decode cX8_holdsLine 197 = .ok (.if_icmp .ne 20, 3) := by decide +kernel
theorem dX8_holdsLine_200 : decode cX8_holdsLine 200 = .ok (.iload 9, 2) := by decide +kernel
theorem dX8_holdsLine_202 : decode cX8_holdsLine 202 = .ok (.iload 10, 2) := by decide +kernel
theorem dX8_holdsLine_204 : decode cX8_holdsLine 204 = .ok (.iadd, 1) := by decide +kernel
theorem dX8_holdsLine_205 : decode cX8_holdsLine 205 = .ok (.iconst 2, 1) := by decide +kernel
theorem dX8_holdsLine_206 : decode cX8_holdsLine 206 = .ok (.if_icmp .ne 7, 3) := by decide +kernel
theorem dX8_holdsLine_209 : decode cX8_holdsLine 209 = .ok (.iconst 1, 1) := by decide +kernel
theorem dX8_holdsLine_210 : decode cX8_holdsLine 210 = .ok (.goto 20, 3) := by decide +kernel
theorem dX8_holdsLine_213 : decode cX8_holdsLine 213 = .ok (.iconst 0, 1) := by decide +kernel
theorem dX8_holdsLine_214 : decode cX8_holdsLine 214 = .ok (.goto 16, 3) := by decide +kernel
theorem dX8_holdsLine_217 : decode cX8_holdsLine 217 = .ok (.iload 9, 2) := by decide +kernel
theorem dX8_holdsLine_219 : decode cX8_holdsLine 219 = .ok (.iload 10, 2) := by decide +kernel
theorem dX8_holdsLine_221 : decode cX8_holdsLine 221 = .ok (.iadd, 1) := by decide +kernel
theorem dX8_holdsLine_222 : decode cX8_holdsLine 222 = .ok (.ifCond .le 7, 3) := by decide +kernel
theorem dX8_holdsLine_225 : decode cX8_holdsLine 225 = .ok (.iconst 1, 1) := by decide +kernel
theorem dX8_holdsLine_226 : decode cX8_holdsLine 226 = .ok (.goto 4, 3) := by decide +kernel
theorem dX8_holdsLine_229 : decode cX8_holdsLine 229 = .ok (.iconst 0, 1) := by decide +kernel
theorem dX8_holdsLine_230 : decode cX8_holdsLine 230 = .ok (.istore 11, 2) := by decide +kernel
theorem dX8_holdsLine_232 : decode cX8_holdsLine 232 = .ok (.aload_n 0, 1) := by decide +kernel
theorem dX8_holdsLine_233 : decode cX8_holdsLine 233 = .ok (.getfield 55, 3) := by decide +kernel
theorem dX8_holdsLine_236 : decode cX8_holdsLine 236 = .ok (.iload 5, 2) := by decide +kernel
theorem dX8_holdsLine_238 : decode cX8_holdsLine 238 = .ok (.iconst 1, 1) := by decide +kernel
theorem dX8_holdsLine_239 : decode cX8_holdsLine 239 = .ok (.isub, 1) := by decide +kernel
theorem dX8_holdsLine_240 : decode cX8_holdsLine 240 = .ok (.iload 8, 2) := by decide +kernel
theorem dX8_holdsLine_242 : decode cX8_holdsLine 242 = .ok (.bipush 7, 2) := by decide +kernel
theorem dX8_holdsLine_244 : decode cX8_holdsLine 244 = .ok (.if_icmp .ne 11, 3) := by decide +kernel
theorem dX8_holdsLine_247 : decode cX8_holdsLine 247 = .ok (.iload 9, 2) := by decide +kernel
theorem dX8_holdsLine_249 : decode cX8_holdsLine 249 = .ok (.iload 10, 2) := by decide +kernel
theorem dX8_holdsLine_251 : decode cX8_holdsLine 251 = .ok (.iadd, 1) := by decide +kernel
theorem dX8_holdsLine_252 : decode cX8_holdsLine 252 = .ok (.goto 13, 3) := by decide +kernel
theorem dX8_holdsLine_255 : decode cX8_holdsLine 255 = .ok (.iload 11, 2) := by decide +kernel
theorem dX8_holdsLine_257 : decode cX8_holdsLine 257 = .ok (.ifCond .eq 7, 3) := by decide +kernel
theorem dX8_holdsLine_260 : decode cX8_holdsLine 260 = .ok (.iconst 1, 1) := by decide +kernel
theorem dX8_holdsLine_261 : decode cX8_holdsLine 261 = .ok (.goto 4, 3) := by decide +kernel
theorem dX8_holdsLine_264 : decode cX8_holdsLine 264 = .ok (.iconst 0, 1) := by decide +kernel
theorem dX8_holdsLine_265 : decode cX8_holdsLine 265 = .ok (.iastore, 1) := by decide +kernel
theorem dX8_holdsLine_266 : decode cX8_holdsLine 266 = .ok (.iinc 7 1, 3) := by decide +kernel
theorem dX8_holdsLine_269 : decode cX8_holdsLine 269 = .ok (.goto (-246), 3) := by decide +kernel
theorem dX8_holdsLine_272 : decode cX8_holdsLine 272 = .ok (.iload 5, 2) := by decide +kernel
theorem dX8_holdsLine_274 : decode cX8_holdsLine 274 = .ok (.ifCond .eq 13, 3) := by decide +kernel
theorem dX8_holdsLine_277 : decode cX8_holdsLine 277 = .ok (.aload_n 0, 1) := by decide +kernel
theorem dX8_holdsLine_278 : decode cX8_holdsLine 278 = .ok (.getfield 55, 3) := by decide +kernel
theorem dX8_holdsLine_281 : decode cX8_holdsLine 281 = .ok (.iconst 0, 1) := by decide +kernel
theorem dX8_holdsLine_282 : decode cX8_holdsLine 282 = .ok (.iaload, 1) := by decide +kernel
theorem dX8_holdsLine_283 : decode cX8_holdsLine 283 = .ok (.iconst 1, 1) := by decide +kernel
theorem dX8_holdsLine_284 : decode cX8_holdsLine 284 = .ok (.if_icmp .ne 7, 3) := by decide +kernel
theorem dX8_holdsLine_287 : decode cX8_holdsLine 287 = .ok (.iconst 1, 1) := by decide +kernel
theorem dX8_holdsLine_288 : decode cX8_holdsLine 288 = .ok (.goto 4, 3) := by decide +kernel
theorem dX8_holdsLine_291 : decode cX8_holdsLine 291 = .ok (.iconst 0, 1) := by decide +kernel
theorem dX8_holdsLine_292 : decode cX8_holdsLine 292 = .ok (.ireturn, 1) := by decide +kernel
theorem dX8_clickOf_0 : decode cX8_clickOf 0 = .ok (.aload_n 0, 1) := by decide +kernel
theorem dX8_clickOf_1 : decode cX8_clickOf 1 = .ok (.getfield 13, 3) := by decide +kernel
theorem dX8_clickOf_4 : decode cX8_clickOf 4 = .ok (.iconst 4, 1) := by decide +kernel
theorem dX8_clickOf_5 : decode cX8_clickOf 5 = .ok (.iaload, 1) := by decide +kernel
theorem dX8_clickOf_6 : decode cX8_clickOf 6 = .ok (.ifCond .ne 14, 3) := by decide +kernel
theorem dX8_clickOf_9 : decode cX8_clickOf 9 = .ok (.iload_n 2, 1) := by decide +kernel
theorem dX8_clickOf_10 : decode cX8_clickOf 10 = .ok (.iload_n 3, 1) := by decide +kernel
theorem dX8_clickOf_11 : decode cX8_clickOf 11 = .ok (.if_icmp .ne 7, 3) := by decide +kernel
theorem dX8_clickOf_14 : decode cX8_clickOf 14 = .ok (.iconst 1, 1) := by decide +kernel
theorem dX8_clickOf_15 : decode cX8_clickOf 15 = .ok (.goto 4, 3) := by decide +kernel
theorem dX8_clickOf_18 : decode cX8_clickOf 18 = .ok (.iconst 0, 1) := by decide +kernel
theorem dX8_clickOf_19 : decode cX8_clickOf 19 = .ok (.ireturn, 1) := by decide +kernel
theorem dX8_clickOf_20 : decode cX8_clickOf 20 = .ok (.iconst 0, 1) := by decide +kernel
theorem dX8_clickOf_21 : decode cX8_clickOf 21 = .ok (.istore 4, 2) := by decide +kernel
theorem dX8_clickOf_23 : decode cX8_clickOf 23 = .ok (.iconst 0, 1) := by decide +kernel
theorem dX8_clickOf_24 : decode cX8_clickOf 24 = .ok (.istore 5, 2) := by decide +kernel
theorem dX8_clickOf_26 : decode cX8_clickOf 26 = .ok (.iload 5, 2) := by decide +kernel
theorem dX8_clickOf_28 : decode cX8_clickOf 28 = .ok (.aload_n 0, 1) := by decide +kernel
theorem dX8_clickOf_29 : decode cX8_clickOf 29 = .ok (.getfield 13, 3) := by decide +kernel
theorem dX8_clickOf_32 : decode cX8_clickOf 32 = .ok (.sipush 562, 3) := by decide +kernel
theorem dX8_clickOf_35 : decode cX8_clickOf 35 = .ok (.iaload, 1) := by decide +kernel
theorem dX8_clickOf_36 : decode cX8_clickOf 36 = .ok (.if_icmp .ge 59, 3) := by decide +kernel
theorem dX8_clickOf_39 : decode cX8_clickOf 39 = .ok (.iload 4, 2) := by decide +kernel
theorem dX8_clickOf_41 : decode cX8_clickOf 41 = .ok (.aload_n 0, 1) := by decide +kernel
theorem dX8_clickOf_42 : decode cX8_clickOf 42 = .ok (.iload 5, 2) := by decide +kernel
theorem dX8_clickOf_44 : decode cX8_clickOf 44 = .ok (.iload_n 1, 1) := by decide +kernel
theorem dX8_clickOf_45 : decode cX8_clickOf 45 = .ok (.iload_n 2, 1) := by decide +kernel
theorem dX8_clickOf_46 : decode cX8_clickOf 46 = .ok (.iload_n 3, 1) := by decide +kernel
theorem dX8_clickOf_47 : decode cX8_clickOf 47 = .ok (.invokevirtual 300, 3) := by decide +kernel
theorem dX8_clickOf_50 : decode cX8_clickOf 50 = .ok (.ifCond .eq 35, 3) := by decide +kernel
theorem dX8_clickOf_53 : decode cX8_clickOf 53 = .ok (.aload_n 0, 1) := by decide +kernel
theorem dX8_clickOf_54 : decode cX8_clickOf 54 = .ok (.getfield 13, 3) := by decide +kernel
theorem dX8_clickOf_57 : decode cX8_clickOf 57 = .ok (.sipush 563, 3) := by decide +kernel
theorem dX8_clickOf_60 : decode cX8_clickOf 60 = .ok (.iconst 4, 1) := by decide +kernel
theorem dX8_clickOf_61 : decode cX8_clickOf 61 = .ok (.iload 5, 2) := by decide +kernel
theorem dX8_clickOf_63 : decode cX8_clickOf 63 = .ok (.imul, 1) := by decide +kernel
theorem dX8_clickOf_64 : decode cX8_clickOf 64 = .ok (.iadd, 1) := by decide +kernel
theorem dX8_clickOf_65 : decode cX8_clickOf 65 = .ok (.iaload, 1) := by decide +kernel
theorem dX8_clickOf_66 : decode cX8_clickOf 66 = .ok (.aload_n 0, 1) := by decide +kernel
theorem dX8_clickOf_67 : decode cX8_clickOf 67 = .ok (.getfield 13, 3) := by decide +kernel
theorem dX8_clickOf_70 : decode cX8_clickOf 70 = .ok (.sipush 563, 3) := by decide +kernel
theorem dX8_clickOf_73 : decode cX8_clickOf 73 = .ok (.iconst 4, 1) := by decide +kernel
theorem dX8_clickOf_74 : decode cX8_clickOf 74 = .ok (.iload 5, 2) := by decide +kernel
theorem dX8_clickOf_76 : decode cX8_clickOf 76 = .ok (.imul, 1) := by decide +kernel
theorem dX8_clickOf_77 : decode cX8_clickOf 77 = .ok (.iadd, 1) := by decide +kernel
theorem dX8_clickOf_78 : decode cX8_clickOf 78 = .ok (.iconst 1, 1) := by decide +kernel
theorem dX8_clickOf_79 : decode cX8_clickOf 79 = .ok (.iadd, 1) := by decide +kernel
theorem dX8_clickOf_80 : decode cX8_clickOf 80 = .ok (.iaload, 1) := by decide +kernel
theorem dX8_clickOf_81 : decode cX8_clickOf 81 = .ok (.imul, 1) := by decide +kernel
theorem dX8_clickOf_82 : decode cX8_clickOf 82 = .ok (.goto 4, 3) := by decide +kernel
theorem dX8_clickOf_85 : decode cX8_clickOf 85 = .ok (.iconst 0, 1) := by decide +kernel
theorem dX8_clickOf_86 : decode cX8_clickOf 86 = .ok (.iadd, 1) := by decide +kernel
theorem dX8_clickOf_87 : decode cX8_clickOf 87 = .ok (.istore 4, 2) := by decide +kernel
theorem dX8_clickOf_89 : decode cX8_clickOf 89 = .ok (.iinc 5 1, 3) := by decide +kernel
theorem dX8_clickOf_92 : decode cX8_clickOf 92 = .ok (.goto (-66), 3) := by decide +kernel
theorem dX8_clickOf_95 : decode cX8_clickOf 95 = .ok (.iload 4, 2) := by decide +kernel
theorem dX8_clickOf_97 : decode cX8_clickOf 97 = .ok (.ireturn, 1) := by decide +kernel
theorem dX8_clickAt_0 : decode cX8_clickAt 0 = .ok (.bipush 6, 2) := by decide +kernel
theorem dX8_clickAt_2 : decode cX8_clickAt 2 = .ok (.bipush 6, 2) := by decide +kernel
theorem dX8_clickAt_4 : decode cX8_clickAt 4 = .ok (.iload_n 0, 1) := by decide +kernel
theorem dX8_clickAt_5 : decode cX8_clickAt 5 = .ok (.imul, 1) := by decide +kernel
theorem dX8_clickAt_6 : decode cX8_clickAt 6 = .ok (.iload_n 1, 1) := by decide +kernel
theorem dX8_clickAt_7 : decode cX8_clickAt 7 = .ok (.iadd, 1) := by decide +kernel
theorem dX8_clickAt_8 : decode cX8_clickAt 8 = .ok (.imul, 1) := by decide +kernel
theorem dX8_clickAt_9 : decode cX8_clickAt 9 = .ok (.iload_n 2, 1) := by decide +kernel
theorem dX8_clickAt_10 : decode cX8_clickAt 10 = .ok (.iadd, 1) := by decide +kernel
theorem dX8_clickAt_11 : decode cX8_clickAt 11 = .ok (.ireturn, 1) := by decide +kernel
theorem dX8_laysClicks_0 : decode cX8_laysClicks 0 = .ok (.iconst 0, 1) := by decide +kernel
theorem dX8_laysClicks_1 : decode cX8_laysClicks 1 = .ok (.istore_n 1, 1) := by decide +kernel
theorem dX8_laysClicks_2 : decode cX8_laysClicks 2 = .ok (.iload_n 1, 1) := by decide +kernel
theorem dX8_laysClicks_3 : decode cX8_laysClicks 3 = .ok (.iconst 3, 1) := by decide +kernel
theorem dX8_laysClicks_4 : decode cX8_laysClicks 4 = .ok (.if_icmp .ge 55, 3) := by decide +kernel
theorem dX8_laysClicks_7 : decode cX8_laysClicks 7 = .ok (.iconst 0, 1) := by decide +kernel
theorem dX8_laysClicks_8 : decode cX8_laysClicks 8 = .ok (.istore_n 2, 1) := by decide +kernel
theorem dX8_laysClicks_9 : decode cX8_laysClicks 9 = .ok (.iload_n 2, 1) := by decide +kernel
theorem dX8_laysClicks_10 : decode cX8_laysClicks 10 = .ok (.bipush 6, 2) := by decide +kernel
theorem dX8_laysClicks_12 : decode cX8_laysClicks 12 = .ok (.if_icmp .ge 41, 3) := by decide +kernel
theorem dX8_laysClicks_15 : decode cX8_laysClicks 15 = .ok (.iconst 0, 1) := by decide +kernel
theorem dX8_laysClicks_16 : decode cX8_laysClicks 16 = .ok (.istore_n 3, 1) := by decide +kernel
theorem dX8_laysClicks_17 : decode cX8_laysClicks 17 = .ok (.iload_n 3, 1) := by decide +kernel
theorem dX8_laysClicks_18 : decode cX8_laysClicks 18 = .ok (.bipush 6, 2) := by decide +kernel
theorem dX8_laysClicks_20 : decode cX8_laysClicks 20 = .ok (.if_icmp .ge 27, 3) := by decide +kernel
theorem dX8_laysClicks_23 : decode cX8_laysClicks 23 = .ok (.aload_n 0, 1) := by decide +kernel
theorem dX8_laysClicks_24 : decode cX8_laysClicks 24 = .ok (.getfield 58, 3) := by decide +kernel
theorem dX8_laysClicks_27 : decode cX8_laysClicks 27 = .ok (.iload_n 1, 1) := by decide +kernel
theorem dX8_laysClicks_28 : decode cX8_laysClicks 28 = .ok (.iload_n 2, 1) := by decide +kernel
theorem dX8_laysClicks_29 : decode cX8_laysClicks 29 = .ok (.iload_n 3, 1) := by decide +kernel
theorem dX8_laysClicks_30 : decode cX8_laysClicks 30 = .ok (.invokestatic 304, 3) := by decide +kernel
theorem dX8_laysClicks_33 : decode cX8_laysClicks 33 = .ok (.aload_n 0, 1) := by decide +kernel
theorem dX8_laysClicks_34 : decode cX8_laysClicks 34 = .ok (.iload_n 1, 1) := by decide +kernel
theorem dX8_laysClicks_35 : decode cX8_laysClicks 35 = .ok (.iload_n 2, 1) := by decide +kernel
theorem dX8_laysClicks_36 : decode cX8_laysClicks 36 = .ok (.iload_n 3, 1) := by decide +kernel
theorem dX8_laysClicks_37 : decode cX8_laysClicks 37 = .ok (.invokevirtual 308, 3) := by decide +kernel
theorem dX8_laysClicks_40 : decode cX8_laysClicks 40 = .ok (.iastore, 1) := by decide +kernel
theorem dX8_laysClicks_41 : decode cX8_laysClicks 41 = .ok (.iinc 3 1, 3) := by decide +kernel
theorem dX8_laysClicks_44 : decode cX8_laysClicks 44 = .ok (.goto (-27), 3) := by decide +kernel
theorem dX8_laysClicks_47 : decode cX8_laysClicks 47 = .ok (.iinc 2 1, 3) := by decide +kernel
theorem dX8_laysClicks_50 : decode cX8_laysClicks 50 = .ok (.goto (-41), 3) := by decide +kernel
theorem dX8_laysClicks_53 : decode cX8_laysClicks 53 = .ok (.iinc 1 1, 3) := by decide +kernel
theorem dX8_laysClicks_56 : decode cX8_laysClicks 56 = .ok (.goto (-54), 3) := by decide +kernel
theorem dX8_laysClicks_59 : decode cX8_laysClicks 59 = .ok (.return_, 1) := by decide +kernel
theorem dX8_soundOf_0 : decode cX8_soundOf 0 = .ok (.aload_n 0, 1) := by decide +kernel
theorem dX8_soundOf_1 : decode cX8_soundOf 1 = .ok (.getfield 58, 3) := by decide +kernel
theorem dX8_soundOf_4 : decode cX8_soundOf 4 = .ok (.iconst 0, 1) := by decide +kernel
theorem dX8_soundOf_5 : decode cX8_soundOf 5 = .ok (.iload_n 1, 1) := by decide +kernel
theorem dX8_soundOf_6 : decode cX8_soundOf 6 = .ok (.bipush 36, 2) := by decide +kernel
theorem dX8_soundOf_8 : decode cX8_soundOf 8 = .ok (.idiv, 1) := by decide +kernel
theorem dX8_soundOf_9 : decode cX8_soundOf 9 = .ok (.iload_n 2, 1) := by decide +kernel
theorem dX8_soundOf_10 : decode cX8_soundOf 10 = .ok (.bipush 36, 2) := by decide +kernel
theorem dX8_soundOf_12 : decode cX8_soundOf 12 = .ok (.idiv, 1) := by decide +kernel
theorem dX8_soundOf_13 : decode cX8_soundOf 13 = .ok (.invokestatic 304, 3) := by decide +kernel
theorem dX8_soundOf_16 : decode cX8_soundOf 16 = .ok (.iaload, 1) := by decide +kernel
theorem dX8_soundOf_17 : decode cX8_soundOf 17 = .ok (.aload_n 0, 1) := by decide +kernel
theorem dX8_soundOf_18 : decode cX8_soundOf 18 = .ok (.getfield 58, 3) := by decide +kernel
theorem dX8_soundOf_21 : decode cX8_soundOf 21 = .ok (.iconst 1, 1) := by decide +kernel
theorem dX8_soundOf_22 : decode cX8_soundOf 22 = .ok (.iload_n 1, 1) := by decide +kernel
theorem dX8_soundOf_23 : decode cX8_soundOf 23 = .ok (.bipush 6, 2) := by decide +kernel
theorem dX8_soundOf_25 : decode cX8_soundOf 25 = .ok (.idiv, 1) := by decide +kernel
theorem dX8_soundOf_26 : decode cX8_soundOf 26 = .ok (.bipush 6, 2) := by decide +kernel
theorem dX8_soundOf_28 : decode cX8_soundOf 28 = .ok (.irem, 1) := by decide +kernel
theorem dX8_soundOf_29 : decode cX8_soundOf 29 = .ok (.iload_n 2, 1) := by decide +kernel
theorem dX8_soundOf_30 : decode cX8_soundOf 30 = .ok (.bipush 6, 2) := by decide +kernel
theorem dX8_soundOf_32 : decode cX8_soundOf 32 = .ok (.idiv, 1) := by decide +kernel
theorem dX8_soundOf_33 : decode cX8_soundOf 33 = .ok (.bipush 6, 2) := by decide +kernel
theorem dX8_soundOf_35 : decode cX8_soundOf 35 = .ok (.irem, 1) := by decide +kernel
theorem dX8_soundOf_36 : decode cX8_soundOf 36 = .ok (.invokestatic 304, 3) := by decide +kernel
theorem dX8_soundOf_39 : decode cX8_soundOf 39 = .ok (.iaload, 1) := by decide +kernel
theorem dX8_soundOf_40 : decode cX8_soundOf 40 = .ok (.iadd, 1) := by decide +kernel
theorem dX8_soundOf_41 : decode cX8_soundOf 41 = .ok (.aload_n 0, 1) := by decide +kernel
theorem dX8_soundOf_42 : decode cX8_soundOf 42 = .ok (.getfield 58, 3) := by decide +kernel
theorem dX8_soundOf_45 : decode cX8_soundOf 45 = .ok (.iconst 2, 1) := by decide +kernel
theorem dX8_soundOf_46 : decode cX8_soundOf 46 = .ok (.iload_n 1, 1) := by decide +kernel
theorem dX8_soundOf_47 : decode cX8_soundOf 47 = .ok (.bipush 6, 2) := by decide +kernel
theorem dX8_soundOf_49 : decode cX8_soundOf 49 = .ok (.irem, 1) := by decide +kernel
theorem dX8_soundOf_50 : decode cX8_soundOf 50 = .ok (.iload_n 2, 1) := by decide +kernel
theorem dX8_soundOf_51 : decode cX8_soundOf 51 = .ok (.bipush 6, 2) := by decide +kernel
theorem dX8_soundOf_53 : decode cX8_soundOf 53 = .ok (.irem, 1) := by decide +kernel
theorem dX8_soundOf_54 : decode cX8_soundOf 54 = .ok (.invokestatic 304, 3) := by decide +kernel
theorem dX8_soundOf_57 : decode cX8_soundOf 57 = .ok (.iaload, 1) := by decide +kernel
theorem dX8_soundOf_58 : decode cX8_soundOf 58 = .ok (.iadd, 1) := by decide +kernel
theorem dX8_soundOf_59 : decode cX8_soundOf 59 = .ok (.ireturn, 1) := by decide +kernel
theorem dX8_click_0 : decode cX8_click 0 = .ok (.aload_n 0, 1) := by decide +kernel
theorem dX8_click_1 : decode cX8_click 1 = .ok (.iconst 0, 1) := by decide +kernel
theorem dX8_click_2 : decode cX8_click 2 = .ok (.putfield 3, 3) := by decide +kernel
theorem dX8_click_5 : decode cX8_click 5 = .ok (.aload_n 0, 1) := by decide +kernel
theorem dX8_click_6 : decode cX8_click 6 = .ok (.iload_n 1, 1) := by decide +kernel
theorem dX8_click_7 : decode cX8_click 7 = .ok (.iconst 0, 1) := by decide +kernel
theorem dX8_click_8 : decode cX8_click 8 = .ok (.iconst 2, 1) := by decide +kernel
theorem dX8_click_9 : decode cX8_click 9 = .ok (.invokestatic 85, 3) := by decide +kernel
theorem dX8_click_12 : decode cX8_click 12 = .ok (.ifCond .ne 7, 3) := by decide +kernel
theorem dX8_click_15 : decode cX8_click 15 = .ok (.iconst 1, 1) := by decide +kernel
theorem dX8_click_16 : decode cX8_click 16 = .ok (.goto 4, 3) := by decide +kernel
theorem dX8_click_19 : decode cX8_click 19 = .ok (.iconst 0, 1) := by decide +kernel
theorem dX8_click_20 : decode cX8_click 20 = .ok (.iconst 1, 1) := by decide +kernel
theorem dX8_click_21 : decode cX8_click 21 = .ok (.invokevirtual 281, 3) := by decide +kernel
theorem dX8_click_24 : decode cX8_click 24 = .ok (.ifCond .ne 34, 3) := by decide +kernel
theorem dX8_click_27 : decode cX8_click 27 = .ok (.aload_n 0, 1) := by decide +kernel
theorem dX8_click_28 : decode cX8_click 28 = .ok (.iload_n 2, 1) := by decide +kernel
theorem dX8_click_29 : decode cX8_click 29 = .ok (.iconst 0, 1) := by decide +kernel
theorem dX8_click_30 : decode cX8_click 30 = .ok (.iconst 5, 1) := by decide +kernel
theorem dX8_click_31 : decode cX8_click 31 = .ok (.invokestatic 85, 3) := by decide +kernel
theorem dX8_click_34 : decode cX8_click 34 = .ok (.ifCond .eq 12, 3) := by decide +kernel
theorem dX8_click_37 : decode cX8_click 37 = .ok (.iload_n 3, 1) := by decide +kernel
theorem dX8_click_38 : decode cX8_click 38 = .ok (.iconst 0, 1) := by decide +kernel
theorem dX8_click_39 : decode cX8_click 39 = .ok (.iconst 5, 1) := by decide +kernel
theorem dX8_click_40 : decode cX8_click 40 = .ok (.invokestatic 85, 3) := by decide +kernel
theorem dX8_click_43 : decode cX8_click 43 = .ok (.ifCond .ne 7, 3) := by decide +kernel
theorem dX8_click_46 : decode cX8_click 46 = .ok (.iconst 1, 1) := by decide +kernel
theorem dX8_click_47 : decode cX8_click 47 = .ok (.goto 4, 3) := by decide +kernel
theorem dX8_click_50 : decode cX8_click 50 = .ok (.iconst 0, 1) := by decide +kernel
theorem dX8_click_51 : decode cX8_click 51 = .ok (.iconst 2, 1) := by decide +kernel
theorem dX8_click_52 : decode cX8_click 52 = .ok (.invokevirtual 281, 3) := by decide +kernel
theorem dX8_click_55 : decode cX8_click 55 = .ok (.ifCond .eq 5, 3) := by decide +kernel
theorem dX8_click_58 : decode cX8_click 58 = .ok (.iconst 0, 1) := by decide +kernel
theorem dX8_click_59 : decode cX8_click 59 = .ok (.ireturn, 1) := by decide +kernel
theorem dX8_click_60 : decode cX8_click 60 = .ok (.aload_n 0, 1) := by decide +kernel
theorem dX8_click_61 : decode cX8_click 61 = .ok (.iload_n 1, 1) := by decide +kernel
theorem dX8_click_62 : decode cX8_click 62 = .ok (.iload_n 2, 1) := by decide +kernel
theorem dX8_click_63 : decode cX8_click 63 = .ok (.iload_n 3, 1) := by decide +kernel
theorem dX8_click_64 : decode cX8_click 64 = .ok (.invokevirtual 308, 3) := by decide +kernel
theorem dX8_click_67 : decode cX8_click 67 = .ok (.ireturn, 1) := by decide +kernel
theorem dX8_sound_0 : decode cX8_sound 0 = .ok (.aload_n 0, 1) := by decide +kernel
theorem dX8_sound_1 : decode cX8_sound 1 = .ok (.iconst 0, 1) := by decide +kernel
theorem dX8_sound_2 : decode cX8_sound 2 = .ok (.putfield 3, 3) := by decide +kernel
theorem dX8_sound_5 : decode cX8_sound 5 = .ok (.aload_n 0, 1) := by decide +kernel
theorem dX8_sound_6 : decode cX8_sound 6 = .ok (.iload_n 1, 1) := by decide +kernel
theorem dX8_sound_7 : decode cX8_sound 7 = .ok (.invokestatic 311, 3) := by decide +kernel
theorem dX8_sound_10 : decode cX8_sound 10 = .ok (.ifCond .ne 10, 3) := by decide +kernel
theorem dX8_sound_13 : decode cX8_sound 13 = .ok (.iload_n 2, 1) := by decide +kernel
theorem dX8_sound_14 : decode cX8_sound 14 = .ok (.invokestatic 311, 3) := by decide +kernel
theorem dX8_sound_17 : decode cX8_sound 17 = .ok (.ifCond .eq 7, 3) := by decide +kernel
theorem dX8_sound_20 : decode cX8_sound 20 = .ok (.iconst 1, 1) := by decide +kernel
theorem dX8_sound_21 : decode cX8_sound 21 = .ok (.goto 4, 3) := by decide +kernel
theorem dX8_sound_24 : decode cX8_sound 24 = .ok (.iconst 0, 1) := by decide +kernel
theorem dX8_sound_25 : decode cX8_sound 25 = .ok (.iconst 1, 1) := by decide +kernel
theorem dX8_sound_26 : decode cX8_sound 26 = .ok (.invokevirtual 281, 3) := by decide +kernel
theorem dX8_sound_29 : decode cX8_sound 29 = .ok (.ifCond .eq 5, 3) := by decide +kernel
theorem dX8_sound_32 : decode cX8_sound 32 = .ok (.iconst 0, 1) := by decide +kernel
theorem dX8_sound_33 : decode cX8_sound 33 = .ok (.ireturn, 1) := by decide +kernel
theorem dX8_sound_34 : decode cX8_sound 34 = .ok (.aload_n 0, 1) := by decide +kernel
theorem dX8_sound_35 : decode cX8_sound 35 = .ok (.invokevirtual 314, 3) := by decide +kernel
theorem dX8_sound_38 : decode cX8_sound 38 = .ok (.aload_n 0, 1) := by decide +kernel
theorem dX8_sound_39 : decode cX8_sound 39 = .ok (.iload_n 1, 1) := by decide +kernel
theorem dX8_sound_40 : decode cX8_sound 40 = .ok (.iload_n 2, 1) := by decide +kernel
theorem dX8_sound_41 : decode cX8_sound 41 = .ok (.invokevirtual 317, 3) := by decide +kernel
theorem dX8_sound_44 : decode cX8_sound 44 = .ok (.ireturn, 1) := by decide +kernel
theorem dX8_isGuarded_0 : decode cX8_isGuarded 0 = .ok (.aload_n 0, 1) := by decide +kernel
theorem dX8_isGuarded_1 : decode cX8_isGuarded 1 = .ok (.iload_n 1, 1) := by decide +kernel
theorem dX8_isGuarded_2 : decode cX8_isGuarded 2 = .ok (.iconst 1, 1) := by decide +kernel
theorem dX8_isGuarded_3 : decode cX8_isGuarded 3 = .ok (.invokevirtual 167, 3) := by decide +kernel
theorem dX8_isGuarded_6 : decode cX8_isGuarded 6 = .ok (.iload_n 2, 1) := by decide +kernel
theorem dX8_isGuarded_7 : decode cX8_isGuarded 7 = .ok (.bipush 7, 2) := by decide +kernel
theorem dX8_isGuarded_9 : decode cX8_isGuarded 9 = .ok (.irem, 1) := by decide +kernel
theorem dX8_isGuarded_10 : decode cX8_isGuarded 10 = .ok (.invokestatic 320, 3) := by decide +kernel
theorem dX8_isGuarded_13 : decode cX8_isGuarded 13 = .ok (.ireturn, 1) := by decide +kernel
theorem dX8_soonOf_0 : decode cX8_soonOf 0 = .ok (.iconst 0, 1) := by decide +kernel
theorem dX8_soonOf_1 : decode cX8_soonOf 1 = .ok (.istore_n 2, 1) := by decide +kernel
theorem dX8_soonOf_2 : decode cX8_soonOf 2 = .ok (.iload_n 2, 1) := by decide +kernel
theorem dX8_soonOf_3 : decode cX8_soonOf 3 = .ok (.bipush 7, 2) := by decide +kernel
theorem dX8_soonOf_5 : decode cX8_soonOf 5 = .ok (.if_icmp .ge 33, 3) := by decide +kernel
theorem dX8_soonOf_8 : decode cX8_soonOf 8 = .ok (.aload_n 0, 1) := by decide +kernel
theorem dX8_soonOf_9 : decode cX8_soonOf 9 = .ok (.iload_n 1, 1) := by decide +kernel
theorem dX8_soonOf_10 : decode cX8_soonOf 10 = .ok (.sipush 9999, 3) := by decide +kernel
theorem dX8_soonOf_13 : decode cX8_soonOf 13 = .ok (.aload_n 0, 1) := by decide +kernel
theorem dX8_soonOf_14 : decode cX8_soonOf 14 = .ok (.getfield 13, 3) := by decide +kernel
theorem dX8_soonOf_17 : decode cX8_soonOf 17 = .ok (.iconst 5, 1) := by decide +kernel
theorem dX8_soonOf_18 : decode cX8_soonOf 18 = .ok (.iaload, 1) := by decide +kernel
theorem dX8_soonOf_19 : decode cX8_soonOf 19 = .ok (.iload_n 2, 1) := by decide +kernel
theorem dX8_soonOf_20 : decode cX8_soonOf 20 = .ok (.iadd, 1) := by decide +kernel
theorem dX8_soonOf_21 : decode cX8_soonOf 21 = .ok (.invokestatic 290, 3) := by decide +kernel
theorem dX8_soonOf_24 : decode cX8_soonOf 24 = .ok (.invokevirtual 323, 3) := by decide +kernel
theorem dX8_soonOf_27 : decode cX8_soonOf 27 = .ok (.ifCond .ne 5, 3) := by decide +kernel
theorem dX8_soonOf_30 : decode cX8_soonOf 30 = .ok (.iload_n 2, 1) := by decide +kernel
theorem dX8_soonOf_31 : decode cX8_soonOf 31 = .ok (.ireturn, 1) := by decide +kernel
theorem dX8_soonOf_32 : decode cX8_soonOf 32 = .ok (.iinc 2 1, 3) := by decide +kernel
theorem dX8_soonOf_35 : decode cX8_soonOf 35 = .ok (.goto (-33), 3) := by decide +kernel
theorem dX8_soonOf_38 : decode cX8_soonOf 38 = .ok (.iconst (-1), 1) := by decide +kernel
theorem dX8_soonOf_39 : decode cX8_soonOf 39 = .ok (.ireturn, 1) := by decide +kernel
theorem dX8_longOf_0 : decode cX8_longOf 0 = .ok (.iload_n 0, 1) := by decide +kernel
theorem dX8_longOf_1 : decode cX8_longOf 1 = .ok (.ifCond .ne 6, 3) := by decide +kernel
theorem dX8_longOf_4 : decode cX8_longOf 4 = .ok (.bipush 7, 2) := by decide +kernel
theorem dX8_longOf_6 : decode cX8_longOf 6 = .ok (.ireturn, 1) := by decide +kernel
theorem dX8_longOf_7 : decode cX8_longOf 7 = .ok (.iconst 0, 1) := by decide +kernel
theorem dX8_longOf_8 : decode cX8_longOf 8 = .ok (.istore_n 1, 1) := by decide +kernel
theorem dX8_longOf_9 : decode cX8_longOf 9 = .ok (.iconst 0, 1) := by decide +kernel
theorem dX8_longOf_10 : decode cX8_longOf 10 = .ok (.istore_n 2, 1) := by decide +kernel
theorem dX8_longOf_11 : decode cX8_longOf 11 = .ok (.iload_n 2, 1) := by decide +kernel
theorem dX8_longOf_12 : decode cX8_longOf 12 = .ok (.bipush 7, 2) := by decide +kernel
theorem dX8_longOf_14 : decode cX8_longOf 14 = .ok (.if_icmp .ge 36, 3) := by decide +kernel
theorem dX8_longOf_17 : decode cX8_longOf 17 = .ok (.iconst 0, 1) := by decide +kernel
theorem dX8_longOf_18 : decode cX8_longOf 18 = .ok (.istore_n 3, 1) := by decide +kernel
theorem dX8_longOf_19 : decode cX8_longOf 19 = .ok (.iload_n 0, 1) := by decide +kernel
theorem dX8_longOf_20 : decode cX8_longOf 20 = .ok (.iload_n 2, 1) := by decide +kernel
theorem dX8_longOf_21 : decode cX8_longOf 21 = .ok (.iload_n 3, 1) := by decide +kernel
theorem dX8_longOf_22 : decode cX8_longOf 22 = .ok (.iadd, 1) := by decide +kernel
theorem dX8_longOf_23 : decode cX8_longOf 23 = .ok (.bipush 7, 2) := by decide +kernel
theorem dX8_longOf_25 : decode cX8_longOf 25 = .ok (.irem, 1) := by decide +kernel
theorem dX8_longOf_26 : decode cX8_longOf 26 = .ok (.invokestatic 320, 3) := by decide +kernel
theorem dX8_longOf_29 : decode cX8_longOf 29 = .ok (.ifCond .ne 9, 3) := by decide +kernel
theorem dX8_longOf_32 : decode cX8_longOf 32 = .ok (.iinc 3 1, 3) := by decide +kernel
theorem dX8_longOf_35 : decode cX8_longOf 35 = .ok (.goto (-16), 3) := by decide +kernel
theorem dX8_longOf_38 : decode cX8_longOf 38 = .ok (.iload_n 1, 1) := by decide +kernel
theorem dX8_longOf_39 : decode cX8_longOf 39 = .ok (.iload_n 3, 1) := by decide +kernel
theorem dX8_longOf_40 : decode cX8_longOf 40 = .ok (.invokestatic 326, 3) := by decide +kernel
theorem dX8_longOf_43 : decode cX8_longOf 43 = .ok (.istore_n 1, 1) := by decide +kernel
theorem dX8_longOf_44 : decode cX8_longOf 44 = .ok (.iinc 2 1, 3) := by decide +kernel
theorem dX8_longOf_47 : decode cX8_longOf 47 = .ok (.goto (-36), 3) := by decide +kernel
theorem dX8_longOf_50 : decode cX8_longOf 50 = .ok (.iload_n 1, 1) := by decide +kernel
theorem dX8_longOf_51 : decode cX8_longOf 51 = .ok (.ireturn, 1) := by decide +kernel
theorem dX8_vault_0 : decode cX8_vault 0 = .ok (.aload_n 0, 1) := by decide +kernel
theorem dX8_vault_1 : decode cX8_vault 1 = .ok (.iconst 0, 1) := by decide +kernel
theorem dX8_vault_2 : decode cX8_vault 2 = .ok (.putfield 3, 3) := by decide +kernel
theorem dX8_vault_5 : decode cX8_vault 5 = .ok (.aload_n 0, 1) := by decide +kernel
theorem dX8_vault_6 : decode cX8_vault 6 = .ok (.aload_n 0, 1) := by decide +kernel
theorem dX8_vault_7 : decode cX8_vault 7 = .ok (.iload_n 1, 1) := by decide +kernel
theorem dX8_vault_8 : decode cX8_vault 8 = .ok (.invokevirtual 329, 3) := by decide +kernel
theorem dX8_vault_11 : decode cX8_vault 11 = .ok (.iconst 1, 1) := by decide +kernel
theorem dX8_vault_12 : decode cX8_vault 12 = .ok (.invokevirtual 281, 3) := by decide +kernel
theorem dX8_vault_15 : decode cX8_vault 15 = .ok (.ifCond .ne 26, 3) := by decide +kernel
theorem dX8_vault_18 : decode cX8_vault 18 = .ok (.aload_n 0, 1) := by decide +kernel
theorem dX8_vault_19 : decode cX8_vault 19 = .ok (.iload_n 2, 1) := by decide +kernel
theorem dX8_vault_20 : decode cX8_vault 20 = .ok (.iconst 0, 1) := by decide +kernel
theorem dX8_vault_21 : decode cX8_vault 21 = .ok (.bipush 6, 2) := by decide +kernel
theorem dX8_vault_23 : decode cX8_vault 23 = .ok (.invokestatic 85, 3) := by decide +kernel
theorem dX8_vault_26 : decode cX8_vault 26 = .ok (.ifCond .ne 7, 3) := by decide +kernel
theorem dX8_vault_29 : decode cX8_vault 29 = .ok (.iconst 1, 1) := by decide +kernel
theorem dX8_vault_30 : decode cX8_vault 30 = .ok (.goto 4, 3) := by decide +kernel
theorem dX8_vault_33 : decode cX8_vault 33 = .ok (.iconst 0, 1) := by decide +kernel
theorem dX8_vault_34 : decode cX8_vault 34 = .ok (.iconst 2, 1) := by decide +kernel
theorem dX8_vault_35 : decode cX8_vault 35 = .ok (.invokevirtual 281, 3) := by decide +kernel
theorem dX8_vault_38 : decode cX8_vault 38 = .ok (.ifCond .eq 5, 3) := by decide +kernel
theorem dX8_vault_41 : decode cX8_vault 41 = .ok (.iconst 0, 1) := by decide +kernel
theorem dX8_vault_42 : decode cX8_vault 42 = .ok (.ireturn, 1) := by decide +kernel
theorem dX8_vault_43 : decode cX8_vault 43 = .ok (.iload_n 2, 1) := by decide +kernel
theorem dX8_vault_44 : decode cX8_vault 44 = .ok (.tableswitch 56 4 6 #[28, 40, 46], 28) := by decide +kernel
theorem dX8_vault_72 : decode cX8_vault 72 = .ok (.bipush 127, 2) := by decide +kernel
theorem dX8_vault_74 : decode cX8_vault 74 = .ok (.aload_n 0, 1) := by decide +kernel
theorem dX8_vault_75 : decode cX8_vault 75 = .ok (.iload_n 1, 1) := by decide +kernel
theorem dX8_vault_76 : decode cX8_vault 76 = .ok (.iconst 1, 1) := by decide +kernel
theorem dX8_vault_77 : decode cX8_vault 77 = .ok (.invokevirtual 167, 3) := by decide +kernel
theorem dX8_vault_80 : decode cX8_vault 80 = .ok (.iconst (-1), 1) := by decide +kernel
theorem dX8_vault_81 : decode cX8_vault 81 = .ok (.ixor, 1) := by decide +kernel
theorem dX8_vault_82 : decode cX8_vault 82 = .ok (.iand, 1) := by decide +kernel
theorem dX8_vault_83 : decode cX8_vault 83 = .ok (.ireturn, 1) := by decide +kernel
theorem dX8_vault_84 : decode cX8_vault 84 = .ok (.aload_n 0, 1) := by decide +kernel
theorem dX8_vault_85 : decode cX8_vault 85 = .ok (.iload_n 1, 1) := by decide +kernel
theorem dX8_vault_86 : decode cX8_vault 86 = .ok (.invokevirtual 332, 3) := by decide +kernel
theorem dX8_vault_89 : decode cX8_vault 89 = .ok (.ireturn, 1) := by decide +kernel
theorem dX8_vault_90 : decode cX8_vault 90 = .ok (.aload_n 0, 1) := by decide +kernel
theorem dX8_vault_91 : decode cX8_vault 91 = .ok (.iload_n 1, 1) := by decide +kernel
theorem dX8_vault_92 : decode cX8_vault 92 = .ok (.iconst 1, 1) := by decide +kernel
theorem dX8_vault_93 : decode cX8_vault 93 = .ok (.invokevirtual 167, 3) := by decide +kernel
theorem dX8_vault_96 : decode cX8_vault 96 = .ok (.invokestatic 335, 3) := by decide +kernel
theorem dX8_vault_99 : decode cX8_vault 99 = .ok (.ireturn, 1) := by decide +kernel
theorem dX8_vault_100 : decode cX8_vault 100 = .ok (.aload_n 0, 1) := by decide +kernel
theorem dX8_vault_101 : decode cX8_vault 101 = .ok (.iload_n 1, 1) := by decide +kernel
theorem dX8_vault_102 : decode cX8_vault 102 = .ok (.iload_n 2, 1) := by decide +kernel
theorem dX8_vault_103 : decode cX8_vault 103 = .ok (.invokevirtual 167, 3) := by decide +kernel
theorem dX8_vault_106 : decode cX8_vault 106 = .ok (.ireturn, 1) := by decide +kernel
theorem dX8_rota_0 : decode cX8_rota 0 = .ok (.aload_n 0, 1) := by decide +kernel
theorem dX8_rota_1 : decode cX8_rota 1 = .ok (.iconst 0, 1) := by decide +kernel
theorem dX8_rota_2 : decode cX8_rota 2 = .ok (.putfield 3, 3) := by decide +kernel
theorem dX8_rota_5 : decode cX8_rota 5 = .ok (.aload_n 0, 1) := by decide +kernel
theorem dX8_rota_6 : decode cX8_rota 6 = .ok (.aload_n 0, 1) := by decide +kernel
theorem dX8_rota_7 : decode cX8_rota 7 = .ok (.iload_n 1, 1) := by decide +kernel
theorem dX8_rota_8 : decode cX8_rota 8 = .ok (.invokevirtual 329, 3) := by decide +kernel
theorem dX8_rota_11 : decode cX8_rota 11 = .ok (.iconst 1, 1) := by decide +kernel
theorem dX8_rota_12 : decode cX8_rota 12 = .ok (.invokevirtual 281, 3) := by decide +kernel
theorem dX8_rota_15 : decode cX8_rota 15 = .ok (.ifCond .ne 26, 3) := by decide +kernel
theorem dX8_rota_18 : decode cX8_rota 18 = .ok (.aload_n 0, 1) := by decide +kernel
theorem dX8_rota_19 : decode cX8_rota 19 = .ok (.iload_n 2, 1) := by decide +kernel
theorem dX8_rota_20 : decode cX8_rota 20 = .ok (.iconst 0, 1) := by decide +kernel
theorem dX8_rota_21 : decode cX8_rota 21 = .ok (.bipush 6, 2) := by decide +kernel
theorem dX8_rota_23 : decode cX8_rota 23 = .ok (.invokestatic 85, 3) := by decide +kernel
theorem dX8_rota_26 : decode cX8_rota 26 = .ok (.ifCond .ne 7, 3) := by decide +kernel
theorem dX8_rota_29 : decode cX8_rota 29 = .ok (.iconst 1, 1) := by decide +kernel
theorem dX8_rota_30 : decode cX8_rota 30 = .ok (.goto 4, 3) := by decide +kernel
theorem dX8_rota_33 : decode cX8_rota 33 = .ok (.iconst 0, 1) := by decide +kernel
theorem dX8_rota_34 : decode cX8_rota 34 = .ok (.iconst 2, 1) := by decide +kernel
theorem dX8_rota_35 : decode cX8_rota 35 = .ok (.invokevirtual 281, 3) := by decide +kernel
theorem dX8_rota_38 : decode cX8_rota 38 = .ok (.ifCond .eq 5, 3) := by decide +kernel
theorem dX8_rota_41 : decode cX8_rota 41 = .ok (.iconst 0, 1) := by decide +kernel
theorem dX8_rota_42 : decode cX8_rota 42 = .ok (.ireturn, 1) := by decide +kernel
theorem dX8_rota_43 : decode cX8_rota 43 = .ok (.aload_n 0, 1) := by decide +kernel
theorem dX8_rota_44 : decode cX8_rota 44 = .ok (.iload_n 1, 1) := by decide +kernel
theorem dX8_rota_45 : decode cX8_rota 45 = .ok (.iconst 1, 1) := by decide +kernel
theorem dX8_rota_46 : decode cX8_rota 46 = .ok (.invokevirtual 167, 3) := by decide +kernel
theorem dX8_rota_49 : decode cX8_rota 49 = .ok (.istore_n 3, 1) := by decide +kernel
theorem dX8_rota_50 : decode cX8_rota 50 = .ok (.bipush 127, 2) := by decide +kernel
theorem dX8_rota_52 : decode cX8_rota 52 = .ok (.iload_n 3, 1) := by decide +kernel
theorem dX8_rota_53 : decode cX8_rota 53 = .ok (.iconst (-1), 1) := by decide +kernel
theorem dX8_rota_54 : decode cX8_rota 54 = .ok (.ixor, 1) := by decide +kernel
theorem dX8_rota_55 : decode cX8_rota 55 = .ok (.iand, 1) := by decide +kernel
theorem dX8_rota_56 : decode cX8_rota 56 = .ok (.istore 4, 2) := by decide +kernel
theorem dX8_rota_58 : decode cX8_rota 58 = .ok (.iload 4, 2) := by decide +kernel
theorem dX8_rota_60 : decode cX8_rota 60 = .ok (.istore 5, 2) := by decide +kernel
theorem dX8_rota_62 : decode cX8_rota 62 = .ok (.iload 5, 2) := by decide +kernel
theorem dX8_rota_64 : decode cX8_rota 64 = .ok (.ifCond .lt 61, 3) := by decide +kernel
theorem dX8_rota_67 : decode cX8_rota 67 = .ok (.iload 5, 2) := by decide +kernel
theorem dX8_rota_69 : decode cX8_rota 69 = .ok (.iload_n 3, 1) := by decide +kernel
theorem dX8_rota_70 : decode cX8_rota 70 = .ok (.iand, 1) := by decide +kernel
theorem dX8_rota_71 : decode cX8_rota 71 = .ok (.ifCond .ne 31, 3) := by decide +kernel
theorem dX8_rota_74 : decode cX8_rota 74 = .ok (.iload 5, 2) := by decide +kernel
theorem dX8_rota_76 : decode cX8_rota 76 = .ok (.invokestatic 338, 3) := by decide +kernel
theorem dX8_rota_79 : decode cX8_rota 79 = .ok (.iload 4, 2) := by decide +kernel
theorem dX8_rota_81 : decode cX8_rota 81 = .ok (.invokestatic 338, 3) := by decide +kernel
theorem dX8_rota_84 : decode cX8_rota 84 = .ok (.if_icmp .gt 18, 3) := by decide +kernel
theorem dX8_rota_87 : decode cX8_rota 87 = .ok (.iload_n 3, 1) := by decide +kernel
theorem dX8_rota_88 : decode cX8_rota 88 = .ok (.iload 5, 2) := by decide +kernel
theorem dX8_rota_90 : decode cX8_rota 90 = .ok (.ior, 1) := by decide +kernel
theorem dX8_rota_91 : decode cX8_rota 91 = .ok (.invokestatic 335, 3) := by decide +kernel
theorem dX8_rota_94 : decode cX8_rota 94 = .ok (.iload_n 2, 1) := by decide +kernel
theorem dX8_rota_95 : decode cX8_rota 95 = .ok (.if_icmp .gt 7, 3) := by decide +kernel
theorem dX8_rota_98 : decode cX8_rota 98 = .ok (.iconst 1, 1) := by decide +kernel
theorem dX8_rota_99 : decode cX8_rota 99 = .ok (.goto 4, 3) := by decide +kernel
theorem dX8_rota_102 : decode cX8_rota 102 = .ok (.iconst 0, 1) := by decide +kernel
theorem dX8_rota_103 : decode cX8_rota 103 = .ok (.istore 6, 2) := by decide +kernel
theorem dX8_rota_105 : decode cX8_rota 105 = .ok (.iload 6, 2) := by decide +kernel
theorem dX8_rota_107 : decode cX8_rota 107 = .ok (.ifCond .eq 8, 3) := by decide +kernel
theorem dX8_rota_110 : decode cX8_rota 110 = .ok (.iload 5, 2) := by decide +kernel
theorem dX8_rota_112 : decode cX8_rota 112 = .ok (.goto 5, 3) := by decide +kernel
theorem dX8_rota_115 : decode cX8_rota 115 = .ok (.iload 4, 2) := by decide +kernel
theorem dX8_rota_117 : decode cX8_rota 117 = .ok (.istore 4, 2) := by decide +kernel
theorem dX8_rota_119 : decode cX8_rota 119 = .ok (.iinc 5 (-1), 3) := by decide +kernel
theorem dX8_rota_122 : decode cX8_rota 122 = .ok (.goto (-60), 3) := by decide +kernel
theorem dX8_rota_125 : decode cX8_rota 125 = .ok (.iload 4, 2) := by decide +kernel
theorem dX8_rota_127 : decode cX8_rota 127 = .ok (.ireturn, 1) := by decide +kernel
theorem dX8_left_0 : decode cX8_left 0 = .ok (.aload_n 0, 1) := by decide +kernel
theorem dX8_left_1 : decode cX8_left 1 = .ok (.iconst 0, 1) := by decide +kernel
theorem dX8_left_2 : decode cX8_left 2 = .ok (.putfield 3, 3) := by decide +kernel
theorem dX8_left_5 : decode cX8_left 5 = .ok (.aload_n 0, 1) := by decide +kernel
theorem dX8_left_6 : decode cX8_left 6 = .ok (.aload_n 0, 1) := by decide +kernel
theorem dX8_left_7 : decode cX8_left 7 = .ok (.iload_n 1, 1) := by decide +kernel
theorem dX8_left_8 : decode cX8_left 8 = .ok (.invokevirtual 342, 3) := by decide +kernel
theorem dX8_left_11 : decode cX8_left 11 = .ok (.ifCond .ne 11, 3) := by decide +kernel
theorem dX8_left_14 : decode cX8_left 14 = .ok (.aload_n 0, 1) := by decide +kernel
theorem dX8_left_15 : decode cX8_left 15 = .ok (.iload_n 2, 1) := by decide +kernel
theorem dX8_left_16 : decode cX8_left 16 = .ok (.invokevirtual 329, 3) := by decide +kernel
theorem dX8_left_19 : decode cX8_left 19 = .ok (.ifCond .eq 7, 3) := by decide +kernel
theorem dX8_left_22 : decode cX8_left 22 = .ok (.iconst 1, 1) := by decide +kernel
theorem dX8_left_23 : decode cX8_left 23 = .ok (.goto 4, 3) := by decide +kernel
theorem dX8_left_26 : decode cX8_left 26 = .ok (.iconst 0, 1) := by decide +kernel
theorem dX8_left_27 : decode cX8_left 27 = .ok (.iconst 1, 1) := by decide +kernel
theorem dX8_left_28 : decode cX8_left 28 = .ok (.invokevirtual 281, 3) := by decide +kernel
theorem dX8_left_31 : decode cX8_left 31 = .ok (.ifCond .eq 7, 3) := by decide +kernel
theorem dX8_left_34 : decode cX8_left 34 = .ok (.iconst 0, 1) := by decide +kernel
theorem dX8_left_35 : decode cX8_left 35 = .ok (.goto 9, 3) := by decide +kernel
theorem dX8_left_38 : decode cX8_left 38 = .ok (.aload_n 0, 1) := by decide +kernel
theorem dX8_left_39 : decode cX8_left 39 = .ok (.iload_n 1, 1) := by decide +kernel
theorem dX8_left_40 : decode cX8_left 40 = .ok (.iload_n 2, 1) := by decide +kernel
theorem dX8_left_41 : decode cX8_left 41 = .ok (.invokevirtual 345, 3) := by decide +kernel
theorem dX8_left_44 : decode cX8_left 44 = .ok (.ireturn, 1) := by decide +kernel
theorem dX8_code_0 : decode cX8_code 0 = .ok (.aload_n 0, 1) := by decide +kernel
theorem dX8_code_1 : decode cX8_code 1 = .ok (.iconst 0, 1) := by decide +kernel
theorem dX8_code_2 : decode cX8_code 2 = .ok (.putfield 3, 3) := by decide +kernel
theorem dX8_code_5 : decode cX8_code 5 = .ok (.aload_n 0, 1) := by decide +kernel
theorem dX8_code_6 : decode cX8_code 6 = .ok (.aload_n 0, 1) := by decide +kernel
theorem dX8_code_7 : decode cX8_code 7 = .ok (.iload_n 1, 1) := by decide +kernel
theorem dX8_code_8 : decode cX8_code 8 = .ok (.invokevirtual 342, 3) := by decide +kernel
theorem dX8_code_11 : decode cX8_code 11 = .ok (.ifCond .ne 11, 3) := by decide +kernel
theorem dX8_code_14 : decode cX8_code 14 = .ok (.aload_n 0, 1) := by decide +kernel
theorem dX8_code_15 : decode cX8_code 15 = .ok (.iload_n 2, 1) := by decide +kernel
theorem dX8_code_16 : decode cX8_code 16 = .ok (.invokevirtual 329, 3) := by decide +kernel
theorem dX8_code_19 : decode cX8_code 19 = .ok (.ifCond .eq 7, 3) := by decide +kernel
theorem dX8_code_22 : decode cX8_code 22 = .ok (.iconst 1, 1) := by decide +kernel
theorem dX8_code_23 : decode cX8_code 23 = .ok (.goto 4, 3) := by decide +kernel
theorem dX8_code_26 : decode cX8_code 26 = .ok (.iconst 0, 1) := by decide +kernel
theorem dX8_code_27 : decode cX8_code 27 = .ok (.iconst 1, 1) := by decide +kernel
theorem dX8_code_28 : decode cX8_code 28 = .ok (.invokevirtual 281, 3) := by decide +kernel
theorem dX8_code_31 : decode cX8_code 31 = .ok (.ifCond .eq 5, 3) := by decide +kernel
theorem dX8_code_34 : decode cX8_code 34 = .ok (.iconst 0, 1) := by decide +kernel
theorem dX8_code_35 : decode cX8_code 35 = .ok (.ireturn, 1) := by decide +kernel
theorem dX8_code_36 : decode cX8_code 36 = .ok (.iconst 0, 1) := by decide +kernel
theorem dX8_code_37 : decode cX8_code 37 = .ok (.istore 4, 2) := by decide +kernel
theorem dX8_code_39 : decode cX8_code 39 = .ok (.iconst 0, 1) := by decide +kernel
theorem dX8_code_40 : decode cX8_code 40 = .ok (.istore 5, 2) := by decide +kernel
theorem dX8_code_42 : decode cX8_code 42 = .ok (.iload 5, 2) := by decide +kernel
theorem dX8_code_44 : decode cX8_code 44 = .ok (.sipush 216, 3) := by decide +kernel
theorem dX8_code_47 : decode cX8_code 47 = .ok (.if_icmp .ge 35, 3) := by decide +kernel
theorem dX8_code_50 : decode cX8_code 50 = .ok (.aload_n 0, 1) := by decide +kernel
theorem dX8_code_51 : decode cX8_code 51 = .ok (.iload_n 1, 1) := by decide +kernel
theorem dX8_code_52 : decode cX8_code 52 = .ok (.iload_n 2, 1) := by decide +kernel
theorem dX8_code_53 : decode cX8_code 53 = .ok (.iload 5, 2) := by decide +kernel
theorem dX8_code_55 : decode cX8_code 55 = .ok (.invokevirtual 348, 3) := by decide +kernel
theorem dX8_code_58 : decode cX8_code 58 = .ok (.ifCond .ne 6, 3) := by decide +kernel
theorem dX8_code_61 : decode cX8_code 61 = .ok (.goto 15, 3) := by decide +kernel
theorem dX8_code_64 : decode cX8_code 64 = .ok (.iload 4, 2) := by decide +kernel
theorem dX8_code_66 : decode cX8_code 66 = .ok (.iload_n 3, 1) := by decide +kernel
theorem dX8_code_67 : decode cX8_code 67 = .ok (.if_icmp .ne 6, 3) := by decide +kernel
theorem dX8_code_70 : decode cX8_code 70 = .ok (.iload 5, 2) := by decide +kernel
theorem dX8_code_72 : decode cX8_code 72 = .ok (.ireturn, 1) := by decide +kernel
theorem dX8_code_73 : decode cX8_code 73 = .ok (.iinc 4 1, 3) := by decide +kernel
theorem dX8_code_76 : decode cX8_code 76 = .ok (.iinc 5 1, 3) := by decide +kernel
theorem dX8_code_79 : decode cX8_code 79 = .ok (.goto (-37), 3) := by decide +kernel
theorem dX8_code_82 : decode cX8_code 82 = .ok (.iconst (-1), 1) := by decide +kernel
theorem dX8_code_83 : decode cX8_code 83 = .ok (.ireturn, 1) := by decide +kernel
theorem dX8_figuresOf_0 : decode cX8_figuresOf 0 = .ok (.iconst 0, 1) := by decide +kernel
theorem dX8_figuresOf_1 : decode cX8_figuresOf 1 = .ok (.istore 4, 2) := by decide +kernel
theorem dX8_figuresOf_3 : decode cX8_figuresOf 3 = .ok (.iconst 0, 1) := by decide +kernel
theorem dX8_figuresOf_4 : decode cX8_figuresOf 4 = .ok (.istore 5, 2) := by decide +kernel
theorem dX8_figuresOf_6 : decode cX8_figuresOf 6 = .ok (.iload 5, 2) := by decide +kernel
theorem dX8_figuresOf_8 : decode cX8_figuresOf 8 = .ok (.sipush 216, 3) := by decide +kernel
theorem dX8_figuresOf_11 : decode cX8_figuresOf 11 = .ok (.if_icmp .ge 37, 3) := by decide +kernel
theorem dX8_figuresOf_14 : decode cX8_figuresOf 14 = .ok (.iload 4, 2) := by decide +kernel
theorem dX8_figuresOf_16 : decode cX8_figuresOf 16 = .ok (.aload_n 0, 1) := by decide +kernel
theorem dX8_figuresOf_17 : decode cX8_figuresOf 17 = .ok (.iload_n 1, 1) := by decide +kernel
theorem dX8_figuresOf_18 : decode cX8_figuresOf 18 = .ok (.iload_n 2, 1) := by decide +kernel
theorem dX8_figuresOf_19 : decode cX8_figuresOf 19 = .ok (.iload 5, 2) := by decide +kernel
theorem dX8_figuresOf_21 : decode cX8_figuresOf 21 = .ok (.invokevirtual 348, 3) := by decide +kernel
theorem dX8_figuresOf_24 : decode cX8_figuresOf 24 = .ok (.ifCond .eq 14, 3) := by decide +kernel
theorem dX8_figuresOf_27 : decode cX8_figuresOf 27 = .ok (.iconst 1, 1) := by decide +kernel
theorem dX8_figuresOf_28 : decode cX8_figuresOf 28 = .ok (.iload 5, 2) := by decide +kernel
theorem dX8_figuresOf_30 : decode cX8_figuresOf 30 = .ok (.iload_n 3, 1) := by decide +kernel
theorem dX8_figuresOf_31 : decode cX8_figuresOf 31 = .ok (.invokestatic 351, 3) := by decide +kernel
theorem dX8_figuresOf_34 : decode cX8_figuresOf 34 = .ok (.ishl, 1) := by decide +kernel
theorem dX8_figuresOf_35 : decode cX8_figuresOf 35 = .ok (.goto 4, 3) := by decide +kernel
theorem dX8_figuresOf_38 : decode cX8_figuresOf 38 = .ok (.iconst 0, 1) := by decide +kernel
theorem dX8_figuresOf_39 : decode cX8_figuresOf 39 = .ok (.ior, 1) := by decide +kernel
theorem dX8_figuresOf_40 : decode cX8_figuresOf 40 = .ok (.istore 4, 2) := by decide +kernel
theorem dX8_figuresOf_42 : decode cX8_figuresOf 42 = .ok (.iinc 5 1, 3) := by decide +kernel
theorem dX8_figuresOf_45 : decode cX8_figuresOf 45 = .ok (.goto (-39), 3) := by decide +kernel
theorem dX8_figuresOf_48 : decode cX8_figuresOf 48 = .ok (.iload 4, 2) := by decide +kernel
theorem dX8_figuresOf_50 : decode cX8_figuresOf 50 = .ok (.ireturn, 1) := by decide +kernel
theorem dX8_wheel_0 : decode cX8_wheel 0 = .ok (.aload_n 0, 1) := by decide +kernel
theorem dX8_wheel_1 : decode cX8_wheel 1 = .ok (.iconst 0, 1) := by decide +kernel
theorem dX8_wheel_2 : decode cX8_wheel 2 = .ok (.putfield 3, 3) := by decide +kernel
theorem dX8_wheel_5 : decode cX8_wheel 5 = .ok (.aload_n 0, 1) := by decide +kernel
theorem dX8_wheel_6 : decode cX8_wheel 6 = .ok (.aload_n 0, 1) := by decide +kernel
theorem dX8_wheel_7 : decode cX8_wheel 7 = .ok (.iload_n 1, 1) := by decide +kernel
theorem dX8_wheel_8 : decode cX8_wheel 8 = .ok (.invokevirtual 342, 3) := by decide +kernel
theorem dX8_wheel_11 : decode cX8_wheel 11 = .ok (.ifCond .ne 20, 3) := by decide +kernel
theorem dX8_wheel_14 : decode cX8_wheel 14 = .ok (.aload_n 0, 1) := by decide +kernel
theorem dX8_wheel_15 : decode cX8_wheel 15 = .ok (.iload_n 2, 1) := by decide +kernel
theorem dX8_wheel_16 : decode cX8_wheel 16 = .ok (.invokevirtual 329, 3) := by decide +kernel
theorem dX8_wheel_19 : decode cX8_wheel 19 = .ok (.ifCond .ne 12, 3) := by decide +kernel
theorem dX8_wheel_22 : decode cX8_wheel 22 = .ok (.iload_n 3, 1) := by decide +kernel
theorem dX8_wheel_23 : decode cX8_wheel 23 = .ok (.iconst 0, 1) := by decide +kernel
theorem dX8_wheel_24 : decode cX8_wheel 24 = .ok (.iconst 2, 1) := by decide +kernel
theorem dX8_wheel_25 : decode cX8_wheel 25 = .ok (.invokestatic 85, 3) := by decide +kernel
theorem dX8_wheel_28 : decode cX8_wheel 28 = .ok (.ifCond .ne 7, 3) := by decide +kernel
theorem dX8_wheel_31 : decode cX8_wheel 31 = .ok (.iconst 1, 1) := by decide +kernel
theorem dX8_wheel_32 : decode cX8_wheel 32 = .ok (.goto 4, 3) := by decide +kernel
theorem dX8_wheel_35 : decode cX8_wheel 35 = .ok (.iconst 0, 1) := by decide +kernel
theorem dX8_wheel_36 : decode cX8_wheel 36 = .ok (.iconst 1, 1) := by decide +kernel
theorem dX8_wheel_37 : decode cX8_wheel 37 = .ok (.invokevirtual 281, 3) := by decide +kernel
theorem dX8_wheel_40 : decode cX8_wheel 40 = .ok (.ifCond .eq 5, 3) := by decide +kernel
theorem dX8_wheel_43 : decode cX8_wheel 43 = .ok (.iconst 0, 1) := by decide +kernel
theorem dX8_wheel_44 : decode cX8_wheel 44 = .ok (.ireturn, 1) := by decide +kernel
theorem dX8_wheel_45 : decode cX8_wheel 45 = .ok (.aload_n 0, 1) := by decide +kernel
theorem dX8_wheel_46 : decode cX8_wheel 46 = .ok (.iload_n 1, 1) := by decide +kernel
theorem dX8_wheel_47 : decode cX8_wheel 47 = .ok (.iload_n 2, 1) := by decide +kernel
theorem dX8_wheel_48 : decode cX8_wheel 48 = .ok (.iload_n 3, 1) := by decide +kernel
theorem dX8_wheel_49 : decode cX8_wheel 49 = .ok (.invokevirtual 354, 3) := by decide +kernel
theorem dX8_wheel_52 : decode cX8_wheel 52 = .ok (.istore 5, 2) := by decide +kernel
theorem dX8_wheel_54 : decode cX8_wheel 54 = .ok (.iload 4, 2) := by decide +kernel
theorem dX8_wheel_56 : decode cX8_wheel 56 = .ok (.ifCond .eq 8, 3) := by decide +kernel
theorem dX8_wheel_59 : decode cX8_wheel 59 = .ok (.iload 5, 2) := by decide +kernel
theorem dX8_wheel_61 : decode cX8_wheel 61 = .ok (.goto 21, 3) := by decide +kernel
theorem dX8_wheel_64 : decode cX8_wheel 64 = .ok (.iload 5, 2) := by decide +kernel
theorem dX8_wheel_66 : decode cX8_wheel 66 = .ok (.invokestatic 338, 3) := by decide +kernel
theorem dX8_wheel_69 : decode cX8_wheel 69 = .ok (.iconst 1, 1) := by decide +kernel
theorem dX8_wheel_70 : decode cX8_wheel 70 = .ok (.if_icmp .ne 11, 3) := by decide +kernel
theorem dX8_wheel_73 : decode cX8_wheel 73 = .ok (.iload 5, 2) := by decide +kernel
theorem dX8_wheel_75 : decode cX8_wheel 75 = .ok (.invokestatic 357, 3) := by decide +kernel
theorem dX8_wheel_78 : decode cX8_wheel 78 = .ok (.goto 4, 3) := by decide +kernel
theorem dX8_wheel_81 : decode cX8_wheel 81 = .ok (.iconst (-1), 1) := by decide +kernel
theorem dX8_wheel_82 : decode cX8_wheel 82 = .ok (.ireturn, 1) := by decide +kernel
theorem dX8_tells_0 : decode cX8_tells 0 = .ok (.sipush 479, 3) := by decide +kernel
theorem dX8_tells_3 : decode cX8_tells 3 = .ok (.istore 6, 2) := by decide +kernel
theorem dX8_tells_5 : decode cX8_tells 5 = .ok (.iload 6, 2) := by decide +kernel
theorem dX8_tells_7 : decode cX8_tells 7 = .ok (.bipush 6, 2) := by decide +kernel
theorem dX8_tells_9 : decode cX8_tells 9 = .ok (.if_icmp .lt 32, 3) := by decide +kernel
theorem dX8_tells_12 : decode cX8_tells 12 = .ok (.aload_n 0, 1) := by decide +kernel
theorem dX8_tells_13 : decode cX8_tells 13 = .ok (.getfield 13, 3) := by decide +kernel
theorem dX8_tells_16 : decode cX8_tells 16 = .ok (.bipush 82, 2) := by decide +kernel
theorem dX8_tells_18 : decode cX8_tells 18 = .ok (.iload 6, 2) := by decide +kernel
theorem dX8_tells_20 : decode cX8_tells 20 = .ok (.iadd, 1) := by decide +kernel
theorem dX8_tells_21 : decode cX8_tells 21 = .ok (.aload_n 0, 1) := by decide +kernel
theorem dX8_tells_22 : decode cX8_tells 22 = .ok (.getfield 13, 3) := by decide +kernel
theorem dX8_tells_25 : decode cX8_tells 25 = .ok (.bipush 82, 2) := by decide +kernel
theorem dX8_tells_27 : decode cX8_tells 27 = .ok (.iload 6, 2) := by decide +kernel
theorem dX8_tells_29 : decode cX8_tells 29 = .ok (.iadd, 1) := by decide +kernel
theorem dX8_tells_30 : decode cX8_tells 30 = .ok (.bipush 6, 2) := by decide +kernel
theorem dX8_tells_32 : decode cX8_tells 32 = .ok (.isub, 1) := by decide +kernel
theorem dX8_tells_33 : decode cX8_tells 33 = .ok (.iaload, 1) := by decide +kernel
theorem dX8_tells_34 : decode cX8_tells 34 = .ok (.iastore, 1) := by decide +kernel
theorem dX8_tells_35 : decode cX8_tells 35 = .ok (.iinc 6 (-1), 3) := by decide +kernel
theorem dX8_tells_38 : decode cX8_tells 38 = .ok (.goto (-33), 3) := by decide +kernel
theorem dX8_tells_41 : decode cX8_tells 41 = .ok (.aload_n 0, 1) := by decide +kernel
theorem dX8_tells_42 : decode cX8_tells 42 = .ok (.getfield 13, 3) := by decide +kernel
theorem dX8_tells_45 : decode cX8_tells 45 = .ok (.bipush 82, 2) := by decide +kernel
theorem dX8_tells_47 : decode cX8_tells 47 = .ok (.aload_n 0, 1) := by decide +kernel
theorem dX8_tells_48 : decode cX8_tells 48 = .ok (.getfield 13, 3) := by decide +kernel
theorem dX8_tells_51 : decode cX8_tells 51 = .ok (.iconst 5, 1) := by decide +kernel
theorem dX8_tells_52 : decode cX8_tells 52 = .ok (.iaload, 1) := by decide +kernel
theorem dX8_tells_53 : decode cX8_tells 53 = .ok (.iastore, 1) := by decide +kernel
theorem dX8_tells_54 : decode cX8_tells 54 = .ok (.aload_n 0, 1) := by decide +kernel
theorem dX8_tells_55 : decode cX8_tells 55 = .ok (.getfield 13, 3) := by decide +kernel
theorem dX8_tells_58 : decode cX8_tells 58 = .ok (.bipush 83, 2) := by decide +kernel
theorem dX8_tells_60 : decode cX8_tells 60 = .ok (.iload_n 1, 1) := by decide +kernel
theorem dX8_tells_61 : decode cX8_tells 61 = .ok (.iastore, 1) := by decide +kernel
theorem dX8_tells_62 : decode cX8_tells 62 = .ok (.aload_n 0, 1) := by decide +kernel
theorem dX8_tells_63 : decode cX8_tells 63 = .ok (.getfield 13, 3) := by decide +kernel
theorem dX8_tells_66 : decode cX8_tells 66 = .ok (.bipush 84, 2) := by decide +kernel
theorem dX8_tells_68 : decode cX8_tells 68 = .ok (.iload_n 2, 1) := by decide +kernel
theorem dX8_tells_69 : decode cX8_tells 69 = .ok (.iastore, 1) := by decide +kernel
theorem dX8_tells_70 : decode cX8_tells 70 = .ok (.aload_n 0, 1) := by decide +kernel
theorem dX8_tells_71 : decode cX8_tells 71 = .ok (.getfield 13, 3) := by decide +kernel
theorem dX8_tells_74 : decode cX8_tells 74 = .ok (.bipush 85, 2) := by decide +kernel
theorem dX8_tells_76 : decode cX8_tells 76 = .ok (.iload_n 3, 1) := by decide +kernel
theorem dX8_tells_77 : decode cX8_tells 77 = .ok (.iastore, 1) := by decide +kernel
theorem dX8_tells_78 : decode cX8_tells 78 = .ok (.aload_n 0, 1) := by decide +kernel
theorem dX8_tells_79 : decode cX8_tells 79 = .ok (.getfield 13, 3) := by decide +kernel
theorem dX8_tells_82 : decode cX8_tells 82 = .ok (.bipush 86, 2) := by decide +kernel
theorem dX8_tells_84 : decode cX8_tells 84 = .ok (.iload 4, 2) := by decide +kernel
theorem dX8_tells_86 : decode cX8_tells 86 = .ok (.iastore, 1) := by decide +kernel
theorem dX8_tells_87 : decode cX8_tells 87 = .ok (.aload_n 0, 1) := by decide +kernel
theorem dX8_tells_88 : decode cX8_tells 88 = .ok (.getfield 13, 3) := by decide +kernel
theorem dX8_tells_91 : decode cX8_tells 91 = .ok (.bipush 87, 2) := by decide +kernel
theorem dX8_tells_93 : decode cX8_tells 93 = .ok (.iload 5, 2) := by decide +kernel
theorem dX8_tells_95 : decode cX8_tells 95 = .ok (.ifCond .eq 7, 3) := by decide +kernel
theorem dX8_tells_98 : decode cX8_tells 98 = .ok (.iconst 1, 1) := by decide +kernel
theorem dX8_tells_99 : decode cX8_tells 99 = .ok (.goto 4, 3) := by decide +kernel
theorem dX8_tells_102 : decode cX8_tells 102 = .ok (.iconst 0, 1) := by decide +kernel
theorem dX8_tells_103 : decode cX8_tells 103 = .ok (.iastore, 1) := by decide +kernel
theorem dX8_tells_104 : decode cX8_tells 104 = .ok (.aload_n 0, 1) := by decide +kernel
theorem dX8_tells_105 : decode cX8_tells 105 = .ok (.getfield 13, 3) := by decide +kernel
theorem dX8_tells_108 : decode cX8_tells 108 = .ok (.bipush 8, 2) := by decide +kernel
theorem dX8_tells_110 : decode cX8_tells 110 = .ok (.bipush 80, 2) := by decide +kernel
theorem dX8_tells_112 : decode cX8_tells 112 = .ok (.aload_n 0, 1) := by decide +kernel
theorem dX8_tells_113 : decode cX8_tells 113 = .ok (.getfield 13, 3) := by decide +kernel
theorem dX8_tells_116 : decode cX8_tells 116 = .ok (.bipush 8, 2) := by decide +kernel
theorem dX8_tells_118 : decode cX8_tells 118 = .ok (.iaload, 1) := by decide +kernel
theorem dX8_tells_119 : decode cX8_tells 119 = .ok (.iconst 1, 1) := by decide +kernel
theorem dX8_tells_120 : decode cX8_tells 120 = .ok (.iadd, 1) := by decide +kernel
theorem dX8_tells_121 : decode cX8_tells 121 = .ok (.invokestatic 290, 3) := by decide +kernel
theorem dX8_tells_124 : decode cX8_tells 124 = .ok (.iastore, 1) := by decide +kernel
theorem dX8_tells_125 : decode cX8_tells 125 = .ok (.return_, 1) := by decide +kernel
theorem dX8_hears_0 : decode cX8_hears 0 = .ok (.iload_n 3, 1) := by decide +kernel
theorem dX8_hears_1 : decode cX8_hears 1 = .ok (.aload_n 0, 1) := by decide +kernel
theorem dX8_hears_2 : decode cX8_hears 2 = .ok (.iload_n 2, 1) := by decide +kernel
theorem dX8_hears_3 : decode cX8_hears 3 = .ok (.iconst 0, 1) := by decide +kernel
theorem dX8_hears_4 : decode cX8_hears 4 = .ok (.invokevirtual 167, 3) := by decide +kernel
theorem dX8_hears_7 : decode cX8_hears 7 = .ok (.if_icmp .ne 7, 3) := by decide +kernel
theorem dX8_hears_10 : decode cX8_hears 10 = .ok (.iconst 1, 1) := by decide +kernel
theorem dX8_hears_11 : decode cX8_hears 11 = .ok (.goto 4, 3) := by decide +kernel
theorem dX8_hears_14 : decode cX8_hears 14 = .ok (.iconst 0, 1) := by decide +kernel
theorem dX8_hears_15 : decode cX8_hears 15 = .ok (.istore 4, 2) := by decide +kernel
theorem dX8_hears_17 : decode cX8_hears 17 = .ok (.aload_n 0, 1) := by decide +kernel
theorem dX8_hears_18 : decode cX8_hears 18 = .ok (.iload_n 3, 1) := by decide +kernel
theorem dX8_hears_19 : decode cX8_hears 19 = .ok (.aload_n 0, 1) := by decide +kernel
theorem dX8_hears_20 : decode cX8_hears 20 = .ok (.iload_n 2, 1) := by decide +kernel
theorem dX8_hears_21 : decode cX8_hears 21 = .ok (.iconst 0, 1) := by decide +kernel
theorem dX8_hears_22 : decode cX8_hears 22 = .ok (.invokevirtual 167, 3) := by decide +kernel
theorem dX8_hears_25 : decode cX8_hears 25 = .ok (.invokevirtual 317, 3) := by decide +kernel
theorem dX8_hears_28 : decode cX8_hears 28 = .ok (.istore 5, 2) := by decide +kernel
theorem dX8_hears_30 : decode cX8_hears 30 = .ok (.iconst 0, 1) := by decide +kernel
theorem dX8_hears_31 : decode cX8_hears 31 = .ok (.istore 6, 2) := by decide +kernel
theorem dX8_hears_33 : decode cX8_hears 33 = .ok (.iload 6, 2) := by decide +kernel
theorem dX8_hears_35 : decode cX8_hears 35 = .ok (.sipush 216, 3) := by decide +kernel
theorem dX8_hears_38 : decode cX8_hears 38 = .ok (.if_icmp .ge 49, 3) := by decide +kernel
theorem dX8_hears_41 : decode cX8_hears 41 = .ok (.iload 4, 2) := by decide +kernel
theorem dX8_hears_43 : decode cX8_hears 43 = .ok (.ifCond .eq 12, 3) := by decide +kernel
theorem dX8_hears_46 : decode cX8_hears 46 = .ok (.iload 6, 2) := by decide +kernel
theorem dX8_hears_48 : decode cX8_hears 48 = .ok (.iload_n 3, 1) := by decide +kernel
theorem dX8_hears_49 : decode cX8_hears 49 = .ok (.if_icmp .eq 32, 3) := by decide +kernel
theorem dX8_hears_52 : decode cX8_hears 52 = .ok (.goto 21, 3) := by decide +kernel
theorem dX8_hears_55 : decode cX8_hears 55 = .ok (.iload 6, 2) := by decide +kernel
theorem dX8_hears_57 : decode cX8_hears 57 = .ok (.iload_n 3, 1) := by decide +kernel
theorem dX8_hears_58 : decode cX8_hears 58 = .ok (.if_icmp .eq 15, 3) := by decide +kernel
theorem dX8_hears_61 : decode cX8_hears 61 = .ok (.aload_n 0, 1) := by decide +kernel
theorem dX8_hears_62 : decode cX8_hears 62 = .ok (.iload_n 3, 1) := by decide +kernel
theorem dX8_hears_63 : decode cX8_hears 63 = .ok (.iload 6, 2) := by decide +kernel
theorem dX8_hears_65 : decode cX8_hears 65 = .ok (.invokevirtual 317, 3) := by decide +kernel
theorem dX8_hears_68 : decode cX8_hears 68 = .ok (.iload 5, 2) := by decide +kernel
theorem dX8_hears_70 : decode cX8_hears 70 = .ok (.if_icmp .eq 11, 3) := by decide +kernel
theorem dX8_hears_73 : decode cX8_hears 73 = .ok (.aload_n 0, 1) := by decide +kernel
theorem dX8_hears_74 : decode cX8_hears 74 = .ok (.iload_n 1, 1) := by decide +kernel
theorem dX8_hears_75 : decode cX8_hears 75 = .ok (.iload_n 2, 1) := by decide +kernel
theorem dX8_hears_76 : decode cX8_hears 76 = .ok (.iload 6, 2) := by decide +kernel
theorem dX8_hears_78 : decode cX8_hears 78 = .ok (.invokevirtual 360, 3) := by decide +kernel
theorem dX8_hears_81 : decode cX8_hears 81 = .ok (.iinc 6 1, 3) := by decide +kernel
theorem dX8_hears_84 : decode cX8_hears 84 = .ok (.goto (-51), 3) := by decide +kernel
theorem dX8_hears_87 : decode cX8_hears 87 = .ok (.iload 4, 2) := by decide +kernel
theorem dX8_hears_89 : decode cX8_hears 89 = .ok (.ireturn, 1) := by decide +kernel
theorem dX8_isAlone_0 : decode cX8_isAlone 0 = .ok (.aload_n 0, 1) := by decide +kernel
theorem dX8_isAlone_1 : decode cX8_isAlone 1 = .ok (.getfield 29, 3) := by decide +kernel
theorem dX8_isAlone_4 : decode cX8_isAlone 4 = .ok (.iload_n 1, 1) := by decide +kernel
theorem dX8_isAlone_5 : decode cX8_isAlone 5 = .ok (.iload_n 2, 1) := by decide +kernel
theorem dX8_isAlone_6 : decode cX8_isAlone 6 = .ok (.invokestatic 93, 3) := by decide +kernel
theorem dX8_isAlone_9 : decode cX8_isAlone 9 = .ok (.iload_n 3, 1) := by decide +kernel
theorem dX8_isAlone_10 : decode cX8_isAlone 10 = .ok (.bipush 64, 2) := by decide +kernel
theorem dX8_isAlone_12 : decode cX8_isAlone 12 = .ok (.idiv, 1) := by decide +kernel
theorem dX8_isAlone_13 : decode cX8_isAlone 13 = .ok (.iadd, 1) := by decide +kernel
theorem dX8_isAlone_14 : decode cX8_isAlone 14 = .ok (.dup2, 1) := by decide +kernel
theorem dX8_isAlone_15 : decode cX8_isAlone 15 = .ok (.laload, 1) := by decide +kernel
theorem dX8_isAlone_16 : decode cX8_isAlone 16 = .ok (.lconst 1, 1) := by decide +kernel
theorem dX8_isAlone_17 : decode cX8_isAlone 17 = .ok (.iload_n 3, 1) := by decide +kernel
theorem dX8_isAlone_18 : decode cX8_isAlone 18 = .ok (.bipush 64, 2) := by decide +kernel
theorem dX8_isAlone_20 : decode cX8_isAlone 20 = .ok (.irem, 1) := by decide +kernel
theorem dX8_isAlone_21 : decode cX8_isAlone 21 = .ok (.lshl, 1) := by decide +kernel
theorem dX8_isAlone_22 : decode cX8_isAlone 22 = .ok (.lor, 1) := by decide +kernel
theorem dX8_isAlone_23 : decode cX8_isAlone 23 = .ok (.lastore, 1) := by decide +kernel
theorem dX8_isAlone_24 : decode cX8_isAlone 24 = .ok (.return_, 1) := by decide +kernel
theorem dX8_turn_0 : decode cX8_turn 0 = .ok (.aload_n 0, 1) := by decide +kernel
theorem dX8_turn_1 : decode cX8_turn 1 = .ok (.iconst 0, 1) := by decide +kernel
theorem dX8_turn_2 : decode cX8_turn 2 = .ok (.putfield 3, 3) := by decide +kernel
theorem dX8_turn_5 : decode cX8_turn 5 = .ok (.aload_n 0, 1) := by decide +kernel
theorem dX8_turn_6 : decode cX8_turn 6 = .ok (.aload_n 0, 1) := by decide +kernel
theorem dX8_turn_7 : decode cX8_turn 7 = .ok (.iload_n 1, 1) := by decide +kernel
theorem dX8_turn_8 : decode cX8_turn 8 = .ok (.invokevirtual 342, 3) := by decide +kernel
theorem dX8_turn_11 : decode cX8_turn 11 = .ok (.ifCond .ne 18, 3) := by decide +kernel
theorem dX8_turn_14 : decode cX8_turn 14 = .ok (.aload_n 0, 1) := by decide +kernel
theorem dX8_turn_15 : decode cX8_turn 15 = .ok (.iload_n 2, 1) := by decide +kernel
theorem dX8_turn_16 : decode cX8_turn 16 = .ok (.invokevirtual 329, 3) := by decide +kernel
theorem dX8_turn_19 : decode cX8_turn 19 = .ok (.ifCond .ne 10, 3) := by decide +kernel
theorem dX8_turn_22 : decode cX8_turn 22 = .ok (.iload_n 3, 1) := by decide +kernel
theorem dX8_turn_23 : decode cX8_turn 23 = .ok (.invokestatic 311, 3) := by decide +kernel
theorem dX8_turn_26 : decode cX8_turn 26 = .ok (.ifCond .eq 7, 3) := by decide +kernel
theorem dX8_turn_29 : decode cX8_turn 29 = .ok (.iconst 1, 1) := by decide +kernel
theorem dX8_turn_30 : decode cX8_turn 30 = .ok (.goto 4, 3) := by decide +kernel
theorem dX8_turn_33 : decode cX8_turn 33 = .ok (.iconst 0, 1) := by decide +kernel
theorem dX8_turn_34 : decode cX8_turn 34 = .ok (.iconst 1, 1) := by decide +kernel
theorem dX8_turn_35 : decode cX8_turn 35 = .ok (.invokevirtual 281, 3) := by decide +kernel
theorem dX8_turn_38 : decode cX8_turn 38 = .ok (.ifCond .ne 22, 3) := by decide +kernel
theorem dX8_turn_41 : decode cX8_turn 41 = .ok (.aload_n 0, 1) := by decide +kernel
theorem dX8_turn_42 : decode cX8_turn 42 = .ok (.aload_n 0, 1) := by decide +kernel
theorem dX8_turn_43 : decode cX8_turn 43 = .ok (.iload_n 2, 1) := by decide +kernel
theorem dX8_turn_44 : decode cX8_turn 44 = .ok (.aload_n 0, 1) := by decide +kernel
theorem dX8_turn_45 : decode cX8_turn 45 = .ok (.getfield 13, 3) := by decide +kernel
theorem dX8_turn_48 : decode cX8_turn 48 = .ok (.iconst 5, 1) := by decide +kernel
theorem dX8_turn_49 : decode cX8_turn 49 = .ok (.iaload, 1) := by decide +kernel
theorem dX8_turn_50 : decode cX8_turn 50 = .ok (.invokevirtual 323, 3) := by decide +kernel
theorem dX8_turn_53 : decode cX8_turn 53 = .ok (.iconst 2, 1) := by decide +kernel
theorem dX8_turn_54 : decode cX8_turn 54 = .ok (.invokevirtual 281, 3) := by decide +kernel
theorem dX8_turn_57 : decode cX8_turn 57 = .ok (.ifCond .eq 5, 3) := by decide +kernel
theorem dX8_turn_60 : decode cX8_turn 60 = .ok (.iconst 0, 1) := by decide +kernel
theorem dX8_turn_61 : decode cX8_turn 61 = .ok (.ireturn, 1) := by decide +kernel
theorem dX8_turn_62 : decode cX8_turn 62 = .ok (.aload_n 0, 1) := by decide +kernel
theorem dX8_turn_63 : decode cX8_turn 63 = .ok (.invokevirtual 363, 3) := by decide +kernel
theorem dX8_turn_66 : decode cX8_turn 66 = .ok (.aload_n 0, 1) := by decide +kernel
theorem dX8_turn_67 : decode cX8_turn 67 = .ok (.invokevirtual 314, 3) := by decide +kernel
theorem dX8_turn_70 : decode cX8_turn 70 = .ok (.aload_n 0, 1) := by decide +kernel
theorem dX8_turn_71 : decode cX8_turn 71 = .ok (.iload_n 3, 1) := by decide +kernel
theorem dX8_turn_72 : decode cX8_turn 72 = .ok (.aload_n 0, 1) := by decide +kernel
theorem dX8_turn_73 : decode cX8_turn 73 = .ok (.iload_n 2, 1) := by decide +kernel
theorem dX8_turn_74 : decode cX8_turn 74 = .ok (.iconst 0, 1) := by decide +kernel
theorem dX8_turn_75 : decode cX8_turn 75 = .ok (.invokevirtual 167, 3) := by decide +kernel
theorem dX8_turn_78 : decode cX8_turn 78 = .ok (.invokevirtual 317, 3) := by decide +kernel
theorem dX8_turn_81 : decode cX8_turn 81 = .ok (.istore 4, 2) := by decide +kernel
theorem dX8_turn_83 : decode cX8_turn 83 = .ok (.aload_n 0, 1) := by decide +kernel
theorem dX8_turn_84 : decode cX8_turn 84 = .ok (.iload_n 1, 1) := by decide +kernel
theorem dX8_turn_85 : decode cX8_turn 85 = .ok (.iload_n 2, 1) := by decide +kernel
theorem dX8_turn_86 : decode cX8_turn 86 = .ok (.iload_n 3, 1) := by decide +kernel
theorem dX8_turn_87 : decode cX8_turn 87 = .ok (.invokevirtual 366, 3) := by decide +kernel
theorem dX8_turn_90 : decode cX8_turn 90 = .ok (.istore 5, 2) := by decide +kernel
theorem dX8_turn_92 : decode cX8_turn 92 = .ok (.iload 5, 2) := by decide +kernel
theorem dX8_turn_94 : decode cX8_turn 94 = .ok (.ifCond .eq 10, 3) := by decide +kernel
theorem dX8_turn_97 : decode cX8_turn 97 = .ok (.aload_n 0, 1) := by decide +kernel
theorem dX8_turn_98 : decode cX8_turn 98 = .ok (.iload_n 1, 1) := by decide +kernel
theorem dX8_turn_99 : decode cX8_turn 99 = .ok (.iload_n 2, 1) := by decide +kernel
theorem dX8_turn_100 : decode cX8_turn 100 = .ok (.iload_n 3, 1) := by decide +kernel
theorem dX8_turn_101 : decode cX8_turn 101 = .ok (.invokevirtual 369, 3) := by decide +kernel
theorem dX8_turn_104 : decode cX8_turn 104 = .ok (.iload 5, 2) := by decide +kernel
theorem dX8_turn_106 : decode cX8_turn 106 = .ok (.ifCond .eq 10, 3) := by decide +kernel
theorem dX8_turn_109 : decode cX8_turn 109 = .ok (.aload_n 0, 1) := by decide +kernel
theorem dX8_turn_110 : decode cX8_turn 110 = .ok (.iload_n 2, 1) := by decide +kernel
theorem dX8_turn_111 : decode cX8_turn 111 = .ok (.iconst 3, 1) := by decide +kernel
theorem dX8_turn_112 : decode cX8_turn 112 = .ok (.iconst 1, 1) := by decide +kernel
theorem dX8_turn_113 : decode cX8_turn 113 = .ok (.invokevirtual 158, 3) := by decide +kernel
theorem dX8_turn_116 : decode cX8_turn 116 = .ok (.aload_n 0, 1) := by decide +kernel
theorem dX8_turn_117 : decode cX8_turn 117 = .ok (.iload_n 1, 1) := by decide +kernel
theorem dX8_turn_118 : decode cX8_turn 118 = .ok (.iload_n 2, 1) := by decide +kernel
theorem dX8_turn_119 : decode cX8_turn 119 = .ok (.iload_n 3, 1) := by decide +kernel
theorem dX8_turn_120 : decode cX8_turn 120 = .ok (.iload 4, 2) := by decide +kernel
theorem dX8_turn_122 : decode cX8_turn 122 = .ok (.iload 5, 2) := by decide +kernel
theorem dX8_turn_124 : decode cX8_turn 124 = .ok (.invokevirtual 372, 3) := by decide +kernel
theorem dX8_turn_127 : decode cX8_turn 127 = .ok (.iload 4, 2) := by decide +kernel
theorem dX8_turn_129 : decode cX8_turn 129 = .ok (.ireturn, 1) := by decide +kernel
theorem dX8_tell_0 : decode cX8_tell 0 = .ok (.aload_n 0, 1) := by decide +kernel
theorem dX8_tell_1 : decode cX8_tell 1 = .ok (.iconst 0, 1) := by decide +kernel
theorem dX8_tell_2 : decode cX8_tell 2 = .ok (.putfield 3, 3) := by decide +kernel
theorem dX8_tell_5 : decode cX8_tell 5 = .ok (.aload_n 0, 1) := by decide +kernel
theorem dX8_tell_6 : decode cX8_tell 6 = .ok (.aload_n 0, 1) := by decide +kernel
theorem dX8_tell_7 : decode cX8_tell 7 = .ok (.iload_n 1, 1) := by decide +kernel
theorem dX8_tell_8 : decode cX8_tell 8 = .ok (.invokevirtual 342, 3) := by decide +kernel
theorem dX8_tell_11 : decode cX8_tell 11 = .ok (.ifCond .ne 19, 3) := by decide +kernel
theorem dX8_tell_14 : decode cX8_tell 14 = .ok (.aload_n 0, 1) := by decide +kernel
theorem dX8_tell_15 : decode cX8_tell 15 = .ok (.iload_n 2, 1) := by decide +kernel
theorem dX8_tell_16 : decode cX8_tell 16 = .ok (.invokevirtual 342, 3) := by decide +kernel
theorem dX8_tell_19 : decode cX8_tell 19 = .ok (.ifCond .ne 11, 3) := by decide +kernel
theorem dX8_tell_22 : decode cX8_tell 22 = .ok (.aload_n 0, 1) := by decide +kernel
theorem dX8_tell_23 : decode cX8_tell 23 = .ok (.iload_n 3, 1) := by decide +kernel
theorem dX8_tell_24 : decode cX8_tell 24 = .ok (.invokevirtual 329, 3) := by decide +kernel
theorem dX8_tell_27 : decode cX8_tell 27 = .ok (.ifCond .eq 7, 3) := by decide +kernel
theorem dX8_tell_30 : decode cX8_tell 30 = .ok (.iconst 1, 1) := by decide +kernel
theorem dX8_tell_31 : decode cX8_tell 31 = .ok (.goto 4, 3) := by decide +kernel
theorem dX8_tell_34 : decode cX8_tell 34 = .ok (.iconst 0, 1) := by decide +kernel
theorem dX8_tell_35 : decode cX8_tell 35 = .ok (.iconst 1, 1) := by decide +kernel
theorem dX8_tell_36 : decode cX8_tell 36 = .ok (.invokevirtual 281, 3) := by decide +kernel
theorem dX8_tell_39 : decode cX8_tell 39 = .ok (.ifCond .ne 21, 3) := by decide +kernel
theorem dX8_tell_42 : decode cX8_tell 42 = .ok (.aload_n 0, 1) := by decide +kernel
theorem dX8_tell_43 : decode cX8_tell 43 = .ok (.iload_n 1, 1) := by decide +kernel
theorem dX8_tell_44 : decode cX8_tell 44 = .ok (.iload_n 2, 1) := by decide +kernel
theorem dX8_tell_45 : decode cX8_tell 45 = .ok (.if_icmp .ne 7, 3) := by decide +kernel
theorem dX8_tell_48 : decode cX8_tell 48 = .ok (.iconst 1, 1) := by decide +kernel
theorem dX8_tell_49 : decode cX8_tell 49 = .ok (.goto 4, 3) := by decide +kernel
theorem dX8_tell_52 : decode cX8_tell 52 = .ok (.iconst 0, 1) := by decide +kernel
theorem dX8_tell_53 : decode cX8_tell 53 = .ok (.iconst 2, 1) := by decide +kernel
theorem dX8_tell_54 : decode cX8_tell 54 = .ok (.invokevirtual 281, 3) := by decide +kernel
theorem dX8_tell_57 : decode cX8_tell 57 = .ok (.ifCond .eq 5, 3) := by decide +kernel
theorem dX8_tell_60 : decode cX8_tell 60 = .ok (.iconst 0, 1) := by decide +kernel
theorem dX8_tell_61 : decode cX8_tell 61 = .ok (.ireturn, 1) := by decide +kernel
theorem dX8_tell_62 : decode cX8_tell 62 = .ok (.aload_n 0, 1) := by decide +kernel
theorem dX8_tell_63 : decode cX8_tell 63 = .ok (.invokevirtual 363, 3) := by decide +kernel
theorem dX8_tell_66 : decode cX8_tell 66 = .ok (.iconst 0, 1) := by decide +kernel
theorem dX8_tell_67 : decode cX8_tell 67 = .ok (.istore 4, 2) := by decide +kernel
theorem dX8_tell_69 : decode cX8_tell 69 = .ok (.iload 4, 2) := by decide +kernel
theorem dX8_tell_71 : decode cX8_tell 71 = .ok (.iconst 4, 1) := by decide +kernel
theorem dX8_tell_72 : decode cX8_tell 72 = .ok (.if_icmp .ge 38, 3) := by decide +kernel
theorem dX8_tell_75 : decode cX8_tell 75 = .ok (.aload_n 0, 1) := by decide +kernel
theorem dX8_tell_76 : decode cX8_tell 76 = .ok (.getfield 29, 3) := by decide +kernel
theorem dX8_tell_79 : decode cX8_tell 79 = .ok (.iload_n 2, 1) := by decide +kernel
theorem dX8_tell_80 : decode cX8_tell 80 = .ok (.iload_n 3, 1) := by decide +kernel
theorem dX8_tell_81 : decode cX8_tell 81 = .ok (.invokestatic 93, 3) := by decide +kernel
theorem dX8_tell_84 : decode cX8_tell 84 = .ok (.iload 4, 2) := by decide +kernel
theorem dX8_tell_86 : decode cX8_tell 86 = .ok (.iadd, 1) := by decide +kernel
theorem dX8_tell_87 : decode cX8_tell 87 = .ok (.dup2, 1) := by decide +kernel
theorem dX8_tell_88 : decode cX8_tell 88 = .ok (.laload, 1) := by decide +kernel
theorem dX8_tell_89 : decode cX8_tell 89 = .ok (.aload_n 0, 1) := by decide +kernel
theorem dX8_tell_90 : decode cX8_tell 90 = .ok (.getfield 29, 3) := by decide +kernel
theorem dX8_tell_93 : decode cX8_tell 93 = .ok (.iload_n 1, 1) := by decide +kernel
theorem dX8_tell_94 : decode cX8_tell 94 = .ok (.iload_n 3, 1) := by decide +kernel
theorem dX8_tell_95 : decode cX8_tell 95 = .ok (.invokestatic 93, 3) := by decide +kernel
theorem dX8_tell_98 : decode cX8_tell 98 = .ok (.iload 4, 2) := by decide +kernel
theorem dX8_tell_100 : decode cX8_tell 100 = .ok (.iadd, 1) := by decide +kernel
theorem dX8_tell_101 : decode cX8_tell 101 = .ok (.laload, 1) := by decide +kernel
theorem dX8_tell_102 : decode cX8_tell 102 = .ok (.land, 1) := by decide +kernel
theorem dX8_tell_103 : decode cX8_tell 103 = .ok (.lastore, 1) := by decide +kernel
theorem dX8_tell_104 : decode cX8_tell 104 = .ok (.iinc 4 1, 3) := by decide +kernel
theorem dX8_tell_107 : decode cX8_tell 107 = .ok (.goto (-38), 3) := by decide +kernel
theorem dX8_tell_110 : decode cX8_tell 110 = .ok (.aload_n 0, 1) := by decide +kernel
theorem dX8_tell_111 : decode cX8_tell 111 = .ok (.iload_n 2, 1) := by decide +kernel
theorem dX8_tell_112 : decode cX8_tell 112 = .ok (.iload_n 3, 1) := by decide +kernel
theorem dX8_tell_113 : decode cX8_tell 113 = .ok (.invokevirtual 345, 3) := by decide +kernel
theorem dX8_tell_116 : decode cX8_tell 116 = .ok (.ireturn, 1) := by decide +kernel
theorem dX8_forget_0 : decode cX8_forget 0 = .ok (.aload_n 0, 1) := by decide +kernel
theorem dX8_forget_1 : decode cX8_forget 1 = .ok (.iconst 0, 1) := by decide +kernel
theorem dX8_forget_2 : decode cX8_forget 2 = .ok (.putfield 3, 3) := by decide +kernel
theorem dX8_forget_5 : decode cX8_forget 5 = .ok (.aload_n 0, 1) := by decide +kernel
theorem dX8_forget_6 : decode cX8_forget 6 = .ok (.aload_n 0, 1) := by decide +kernel
theorem dX8_forget_7 : decode cX8_forget 7 = .ok (.iload_n 1, 1) := by decide +kernel
theorem dX8_forget_8 : decode cX8_forget 8 = .ok (.invokevirtual 342, 3) := by decide +kernel
theorem dX8_forget_11 : decode cX8_forget 11 = .ok (.ifCond .ne 11, 3) := by decide +kernel
theorem dX8_forget_14 : decode cX8_forget 14 = .ok (.aload_n 0, 1) := by decide +kernel
theorem dX8_forget_15 : decode cX8_forget 15 = .ok (.iload_n 2, 1) := by decide +kernel
theorem dX8_forget_16 : decode cX8_forget 16 = .ok (.invokevirtual 329, 3) := by decide +kernel
theorem dX8_forget_19 : decode cX8_forget 19 = .ok (.ifCond .eq 7, 3) := by decide +kernel
theorem dX8_forget_22 : decode cX8_forget 22 = .ok (.iconst 1, 1) := by decide +kernel
theorem dX8_forget_23 : decode cX8_forget 23 = .ok (.goto 4, 3) := by decide +kernel
theorem dX8_forget_26 : decode cX8_forget 26 = .ok (.iconst 0, 1) := by decide +kernel
theorem dX8_forget_27 : decode cX8_forget 27 = .ok (.iconst 1, 1) := by decide +kernel
theorem dX8_forget_28 : decode cX8_forget 28 = .ok (.invokevirtual 281, 3) := by decide +kernel
theorem dX8_forget_31 : decode cX8_forget 31 = .ok (.ifCond .eq 5, 3) := by decide +kernel
theorem dX8_forget_34 : decode cX8_forget 34 = .ok (.iconst 0, 1) := by decide +kernel
theorem dX8_forget_35 : decode cX8_forget 35 = .ok (.ireturn, 1) := by decide +kernel
theorem dX8_forget_36 : decode cX8_forget 36 = .ok (.aload_n 0, 1) := by decide +kernel
theorem dX8_forget_37 : decode cX8_forget 37 = .ok (.invokevirtual 363, 3) := by decide +kernel
theorem dX8_forget_40 : decode cX8_forget 40 = .ok (.aload_n 0, 1) := by decide +kernel
theorem dX8_forget_41 : decode cX8_forget 41 = .ok (.iload_n 1, 1) := by decide +kernel
theorem dX8_forget_42 : decode cX8_forget 42 = .ok (.iload_n 2, 1) := by decide +kernel
theorem dX8_forget_43 : decode cX8_forget 43 = .ok (.invokevirtual 345, 3) := by decide +kernel
theorem dX8_forget_46 : decode cX8_forget 46 = .ok (.istore_n 3, 1) := by decide +kernel
theorem dX8_forget_47 : decode cX8_forget 47 = .ok (.aload_n 0, 1) := by decide +kernel
theorem dX8_forget_48 : decode cX8_forget 48 = .ok (.iload_n 1, 1) := by decide +kernel
theorem dX8_forget_49 : decode cX8_forget 49 = .ok (.iload_n 2, 1) := by decide +kernel
theorem dX8_forget_50 : decode cX8_forget 50 = .ok (.invokevirtual 101, 3) := by decide +kernel
theorem dX8_forget_53 : decode cX8_forget 53 = .ok (.iload_n 3, 1) := by decide +kernel
theorem dX8_forget_54 : decode cX8_forget 54 = .ok (.ireturn, 1) := by decide +kernel
theorem dX8_anew_0 : decode cX8_anew 0 = .ok (.aload_n 0, 1) := by decide +kernel
theorem dX8_anew_1 : decode cX8_anew 1 = .ok (.iload_n 1, 1) := by decide +kernel
theorem dX8_anew_2 : decode cX8_anew 2 = .ok (.iconst 0, 1) := by decide +kernel
theorem dX8_anew_3 : decode cX8_anew 3 = .ok (.iload_n 2, 1) := by decide +kernel
theorem dX8_anew_4 : decode cX8_anew 4 = .ok (.invokevirtual 158, 3) := by decide +kernel
theorem dX8_anew_7 : decode cX8_anew 7 = .ok (.aload_n 0, 1) := by decide +kernel
theorem dX8_anew_8 : decode cX8_anew 8 = .ok (.iload_n 1, 1) := by decide +kernel
theorem dX8_anew_9 : decode cX8_anew 9 = .ok (.iconst 3, 1) := by decide +kernel
theorem dX8_anew_10 : decode cX8_anew 10 = .ok (.iconst 0, 1) := by decide +kernel
theorem dX8_anew_11 : decode cX8_anew 11 = .ok (.invokevirtual 158, 3) := by decide +kernel
theorem dX8_anew_14 : decode cX8_anew 14 = .ok (.aload_n 0, 1) := by decide +kernel
theorem dX8_anew_15 : decode cX8_anew 15 = .ok (.iload_n 1, 1) := by decide +kernel
theorem dX8_anew_16 : decode cX8_anew 16 = .ok (.invokevirtual 174, 3) := by decide +kernel
theorem dX8_anew_19 : decode cX8_anew 19 = .ok (.aload_n 0, 1) := by decide +kernel
theorem dX8_anew_20 : decode cX8_anew 20 = .ok (.getfield 13, 3) := by decide +kernel
theorem dX8_anew_23 : decode cX8_anew 23 = .ok (.bipush 7, 2) := by decide +kernel
theorem dX8_anew_25 : decode cX8_anew 25 = .ok (.dup2, 1) := by decide +kernel
theorem dX8_anew_26 : decode cX8_anew 26 = .ok (.iaload, 1) := by decide +kernel
theorem dX8_anew_27 : decode cX8_anew 27 = .ok (.iconst 1, 1) := by decide +kernel
theorem dX8_anew_28 : decode cX8_anew 28 = .ok (.iadd, 1) := by decide +kernel
theorem dX8_anew_29 : decode cX8_anew 29 = .ok (.iastore, 1) := by decide +kernel
theorem dX8_anew_30 : decode cX8_anew 30 = .ok (.return_, 1) := by decide +kernel
theorem dX8_change_0 : decode cX8_change 0 = .ok (.aload_n 0, 1) := by decide +kernel
theorem dX8_change_1 : decode cX8_change 1 = .ok (.iconst 0, 1) := by decide +kernel
theorem dX8_change_2 : decode cX8_change 2 = .ok (.putfield 3, 3) := by decide +kernel
theorem dX8_change_5 : decode cX8_change 5 = .ok (.aload_n 0, 1) := by decide +kernel
theorem dX8_change_6 : decode cX8_change 6 = .ok (.aload_n 0, 1) := by decide +kernel
theorem dX8_change_7 : decode cX8_change 7 = .ok (.iload_n 1, 1) := by decide +kernel
theorem dX8_change_8 : decode cX8_change 8 = .ok (.invokevirtual 329, 3) := by decide +kernel
theorem dX8_change_11 : decode cX8_change 11 = .ok (.ifCond .ne 10, 3) := by decide +kernel
theorem dX8_change_14 : decode cX8_change 14 = .ok (.iload_n 2, 1) := by decide +kernel
theorem dX8_change_15 : decode cX8_change 15 = .ok (.invokestatic 311, 3) := by decide +kernel
theorem dX8_change_18 : decode cX8_change 18 = .ok (.ifCond .eq 7, 3) := by decide +kernel
theorem dX8_change_21 : decode cX8_change 21 = .ok (.iconst 1, 1) := by decide +kernel
theorem dX8_change_22 : decode cX8_change 22 = .ok (.goto 4, 3) := by decide +kernel
theorem dX8_change_25 : decode cX8_change 25 = .ok (.iconst 0, 1) := by decide +kernel
theorem dX8_change_26 : decode cX8_change 26 = .ok (.iconst 1, 1) := by decide +kernel
theorem dX8_change_27 : decode cX8_change 27 = .ok (.invokevirtual 281, 3) := by decide +kernel
theorem dX8_change_30 : decode cX8_change 30 = .ok (.ifCond .eq 5, 3) := by decide +kernel
theorem dX8_change_33 : decode cX8_change 33 = .ok (.iconst 0, 1) := by decide +kernel
theorem dX8_change_34 : decode cX8_change 34 = .ok (.ireturn, 1) := by decide +kernel
theorem dX8_change_35 : decode cX8_change 35 = .ok (.aload_n 0, 1) := by decide +kernel
theorem dX8_change_36 : decode cX8_change 36 = .ok (.invokevirtual 363, 3) := by decide +kernel
theorem dX8_change_39 : decode cX8_change 39 = .ok (.aload_n 0, 1) := by decide +kernel
theorem dX8_change_40 : decode cX8_change 40 = .ok (.iload_n 1, 1) := by decide +kernel
theorem dX8_change_41 : decode cX8_change 41 = .ok (.iconst 0, 1) := by decide +kernel
theorem dX8_change_42 : decode cX8_change 42 = .ok (.invokevirtual 167, 3) := by decide +kernel
theorem dX8_change_45 : decode cX8_change 45 = .ok (.istore_n 3, 1) := by decide +kernel
theorem dX8_change_46 : decode cX8_change 46 = .ok (.aload_n 0, 1) := by decide +kernel
theorem dX8_change_47 : decode cX8_change 47 = .ok (.iload_n 1, 1) := by decide +kernel
theorem dX8_change_48 : decode cX8_change 48 = .ok (.iload_n 2, 1) := by decide +kernel
theorem dX8_change_49 : decode cX8_change 49 = .ok (.invokevirtual 376, 3) := by decide +kernel
theorem dX8_change_52 : decode cX8_change 52 = .ok (.iload_n 3, 1) := by decide +kernel
theorem dX8_change_53 : decode cX8_change 53 = .ok (.ireturn, 1) := by decide +kernel
theorem dX8_guard_0 : decode cX8_guard 0 = .ok (.aload_n 0, 1) := by decide +kernel
theorem dX8_guard_1 : decode cX8_guard 1 = .ok (.iconst 0, 1) := by decide +kernel
theorem dX8_guard_2 : decode cX8_guard 2 = .ok (.putfield 3, 3) := by decide +kernel
theorem dX8_guard_5 : decode cX8_guard 5 = .ok (.aload_n 0, 1) := by decide +kernel
theorem dX8_guard_6 : decode cX8_guard 6 = .ok (.aload_n 0, 1) := by decide +kernel
theorem dX8_guard_7 : decode cX8_guard 7 = .ok (.iload_n 1, 1) := by decide +kernel
theorem dX8_guard_8 : decode cX8_guard 8 = .ok (.invokevirtual 329, 3) := by decide +kernel
theorem dX8_guard_11 : decode cX8_guard 11 = .ok (.iconst 1, 1) := by decide +kernel
theorem dX8_guard_12 : decode cX8_guard 12 = .ok (.invokevirtual 281, 3) := by decide +kernel
theorem dX8_guard_15 : decode cX8_guard 15 = .ok (.ifCond .ne 26, 3) := by decide +kernel
theorem dX8_guard_18 : decode cX8_guard 18 = .ok (.aload_n 0, 1) := by decide +kernel
theorem dX8_guard_19 : decode cX8_guard 19 = .ok (.iload_n 2, 1) := by decide +kernel
theorem dX8_guard_20 : decode cX8_guard 20 = .ok (.iconst 0, 1) := by decide +kernel
theorem dX8_guard_21 : decode cX8_guard 21 = .ok (.bipush 6, 2) := by decide +kernel
theorem dX8_guard_23 : decode cX8_guard 23 = .ok (.invokestatic 85, 3) := by decide +kernel
theorem dX8_guard_26 : decode cX8_guard 26 = .ok (.ifCond .ne 7, 3) := by decide +kernel
theorem dX8_guard_29 : decode cX8_guard 29 = .ok (.iconst 1, 1) := by decide +kernel
theorem dX8_guard_30 : decode cX8_guard 30 = .ok (.goto 4, 3) := by decide +kernel
theorem dX8_guard_33 : decode cX8_guard 33 = .ok (.iconst 0, 1) := by decide +kernel
theorem dX8_guard_34 : decode cX8_guard 34 = .ok (.iconst 2, 1) := by decide +kernel
theorem dX8_guard_35 : decode cX8_guard 35 = .ok (.invokevirtual 281, 3) := by decide +kernel
theorem dX8_guard_38 : decode cX8_guard 38 = .ok (.ifCond .eq 5, 3) := by decide +kernel
theorem dX8_guard_41 : decode cX8_guard 41 = .ok (.iconst 0, 1) := by decide +kernel
theorem dX8_guard_42 : decode cX8_guard 42 = .ok (.ireturn, 1) := by decide +kernel
theorem dX8_guard_43 : decode cX8_guard 43 = .ok (.aload_n 0, 1) := by decide +kernel
theorem dX8_guard_44 : decode cX8_guard 44 = .ok (.invokevirtual 363, 3) := by decide +kernel
theorem dX8_guard_47 : decode cX8_guard 47 = .ok (.aload_n 0, 1) := by decide +kernel
theorem dX8_guard_48 : decode cX8_guard 48 = .ok (.iload_n 1, 1) := by decide +kernel
theorem dX8_guard_49 : decode cX8_guard 49 = .ok (.iconst 1, 1) := by decide +kernel
theorem dX8_guard_50 : decode cX8_guard 50 = .ok (.invokevirtual 167, 3) := by decide +kernel
theorem dX8_guard_53 : decode cX8_guard 53 = .ok (.iload_n 2, 1) := by decide +kernel
theorem dX8_guard_54 : decode cX8_guard 54 = .ok (.invokestatic 320, 3) := by decide +kernel
theorem dX8_guard_57 : decode cX8_guard 57 = .ok (.istore 4, 2) := by decide +kernel
theorem dX8_guard_59 : decode cX8_guard 59 = .ok (.aload_n 0, 1) := by decide +kernel
theorem dX8_guard_60 : decode cX8_guard 60 = .ok (.iload_n 1, 1) := by decide +kernel
theorem dX8_guard_61 : decode cX8_guard 61 = .ok (.iconst 1, 1) := by decide +kernel
theorem dX8_guard_62 : decode cX8_guard 62 = .ok (.aload_n 0, 1) := by decide +kernel
theorem dX8_guard_63 : decode cX8_guard 63 = .ok (.iload_n 1, 1) := by decide +kernel
theorem dX8_guard_64 : decode cX8_guard 64 = .ok (.iconst 1, 1) := by decide +kernel
theorem dX8_guard_65 : decode cX8_guard 65 = .ok (.invokevirtual 167, 3) := by decide +kernel
theorem dX8_guard_68 : decode cX8_guard 68 = .ok (.iconst 1, 1) := by decide +kernel
theorem dX8_guard_69 : decode cX8_guard 69 = .ok (.iload_n 2, 1) := by decide +kernel
theorem dX8_guard_70 : decode cX8_guard 70 = .ok (.ishl, 1) := by decide +kernel
theorem dX8_guard_71 : decode cX8_guard 71 = .ok (.iconst (-1), 1) := by decide +kernel
theorem dX8_guard_72 : decode cX8_guard 72 = .ok (.ixor, 1) := by decide +kernel
theorem dX8_guard_73 : decode cX8_guard 73 = .ok (.iand, 1) := by decide +kernel
theorem dX8_guard_74 : decode cX8_guard 74 = .ok (.iload_n 3, 1) := by decide +kernel
theorem dX8_guard_75 : decode cX8_guard 75 = .ok (.ifCond .eq 9, 3) := by decide +kernel
theorem dX8_guard_78 : decode cX8_guard 78 = .ok (.iconst 1, 1) := by decide +kernel
theorem dX8_guard_79 : decode cX8_guard 79 = .ok (.iload_n 2, 1) := by decide +kernel
theorem dX8_guard_80 : decode cX8_guard 80 = .ok (.ishl, 1) := by decide +kernel
theorem dX8_guard_81 : decode cX8_guard 81 = .ok (.goto 4, 3) := by decide +kernel
theorem dX8_guard_84 : decode cX8_guard 84 = .ok (.iconst 0, 1) := by decide +kernel
theorem dX8_guard_85 : decode cX8_guard 85 = .ok (.ior, 1) := by decide +kernel
theorem dX8_guard_86 : decode cX8_guard 86 = .ok (.invokevirtual 158, 3) := by decide +kernel
theorem dX8_guard_89 : decode cX8_guard 89 = .ok (.iload 4, 2) := by decide +kernel
theorem dX8_guard_91 : decode cX8_guard 91 = .ok (.iload_n 3, 1) := by decide +kernel
theorem dX8_guard_92 : decode cX8_guard 92 = .ok (.if_icmp .eq 7, 3) := by decide +kernel
theorem dX8_guard_95 : decode cX8_guard 95 = .ok (.iconst 1, 1) := by decide +kernel
theorem dX8_guard_96 : decode cX8_guard 96 = .ok (.goto 4, 3) := by decide +kernel
theorem dX8_guard_99 : decode cX8_guard 99 = .ok (.iconst 0, 1) := by decide +kernel
theorem dX8_guard_100 : decode cX8_guard 100 = .ok (.ireturn, 1) := by decide +kernel
theorem dX8_oneDay_0 : decode cX8_oneDay 0 = .ok (.iconst 0, 1) := by decide +kernel
theorem dX8_oneDay_1 : decode cX8_oneDay 1 = .ok (.istore_n 1, 1) := by decide +kernel
theorem dX8_oneDay_2 : decode cX8_oneDay 2 = .ok (.iload_n 1, 1) := by decide +kernel
theorem dX8_oneDay_3 : decode cX8_oneDay 3 = .ok (.aload_n 0, 1) := by decide +kernel
theorem dX8_oneDay_4 : decode cX8_oneDay 4 = .ok (.invokevirtual 81, 3) := by decide +kernel
theorem dX8_oneDay_7 : decode cX8_oneDay 7 = .ok (.if_icmp .ge 37, 3) := by decide +kernel
theorem dX8_oneDay_10 : decode cX8_oneDay 10 = .ok (.aload_n 0, 1) := by decide +kernel
theorem dX8_oneDay_11 : decode cX8_oneDay 11 = .ok (.bipush 100, 2) := by decide +kernel
theorem dX8_oneDay_13 : decode cX8_oneDay 13 = .ok (.invokevirtual 379, 3) := by decide +kernel
theorem dX8_oneDay_16 : decode cX8_oneDay 16 = .ok (.aload_n 0, 1) := by decide +kernel
theorem dX8_oneDay_17 : decode cX8_oneDay 17 = .ok (.getfield 13, 3) := by decide +kernel
theorem dX8_oneDay_20 : decode cX8_oneDay 20 = .ok (.bipush 6, 2) := by decide +kernel
theorem dX8_oneDay_22 : decode cX8_oneDay 22 = .ok (.iaload, 1) := by decide +kernel
theorem dX8_oneDay_23 : decode cX8_oneDay 23 = .ok (.if_icmp .ge 15, 3) := by decide +kernel
theorem dX8_oneDay_26 : decode cX8_oneDay 26 = .ok (.aload_n 0, 1) := by decide +kernel
theorem dX8_oneDay_27 : decode cX8_oneDay 27 = .ok (.iload_n 1, 1) := by decide +kernel
theorem dX8_oneDay_28 : decode cX8_oneDay 28 = .ok (.aload_n 0, 1) := by decide +kernel
theorem dX8_oneDay_29 : decode cX8_oneDay 29 = .ok (.sipush 216, 3) := by decide +kernel
theorem dX8_oneDay_32 : decode cX8_oneDay 32 = .ok (.invokevirtual 379, 3) := by decide +kernel
theorem dX8_oneDay_35 : decode cX8_oneDay 35 = .ok (.invokevirtual 376, 3) := by decide +kernel
theorem dX8_oneDay_38 : decode cX8_oneDay 38 = .ok (.iinc 1 1, 3) := by decide +kernel
theorem dX8_oneDay_41 : decode cX8_oneDay 41 = .ok (.goto (-39), 3) := by decide +kernel
theorem dX8_oneDay_44 : decode cX8_oneDay 44 = .ok (.aload_n 0, 1) := by decide +kernel
theorem dX8_oneDay_45 : decode cX8_oneDay 45 = .ok (.getfield 13, 3) := by decide +kernel
theorem dX8_oneDay_48 : decode cX8_oneDay 48 = .ok (.iconst 5, 1) := by decide +kernel
theorem dX8_oneDay_49 : decode cX8_oneDay 49 = .ok (.sipush 9999, 3) := by decide +kernel
theorem dX8_oneDay_52 : decode cX8_oneDay 52 = .ok (.aload_n 0, 1) := by decide +kernel
theorem dX8_oneDay_53 : decode cX8_oneDay 53 = .ok (.getfield 13, 3) := by decide +kernel
theorem dX8_oneDay_56 : decode cX8_oneDay 56 = .ok (.iconst 5, 1) := by decide +kernel
theorem dX8_oneDay_57 : decode cX8_oneDay 57 = .ok (.iaload, 1) := by decide +kernel
theorem dX8_oneDay_58 : decode cX8_oneDay 58 = .ok (.iconst 1, 1) := by decide +kernel
theorem dX8_oneDay_59 : decode cX8_oneDay 59 = .ok (.iadd, 1) := by decide +kernel
theorem dX8_oneDay_60 : decode cX8_oneDay 60 = .ok (.invokestatic 290, 3) := by decide +kernel
theorem dX8_oneDay_63 : decode cX8_oneDay 63 = .ok (.iastore, 1) := by decide +kernel
theorem dX8_oneDay_64 : decode cX8_oneDay 64 = .ok (.return_, 1) := by decide +kernel
theorem dX8_days_0 : decode cX8_days 0 = .ok (.aload_n 0, 1) := by decide +kernel
theorem dX8_days_1 : decode cX8_days 1 = .ok (.iconst 0, 1) := by decide +kernel
theorem dX8_days_2 : decode cX8_days 2 = .ok (.putfield 3, 3) := by decide +kernel
theorem dX8_days_5 : decode cX8_days 5 = .ok (.aload_n 0, 1) := by decide +kernel
theorem dX8_days_6 : decode cX8_days 6 = .ok (.iload_n 1, 1) := by decide +kernel
theorem dX8_days_7 : decode cX8_days 7 = .ok (.iconst 1, 1) := by decide +kernel
theorem dX8_days_8 : decode cX8_days 8 = .ok (.bipush 60, 2) := by decide +kernel
theorem dX8_days_10 : decode cX8_days 10 = .ok (.invokestatic 85, 3) := by decide +kernel
theorem dX8_days_13 : decode cX8_days 13 = .ok (.ifCond .ne 7, 3) := by decide +kernel
theorem dX8_days_16 : decode cX8_days 16 = .ok (.iconst 1, 1) := by decide +kernel
theorem dX8_days_17 : decode cX8_days 17 = .ok (.goto 4, 3) := by decide +kernel
theorem dX8_days_20 : decode cX8_days 20 = .ok (.iconst 0, 1) := by decide +kernel
theorem dX8_days_21 : decode cX8_days 21 = .ok (.iconst 1, 1) := by decide +kernel
theorem dX8_days_22 : decode cX8_days 22 = .ok (.invokevirtual 281, 3) := by decide +kernel
theorem dX8_days_25 : decode cX8_days 25 = .ok (.ifCond .eq 5, 3) := by decide +kernel
theorem dX8_days_28 : decode cX8_days 28 = .ok (.iconst 0, 1) := by decide +kernel
theorem dX8_days_29 : decode cX8_days 29 = .ok (.ireturn, 1) := by decide +kernel
theorem dX8_days_30 : decode cX8_days 30 = .ok (.aload_n 0, 1) := by decide +kernel
theorem dX8_days_31 : decode cX8_days 31 = .ok (.invokevirtual 363, 3) := by decide +kernel
theorem dX8_days_34 : decode cX8_days 34 = .ok (.aload_n 0, 1) := by decide +kernel
theorem dX8_days_35 : decode cX8_days 35 = .ok (.getfield 13, 3) := by decide +kernel
theorem dX8_days_38 : decode cX8_days 38 = .ok (.bipush 7, 2) := by decide +kernel
theorem dX8_days_40 : decode cX8_days 40 = .ok (.iaload, 1) := by decide +kernel
theorem dX8_days_41 : decode cX8_days 41 = .ok (.istore_n 2, 1) := by decide +kernel
theorem dX8_days_42 : decode cX8_days 42 = .ok (.iconst 0, 1) := by decide +kernel
theorem dX8_days_43 : decode cX8_days 43 = .ok (.istore_n 3, 1) := by decide +kernel
theorem dX8_days_44 : decode cX8_days 44 = .ok (.iload_n 3, 1) := by decide +kernel
theorem dX8_days_45 : decode cX8_days 45 = .ok (.iload_n 1, 1) := by decide +kernel
theorem dX8_days_46 : decode cX8_days 46 = .ok (.if_icmp .ge 13, 3) := by decide +kernel
theorem dX8_days_49 : decode cX8_days 49 = .ok (.aload_n 0, 1) := by decide +kernel
theorem dX8_days_50 : decode cX8_days 50 = .ok (.invokevirtual 382, 3) := by decide +kernel
theorem dX8_days_53 : decode cX8_days 53 = .ok (.iinc 3 1, 3) := by decide +kernel
theorem dX8_days_56 : decode cX8_days 56 = .ok (.goto (-12), 3) := by decide +kernel
theorem dX8_days_59 : decode cX8_days 59 = .ok (.aload_n 0, 1) := by decide +kernel
theorem dX8_days_60 : decode cX8_days 60 = .ok (.getfield 13, 3) := by decide +kernel
theorem dX8_days_63 : decode cX8_days 63 = .ok (.bipush 7, 2) := by decide +kernel
theorem dX8_days_65 : decode cX8_days 65 = .ok (.iaload, 1) := by decide +kernel
theorem dX8_days_66 : decode cX8_days 66 = .ok (.iload_n 2, 1) := by decide +kernel
theorem dX8_days_67 : decode cX8_days 67 = .ok (.isub, 1) := by decide +kernel
theorem dX8_days_68 : decode cX8_days 68 = .ok (.ireturn, 1) := by decide +kernel
theorem dX8_partsOf_0 : decode cX8_partsOf 0 = .ok (.aload_n 0, 1) := by decide +kernel
theorem dX8_partsOf_1 : decode cX8_partsOf 1 = .ok (.iload_n 1, 1) := by decide +kernel
theorem dX8_partsOf_2 : decode cX8_partsOf 2 = .ok (.iload_n 2, 1) := by decide +kernel
theorem dX8_partsOf_3 : decode cX8_partsOf 3 = .ok (.iload_n 3, 1) := by decide +kernel
theorem dX8_partsOf_4 : decode cX8_partsOf 4 = .ok (.invokevirtual 348, 3) := by decide +kernel
theorem dX8_partsOf_7 : decode cX8_partsOf 7 = .ok (.istore 5, 2) := by decide +kernel
theorem dX8_partsOf_9 : decode cX8_partsOf 9 = .ok (.iload 5, 2) := by decide +kernel
theorem dX8_partsOf_11 : decode cX8_partsOf 11 = .ok (.ifCond .eq 7, 3) := by decide +kernel
theorem dX8_partsOf_14 : decode cX8_partsOf 14 = .ok (.iconst 1, 1) := by decide +kernel
theorem dX8_partsOf_15 : decode cX8_partsOf 15 = .ok (.goto 4, 3) := by decide +kernel
theorem dX8_partsOf_18 : decode cX8_partsOf 18 = .ok (.iconst 0, 1) := by decide +kernel
theorem dX8_partsOf_19 : decode cX8_partsOf 19 = .ok (.istore 6, 2) := by decide +kernel
theorem dX8_partsOf_21 : decode cX8_partsOf 21 = .ok (.iload 5, 2) := by decide +kernel
theorem dX8_partsOf_23 : decode cX8_partsOf 23 = .ok (.ifCond .eq 7, 3) := by decide +kernel
theorem dX8_partsOf_26 : decode cX8_partsOf 26 = .ok (.iconst 1, 1) := by decide +kernel
theorem dX8_partsOf_27 : decode cX8_partsOf 27 = .ok (.goto 4, 3) := by decide +kernel
theorem dX8_partsOf_30 : decode cX8_partsOf 30 = .ok (.iconst 0, 1) := by decide +kernel
theorem dX8_partsOf_31 : decode cX8_partsOf 31 = .ok (.istore 7, 2) := by decide +kernel
theorem dX8_partsOf_33 : decode cX8_partsOf 33 = .ok (.iconst 0, 1) := by decide +kernel
theorem dX8_partsOf_34 : decode cX8_partsOf 34 = .ok (.istore 8, 2) := by decide +kernel
theorem dX8_partsOf_36 : decode cX8_partsOf 36 = .ok (.iload 8, 2) := by decide +kernel
theorem dX8_partsOf_38 : decode cX8_partsOf 38 = .ok (.sipush 216, 3) := by decide +kernel
theorem dX8_partsOf_41 : decode cX8_partsOf 41 = .ok (.if_icmp .ge 88, 3) := by decide +kernel
theorem dX8_partsOf_44 : decode cX8_partsOf 44 = .ok (.iload 8, 2) := by decide +kernel
theorem dX8_partsOf_46 : decode cX8_partsOf 46 = .ok (.iload_n 3, 1) := by decide +kernel
theorem dX8_partsOf_47 : decode cX8_partsOf 47 = .ok (.if_icmp .eq 76, 3) := by decide +kernel
theorem dX8_partsOf_50 : decode cX8_partsOf 50 = .ok (.aload_n 0, 1) := by decide +kernel
theorem dX8_partsOf_51 : decode cX8_partsOf 51 = .ok (.iload_n 1, 1) := by decide +kernel
theorem dX8_partsOf_52 : decode cX8_partsOf 52 = .ok (.iload_n 2, 1) := by decide +kernel
theorem dX8_partsOf_53 : decode cX8_partsOf 53 = .ok (.iload 8, 2) := by decide +kernel
theorem dX8_partsOf_55 : decode cX8_partsOf 55 = .ok (.invokevirtual 348, 3) := by decide +kernel
theorem dX8_partsOf_58 : decode cX8_partsOf 58 = .ok (.ifCond .ne 6, 3) := by decide +kernel
theorem dX8_partsOf_61 : decode cX8_partsOf 61 = .ok (.goto 62, 3) := by decide +kernel
theorem dX8_partsOf_64 : decode cX8_partsOf 64 = .ok (.sipush 3564, 3) := by decide +kernel
theorem dX8_partsOf_67 : decode cX8_partsOf 67 = .ok (.aload_n 0, 1) := by decide +kernel
theorem dX8_partsOf_68 : decode cX8_partsOf 68 = .ok (.iload_n 3, 1) := by decide +kernel
theorem dX8_partsOf_69 : decode cX8_partsOf 69 = .ok (.iload 8, 2) := by decide +kernel
theorem dX8_partsOf_71 : decode cX8_partsOf 71 = .ok (.invokevirtual 317, 3) := by decide +kernel
theorem dX8_partsOf_74 : decode cX8_partsOf 74 = .ok (.iadd, 1) := by decide +kernel
theorem dX8_partsOf_75 : decode cX8_partsOf 75 = .ok (.istore 9, 2) := by decide +kernel
theorem dX8_partsOf_77 : decode cX8_partsOf 77 = .ok (.aload_n 0, 1) := by decide +kernel
theorem dX8_partsOf_78 : decode cX8_partsOf 78 = .ok (.getfield 61, 3) := by decide +kernel
theorem dX8_partsOf_81 : decode cX8_partsOf 81 = .ok (.iload 9, 2) := by decide +kernel
theorem dX8_partsOf_83 : decode cX8_partsOf 83 = .ok (.dup2, 1) := by decide +kernel
theorem dX8_partsOf_84 : decode cX8_partsOf 84 = .ok (.iaload, 1) := by decide +kernel
theorem dX8_partsOf_85 : decode cX8_partsOf 85 = .ok (.iconst 1, 1) := by decide +kernel
theorem dX8_partsOf_86 : decode cX8_partsOf 86 = .ok (.iadd, 1) := by decide +kernel
theorem dX8_partsOf_87 : decode cX8_partsOf 87 = .ok (.iastore, 1) := by decide +kernel
theorem dX8_partsOf_88 : decode cX8_partsOf 88 = .ok (.iload 6, 2) := by decide +kernel
theorem dX8_partsOf_90 : decode cX8_partsOf 90 = .ok (.aload_n 0, 1) := by decide +kernel
theorem dX8_partsOf_91 : decode cX8_partsOf 91 = .ok (.getfield 61, 3) := by decide +kernel
theorem dX8_partsOf_94 : decode cX8_partsOf 94 = .ok (.iload 9, 2) := by decide +kernel
theorem dX8_partsOf_96 : decode cX8_partsOf 96 = .ok (.iaload, 1) := by decide +kernel
theorem dX8_partsOf_97 : decode cX8_partsOf 97 = .ok (.iconst 1, 1) := by decide +kernel
theorem dX8_partsOf_98 : decode cX8_partsOf 98 = .ok (.if_icmp .ne 7, 3) := by decide +kernel
theorem dX8_partsOf_101 : decode cX8_partsOf 101 = .ok (.iconst 1, 1) := by decide +kernel
theorem dX8_partsOf_102 : decode cX8_partsOf 102 = .ok (.goto 4, 3) := by decide +kernel
theorem dX8_partsOf_105 : decode cX8_partsOf 105 = .ok (.iconst 0, 1) := by decide +kernel
theorem dX8_partsOf_106 : decode cX8_partsOf 106 = .ok (.iadd, 1) := by decide +kernel
theorem dX8_partsOf_107 : decode cX8_partsOf 107 = .ok (.istore 6, 2) := by decide +kernel
theorem dX8_partsOf_109 : decode cX8_partsOf 109 = .ok (.iload 7, 2) := by decide +kernel
theorem dX8_partsOf_111 : decode cX8_partsOf 111 = .ok (.aload_n 0, 1) := by decide +kernel
theorem dX8_partsOf_112 : decode cX8_partsOf 112 = .ok (.getfield 61, 3) := by decide +kernel
theorem dX8_partsOf_115 : decode cX8_partsOf 115 = .ok (.iload 9, 2) := by decide +kernel
theorem dX8_partsOf_117 : decode cX8_partsOf 117 = .ok (.iaload, 1) := by decide +kernel
theorem dX8_partsOf_118 : decode cX8_partsOf 118 = .ok (.invokestatic 326, 3) := by decide +kernel
theorem dX8_partsOf_121 : decode cX8_partsOf 121 = .ok (.istore 7, 2) := by decide +kernel
theorem dX8_partsOf_123 : decode cX8_partsOf 123 = .ok (.iinc 8 1, 3) := by decide +kernel
theorem dX8_partsOf_126 : decode cX8_partsOf 126 = .ok (.goto (-90), 3) := by decide +kernel
theorem dX8_partsOf_129 : decode cX8_partsOf 129 = .ok (.iconst 0, 1) := by decide +kernel
theorem dX8_partsOf_130 : decode cX8_partsOf 130 = .ok (.istore 8, 2) := by decide +kernel
theorem dX8_partsOf_132 : decode cX8_partsOf 132 = .ok (.iload 8, 2) := by decide +kernel
theorem dX8_partsOf_134 : decode cX8_partsOf 134 = .ok (.sipush 216, 3) := by decide +kernel
theorem dX8_partsOf_137 : decode cX8_partsOf 137 = .ok (.if_icmp .ge 26, 3) := by decide +kernel
theorem dX8_partsOf_140 : decode cX8_partsOf 140 = .ok (.aload_n 0, 1) := by decide +kernel
theorem dX8_partsOf_141 : decode cX8_partsOf 141 = .ok (.getfield 61, 3) := by decide +kernel
theorem dX8_partsOf_144 : decode cX8_partsOf 144 = .ok (.sipush 3564, 3) := by decide +kernel
theorem dX8_partsOf_147 : decode cX8_partsOf 147 = .ok (.aload_n 0, 1) := by decide +kernel
theorem dX8_partsOf_148 : decode cX8_partsOf 148 = .ok (.iload_n 3, 1) := by decide +kernel
theorem dX8_partsOf_149 : decode cX8_partsOf 149 = .ok (.iload 8, 2) := by decide +kernel
theorem dX8_partsOf_151 : decode cX8_partsOf 151 = .ok (.invokevirtual 317, 3) := by decide +kernel
theorem dX8_partsOf_154 : decode cX8_partsOf 154 = .ok (.iadd, 1) := by decide +kernel
theorem dX8_partsOf_155 : decode cX8_partsOf 155 = .ok (.iconst 0, 1) := by decide +kernel
theorem dX8_partsOf_156 : decode cX8_partsOf 156 = .ok (.iastore, 1) := by decide +kernel
theorem dX8_partsOf_157 : decode cX8_partsOf 157 = .ok (.iinc 8 1, 3) := by decide +kernel
theorem dX8_partsOf_160 : decode cX8_partsOf 160 = .ok (.goto (-28), 3) := by decide +kernel
theorem dX8_partsOf_163 : decode cX8_partsOf 163 = .ok (.iload 4, 2) := by decide +kernel
theorem dX8_partsOf_165 : decode cX8_partsOf 165 = .ok (.ifCond .eq 8, 3) := by decide +kernel
theorem dX8_partsOf_168 : decode cX8_partsOf 168 = .ok (.iload 7, 2) := by decide +kernel
theorem dX8_partsOf_170 : decode cX8_partsOf 170 = .ok (.goto 5, 3) := by decide +kernel
theorem dX8_partsOf_173 : decode cX8_partsOf 173 = .ok (.iload 6, 2) := by decide +kernel
theorem dX8_partsOf_175 : decode cX8_partsOf 175 = .ok (.ireturn, 1) := by decide +kernel
theorem dX8_parts_0 : decode cX8_parts 0 = .ok (.aload_n 0, 1) := by decide +kernel
theorem dX8_parts_1 : decode cX8_parts 1 = .ok (.iconst 0, 1) := by decide +kernel
theorem dX8_parts_2 : decode cX8_parts 2 = .ok (.putfield 3, 3) := by decide +kernel
theorem dX8_parts_5 : decode cX8_parts 5 = .ok (.aload_n 0, 1) := by decide +kernel
theorem dX8_parts_6 : decode cX8_parts 6 = .ok (.aload_n 0, 1) := by decide +kernel
theorem dX8_parts_7 : decode cX8_parts 7 = .ok (.iload_n 1, 1) := by decide +kernel
theorem dX8_parts_8 : decode cX8_parts 8 = .ok (.invokevirtual 342, 3) := by decide +kernel
theorem dX8_parts_11 : decode cX8_parts 11 = .ok (.ifCond .ne 18, 3) := by decide +kernel
theorem dX8_parts_14 : decode cX8_parts 14 = .ok (.aload_n 0, 1) := by decide +kernel
theorem dX8_parts_15 : decode cX8_parts 15 = .ok (.iload_n 2, 1) := by decide +kernel
theorem dX8_parts_16 : decode cX8_parts 16 = .ok (.invokevirtual 329, 3) := by decide +kernel
theorem dX8_parts_19 : decode cX8_parts 19 = .ok (.ifCond .ne 10, 3) := by decide +kernel
theorem dX8_parts_22 : decode cX8_parts 22 = .ok (.iload_n 3, 1) := by decide +kernel
theorem dX8_parts_23 : decode cX8_parts 23 = .ok (.invokestatic 311, 3) := by decide +kernel
theorem dX8_parts_26 : decode cX8_parts 26 = .ok (.ifCond .eq 7, 3) := by decide +kernel
theorem dX8_parts_29 : decode cX8_parts 29 = .ok (.iconst 1, 1) := by decide +kernel
theorem dX8_parts_30 : decode cX8_parts 30 = .ok (.goto 4, 3) := by decide +kernel
theorem dX8_parts_33 : decode cX8_parts 33 = .ok (.iconst 0, 1) := by decide +kernel
theorem dX8_parts_34 : decode cX8_parts 34 = .ok (.iconst 1, 1) := by decide +kernel
theorem dX8_parts_35 : decode cX8_parts 35 = .ok (.invokevirtual 281, 3) := by decide +kernel
theorem dX8_parts_38 : decode cX8_parts 38 = .ok (.ifCond .eq 5, 3) := by decide +kernel
theorem dX8_parts_41 : decode cX8_parts 41 = .ok (.iconst 0, 1) := by decide +kernel
theorem dX8_parts_42 : decode cX8_parts 42 = .ok (.ireturn, 1) := by decide +kernel
theorem dX8_parts_43 : decode cX8_parts 43 = .ok (.aload_n 0, 1) := by decide +kernel
theorem dX8_parts_44 : decode cX8_parts 44 = .ok (.invokevirtual 314, 3) := by decide +kernel
theorem dX8_parts_47 : decode cX8_parts 47 = .ok (.aload_n 0, 1) := by decide +kernel
theorem dX8_parts_48 : decode cX8_parts 48 = .ok (.iload_n 1, 1) := by decide +kernel
theorem dX8_parts_49 : decode cX8_parts 49 = .ok (.iload_n 2, 1) := by decide +kernel
theorem dX8_parts_50 : decode cX8_parts 50 = .ok (.iload_n 3, 1) := by decide +kernel
theorem dX8_parts_51 : decode cX8_parts 51 = .ok (.iload 4, 2) := by decide +kernel
theorem dX8_parts_53 : decode cX8_parts 53 = .ok (.invokevirtual 385, 3) := by decide +kernel
theorem dX8_parts_56 : decode cX8_parts 56 = .ok (.ireturn, 1) := by decide +kernel
theorem dX8_nextOf_0 : decode cX8_nextOf 0 = .ok (.iconst (-1), 1) := by decide +kernel
theorem dX8_nextOf_1 : decode cX8_nextOf 1 = .ok (.istore_n 3, 1) := by decide +kernel
theorem dX8_nextOf_2 : decode cX8_nextOf 2 = .ok (.ldc_w 389, 3) := by decide +kernel
theorem dX8_nextOf_5 : decode cX8_nextOf 5 = .ok (.istore 4, 2) := by decide +kernel
theorem dX8_nextOf_7 : decode cX8_nextOf 7 = .ok (.iconst 0, 1) := by decide +kernel
theorem dX8_nextOf_8 : decode cX8_nextOf 8 = .ok (.istore 5, 2) := by decide +kernel
theorem dX8_nextOf_10 : decode cX8_nextOf 10 = .ok (.iload 5, 2) := by decide +kernel
theorem dX8_nextOf_12 : decode cX8_nextOf 12 = .ok (.sipush 216, 3) := by decide +kernel
theorem dX8_nextOf_15 : decode cX8_nextOf 15 = .ok (.if_icmp .ge 56, 3) := by decide +kernel
theorem dX8_nextOf_18 : decode cX8_nextOf 18 = .ok (.iconst 2, 1) := by decide +kernel
theorem dX8_nextOf_19 : decode cX8_nextOf 19 = .ok (.aload_n 0, 1) := by decide +kernel
theorem dX8_nextOf_20 : decode cX8_nextOf 20 = .ok (.iload_n 1, 1) := by decide +kernel
theorem dX8_nextOf_21 : decode cX8_nextOf 21 = .ok (.iload_n 2, 1) := by decide +kernel
theorem dX8_nextOf_22 : decode cX8_nextOf 22 = .ok (.iload 5, 2) := by decide +kernel
theorem dX8_nextOf_24 : decode cX8_nextOf 24 = .ok (.iconst 1, 1) := by decide +kernel
theorem dX8_nextOf_25 : decode cX8_nextOf 25 = .ok (.invokevirtual 385, 3) := by decide +kernel
theorem dX8_nextOf_28 : decode cX8_nextOf 28 = .ok (.imul, 1) := by decide +kernel
theorem dX8_nextOf_29 : decode cX8_nextOf 29 = .ok (.aload_n 0, 1) := by decide +kernel
theorem dX8_nextOf_30 : decode cX8_nextOf 30 = .ok (.iload_n 1, 1) := by decide +kernel
theorem dX8_nextOf_31 : decode cX8_nextOf 31 = .ok (.iload_n 2, 1) := by decide +kernel
theorem dX8_nextOf_32 : decode cX8_nextOf 32 = .ok (.iload 5, 2) := by decide +kernel
theorem dX8_nextOf_34 : decode cX8_nextOf 34 = .ok (.invokevirtual 348, 3) := by decide +kernel
theorem dX8_nextOf_37 : decode cX8_nextOf 37 = .ok (.ifCond .eq 7, 3) := by decide +kernel
theorem dX8_nextOf_40 : decode cX8_nextOf 40 = .ok (.iconst 0, 1) := by decide +kernel
theorem dX8_nextOf_41 : decode cX8_nextOf 41 = .ok (.goto 4, 3) := by decide +kernel
theorem dX8_nextOf_44 : decode cX8_nextOf 44 = .ok (.iconst 1, 1) := by decide +kernel
theorem dX8_nextOf_45 : decode cX8_nextOf 45 = .ok (.iadd, 1) := by decide +kernel
theorem dX8_nextOf_46 : decode cX8_nextOf 46 = .ok (.istore 6, 2) := by decide +kernel
theorem dX8_nextOf_48 : decode cX8_nextOf 48 = .ok (.iload 6, 2) := by decide +kernel
theorem dX8_nextOf_50 : decode cX8_nextOf 50 = .ok (.iload 4, 2) := by decide +kernel
theorem dX8_nextOf_52 : decode cX8_nextOf 52 = .ok (.if_icmp .lt 6, 3) := by decide +kernel
theorem dX8_nextOf_55 : decode cX8_nextOf 55 = .ok (.goto 10, 3) := by decide +kernel
theorem dX8_nextOf_58 : decode cX8_nextOf 58 = .ok (.iload 5, 2) := by decide +kernel
theorem dX8_nextOf_60 : decode cX8_nextOf 60 = .ok (.istore_n 3, 1) := by decide +kernel
theorem dX8_nextOf_61 : decode cX8_nextOf 61 = .ok (.iload 6, 2) := by decide +kernel
theorem dX8_nextOf_63 : decode cX8_nextOf 63 = .ok (.istore 4, 2) := by decide +kernel
theorem dX8_nextOf_65 : decode cX8_nextOf 65 = .ok (.iinc 5 1, 3) := by decide +kernel
theorem dX8_nextOf_68 : decode cX8_nextOf 68 = .ok (.goto (-58), 3) := by decide +kernel
theorem dX8_nextOf_71 : decode cX8_nextOf 71 = .ok (.iload_n 3, 1) := by decide +kernel
theorem dX8_nextOf_72 : decode cX8_nextOf 72 = .ok (.ireturn, 1) := by decide +kernel
theorem dX8_next_0 : decode cX8_next 0 = .ok (.aload_n 0, 1) := by decide +kernel
theorem dX8_next_1 : decode cX8_next 1 = .ok (.iconst 0, 1) := by decide +kernel
theorem dX8_next_2 : decode cX8_next 2 = .ok (.putfield 3, 3) := by decide +kernel
theorem dX8_next_5 : decode cX8_next 5 = .ok (.aload_n 0, 1) := by decide +kernel
theorem dX8_next_6 : decode cX8_next 6 = .ok (.aload_n 0, 1) := by decide +kernel
theorem dX8_next_7 : decode cX8_next 7 = .ok (.iload_n 1, 1) := by decide +kernel
theorem dX8_next_8 : decode cX8_next 8 = .ok (.invokevirtual 342, 3) := by decide +kernel
theorem dX8_next_11 : decode cX8_next 11 = .ok (.ifCond .ne 11, 3) := by decide +kernel
theorem dX8_next_14 : decode cX8_next 14 = .ok (.aload_n 0, 1) := by decide +kernel
theorem dX8_next_15 : decode cX8_next 15 = .ok (.iload_n 2, 1) := by decide +kernel
theorem dX8_next_16 : decode cX8_next 16 = .ok (.invokevirtual 329, 3) := by decide +kernel
theorem dX8_next_19 : decode cX8_next 19 = .ok (.ifCond .eq 7, 3) := by decide +kernel
theorem dX8_next_22 : decode cX8_next 22 = .ok (.iconst 1, 1) := by decide +kernel
theorem dX8_next_23 : decode cX8_next 23 = .ok (.goto 4, 3) := by decide +kernel
theorem dX8_next_26 : decode cX8_next 26 = .ok (.iconst 0, 1) := by decide +kernel
theorem dX8_next_27 : decode cX8_next 27 = .ok (.iconst 1, 1) := by decide +kernel
theorem dX8_next_28 : decode cX8_next 28 = .ok (.invokevirtual 281, 3) := by decide +kernel
theorem dX8_next_31 : decode cX8_next 31 = .ok (.ifCond .eq 5, 3) := by decide +kernel
theorem dX8_next_34 : decode cX8_next 34 = .ok (.iconst 0, 1) := by decide +kernel
theorem dX8_next_35 : decode cX8_next 35 = .ok (.ireturn, 1) := by decide +kernel
theorem dX8_next_36 : decode cX8_next 36 = .ok (.aload_n 0, 1) := by decide +kernel
theorem dX8_next_37 : decode cX8_next 37 = .ok (.invokevirtual 314, 3) := by decide +kernel
theorem dX8_next_40 : decode cX8_next 40 = .ok (.aload_n 0, 1) := by decide +kernel
theorem dX8_next_41 : decode cX8_next 41 = .ok (.iload_n 1, 1) := by decide +kernel
theorem dX8_next_42 : decode cX8_next 42 = .ok (.iload_n 2, 1) := by decide +kernel
theorem dX8_next_43 : decode cX8_next 43 = .ok (.invokevirtual 390, 3) := by decide +kernel
theorem dX8_next_46 : decode cX8_next 46 = .ok (.ireturn, 1) := by decide +kernel
theorem dX8_outright_0 : decode cX8_outright 0 = .ok (.aload_n 0, 1) := by decide +kernel
theorem dX8_outright_1 : decode cX8_outright 1 = .ok (.iconst 0, 1) := by decide +kernel
theorem dX8_outright_2 : decode cX8_outright 2 = .ok (.putfield 3, 3) := by decide +kernel
theorem dX8_outright_5 : decode cX8_outright 5 = .ok (.aload_n 0, 1) := by decide +kernel
theorem dX8_outright_6 : decode cX8_outright 6 = .ok (.aload_n 0, 1) := by decide +kernel
theorem dX8_outright_7 : decode cX8_outright 7 = .ok (.iload_n 1, 1) := by decide +kernel
theorem dX8_outright_8 : decode cX8_outright 8 = .ok (.invokevirtual 342, 3) := by decide +kernel
theorem dX8_outright_11 : decode cX8_outright 11 = .ok (.ifCond .ne 11, 3) := by decide +kernel
theorem dX8_outright_14 : decode cX8_outright 14 = .ok (.aload_n 0, 1) := by decide +kernel
theorem dX8_outright_15 : decode cX8_outright 15 = .ok (.iload_n 2, 1) := by decide +kernel
theorem dX8_outright_16 : decode cX8_outright 16 = .ok (.invokevirtual 329, 3) := by decide +kernel
theorem dX8_outright_19 : decode cX8_outright 19 = .ok (.ifCond .eq 7, 3) := by decide +kernel
theorem dX8_outright_22 : decode cX8_outright 22 = .ok (.iconst 1, 1) := by decide +kernel
theorem dX8_outright_23 : decode cX8_outright 23 = .ok (.goto 4, 3) := by decide +kernel
theorem dX8_outright_26 : decode cX8_outright 26 = .ok (.iconst 0, 1) := by decide +kernel
theorem dX8_outright_27 : decode cX8_outright 27 = .ok (.iconst 1, 1) := by decide +kernel
theorem dX8_outright_28 : decode cX8_outright 28 = .ok (.invokevirtual 281, 3) := by decide +kernel
theorem dX8_outright_31 : decode cX8_outright 31 = .ok (.ifCond .eq 5, 3) := by decide +kernel
theorem dX8_outright_34 : decode cX8_outright 34 = .ok (.iconst 0, 1) := by decide +kernel
theorem dX8_outright_35 : decode cX8_outright 35 = .ok (.ireturn, 1) := by decide +kernel
theorem dX8_outright_36 : decode cX8_outright 36 = .ok (.aload_n 0, 1) := by decide +kernel
theorem dX8_outright_37 : decode cX8_outright 37 = .ok (.invokevirtual 314, 3) := by decide +kernel
theorem dX8_outright_40 : decode cX8_outright 40 = .ok (.iconst 0, 1) := by decide +kernel
theorem dX8_outright_41 : decode cX8_outright 41 = .ok (.istore_n 3, 1) := by decide +kernel
theorem dX8_outright_42 : decode cX8_outright 42 = .ok (.iload_n 3, 1) := by decide +kernel
theorem dX8_outright_43 : decode cX8_outright 43 = .ok (.sipush 216, 3) := by decide +kernel
theorem dX8_outright_46 : decode cX8_outright 46 = .ok (.if_icmp .ge 23, 3) := by decide +kernel
theorem dX8_outright_49 : decode cX8_outright 49 = .ok (.aload_n 0, 1) := by decide +kernel
theorem dX8_outright_50 : decode cX8_outright 50 = .ok (.iload_n 1, 1) := by decide +kernel
theorem dX8_outright_51 : decode cX8_outright 51 = .ok (.iload_n 2, 1) := by decide +kernel
theorem dX8_outright_52 : decode cX8_outright 52 = .ok (.iload_n 3, 1) := by decide +kernel
theorem dX8_outright_53 : decode cX8_outright 53 = .ok (.iconst 1, 1) := by decide +kernel
theorem dX8_outright_54 : decode cX8_outright 54 = .ok (.invokevirtual 385, 3) := by decide +kernel
theorem dX8_outright_57 : decode cX8_outright 57 = .ok (.iconst 1, 1) := by decide +kernel
theorem dX8_outright_58 : decode cX8_outright 58 = .ok (.if_icmp .gt 5, 3) := by decide +kernel
theorem dX8_outright_61 : decode cX8_outright 61 = .ok (.iload_n 3, 1) := by decide +kernel
theorem dX8_outright_62 : decode cX8_outright 62 = .ok (.ireturn, 1) := by decide +kernel
theorem dX8_outright_63 : decode cX8_outright 63 = .ok (.iinc 3 1, 3) := by decide +kernel
theorem dX8_outright_66 : decode cX8_outright 66 = .ok (.goto (-24), 3) := by decide +kernel
theorem dX8_outright_69 : decode cX8_outright 69 = .ok (.iconst (-1), 1) := by decide +kernel
theorem dX8_outright_70 : decode cX8_outright 70 = .ok (.ireturn, 1) := by decide +kernel
theorem dX8_worstBy_0 : decode cX8_worstBy 0 = .ok (.iconst 0, 1) := by decide +kernel
theorem dX8_worstBy_1 : decode cX8_worstBy 1 = .ok (.istore_n 3, 1) := by decide +kernel
theorem dX8_worstBy_2 : decode cX8_worstBy 2 = .ok (.iconst 0, 1) := by decide +kernel
theorem dX8_worstBy_3 : decode cX8_worstBy 3 = .ok (.istore 4, 2) := by decide +kernel
theorem dX8_worstBy_5 : decode cX8_worstBy 5 = .ok (.iload 4, 2) := by decide +kernel
theorem dX8_worstBy_7 : decode cX8_worstBy 7 = .ok (.bipush 6, 2) := by decide +kernel
theorem dX8_worstBy_9 : decode cX8_worstBy 9 = .ok (.if_icmp .ge 135, 3) := by decide +kernel
theorem dX8_worstBy_12 : decode cX8_worstBy 12 = .ok (.iload_n 1, 1) := by decide +kernel
theorem dX8_worstBy_13 : decode cX8_worstBy 13 = .ok (.iload 4, 2) := by decide +kernel
theorem dX8_worstBy_15 : decode cX8_worstBy 15 = .ok (.invokestatic 320, 3) := by decide +kernel
theorem dX8_worstBy_18 : decode cX8_worstBy 18 = .ok (.ifCond .eq 120, 3) := by decide +kernel
theorem dX8_worstBy_21 : decode cX8_worstBy 21 = .ok (.aload_n 0, 1) := by decide +kernel
theorem dX8_worstBy_22 : decode cX8_worstBy 22 = .ok (.getfield 64, 3) := by decide +kernel
theorem dX8_worstBy_25 : decode cX8_worstBy 25 = .ok (.iload 4, 2) := by decide +kernel
theorem dX8_worstBy_27 : decode cX8_worstBy 27 = .ok (.iaload, 1) := by decide +kernel
theorem dX8_worstBy_28 : decode cX8_worstBy 28 = .ok (.iload_n 2, 1) := by decide +kernel
theorem dX8_worstBy_29 : decode cX8_worstBy 29 = .ok (.if_icmp .ne 6, 3) := by decide +kernel
theorem dX8_worstBy_32 : decode cX8_worstBy 32 = .ok (.goto 106, 3) := by decide +kernel
theorem dX8_worstBy_35 : decode cX8_worstBy 35 = .ok (.iconst 0, 1) := by decide +kernel
theorem dX8_worstBy_36 : decode cX8_worstBy 36 = .ok (.istore 5, 2) := by decide +kernel
theorem dX8_worstBy_38 : decode cX8_worstBy 38 = .ok (.iconst 0, 1) := by decide +kernel
theorem dX8_worstBy_39 : decode cX8_worstBy 39 = .ok (.istore 6, 2) := by decide +kernel
theorem dX8_worstBy_41 : decode cX8_worstBy 41 = .ok (.iload 6, 2) := by decide +kernel
theorem dX8_worstBy_43 : decode cX8_worstBy 43 = .ok (.bipush 6, 2) := by decide +kernel
theorem dX8_worstBy_45 : decode cX8_worstBy 45 = .ok (.if_icmp .ge 69, 3) := by decide +kernel
theorem dX8_worstBy_48 : decode cX8_worstBy 48 = .ok (.iload 5, 2) := by decide +kernel
theorem dX8_worstBy_50 : decode cX8_worstBy 50 = .ok (.iload_n 1, 1) := by decide +kernel
theorem dX8_worstBy_51 : decode cX8_worstBy 51 = .ok (.iload 6, 2) := by decide +kernel
theorem dX8_worstBy_53 : decode cX8_worstBy 53 = .ok (.invokestatic 320, 3) := by decide +kernel
theorem dX8_worstBy_56 : decode cX8_worstBy 56 = .ok (.ifCond .eq 48, 3) := by decide +kernel
theorem dX8_worstBy_59 : decode cX8_worstBy 59 = .ok (.aload_n 0, 1) := by decide +kernel
theorem dX8_worstBy_60 : decode cX8_worstBy 60 = .ok (.getfield 64, 3) := by decide +kernel
theorem dX8_worstBy_63 : decode cX8_worstBy 63 = .ok (.iload 6, 2) := by decide +kernel
theorem dX8_worstBy_65 : decode cX8_worstBy 65 = .ok (.iaload, 1) := by decide +kernel
theorem dX8_worstBy_66 : decode cX8_worstBy 66 = .ok (.iload_n 2, 1) := by decide +kernel
theorem dX8_worstBy_67 : decode cX8_worstBy 67 = .ok (.if_icmp .eq 37, 3) := by decide +kernel
theorem dX8_worstBy_70 : decode cX8_worstBy 70 = .ok (.aload_n 0, 1) := by decide +kernel
theorem dX8_worstBy_71 : decode cX8_worstBy 71 = .ok (.iload_n 2, 1) := by decide +kernel
theorem dX8_worstBy_72 : decode cX8_worstBy 72 = .ok (.aload_n 0, 1) := by decide +kernel
theorem dX8_worstBy_73 : decode cX8_worstBy 73 = .ok (.getfield 64, 3) := by decide +kernel
theorem dX8_worstBy_76 : decode cX8_worstBy 76 = .ok (.iload 6, 2) := by decide +kernel
theorem dX8_worstBy_78 : decode cX8_worstBy 78 = .ok (.iaload, 1) := by decide +kernel
theorem dX8_worstBy_79 : decode cX8_worstBy 79 = .ok (.invokevirtual 317, 3) := by decide +kernel
theorem dX8_worstBy_82 : decode cX8_worstBy 82 = .ok (.aload_n 0, 1) := by decide +kernel
theorem dX8_worstBy_83 : decode cX8_worstBy 83 = .ok (.iload_n 2, 1) := by decide +kernel
theorem dX8_worstBy_84 : decode cX8_worstBy 84 = .ok (.aload_n 0, 1) := by decide +kernel
theorem dX8_worstBy_85 : decode cX8_worstBy 85 = .ok (.getfield 64, 3) := by decide +kernel
theorem dX8_worstBy_88 : decode cX8_worstBy 88 = .ok (.iload 4, 2) := by decide +kernel
theorem dX8_worstBy_90 : decode cX8_worstBy 90 = .ok (.iaload, 1) := by decide +kernel
theorem dX8_worstBy_91 : decode cX8_worstBy 91 = .ok (.invokevirtual 317, 3) := by decide +kernel
theorem dX8_worstBy_94 : decode cX8_worstBy 94 = .ok (.if_icmp .ne 10, 3) := by decide +kernel
theorem dX8_worstBy_97 : decode cX8_worstBy 97 = .ok (.iconst 1, 1) := by decide +kernel
theorem dX8_worstBy_98 : decode cX8_worstBy 98 = .ok (.iload 6, 2) := by decide +kernel
theorem dX8_worstBy_100 : decode cX8_worstBy 100 = .ok (.ishl, 1) := by decide +kernel
theorem dX8_worstBy_101 : decode cX8_worstBy 101 = .ok (.goto 4, 3) := by decide +kernel
theorem dX8_worstBy_104 : decode cX8_worstBy 104 = .ok (.iconst 0, 1) := by decide +kernel
theorem dX8_worstBy_105 : decode cX8_worstBy 105 = .ok (.ior, 1) := by decide +kernel
theorem dX8_worstBy_106 : decode cX8_worstBy 106 = .ok (.istore 5, 2) := by decide +kernel
theorem dX8_worstBy_108 : decode cX8_worstBy 108 = .ok (.iinc 6 1, 3) := by decide +kernel
theorem dX8_worstBy_111 : decode cX8_worstBy 111 = .ok (.goto (-70), 3) := by decide +kernel
theorem dX8_worstBy_114 : decode cX8_worstBy 114 = .ok (.iload_n 3, 1) := by decide +kernel
theorem dX8_worstBy_115 : decode cX8_worstBy 115 = .ok (.iload 5, 2) := by decide +kernel
theorem dX8_worstBy_117 : decode cX8_worstBy 117 = .ok (.iload_n 1, 1) := by decide +kernel
theorem dX8_worstBy_118 : decode cX8_worstBy 118 = .ok (.if_icmp .ne 9, 3) := by decide +kernel
theorem dX8_worstBy_121 : decode cX8_worstBy 121 = .ok (.ldc_w 389, 3) := by decide +kernel
theorem dX8_worstBy_124 : decode cX8_worstBy 124 = .ok (.goto 10, 3) := by decide +kernel
theorem dX8_worstBy_127 : decode cX8_worstBy 127 = .ok (.aload_n 0, 1) := by decide +kernel
theorem dX8_worstBy_128 : decode cX8_worstBy 128 = .ok (.getfield 67, 3) := by decide +kernel
theorem dX8_worstBy_131 : decode cX8_worstBy 131 = .ok (.iload 5, 2) := by decide +kernel
theorem dX8_worstBy_133 : decode cX8_worstBy 133 = .ok (.iaload, 1) := by decide +kernel
theorem dX8_worstBy_134 : decode cX8_worstBy 134 = .ok (.invokestatic 326, 3) := by decide +kernel
theorem dX8_worstBy_137 : decode cX8_worstBy 137 = .ok (.istore_n 3, 1) := by decide +kernel
theorem dX8_worstBy_138 : decode cX8_worstBy 138 = .ok (.iinc 4 1, 3) := by decide +kernel
theorem dX8_worstBy_141 : decode cX8_worstBy 141 = .ok (.goto (-136), 3) := by decide +kernel
theorem dX8_worstBy_144 : decode cX8_worstBy 144 = .ok (.iload_n 3, 1) := by decide +kernel
theorem dX8_worstBy_145 : decode cX8_worstBy 145 = .ok (.ireturn, 1) := by decide +kernel
theorem dX8_worst_0 : decode cX8_worst 0 = .ok (.aload_n 0, 1) := by decide +kernel
theorem dX8_worst_1 : decode cX8_worst 1 = .ok (.iconst 0, 1) := by decide +kernel
theorem dX8_worst_2 : decode cX8_worst 2 = .ok (.putfield 3, 3) := by decide +kernel
theorem dX8_worst_5 : decode cX8_worst 5 = .ok (.aload_n 0, 1) := by decide +kernel
theorem dX8_worst_6 : decode cX8_worst 6 = .ok (.aload_n 0, 1) := by decide +kernel
theorem dX8_worst_7 : decode cX8_worst 7 = .ok (.iload_n 1, 1) := by decide +kernel
theorem dX8_worst_8 : decode cX8_worst 8 = .ok (.invokevirtual 342, 3) := by decide +kernel
theorem dX8_worst_11 : decode cX8_worst 11 = .ok (.ifCond .ne 11, 3) := by decide +kernel
theorem dX8_worst_14 : decode cX8_worst 14 = .ok (.aload_n 0, 1) := by decide +kernel
theorem dX8_worst_15 : decode cX8_worst 15 = .ok (.iload_n 2, 1) := by decide +kernel
theorem dX8_worst_16 : decode cX8_worst 16 = .ok (.invokevirtual 329, 3) := by decide +kernel
theorem dX8_worst_19 : decode cX8_worst 19 = .ok (.ifCond .eq 7, 3) := by decide +kernel
theorem dX8_worst_22 : decode cX8_worst 22 = .ok (.iconst 1, 1) := by decide +kernel
theorem dX8_worst_23 : decode cX8_worst 23 = .ok (.goto 4, 3) := by decide +kernel
theorem dX8_worst_26 : decode cX8_worst 26 = .ok (.iconst 0, 1) := by decide +kernel
theorem dX8_worst_27 : decode cX8_worst 27 = .ok (.iconst 1, 1) := by decide +kernel
theorem dX8_worst_28 : decode cX8_worst 28 = .ok (.invokevirtual 281, 3) := by decide +kernel
theorem dX8_worst_31 : decode cX8_worst 31 = .ok (.ifCond .eq 5, 3) := by decide +kernel
theorem dX8_worst_34 : decode cX8_worst 34 = .ok (.iconst 0, 1) := by decide +kernel
theorem dX8_worst_35 : decode cX8_worst 35 = .ok (.ireturn, 1) := by decide +kernel
theorem dX8_worst_36 : decode cX8_worst 36 = .ok (.aload_n 0, 1) := by decide +kernel
theorem dX8_worst_37 : decode cX8_worst 37 = .ok (.iload_n 1, 1) := by decide +kernel
theorem dX8_worst_38 : decode cX8_worst 38 = .ok (.iload_n 2, 1) := by decide +kernel
theorem dX8_worst_39 : decode cX8_worst 39 = .ok (.invokevirtual 345, 3) := by decide +kernel
theorem dX8_worst_42 : decode cX8_worst 42 = .ok (.istore_n 3, 1) := by decide +kernel
theorem dX8_worst_43 : decode cX8_worst 43 = .ok (.iload_n 3, 1) := by decide +kernel
theorem dX8_worst_44 : decode cX8_worst 44 = .ok (.bipush 6, 2) := by decide +kernel
theorem dX8_worst_46 : decode cX8_worst 46 = .ok (.if_icmp .le 6, 3) := by decide +kernel
theorem dX8_worst_49 : decode cX8_worst 49 = .ok (.bipush (-3), 2) := by decide +kernel
theorem dX8_worst_51 : decode cX8_worst 51 = .ok (.ireturn, 1) := by decide +kernel
theorem dX8_worst_52 : decode cX8_worst 52 = .ok (.aload_n 0, 1) := by decide +kernel
theorem dX8_worst_53 : decode cX8_worst 53 = .ok (.invokevirtual 314, 3) := by decide +kernel
theorem dX8_worst_56 : decode cX8_worst 56 = .ok (.iconst 0, 1) := by decide +kernel
theorem dX8_worst_57 : decode cX8_worst 57 = .ok (.istore 4, 2) := by decide +kernel
theorem dX8_worst_59 : decode cX8_worst 59 = .ok (.iconst 0, 1) := by decide +kernel
theorem dX8_worst_60 : decode cX8_worst 60 = .ok (.istore 5, 2) := by decide +kernel
theorem dX8_worst_62 : decode cX8_worst 62 = .ok (.iload 5, 2) := by decide +kernel
theorem dX8_worst_64 : decode cX8_worst 64 = .ok (.sipush 216, 3) := by decide +kernel
theorem dX8_worst_67 : decode cX8_worst 67 = .ok (.if_icmp .ge 35, 3) := by decide +kernel
theorem dX8_worst_70 : decode cX8_worst 70 = .ok (.aload_n 0, 1) := by decide +kernel
theorem dX8_worst_71 : decode cX8_worst 71 = .ok (.iload_n 1, 1) := by decide +kernel
theorem dX8_worst_72 : decode cX8_worst 72 = .ok (.iload_n 2, 1) := by decide +kernel
theorem dX8_worst_73 : decode cX8_worst 73 = .ok (.iload 5, 2) := by decide +kernel
theorem dX8_worst_75 : decode cX8_worst 75 = .ok (.invokevirtual 348, 3) := by decide +kernel
theorem dX8_worst_78 : decode cX8_worst 78 = .ok (.ifCond .ne 6, 3) := by decide +kernel
theorem dX8_worst_81 : decode cX8_worst 81 = .ok (.goto 15, 3) := by decide +kernel
theorem dX8_worst_84 : decode cX8_worst 84 = .ok (.aload_n 0, 1) := by decide +kernel
theorem dX8_worst_85 : decode cX8_worst 85 = .ok (.getfield 64, 3) := by decide +kernel
theorem dX8_worst_88 : decode cX8_worst 88 = .ok (.iload 4, 2) := by decide +kernel
theorem dX8_worst_90 : decode cX8_worst 90 = .ok (.iload 5, 2) := by decide +kernel
theorem dX8_worst_92 : decode cX8_worst 92 = .ok (.iastore, 1) := by decide +kernel
theorem dX8_worst_93 : decode cX8_worst 93 = .ok (.iinc 4 1, 3) := by decide +kernel
theorem dX8_worst_96 : decode cX8_worst 96 = .ok (.iinc 5 1, 3) := by decide +kernel
theorem dX8_worst_99 : decode cX8_worst 99 = .ok (.goto (-37), 3) := by decide +kernel
theorem dX8_worst_102 : decode cX8_worst 102 = .ok (.iconst 1, 1) := by decide +kernel
theorem dX8_worst_103 : decode cX8_worst 103 = .ok (.istore 5, 2) := by decide +kernel
theorem dX8_worst_105 : decode cX8_worst 105 = .ok (.iload 5, 2) := by decide +kernel
theorem dX8_worst_107 : decode cX8_worst 107 = .ok (.iconst 1, 1) := by decide +kernel
theorem dX8_worst_108 : decode cX8_worst 108 = .ok (.iload_n 3, 1) := by decide +kernel
theorem dX8_worst_109 : decode cX8_worst 109 = .ok (.ishl, 1) := by decide +kernel
theorem dX8_worst_110 : decode cX8_worst 110 = .ok (.if_icmp .ge 63, 3) := by decide +kernel
theorem dX8_worst_113 : decode cX8_worst 113 = .ok (.aload_n 0, 1) := by decide +kernel
theorem dX8_worst_114 : decode cX8_worst 114 = .ok (.getfield 67, 3) := by decide +kernel
theorem dX8_worst_117 : decode cX8_worst 117 = .ok (.iload 5, 2) := by decide +kernel
theorem dX8_worst_119 : decode cX8_worst 119 = .ok (.ldc_w 389, 3) := by decide +kernel
theorem dX8_worst_122 : decode cX8_worst 122 = .ok (.iastore, 1) := by decide +kernel
theorem dX8_worst_123 : decode cX8_worst 123 = .ok (.iconst 0, 1) := by decide +kernel
theorem dX8_worst_124 : decode cX8_worst 124 = .ok (.istore 6, 2) := by decide +kernel
theorem dX8_worst_126 : decode cX8_worst 126 = .ok (.iload 6, 2) := by decide +kernel
theorem dX8_worst_128 : decode cX8_worst 128 = .ok (.sipush 216, 3) := by decide +kernel
theorem dX8_worst_131 : decode cX8_worst 131 = .ok (.if_icmp .ge 36, 3) := by decide +kernel
theorem dX8_worst_134 : decode cX8_worst 134 = .ok (.aload_n 0, 1) := by decide +kernel
theorem dX8_worst_135 : decode cX8_worst 135 = .ok (.getfield 67, 3) := by decide +kernel
theorem dX8_worst_138 : decode cX8_worst 138 = .ok (.iload 5, 2) := by decide +kernel
theorem dX8_worst_140 : decode cX8_worst 140 = .ok (.aload_n 0, 1) := by decide +kernel
theorem dX8_worst_141 : decode cX8_worst 141 = .ok (.getfield 67, 3) := by decide +kernel
theorem dX8_worst_144 : decode cX8_worst 144 = .ok (.iload 5, 2) := by decide +kernel
theorem dX8_worst_146 : decode cX8_worst 146 = .ok (.iaload, 1) := by decide +kernel
theorem dX8_worst_147 : decode cX8_worst 147 = .ok (.iconst 1, 1) := by decide +kernel
theorem dX8_worst_148 : decode cX8_worst 148 = .ok (.aload_n 0, 1) := by decide +kernel
theorem dX8_worst_149 : decode cX8_worst 149 = .ok (.iload 5, 2) := by decide +kernel
theorem dX8_worst_151 : decode cX8_worst 151 = .ok (.iload 6, 2) := by decide +kernel
theorem dX8_worst_153 : decode cX8_worst 153 = .ok (.invokevirtual 393, 3) := by decide +kernel
theorem dX8_worst_156 : decode cX8_worst 156 = .ok (.iadd, 1) := by decide +kernel
theorem dX8_worst_157 : decode cX8_worst 157 = .ok (.invokestatic 290, 3) := by decide +kernel
theorem dX8_worst_160 : decode cX8_worst 160 = .ok (.iastore, 1) := by decide +kernel
theorem dX8_worst_161 : decode cX8_worst 161 = .ok (.iinc 6 1, 3) := by decide +kernel
theorem dX8_worst_164 : decode cX8_worst 164 = .ok (.goto (-38), 3) := by decide +kernel
theorem dX8_worst_167 : decode cX8_worst 167 = .ok (.iinc 5 1, 3) := by decide +kernel
theorem dX8_worst_170 : decode cX8_worst 170 = .ok (.goto (-65), 3) := by decide +kernel
theorem dX8_worst_173 : decode cX8_worst 173 = .ok (.aload_n 0, 1) := by decide +kernel
theorem dX8_worst_174 : decode cX8_worst 174 = .ok (.getfield 67, 3) := by decide +kernel
theorem dX8_worst_177 : decode cX8_worst 177 = .ok (.iconst 1, 1) := by decide +kernel
theorem dX8_worst_178 : decode cX8_worst 178 = .ok (.iload_n 3, 1) := by decide +kernel
theorem dX8_worst_179 : decode cX8_worst 179 = .ok (.ishl, 1) := by decide +kernel
theorem dX8_worst_180 : decode cX8_worst 180 = .ok (.iconst 1, 1) := by decide +kernel
theorem dX8_worst_181 : decode cX8_worst 181 = .ok (.isub, 1) := by decide +kernel
theorem dX8_worst_182 : decode cX8_worst 182 = .ok (.iaload, 1) := by decide +kernel
theorem dX8_worst_183 : decode cX8_worst 183 = .ok (.ireturn, 1) := by decide +kernel
theorem dX8_sharedBy_0 : decode cX8_sharedBy 0 = .ok (.iconst 0, 1) := by decide +kernel
theorem dX8_sharedBy_1 : decode cX8_sharedBy 1 = .ok (.istore_n 3, 1) := by decide +kernel
theorem dX8_sharedBy_2 : decode cX8_sharedBy 2 = .ok (.iconst 0, 1) := by decide +kernel
theorem dX8_sharedBy_3 : decode cX8_sharedBy 3 = .ok (.istore 4, 2) := by decide +kernel
theorem dX8_sharedBy_5 : decode cX8_sharedBy 5 = .ok (.iload 4, 2) := by decide +kernel
theorem dX8_sharedBy_7 : decode cX8_sharedBy 7 = .ok (.sipush 216, 3) := by decide +kernel
theorem dX8_sharedBy_10 : decode cX8_sharedBy 10 = .ok (.if_icmp .ge 39, 3) := by decide +kernel
theorem dX8_sharedBy_13 : decode cX8_sharedBy 13 = .ok (.iload_n 3, 1) := by decide +kernel
theorem dX8_sharedBy_14 : decode cX8_sharedBy 14 = .ok (.iload 4, 2) := by decide +kernel
theorem dX8_sharedBy_16 : decode cX8_sharedBy 16 = .ok (.iload_n 1, 1) := by decide +kernel
theorem dX8_sharedBy_17 : decode cX8_sharedBy 17 = .ok (.if_icmp .eq 23, 3) := by decide +kernel
theorem dX8_sharedBy_20 : decode cX8_sharedBy 20 = .ok (.aload_n 0, 1) := by decide +kernel
theorem dX8_sharedBy_21 : decode cX8_sharedBy 21 = .ok (.iload_n 1, 1) := by decide +kernel
theorem dX8_sharedBy_22 : decode cX8_sharedBy 22 = .ok (.iload 4, 2) := by decide +kernel
theorem dX8_sharedBy_24 : decode cX8_sharedBy 24 = .ok (.invokevirtual 317, 3) := by decide +kernel
theorem dX8_sharedBy_27 : decode cX8_sharedBy 27 = .ok (.aload_n 0, 1) := by decide +kernel
theorem dX8_sharedBy_28 : decode cX8_sharedBy 28 = .ok (.iload_n 1, 1) := by decide +kernel
theorem dX8_sharedBy_29 : decode cX8_sharedBy 29 = .ok (.iload_n 2, 1) := by decide +kernel
theorem dX8_sharedBy_30 : decode cX8_sharedBy 30 = .ok (.invokevirtual 317, 3) := by decide +kernel
theorem dX8_sharedBy_33 : decode cX8_sharedBy 33 = .ok (.if_icmp .ne 7, 3) := by decide +kernel
theorem dX8_sharedBy_36 : decode cX8_sharedBy 36 = .ok (.iconst 1, 1) := by decide +kernel
theorem dX8_sharedBy_37 : decode cX8_sharedBy 37 = .ok (.goto 4, 3) := by decide +kernel
theorem dX8_sharedBy_40 : decode cX8_sharedBy 40 = .ok (.iconst 0, 1) := by decide +kernel
theorem dX8_sharedBy_41 : decode cX8_sharedBy 41 = .ok (.iadd, 1) := by decide +kernel
theorem dX8_sharedBy_42 : decode cX8_sharedBy 42 = .ok (.istore_n 3, 1) := by decide +kernel
theorem dX8_sharedBy_43 : decode cX8_sharedBy 43 = .ok (.iinc 4 1, 3) := by decide +kernel
theorem dX8_sharedBy_46 : decode cX8_sharedBy 46 = .ok (.goto (-41), 3) := by decide +kernel
theorem dX8_sharedBy_49 : decode cX8_sharedBy 49 = .ok (.iload_n 3, 1) := by decide +kernel
theorem dX8_sharedBy_50 : decode cX8_sharedBy 50 = .ok (.ireturn, 1) := by decide +kernel
theorem dX8_quietest_0 : decode cX8_quietest 0 = .ok (.aload_n 0, 1) := by decide +kernel
theorem dX8_quietest_1 : decode cX8_quietest 1 = .ok (.iconst 0, 1) := by decide +kernel
theorem dX8_quietest_2 : decode cX8_quietest 2 = .ok (.putfield 3, 3) := by decide +kernel
theorem dX8_quietest_5 : decode cX8_quietest 5 = .ok (.aload_n 0, 1) := by decide +kernel
theorem dX8_quietest_6 : decode cX8_quietest 6 = .ok (.iload_n 1, 1) := by decide +kernel
theorem dX8_quietest_7 : decode cX8_quietest 7 = .ok (.invokestatic 311, 3) := by decide +kernel
theorem dX8_quietest_10 : decode cX8_quietest 10 = .ok (.iconst 1, 1) := by decide +kernel
theorem dX8_quietest_11 : decode cX8_quietest 11 = .ok (.invokevirtual 281, 3) := by decide +kernel
theorem dX8_quietest_14 : decode cX8_quietest 14 = .ok (.ifCond .eq 5, 3) := by decide +kernel
theorem dX8_quietest_17 : decode cX8_quietest 17 = .ok (.iconst 0, 1) := by decide +kernel
theorem dX8_quietest_18 : decode cX8_quietest 18 = .ok (.ireturn, 1) := by decide +kernel
theorem dX8_quietest_19 : decode cX8_quietest 19 = .ok (.aload_n 0, 1) := by decide +kernel
theorem dX8_quietest_20 : decode cX8_quietest 20 = .ok (.invokevirtual 314, 3) := by decide +kernel
theorem dX8_quietest_23 : decode cX8_quietest 23 = .ok (.iconst (-1), 1) := by decide +kernel
theorem dX8_quietest_24 : decode cX8_quietest 24 = .ok (.istore_n 2, 1) := by decide +kernel
theorem dX8_quietest_25 : decode cX8_quietest 25 = .ok (.iconst 0, 1) := by decide +kernel
theorem dX8_quietest_26 : decode cX8_quietest 26 = .ok (.istore_n 3, 1) := by decide +kernel
theorem dX8_quietest_27 : decode cX8_quietest 27 = .ok (.iconst 0, 1) := by decide +kernel
theorem dX8_quietest_28 : decode cX8_quietest 28 = .ok (.istore 4, 2) := by decide +kernel
theorem dX8_quietest_30 : decode cX8_quietest 30 = .ok (.iload 4, 2) := by decide +kernel
theorem dX8_quietest_32 : decode cX8_quietest 32 = .ok (.sipush 216, 3) := by decide +kernel
theorem dX8_quietest_35 : decode cX8_quietest 35 = .ok (.if_icmp .ge 43, 3) := by decide +kernel
theorem dX8_quietest_38 : decode cX8_quietest 38 = .ok (.iload 4, 2) := by decide +kernel
theorem dX8_quietest_40 : decode cX8_quietest 40 = .ok (.iload_n 1, 1) := by decide +kernel
theorem dX8_quietest_41 : decode cX8_quietest 41 = .ok (.if_icmp .ne 7, 3) := by decide +kernel
theorem dX8_quietest_44 : decode cX8_quietest 44 = .ok (.iconst 0, 1) := by decide +kernel
theorem dX8_quietest_45 : decode cX8_quietest 45 = .ok (.goto 10, 3) := by decide +kernel
theorem dX8_quietest_48 : decode cX8_quietest 48 = .ok (.aload_n 0, 1) := by decide +kernel
theorem dX8_quietest_49 : decode cX8_quietest 49 = .ok (.iload_n 1, 1) := by decide +kernel
theorem dX8_quietest_50 : decode cX8_quietest 50 = .ok (.iload 4, 2) := by decide +kernel
theorem dX8_quietest_52 : decode cX8_quietest 52 = .ok (.invokevirtual 396, 3) := by decide +kernel
theorem dX8_quietest_55 : decode cX8_quietest 55 = .ok (.istore 5, 2) := by decide +kernel
theorem dX8_quietest_57 : decode cX8_quietest 57 = .ok (.iload 5, 2) := by decide +kernel
theorem dX8_quietest_59 : decode cX8_quietest 59 = .ok (.iload_n 3, 1) := by decide +kernel
theorem dX8_quietest_60 : decode cX8_quietest 60 = .ok (.if_icmp .gt 6, 3) := by decide +kernel
theorem dX8_quietest_63 : decode cX8_quietest 63 = .ok (.goto 9, 3) := by decide +kernel
theorem dX8_quietest_66 : decode cX8_quietest 66 = .ok (.iload 4, 2) := by decide +kernel
theorem dX8_quietest_68 : decode cX8_quietest 68 = .ok (.istore_n 2, 1) := by decide +kernel
theorem dX8_quietest_69 : decode cX8_quietest 69 = .ok (.iload 5, 2) := by decide +kernel
theorem dX8_quietest_71 : decode cX8_quietest 71 = .ok (.istore_n 3, 1) := by decide +kernel
theorem dX8_quietest_72 : decode cX8_quietest 72 = .ok (.iinc 4 1, 3) := by decide +kernel
theorem dX8_quietest_75 : decode cX8_quietest 75 = .ok (.goto (-45), 3) := by decide +kernel
theorem dX8_quietest_78 : decode cX8_quietest 78 = .ok (.iload_n 2, 1) := by decide +kernel
theorem dX8_quietest_79 : decode cX8_quietest 79 = .ok (.ireturn, 1) := by decide +kernel
theorem dX8_rangeOf_0 : decode cX8_rangeOf 0 = .ok (.ldc_w 399, 3) := by decide +kernel
theorem dX8_rangeOf_3 : decode cX8_rangeOf 3 = .ok (.istore_n 2, 1) := by decide +kernel
theorem dX8_rangeOf_4 : decode cX8_rangeOf 4 = .ok (.ldc_w 389, 3) := by decide +kernel
theorem dX8_rangeOf_7 : decode cX8_rangeOf 7 = .ok (.istore_n 3, 1) := by decide +kernel
theorem dX8_rangeOf_8 : decode cX8_rangeOf 8 = .ok (.iconst 0, 1) := by decide +kernel
theorem dX8_rangeOf_9 : decode cX8_rangeOf 9 = .ok (.istore 4, 2) := by decide +kernel
theorem dX8_rangeOf_11 : decode cX8_rangeOf 11 = .ok (.iload 4, 2) := by decide +kernel
theorem dX8_rangeOf_13 : decode cX8_rangeOf 13 = .ok (.sipush 216, 3) := by decide +kernel
theorem dX8_rangeOf_16 : decode cX8_rangeOf 16 = .ok (.if_icmp .ge 33, 3) := by decide +kernel
theorem dX8_rangeOf_19 : decode cX8_rangeOf 19 = .ok (.iload_n 2, 1) := by decide +kernel
theorem dX8_rangeOf_20 : decode cX8_rangeOf 20 = .ok (.aload_n 0, 1) := by decide +kernel
theorem dX8_rangeOf_21 : decode cX8_rangeOf 21 = .ok (.iload_n 1, 1) := by decide +kernel
theorem dX8_rangeOf_22 : decode cX8_rangeOf 22 = .ok (.iload 4, 2) := by decide +kernel
theorem dX8_rangeOf_24 : decode cX8_rangeOf 24 = .ok (.invokevirtual 317, 3) := by decide +kernel
theorem dX8_rangeOf_27 : decode cX8_rangeOf 27 = .ok (.invokestatic 326, 3) := by decide +kernel
theorem dX8_rangeOf_30 : decode cX8_rangeOf 30 = .ok (.istore_n 2, 1) := by decide +kernel
theorem dX8_rangeOf_31 : decode cX8_rangeOf 31 = .ok (.iload_n 3, 1) := by decide +kernel
theorem dX8_rangeOf_32 : decode cX8_rangeOf 32 = .ok (.aload_n 0, 1) := by decide +kernel
theorem dX8_rangeOf_33 : decode cX8_rangeOf 33 = .ok (.iload_n 1, 1) := by decide +kernel
theorem dX8_rangeOf_34 : decode cX8_rangeOf 34 = .ok (.iload 4, 2) := by decide +kernel
theorem dX8_rangeOf_36 : decode cX8_rangeOf 36 = .ok (.invokevirtual 317, 3) := by decide +kernel
theorem dX8_rangeOf_39 : decode cX8_rangeOf 39 = .ok (.invokestatic 290, 3) := by decide +kernel
theorem dX8_rangeOf_42 : decode cX8_rangeOf 42 = .ok (.istore_n 3, 1) := by decide +kernel
theorem dX8_rangeOf_43 : decode cX8_rangeOf 43 = .ok (.iinc 4 1, 3) := by decide +kernel
theorem dX8_rangeOf_46 : decode cX8_rangeOf 46 = .ok (.goto (-35), 3) := by decide +kernel
theorem dX8_rangeOf_49 : decode cX8_rangeOf 49 = .ok (.iload_n 2, 1) := by decide +kernel
theorem dX8_rangeOf_50 : decode cX8_rangeOf 50 = .ok (.iload_n 3, 1) := by decide +kernel
theorem dX8_rangeOf_51 : decode cX8_rangeOf 51 = .ok (.isub, 1) := by decide +kernel
theorem dX8_rangeOf_52 : decode cX8_rangeOf 52 = .ok (.ireturn, 1) := by decide +kernel
theorem dX8_loudest_0 : decode cX8_loudest 0 = .ok (.aload_n 0, 1) := by decide +kernel
theorem dX8_loudest_1 : decode cX8_loudest 1 = .ok (.iconst 0, 1) := by decide +kernel
theorem dX8_loudest_2 : decode cX8_loudest 2 = .ok (.putfield 3, 3) := by decide +kernel
theorem dX8_loudest_5 : decode cX8_loudest 5 = .ok (.aload_n 0, 1) := by decide +kernel
theorem dX8_loudest_6 : decode cX8_loudest 6 = .ok (.invokevirtual 314, 3) := by decide +kernel
theorem dX8_loudest_9 : decode cX8_loudest 9 = .ok (.iconst 0, 1) := by decide +kernel
theorem dX8_loudest_10 : decode cX8_loudest 10 = .ok (.istore_n 1, 1) := by decide +kernel
theorem dX8_loudest_11 : decode cX8_loudest 11 = .ok (.iconst 1, 1) := by decide +kernel
theorem dX8_loudest_12 : decode cX8_loudest 12 = .ok (.istore_n 2, 1) := by decide +kernel
theorem dX8_loudest_13 : decode cX8_loudest 13 = .ok (.iload_n 2, 1) := by decide +kernel
theorem dX8_loudest_14 : decode cX8_loudest 14 = .ok (.sipush 216, 3) := by decide +kernel
theorem dX8_loudest_17 : decode cX8_loudest 17 = .ok (.if_icmp .ge 28, 3) := by decide +kernel
theorem dX8_loudest_20 : decode cX8_loudest 20 = .ok (.aload_n 0, 1) := by decide +kernel
theorem dX8_loudest_21 : decode cX8_loudest 21 = .ok (.iload_n 2, 1) := by decide +kernel
theorem dX8_loudest_22 : decode cX8_loudest 22 = .ok (.invokevirtual 400, 3) := by decide +kernel
theorem dX8_loudest_25 : decode cX8_loudest 25 = .ok (.aload_n 0, 1) := by decide +kernel
theorem dX8_loudest_26 : decode cX8_loudest 26 = .ok (.iload_n 1, 1) := by decide +kernel
theorem dX8_loudest_27 : decode cX8_loudest 27 = .ok (.invokevirtual 400, 3) := by decide +kernel
theorem dX8_loudest_30 : decode cX8_loudest 30 = .ok (.if_icmp .le 7, 3) := by decide +kernel
theorem dX8_loudest_33 : decode cX8_loudest 33 = .ok (.iload_n 2, 1) := by decide +kernel
theorem dX8_loudest_34 : decode cX8_loudest 34 = .ok (.goto 4, 3) := by decide +kernel
theorem dX8_loudest_37 : decode cX8_loudest 37 = .ok (.iload_n 1, 1) := by decide +kernel
theorem dX8_loudest_38 : decode cX8_loudest 38 = .ok (.istore_n 1, 1) := by decide +kernel
theorem dX8_loudest_39 : decode cX8_loudest 39 = .ok (.iinc 2 1, 3) := by decide +kernel
theorem dX8_loudest_42 : decode cX8_loudest 42 = .ok (.goto (-29), 3) := by decide +kernel
theorem dX8_loudest_45 : decode cX8_loudest 45 = .ok (.iload_n 1, 1) := by decide +kernel
theorem dX8_loudest_46 : decode cX8_loudest 46 = .ok (.ireturn, 1) := by decide +kernel
theorem dX8_deaf_0 : decode cX8_deaf 0 = .ok (.aload_n 0, 1) := by decide +kernel
theorem dX8_deaf_1 : decode cX8_deaf 1 = .ok (.iconst 0, 1) := by decide +kernel
theorem dX8_deaf_2 : decode cX8_deaf 2 = .ok (.putfield 3, 3) := by decide +kernel
theorem dX8_deaf_5 : decode cX8_deaf 5 = .ok (.aload_n 0, 1) := by decide +kernel
theorem dX8_deaf_6 : decode cX8_deaf 6 = .ok (.invokevirtual 314, 3) := by decide +kernel
theorem dX8_deaf_9 : decode cX8_deaf 9 = .ok (.iconst 0, 1) := by decide +kernel
theorem dX8_deaf_10 : decode cX8_deaf 10 = .ok (.istore_n 1, 1) := by decide +kernel
theorem dX8_deaf_11 : decode cX8_deaf 11 = .ok (.iconst 0, 1) := by decide +kernel
theorem dX8_deaf_12 : decode cX8_deaf 12 = .ok (.istore_n 2, 1) := by decide +kernel
theorem dX8_deaf_13 : decode cX8_deaf 13 = .ok (.iload_n 2, 1) := by decide +kernel
theorem dX8_deaf_14 : decode cX8_deaf 14 = .ok (.iconst 3, 1) := by decide +kernel
theorem dX8_deaf_15 : decode cX8_deaf 15 = .ok (.if_icmp .ge 95, 3) := by decide +kernel
theorem dX8_deaf_18 : decode cX8_deaf 18 = .ok (.iconst 1, 1) := by decide +kernel
theorem dX8_deaf_19 : decode cX8_deaf 19 = .ok (.istore_n 3, 1) := by decide +kernel
theorem dX8_deaf_20 : decode cX8_deaf 20 = .ok (.iconst 0, 1) := by decide +kernel
theorem dX8_deaf_21 : decode cX8_deaf 21 = .ok (.istore 4, 2) := by decide +kernel
theorem dX8_deaf_23 : decode cX8_deaf 23 = .ok (.iload 4, 2) := by decide +kernel
theorem dX8_deaf_25 : decode cX8_deaf 25 = .ok (.bipush 6, 2) := by decide +kernel
theorem dX8_deaf_27 : decode cX8_deaf 27 = .ok (.if_icmp .ge 63, 3) := by decide +kernel
theorem dX8_deaf_30 : decode cX8_deaf 30 = .ok (.iconst 1, 1) := by decide +kernel
theorem dX8_deaf_31 : decode cX8_deaf 31 = .ok (.istore 5, 2) := by decide +kernel
theorem dX8_deaf_33 : decode cX8_deaf 33 = .ok (.iload 5, 2) := by decide +kernel
theorem dX8_deaf_35 : decode cX8_deaf 35 = .ok (.bipush 6, 2) := by decide +kernel
theorem dX8_deaf_37 : decode cX8_deaf 37 = .ok (.if_icmp .ge 47, 3) := by decide +kernel
theorem dX8_deaf_40 : decode cX8_deaf 40 = .ok (.iload_n 3, 1) := by decide +kernel
theorem dX8_deaf_41 : decode cX8_deaf 41 = .ok (.ifCond .eq 35, 3) := by decide +kernel
theorem dX8_deaf_44 : decode cX8_deaf 44 = .ok (.aload_n 0, 1) := by decide +kernel
theorem dX8_deaf_45 : decode cX8_deaf 45 = .ok (.getfield 58, 3) := by decide +kernel
theorem dX8_deaf_48 : decode cX8_deaf 48 = .ok (.iload_n 2, 1) := by decide +kernel
theorem dX8_deaf_49 : decode cX8_deaf 49 = .ok (.iload 4, 2) := by decide +kernel
theorem dX8_deaf_51 : decode cX8_deaf 51 = .ok (.iload 5, 2) := by decide +kernel
theorem dX8_deaf_53 : decode cX8_deaf 53 = .ok (.invokestatic 304, 3) := by decide +kernel
theorem dX8_deaf_56 : decode cX8_deaf 56 = .ok (.iaload, 1) := by decide +kernel
theorem dX8_deaf_57 : decode cX8_deaf 57 = .ok (.aload_n 0, 1) := by decide +kernel
theorem dX8_deaf_58 : decode cX8_deaf 58 = .ok (.getfield 58, 3) := by decide +kernel
theorem dX8_deaf_61 : decode cX8_deaf 61 = .ok (.iload_n 2, 1) := by decide +kernel
theorem dX8_deaf_62 : decode cX8_deaf 62 = .ok (.iload 4, 2) := by decide +kernel
theorem dX8_deaf_64 : decode cX8_deaf 64 = .ok (.iconst 0, 1) := by decide +kernel
theorem dX8_deaf_65 : decode cX8_deaf 65 = .ok (.invokestatic 304, 3) := by decide +kernel
theorem dX8_deaf_68 : decode cX8_deaf 68 = .ok (.iaload, 1) := by decide +kernel
theorem dX8_deaf_69 : decode cX8_deaf 69 = .ok (.if_icmp .ne 7, 3) := by decide +kernel
theorem dX8_deaf_72 : decode cX8_deaf 72 = .ok (.iconst 1, 1) := by decide +kernel
theorem dX8_deaf_73 : decode cX8_deaf 73 = .ok (.goto 4, 3) := by decide +kernel
theorem dX8_deaf_76 : decode cX8_deaf 76 = .ok (.iconst 0, 1) := by decide +kernel
theorem dX8_deaf_77 : decode cX8_deaf 77 = .ok (.istore_n 3, 1) := by decide +kernel
theorem dX8_deaf_78 : decode cX8_deaf 78 = .ok (.iinc 5 1, 3) := by decide +kernel
theorem dX8_deaf_81 : decode cX8_deaf 81 = .ok (.goto (-48), 3) := by decide +kernel
theorem dX8_deaf_84 : decode cX8_deaf 84 = .ok (.iinc 4 1, 3) := by decide +kernel
theorem dX8_deaf_87 : decode cX8_deaf 87 = .ok (.goto (-64), 3) := by decide +kernel
theorem dX8_deaf_90 : decode cX8_deaf 90 = .ok (.iload_n 1, 1) := by decide +kernel
theorem dX8_deaf_91 : decode cX8_deaf 91 = .ok (.iload_n 3, 1) := by decide +kernel
theorem dX8_deaf_92 : decode cX8_deaf 92 = .ok (.ifCond .eq 9, 3) := by decide +kernel
theorem dX8_deaf_95 : decode cX8_deaf 95 = .ok (.iconst 1, 1) := by decide +kernel
theorem dX8_deaf_96 : decode cX8_deaf 96 = .ok (.iload_n 2, 1) := by decide +kernel
theorem dX8_deaf_97 : decode cX8_deaf 97 = .ok (.ishl, 1) := by decide +kernel
theorem dX8_deaf_98 : decode cX8_deaf 98 = .ok (.goto 4, 3) := by decide +kernel
theorem dX8_deaf_101 : decode cX8_deaf 101 = .ok (.iconst 0, 1) := by decide +kernel
theorem dX8_deaf_102 : decode cX8_deaf 102 = .ok (.ior, 1) := by decide +kernel
theorem dX8_deaf_103 : decode cX8_deaf 103 = .ok (.istore_n 1, 1) := by decide +kernel
theorem dX8_deaf_104 : decode cX8_deaf 104 = .ok (.iinc 2 1, 3) := by decide +kernel
theorem dX8_deaf_107 : decode cX8_deaf 107 = .ok (.goto (-94), 3) := by decide +kernel
theorem dX8_deaf_110 : decode cX8_deaf 110 = .ok (.iload_n 1, 1) := by decide +kernel
theorem dX8_deaf_111 : decode cX8_deaf 111 = .ok (.ireturn, 1) := by decide +kernel
theorem dX8_leftBy_0 : decode cX8_leftBy 0 = .ok (.iconst 0, 1) := by decide +kernel
theorem dX8_leftBy_1 : decode cX8_leftBy 1 = .ok (.istore_n 3, 1) := by decide +kernel
theorem dX8_leftBy_2 : decode cX8_leftBy 2 = .ok (.iconst 0, 1) := by decide +kernel
theorem dX8_leftBy_3 : decode cX8_leftBy 3 = .ok (.istore 4, 2) := by decide +kernel
theorem dX8_leftBy_5 : decode cX8_leftBy 5 = .ok (.iload 4, 2) := by decide +kernel
theorem dX8_leftBy_7 : decode cX8_leftBy 7 = .ok (.iconst 4, 1) := by decide +kernel
theorem dX8_leftBy_8 : decode cX8_leftBy 8 = .ok (.if_icmp .ge 86, 3) := by decide +kernel
theorem dX8_leftBy_11 : decode cX8_leftBy 11 = .ok (.iload 4, 2) := by decide +kernel
theorem dX8_leftBy_13 : decode cX8_leftBy 13 = .ok (.iconst 3, 1) := by decide +kernel
theorem dX8_leftBy_14 : decode cX8_leftBy 14 = .ok (.if_icmp .ge 9, 3) := by decide +kernel
theorem dX8_leftBy_17 : decode cX8_leftBy 17 = .ok (.ldc2_w 97, 3) := by decide +kernel
theorem dX8_leftBy_20 : decode cX8_leftBy 20 = .ok (.goto 6, 3) := by decide +kernel
theorem dX8_leftBy_23 : decode cX8_leftBy 23 = .ok (.ldc2_w 99, 3) := by decide +kernel
theorem dX8_leftBy_26 : decode cX8_leftBy 26 = .ok (.lstore 5, 2) := by decide +kernel
theorem dX8_leftBy_28 : decode cX8_leftBy 28 = .ok (.iconst 0, 1) := by decide +kernel
theorem dX8_leftBy_29 : decode cX8_leftBy 29 = .ok (.istore 7, 2) := by decide +kernel
theorem dX8_leftBy_31 : decode cX8_leftBy 31 = .ok (.iload 7, 2) := by decide +kernel
theorem dX8_leftBy_33 : decode cX8_leftBy 33 = .ok (.aload_n 0, 1) := by decide +kernel
theorem dX8_leftBy_34 : decode cX8_leftBy 34 = .ok (.invokevirtual 89, 3) := by decide +kernel
theorem dX8_leftBy_37 : decode cX8_leftBy 37 = .ok (.if_icmp .ge 43, 3) := by decide +kernel
theorem dX8_leftBy_40 : decode cX8_leftBy 40 = .ok (.lload 5, 2) := by decide +kernel
theorem dX8_leftBy_42 : decode cX8_leftBy 42 = .ok (.iload_n 1, 1) := by decide +kernel
theorem dX8_leftBy_43 : decode cX8_leftBy 43 = .ok (.iload 7, 2) := by decide +kernel
theorem dX8_leftBy_45 : decode cX8_leftBy 45 = .ok (.invokestatic 320, 3) := by decide +kernel
theorem dX8_leftBy_48 : decode cX8_leftBy 48 = .ok (.ifCond .eq 20, 3) := by decide +kernel
theorem dX8_leftBy_51 : decode cX8_leftBy 51 = .ok (.aload_n 0, 1) := by decide +kernel
theorem dX8_leftBy_52 : decode cX8_leftBy 52 = .ok (.getfield 29, 3) := by decide +kernel
theorem dX8_leftBy_55 : decode cX8_leftBy 55 = .ok (.iload 7, 2) := by decide +kernel
theorem dX8_leftBy_57 : decode cX8_leftBy 57 = .ok (.iload_n 2, 1) := by decide +kernel
theorem dX8_leftBy_58 : decode cX8_leftBy 58 = .ok (.invokestatic 93, 3) := by decide +kernel
theorem dX8_leftBy_61 : decode cX8_leftBy 61 = .ok (.iload 4, 2) := by decide +kernel
theorem dX8_leftBy_63 : decode cX8_leftBy 63 = .ok (.iadd, 1) := by decide +kernel
theorem dX8_leftBy_64 : decode cX8_leftBy 64 = .ok (.laload, 1) := by decide +kernel
theorem dX8_leftBy_65 : decode cX8_leftBy 65 = .ok (.goto 6, 3) := by decide +kernel
theorem dX8_leftBy_68 : decode cX8_leftBy 68 = .ok (.ldc2_w 97, 3) := by decide +kernel
theorem dX8_leftBy_71 : decode cX8_leftBy 71 = .ok (.land, 1) := by decide +kernel
theorem dX8_leftBy_72 : decode cX8_leftBy 72 = .ok (.lstore 5, 2) := by decide +kernel
theorem dX8_leftBy_74 : decode cX8_leftBy 74 = .ok (.iinc 7 1, 3) := by decide +kernel
theorem dX8_leftBy_77 : decode cX8_leftBy 77 = .ok (.goto (-46), 3) := by decide +kernel
theorem dX8_leftBy_80 : decode cX8_leftBy 80 = .ok (.iload_n 3, 1) := by decide +kernel
theorem dX8_leftBy_81 : decode cX8_leftBy 81 = .ok (.lload 5, 2) := by decide +kernel
theorem dX8_leftBy_83 : decode cX8_leftBy 83 = .ok (.invokestatic 105, 3) := by decide +kernel
theorem dX8_leftBy_86 : decode cX8_leftBy 86 = .ok (.iadd, 1) := by decide +kernel
theorem dX8_leftBy_87 : decode cX8_leftBy 87 = .ok (.istore_n 3, 1) := by decide +kernel
theorem dX8_leftBy_88 : decode cX8_leftBy 88 = .ok (.iinc 4 1, 3) := by decide +kernel
theorem dX8_leftBy_91 : decode cX8_leftBy 91 = .ok (.goto (-86), 3) := by decide +kernel
theorem dX8_leftBy_94 : decode cX8_leftBy 94 = .ok (.iload_n 3, 1) := by decide +kernel
theorem dX8_leftBy_95 : decode cX8_leftBy 95 = .ok (.ireturn, 1) := by decide +kernel
theorem dX8_alone_0 : decode cX8_alone 0 = .ok (.aload_n 0, 1) := by decide +kernel
theorem dX8_alone_1 : decode cX8_alone 1 = .ok (.iconst 0, 1) := by decide +kernel
theorem dX8_alone_2 : decode cX8_alone 2 = .ok (.putfield 3, 3) := by decide +kernel
theorem dX8_alone_5 : decode cX8_alone 5 = .ok (.aload_n 0, 1) := by decide +kernel
theorem dX8_alone_6 : decode cX8_alone 6 = .ok (.aload_n 0, 1) := by decide +kernel
theorem dX8_alone_7 : decode cX8_alone 7 = .ok (.iload_n 1, 1) := by decide +kernel
theorem dX8_alone_8 : decode cX8_alone 8 = .ok (.invokevirtual 329, 3) := by decide +kernel
theorem dX8_alone_11 : decode cX8_alone 11 = .ok (.iconst 1, 1) := by decide +kernel
theorem dX8_alone_12 : decode cX8_alone 12 = .ok (.invokevirtual 281, 3) := by decide +kernel
theorem dX8_alone_15 : decode cX8_alone 15 = .ok (.ifCond .eq 5, 3) := by decide +kernel
theorem dX8_alone_18 : decode cX8_alone 18 = .ok (.iconst 0, 1) := by decide +kernel
theorem dX8_alone_19 : decode cX8_alone 19 = .ok (.ireturn, 1) := by decide +kernel
theorem dX8_alone_20 : decode cX8_alone 20 = .ok (.iconst 0, 1) := by decide +kernel
theorem dX8_alone_21 : decode cX8_alone 21 = .ok (.istore_n 2, 1) := by decide +kernel
theorem dX8_alone_22 : decode cX8_alone 22 = .ok (.iconst 0, 1) := by decide +kernel
theorem dX8_alone_23 : decode cX8_alone 23 = .ok (.istore_n 3, 1) := by decide +kernel
theorem dX8_alone_24 : decode cX8_alone 24 = .ok (.iload_n 3, 1) := by decide +kernel
theorem dX8_alone_25 : decode cX8_alone 25 = .ok (.aload_n 0, 1) := by decide +kernel
theorem dX8_alone_26 : decode cX8_alone 26 = .ok (.invokevirtual 89, 3) := by decide +kernel
theorem dX8_alone_29 : decode cX8_alone 29 = .ok (.if_icmp .ge 29, 3) := by decide +kernel
theorem dX8_alone_32 : decode cX8_alone 32 = .ok (.iload_n 2, 1) := by decide +kernel
theorem dX8_alone_33 : decode cX8_alone 33 = .ok (.aload_n 0, 1) := by decide +kernel
theorem dX8_alone_34 : decode cX8_alone 34 = .ok (.iload_n 3, 1) := by decide +kernel
theorem dX8_alone_35 : decode cX8_alone 35 = .ok (.iload_n 1, 1) := by decide +kernel
theorem dX8_alone_36 : decode cX8_alone 36 = .ok (.invokevirtual 345, 3) := by decide +kernel
theorem dX8_alone_39 : decode cX8_alone 39 = .ok (.iconst 1, 1) := by decide +kernel
theorem dX8_alone_40 : decode cX8_alone 40 = .ok (.if_icmp .ne 9, 3) := by decide +kernel
theorem dX8_alone_43 : decode cX8_alone 43 = .ok (.iconst 1, 1) := by decide +kernel
theorem dX8_alone_44 : decode cX8_alone 44 = .ok (.iload_n 3, 1) := by decide +kernel
theorem dX8_alone_45 : decode cX8_alone 45 = .ok (.ishl, 1) := by decide +kernel
theorem dX8_alone_46 : decode cX8_alone 46 = .ok (.goto 4, 3) := by decide +kernel
theorem dX8_alone_49 : decode cX8_alone 49 = .ok (.iconst 0, 1) := by decide +kernel
theorem dX8_alone_50 : decode cX8_alone 50 = .ok (.ior, 1) := by decide +kernel
theorem dX8_alone_51 : decode cX8_alone 51 = .ok (.istore_n 2, 1) := by decide +kernel
theorem dX8_alone_52 : decode cX8_alone 52 = .ok (.iinc 3 1, 3) := by decide +kernel
theorem dX8_alone_55 : decode cX8_alone 55 = .ok (.goto (-31), 3) := by decide +kernel
theorem dX8_alone_58 : decode cX8_alone 58 = .ok (.iload_n 2, 1) := by decide +kernel
theorem dX8_alone_59 : decode cX8_alone 59 = .ok (.ireturn, 1) := by decide +kernel
theorem dX8_allPeople_0 : decode cX8_allPeople 0 = .ok (.iconst 1, 1) := by decide +kernel
theorem dX8_allPeople_1 : decode cX8_allPeople 1 = .ok (.aload_n 0, 1) := by decide +kernel
theorem dX8_allPeople_2 : decode cX8_allPeople 2 = .ok (.invokevirtual 89, 3) := by decide +kernel
theorem dX8_allPeople_5 : decode cX8_allPeople 5 = .ok (.ishl, 1) := by decide +kernel
theorem dX8_allPeople_6 : decode cX8_allPeople 6 = .ok (.iconst 1, 1) := by decide +kernel
theorem dX8_allPeople_7 : decode cX8_allPeople 7 = .ok (.isub, 1) := by decide +kernel
theorem dX8_allPeople_8 : decode cX8_allPeople 8 = .ok (.ireturn, 1) := by decide +kernel
theorem dX8_together_0 : decode cX8_together 0 = .ok (.aload_n 0, 1) := by decide +kernel
theorem dX8_together_1 : decode cX8_together 1 = .ok (.iconst 0, 1) := by decide +kernel
theorem dX8_together_2 : decode cX8_together 2 = .ok (.putfield 3, 3) := by decide +kernel
theorem dX8_together_5 : decode cX8_together 5 = .ok (.aload_n 0, 1) := by decide +kernel
theorem dX8_together_6 : decode cX8_together 6 = .ok (.aload_n 0, 1) := by decide +kernel
theorem dX8_together_7 : decode cX8_together 7 = .ok (.iload_n 2, 1) := by decide +kernel
theorem dX8_together_8 : decode cX8_together 8 = .ok (.invokevirtual 329, 3) := by decide +kernel
theorem dX8_together_11 : decode cX8_together 11 = .ok (.iconst 1, 1) := by decide +kernel
theorem dX8_together_12 : decode cX8_together 12 = .ok (.invokevirtual 281, 3) := by decide +kernel
theorem dX8_together_15 : decode cX8_together 15 = .ok (.ifCond .ne 22, 3) := by decide +kernel
theorem dX8_together_18 : decode cX8_together 18 = .ok (.aload_n 0, 1) := by decide +kernel
theorem dX8_together_19 : decode cX8_together 19 = .ok (.iload_n 1, 1) := by decide +kernel
theorem dX8_together_20 : decode cX8_together 20 = .ok (.aload_n 0, 1) := by decide +kernel
theorem dX8_together_21 : decode cX8_together 21 = .ok (.invokevirtual 403, 3) := by decide +kernel
theorem dX8_together_24 : decode cX8_together 24 = .ok (.iand, 1) := by decide +kernel
theorem dX8_together_25 : decode cX8_together 25 = .ok (.iload_n 2, 1) := by decide +kernel
theorem dX8_together_26 : decode cX8_together 26 = .ok (.invokevirtual 406, 3) := by decide +kernel
theorem dX8_together_29 : decode cX8_together 29 = .ok (.iconst 1, 1) := by decide +kernel
theorem dX8_together_30 : decode cX8_together 30 = .ok (.if_icmp .ne 7, 3) := by decide +kernel
theorem dX8_together_33 : decode cX8_together 33 = .ok (.iconst 1, 1) := by decide +kernel
theorem dX8_together_34 : decode cX8_together 34 = .ok (.goto 4, 3) := by decide +kernel
theorem dX8_together_37 : decode cX8_together 37 = .ok (.iconst 0, 1) := by decide +kernel
theorem dX8_together_38 : decode cX8_together 38 = .ok (.ireturn, 1) := by decide +kernel
theorem dX8_fewest_0 : decode cX8_fewest 0 = .ok (.aload_n 0, 1) := by decide +kernel
theorem dX8_fewest_1 : decode cX8_fewest 1 = .ok (.iconst 0, 1) := by decide +kernel
theorem dX8_fewest_2 : decode cX8_fewest 2 = .ok (.putfield 3, 3) := by decide +kernel
theorem dX8_fewest_5 : decode cX8_fewest 5 = .ok (.aload_n 0, 1) := by decide +kernel
theorem dX8_fewest_6 : decode cX8_fewest 6 = .ok (.aload_n 0, 1) := by decide +kernel
theorem dX8_fewest_7 : decode cX8_fewest 7 = .ok (.iload_n 1, 1) := by decide +kernel
theorem dX8_fewest_8 : decode cX8_fewest 8 = .ok (.invokevirtual 329, 3) := by decide +kernel
theorem dX8_fewest_11 : decode cX8_fewest 11 = .ok (.iconst 1, 1) := by decide +kernel
theorem dX8_fewest_12 : decode cX8_fewest 12 = .ok (.invokevirtual 281, 3) := by decide +kernel
theorem dX8_fewest_15 : decode cX8_fewest 15 = .ok (.ifCond .eq 5, 3) := by decide +kernel
theorem dX8_fewest_18 : decode cX8_fewest 18 = .ok (.iconst 0, 1) := by decide +kernel
theorem dX8_fewest_19 : decode cX8_fewest 19 = .ok (.ireturn, 1) := by decide +kernel
theorem dX8_fewest_20 : decode cX8_fewest 20 = .ok (.iload_n 2, 1) := by decide +kernel
theorem dX8_fewest_21 : decode cX8_fewest 21 = .ok (.ifCond .eq 10, 3) := by decide +kernel
theorem dX8_fewest_24 : decode cX8_fewest 24 = .ok (.aload_n 0, 1) := by decide +kernel
theorem dX8_fewest_25 : decode cX8_fewest 25 = .ok (.invokevirtual 403, 3) := by decide +kernel
theorem dX8_fewest_28 : decode cX8_fewest 28 = .ok (.goto 4, 3) := by decide +kernel
theorem dX8_fewest_31 : decode cX8_fewest 31 = .ok (.iconst (-1), 1) := by decide +kernel
theorem dX8_fewest_32 : decode cX8_fewest 32 = .ok (.istore_n 3, 1) := by decide +kernel
theorem dX8_fewest_33 : decode cX8_fewest 33 = .ok (.aload_n 0, 1) := by decide +kernel
theorem dX8_fewest_34 : decode cX8_fewest 34 = .ok (.invokevirtual 403, 3) := by decide +kernel
theorem dX8_fewest_37 : decode cX8_fewest 37 = .ok (.istore 4, 2) := by decide +kernel
theorem dX8_fewest_39 : decode cX8_fewest 39 = .ok (.iload 4, 2) := by decide +kernel
theorem dX8_fewest_41 : decode cX8_fewest 41 = .ok (.ifCond .lt 85, 3) := by decide +kernel
theorem dX8_fewest_44 : decode cX8_fewest 44 = .ok (.iload_n 2, 1) := by decide +kernel
theorem dX8_fewest_45 : decode cX8_fewest 45 = .ok (.ifCond .eq 29, 3) := by decide +kernel
theorem dX8_fewest_48 : decode cX8_fewest 48 = .ok (.aload_n 0, 1) := by decide +kernel
theorem dX8_fewest_49 : decode cX8_fewest 49 = .ok (.aload_n 0, 1) := by decide +kernel
theorem dX8_fewest_50 : decode cX8_fewest 50 = .ok (.invokevirtual 403, 3) := by decide +kernel
theorem dX8_fewest_53 : decode cX8_fewest 53 = .ok (.iload 4, 2) := by decide +kernel
theorem dX8_fewest_55 : decode cX8_fewest 55 = .ok (.iconst (-1), 1) := by decide +kernel
theorem dX8_fewest_56 : decode cX8_fewest 56 = .ok (.ixor, 1) := by decide +kernel
theorem dX8_fewest_57 : decode cX8_fewest 57 = .ok (.iand, 1) := by decide +kernel
theorem dX8_fewest_58 : decode cX8_fewest 58 = .ok (.iload_n 1, 1) := by decide +kernel
theorem dX8_fewest_59 : decode cX8_fewest 59 = .ok (.invokevirtual 406, 3) := by decide +kernel
theorem dX8_fewest_62 : decode cX8_fewest 62 = .ok (.iconst 1, 1) := by decide +kernel
theorem dX8_fewest_63 : decode cX8_fewest 63 = .ok (.if_icmp .eq 7, 3) := by decide +kernel
theorem dX8_fewest_66 : decode cX8_fewest 66 = .ok (.iconst 1, 1) := by decide +kernel
theorem dX8_fewest_67 : decode cX8_fewest 67 = .ok (.goto 23, 3) := by decide +kernel
theorem dX8_fewest_70 : decode cX8_fewest 70 = .ok (.iconst 0, 1) := by decide +kernel
theorem dX8_fewest_71 : decode cX8_fewest 71 = .ok (.goto 19, 3) := by decide +kernel
theorem dX8_fewest_74 : decode cX8_fewest 74 = .ok (.aload_n 0, 1) := by decide +kernel
theorem dX8_fewest_75 : decode cX8_fewest 75 = .ok (.iload 4, 2) := by decide +kernel
theorem dX8_fewest_77 : decode cX8_fewest 77 = .ok (.iload_n 1, 1) := by decide +kernel
theorem dX8_fewest_78 : decode cX8_fewest 78 = .ok (.invokevirtual 406, 3) := by decide +kernel
theorem dX8_fewest_81 : decode cX8_fewest 81 = .ok (.iconst 1, 1) := by decide +kernel
theorem dX8_fewest_82 : decode cX8_fewest 82 = .ok (.if_icmp .ne 7, 3) := by decide +kernel
theorem dX8_fewest_85 : decode cX8_fewest 85 = .ok (.iconst 1, 1) := by decide +kernel
theorem dX8_fewest_86 : decode cX8_fewest 86 = .ok (.goto 4, 3) := by decide +kernel
theorem dX8_fewest_89 : decode cX8_fewest 89 = .ok (.iconst 0, 1) := by decide +kernel
theorem dX8_fewest_90 : decode cX8_fewest 90 = .ok (.istore 5, 2) := by decide +kernel
theorem dX8_fewest_92 : decode cX8_fewest 92 = .ok (.iload 5, 2) := by decide +kernel
theorem dX8_fewest_94 : decode cX8_fewest 94 = .ok (.ifCond .eq 24, 3) := by decide +kernel
theorem dX8_fewest_97 : decode cX8_fewest 97 = .ok (.iload_n 3, 1) := by decide +kernel
theorem dX8_fewest_98 : decode cX8_fewest 98 = .ok (.ifCond .lt 15, 3) := by decide +kernel
theorem dX8_fewest_101 : decode cX8_fewest 101 = .ok (.iload 4, 2) := by decide +kernel
theorem dX8_fewest_103 : decode cX8_fewest 103 = .ok (.invokestatic 338, 3) := by decide +kernel
theorem dX8_fewest_106 : decode cX8_fewest 106 = .ok (.iload_n 3, 1) := by decide +kernel
theorem dX8_fewest_107 : decode cX8_fewest 107 = .ok (.invokestatic 338, 3) := by decide +kernel
theorem dX8_fewest_110 : decode cX8_fewest 110 = .ok (.if_icmp .gt 8, 3) := by decide +kernel
theorem dX8_fewest_113 : decode cX8_fewest 113 = .ok (.iload 4, 2) := by decide +kernel
theorem dX8_fewest_115 : decode cX8_fewest 115 = .ok (.goto 4, 3) := by decide +kernel
theorem dX8_fewest_118 : decode cX8_fewest 118 = .ok (.iload_n 3, 1) := by decide +kernel
theorem dX8_fewest_119 : decode cX8_fewest 119 = .ok (.istore_n 3, 1) := by decide +kernel
theorem dX8_fewest_120 : decode cX8_fewest 120 = .ok (.iinc 4 (-1), 3) := by decide +kernel
theorem dX8_fewest_123 : decode cX8_fewest 123 = .ok (.goto (-84), 3) := by decide +kernel
theorem dX8_fewest_126 : decode cX8_fewest 126 = .ok (.iload_n 3, 1) := by decide +kernel
theorem dX8_fewest_127 : decode cX8_fewest 127 = .ok (.ireturn, 1) := by decide +kernel
theorem dX8_pair_0 : decode cX8_pair 0 = .ok (.aload_n 0, 1) := by decide +kernel
theorem dX8_pair_1 : decode cX8_pair 1 = .ok (.iconst 0, 1) := by decide +kernel
theorem dX8_pair_2 : decode cX8_pair 2 = .ok (.putfield 3, 3) := by decide +kernel
theorem dX8_pair_5 : decode cX8_pair 5 = .ok (.aload_n 0, 1) := by decide +kernel
theorem dX8_pair_6 : decode cX8_pair 6 = .ok (.aload_n 0, 1) := by decide +kernel
theorem dX8_pair_7 : decode cX8_pair 7 = .ok (.iload_n 1, 1) := by decide +kernel
theorem dX8_pair_8 : decode cX8_pair 8 = .ok (.invokevirtual 329, 3) := by decide +kernel
theorem dX8_pair_11 : decode cX8_pair 11 = .ok (.iconst 1, 1) := by decide +kernel
theorem dX8_pair_12 : decode cX8_pair 12 = .ok (.invokevirtual 281, 3) := by decide +kernel
theorem dX8_pair_15 : decode cX8_pair 15 = .ok (.ifCond .eq 5, 3) := by decide +kernel
theorem dX8_pair_18 : decode cX8_pair 18 = .ok (.iconst 0, 1) := by decide +kernel
theorem dX8_pair_19 : decode cX8_pair 19 = .ok (.ireturn, 1) := by decide +kernel
theorem dX8_pair_20 : decode cX8_pair 20 = .ok (.iconst (-1), 1) := by decide +kernel
theorem dX8_pair_21 : decode cX8_pair 21 = .ok (.istore_n 2, 1) := by decide +kernel
theorem dX8_pair_22 : decode cX8_pair 22 = .ok (.ldc_w 389, 3) := by decide +kernel
theorem dX8_pair_25 : decode cX8_pair 25 = .ok (.istore_n 3, 1) := by decide +kernel
theorem dX8_pair_26 : decode cX8_pair 26 = .ok (.iconst 0, 1) := by decide +kernel
theorem dX8_pair_27 : decode cX8_pair 27 = .ok (.istore 4, 2) := by decide +kernel
theorem dX8_pair_29 : decode cX8_pair 29 = .ok (.iload 4, 2) := by decide +kernel
theorem dX8_pair_31 : decode cX8_pair 31 = .ok (.aload_n 0, 1) := by decide +kernel
theorem dX8_pair_32 : decode cX8_pair 32 = .ok (.invokevirtual 89, 3) := by decide +kernel
theorem dX8_pair_35 : decode cX8_pair 35 = .ok (.if_icmp .ge 67, 3) := by decide +kernel
theorem dX8_pair_38 : decode cX8_pair 38 = .ok (.iload 4, 2) := by decide +kernel
theorem dX8_pair_40 : decode cX8_pair 40 = .ok (.iconst 1, 1) := by decide +kernel
theorem dX8_pair_41 : decode cX8_pair 41 = .ok (.iadd, 1) := by decide +kernel
theorem dX8_pair_42 : decode cX8_pair 42 = .ok (.istore 5, 2) := by decide +kernel
theorem dX8_pair_44 : decode cX8_pair 44 = .ok (.iload 5, 2) := by decide +kernel
theorem dX8_pair_46 : decode cX8_pair 46 = .ok (.aload_n 0, 1) := by decide +kernel
theorem dX8_pair_47 : decode cX8_pair 47 = .ok (.invokevirtual 89, 3) := by decide +kernel
theorem dX8_pair_50 : decode cX8_pair 50 = .ok (.if_icmp .ge 46, 3) := by decide +kernel
theorem dX8_pair_53 : decode cX8_pair 53 = .ok (.aload_n 0, 1) := by decide +kernel
theorem dX8_pair_54 : decode cX8_pair 54 = .ok (.iconst 1, 1) := by decide +kernel
theorem dX8_pair_55 : decode cX8_pair 55 = .ok (.iload 4, 2) := by decide +kernel
theorem dX8_pair_57 : decode cX8_pair 57 = .ok (.ishl, 1) := by decide +kernel
theorem dX8_pair_58 : decode cX8_pair 58 = .ok (.iconst 1, 1) := by decide +kernel
theorem dX8_pair_59 : decode cX8_pair 59 = .ok (.iload 5, 2) := by decide +kernel
theorem dX8_pair_61 : decode cX8_pair 61 = .ok (.ishl, 1) := by decide +kernel
theorem dX8_pair_62 : decode cX8_pair 62 = .ok (.ior, 1) := by decide +kernel
theorem dX8_pair_63 : decode cX8_pair 63 = .ok (.iload_n 1, 1) := by decide +kernel
theorem dX8_pair_64 : decode cX8_pair 64 = .ok (.invokevirtual 406, 3) := by decide +kernel
theorem dX8_pair_67 : decode cX8_pair 67 = .ok (.istore 6, 2) := by decide +kernel
theorem dX8_pair_69 : decode cX8_pair 69 = .ok (.iload 6, 2) := by decide +kernel
theorem dX8_pair_71 : decode cX8_pair 71 = .ok (.iload_n 3, 1) := by decide +kernel
theorem dX8_pair_72 : decode cX8_pair 72 = .ok (.if_icmp .lt 6, 3) := by decide +kernel
theorem dX8_pair_75 : decode cX8_pair 75 = .ok (.goto 15, 3) := by decide +kernel
theorem dX8_pair_78 : decode cX8_pair 78 = .ok (.bipush 10, 2) := by decide +kernel
theorem dX8_pair_80 : decode cX8_pair 80 = .ok (.iload 4, 2) := by decide +kernel
theorem dX8_pair_82 : decode cX8_pair 82 = .ok (.imul, 1) := by decide +kernel
theorem dX8_pair_83 : decode cX8_pair 83 = .ok (.iload 5, 2) := by decide +kernel
theorem dX8_pair_85 : decode cX8_pair 85 = .ok (.iadd, 1) := by decide +kernel
theorem dX8_pair_86 : decode cX8_pair 86 = .ok (.istore_n 2, 1) := by decide +kernel
theorem dX8_pair_87 : decode cX8_pair 87 = .ok (.iload 6, 2) := by decide +kernel
theorem dX8_pair_89 : decode cX8_pair 89 = .ok (.istore_n 3, 1) := by decide +kernel
theorem dX8_pair_90 : decode cX8_pair 90 = .ok (.iinc 5 1, 3) := by decide +kernel
theorem dX8_pair_93 : decode cX8_pair 93 = .ok (.goto (-49), 3) := by decide +kernel
theorem dX8_pair_96 : decode cX8_pair 96 = .ok (.iinc 4 1, 3) := by decide +kernel
theorem dX8_pair_99 : decode cX8_pair 99 = .ok (.goto (-70), 3) := by decide +kernel
theorem dX8_pair_102 : decode cX8_pair 102 = .ok (.iload_n 2, 1) := by decide +kernel
theorem dX8_pair_103 : decode cX8_pair 103 = .ok (.ireturn, 1) := by decide +kernel
theorem dX8_gains_0 : decode cX8_gains 0 = .ok (.aload_n 0, 1) := by decide +kernel
theorem dX8_gains_1 : decode cX8_gains 1 = .ok (.iconst 0, 1) := by decide +kernel
theorem dX8_gains_2 : decode cX8_gains 2 = .ok (.putfield 3, 3) := by decide +kernel
theorem dX8_gains_5 : decode cX8_gains 5 = .ok (.aload_n 0, 1) := by decide +kernel
theorem dX8_gains_6 : decode cX8_gains 6 = .ok (.aload_n 0, 1) := by decide +kernel
theorem dX8_gains_7 : decode cX8_gains 7 = .ok (.iload_n 1, 1) := by decide +kernel
theorem dX8_gains_8 : decode cX8_gains 8 = .ok (.invokevirtual 342, 3) := by decide +kernel
theorem dX8_gains_11 : decode cX8_gains 11 = .ok (.ifCond .ne 19, 3) := by decide +kernel
theorem dX8_gains_14 : decode cX8_gains 14 = .ok (.aload_n 0, 1) := by decide +kernel
theorem dX8_gains_15 : decode cX8_gains 15 = .ok (.iload_n 2, 1) := by decide +kernel
theorem dX8_gains_16 : decode cX8_gains 16 = .ok (.invokevirtual 342, 3) := by decide +kernel
theorem dX8_gains_19 : decode cX8_gains 19 = .ok (.ifCond .ne 11, 3) := by decide +kernel
theorem dX8_gains_22 : decode cX8_gains 22 = .ok (.aload_n 0, 1) := by decide +kernel
theorem dX8_gains_23 : decode cX8_gains 23 = .ok (.iload_n 3, 1) := by decide +kernel
theorem dX8_gains_24 : decode cX8_gains 24 = .ok (.invokevirtual 329, 3) := by decide +kernel
theorem dX8_gains_27 : decode cX8_gains 27 = .ok (.ifCond .eq 7, 3) := by decide +kernel
theorem dX8_gains_30 : decode cX8_gains 30 = .ok (.iconst 1, 1) := by decide +kernel
theorem dX8_gains_31 : decode cX8_gains 31 = .ok (.goto 4, 3) := by decide +kernel
theorem dX8_gains_34 : decode cX8_gains 34 = .ok (.iconst 0, 1) := by decide +kernel
theorem dX8_gains_35 : decode cX8_gains 35 = .ok (.iconst 1, 1) := by decide +kernel
theorem dX8_gains_36 : decode cX8_gains 36 = .ok (.invokevirtual 281, 3) := by decide +kernel
theorem dX8_gains_39 : decode cX8_gains 39 = .ok (.ifCond .ne 21, 3) := by decide +kernel
theorem dX8_gains_42 : decode cX8_gains 42 = .ok (.aload_n 0, 1) := by decide +kernel
theorem dX8_gains_43 : decode cX8_gains 43 = .ok (.iload_n 1, 1) := by decide +kernel
theorem dX8_gains_44 : decode cX8_gains 44 = .ok (.iload_n 2, 1) := by decide +kernel
theorem dX8_gains_45 : decode cX8_gains 45 = .ok (.if_icmp .ne 7, 3) := by decide +kernel
theorem dX8_gains_48 : decode cX8_gains 48 = .ok (.iconst 1, 1) := by decide +kernel
theorem dX8_gains_49 : decode cX8_gains 49 = .ok (.goto 4, 3) := by decide +kernel
theorem dX8_gains_52 : decode cX8_gains 52 = .ok (.iconst 0, 1) := by decide +kernel
theorem dX8_gains_53 : decode cX8_gains 53 = .ok (.iconst 2, 1) := by decide +kernel
theorem dX8_gains_54 : decode cX8_gains 54 = .ok (.invokevirtual 281, 3) := by decide +kernel
theorem dX8_gains_57 : decode cX8_gains 57 = .ok (.ifCond .eq 5, 3) := by decide +kernel
theorem dX8_gains_60 : decode cX8_gains 60 = .ok (.iconst 0, 1) := by decide +kernel
theorem dX8_gains_61 : decode cX8_gains 61 = .ok (.ireturn, 1) := by decide +kernel
theorem dX8_gains_62 : decode cX8_gains 62 = .ok (.aload_n 0, 1) := by decide +kernel
theorem dX8_gains_63 : decode cX8_gains 63 = .ok (.iload_n 1, 1) := by decide +kernel
theorem dX8_gains_64 : decode cX8_gains 64 = .ok (.iload_n 3, 1) := by decide +kernel
theorem dX8_gains_65 : decode cX8_gains 65 = .ok (.invokevirtual 345, 3) := by decide +kernel
theorem dX8_gains_68 : decode cX8_gains 68 = .ok (.aload_n 0, 1) := by decide +kernel
theorem dX8_gains_69 : decode cX8_gains 69 = .ok (.iconst 1, 1) := by decide +kernel
theorem dX8_gains_70 : decode cX8_gains 70 = .ok (.iload_n 1, 1) := by decide +kernel
theorem dX8_gains_71 : decode cX8_gains 71 = .ok (.ishl, 1) := by decide +kernel
theorem dX8_gains_72 : decode cX8_gains 72 = .ok (.iconst 1, 1) := by decide +kernel
theorem dX8_gains_73 : decode cX8_gains 73 = .ok (.iload_n 2, 1) := by decide +kernel
theorem dX8_gains_74 : decode cX8_gains 74 = .ok (.ishl, 1) := by decide +kernel
theorem dX8_gains_75 : decode cX8_gains 75 = .ok (.ior, 1) := by decide +kernel
theorem dX8_gains_76 : decode cX8_gains 76 = .ok (.iload_n 3, 1) := by decide +kernel
theorem dX8_gains_77 : decode cX8_gains 77 = .ok (.invokevirtual 406, 3) := by decide +kernel
theorem dX8_gains_80 : decode cX8_gains 80 = .ok (.isub, 1) := by decide +kernel
theorem dX8_gains_81 : decode cX8_gains 81 = .ok (.ireturn, 1) := by decide +kernel
theorem dX8_areQuarrel_0 : decode cX8_areQuarrel 0 = .ok (.aload_n 0, 1) := by decide +kernel
theorem dX8_areQuarrel_1 : decode cX8_areQuarrel 1 = .ok (.iload_n 1, 1) := by decide +kernel
theorem dX8_areQuarrel_2 : decode cX8_areQuarrel 2 = .ok (.iconst 1, 1) := by decide +kernel
theorem dX8_areQuarrel_3 : decode cX8_areQuarrel 3 = .ok (.invokevirtual 409, 3) := by decide +kernel
theorem dX8_areQuarrel_6 : decode cX8_areQuarrel 6 = .ok (.aload_n 0, 1) := by decide +kernel
theorem dX8_areQuarrel_7 : decode cX8_areQuarrel 7 = .ok (.iload_n 2, 1) := by decide +kernel
theorem dX8_areQuarrel_8 : decode cX8_areQuarrel 8 = .ok (.iconst 1, 1) := by decide +kernel
theorem dX8_areQuarrel_9 : decode cX8_areQuarrel 9 = .ok (.invokevirtual 409, 3) := by decide +kernel
theorem dX8_areQuarrel_12 : decode cX8_areQuarrel 12 = .ok (.if_icmp .ne 37, 3) := by decide +kernel
theorem dX8_areQuarrel_15 : decode cX8_areQuarrel 15 = .ok (.aload_n 0, 1) := by decide +kernel
theorem dX8_areQuarrel_16 : decode cX8_areQuarrel 16 = .ok (.iload_n 1, 1) := by decide +kernel
theorem dX8_areQuarrel_17 : decode cX8_areQuarrel 17 = .ok (.iconst 2, 1) := by decide +kernel
theorem dX8_areQuarrel_18 : decode cX8_areQuarrel 18 = .ok (.invokevirtual 409, 3) := by decide +kernel
theorem dX8_areQuarrel_21 : decode cX8_areQuarrel 21 = .ok (.aload_n 0, 1) := by decide +kernel
theorem dX8_areQuarrel_22 : decode cX8_areQuarrel 22 = .ok (.iload_n 2, 1) := by decide +kernel
theorem dX8_areQuarrel_23 : decode cX8_areQuarrel 23 = .ok (.iconst 2, 1) := by decide +kernel
theorem dX8_areQuarrel_24 : decode cX8_areQuarrel 24 = .ok (.invokevirtual 409, 3) := by decide +kernel
theorem dX8_areQuarrel_27 : decode cX8_areQuarrel 27 = .ok (.if_icmp .ne 22, 3) := by decide +kernel
theorem dX8_areQuarrel_30 : decode cX8_areQuarrel 30 = .ok (.aload_n 0, 1) := by decide +kernel
theorem dX8_areQuarrel_31 : decode cX8_areQuarrel 31 = .ok (.iload_n 1, 1) := by decide +kernel
theorem dX8_areQuarrel_32 : decode cX8_areQuarrel 32 = .ok (.iconst 0, 1) := by decide +kernel
theorem dX8_areQuarrel_33 : decode cX8_areQuarrel 33 = .ok (.invokevirtual 409, 3) := by decide +kernel
theorem dX8_areQuarrel_36 : decode cX8_areQuarrel 36 = .ok (.aload_n 0, 1) := by decide +kernel
theorem dX8_areQuarrel_37 : decode cX8_areQuarrel 37 = .ok (.iload_n 2, 1) := by decide +kernel
theorem dX8_areQuarrel_38 : decode cX8_areQuarrel 38 = .ok (.iconst 0, 1) := by decide +kernel
theorem dX8_areQuarrel_39 : decode cX8_areQuarrel 39 = .ok (.invokevirtual 409, 3) := by decide +kernel
theorem dX8_areQuarrel_42 : decode cX8_areQuarrel 42 = .ok (.if_icmp .eq 7, 3) := by decide +kernel
theorem dX8_areQuarrel_45 : decode cX8_areQuarrel 45 = .ok (.iconst 1, 1) := by decide +kernel
theorem dX8_areQuarrel_46 : decode cX8_areQuarrel 46 = .ok (.goto 4, 3) := by decide +kernel
theorem dX8_areQuarrel_49 : decode cX8_areQuarrel 49 = .ok (.iconst 0, 1) := by decide +kernel
theorem dX8_areQuarrel_50 : decode cX8_areQuarrel 50 = .ok (.ireturn, 1) := by decide +kernel
theorem dX8_quarrelsOf_0 : decode cX8_quarrelsOf 0 = .ok (.iconst 0, 1) := by decide +kernel
theorem dX8_quarrelsOf_1 : decode cX8_quarrelsOf 1 = .ok (.istore_n 2, 1) := by decide +kernel
theorem dX8_quarrelsOf_2 : decode cX8_quarrelsOf 2 = .ok (.iconst 0, 1) := by decide +kernel
theorem dX8_quarrelsOf_3 : decode cX8_quarrelsOf 3 = .ok (.istore_n 3, 1) := by decide +kernel
theorem dX8_quarrelsOf_4 : decode cX8_quarrelsOf 4 = .ok (.iload_n 3, 1) := by decide +kernel
theorem dX8_quarrelsOf_5 : decode cX8_quarrelsOf 5 = .ok (.aload_n 0, 1) := by decide +kernel
theorem dX8_quarrelsOf_6 : decode cX8_quarrelsOf 6 = .ok (.invokevirtual 178, 3) := by decide +kernel
theorem dX8_quarrelsOf_9 : decode cX8_quarrelsOf 9 = .ok (.if_icmp .ge 28, 3) := by decide +kernel
theorem dX8_quarrelsOf_12 : decode cX8_quarrelsOf 12 = .ok (.iload_n 2, 1) := by decide +kernel
theorem dX8_quarrelsOf_13 : decode cX8_quarrelsOf 13 = .ok (.aload_n 0, 1) := by decide +kernel
theorem dX8_quarrelsOf_14 : decode cX8_quarrelsOf 14 = .ok (.iload_n 1, 1) := by decide +kernel
theorem dX8_quarrelsOf_15 : decode cX8_quarrelsOf 15 = .ok (.iload_n 3, 1) := by decide +kernel
theorem dX8_quarrelsOf_16 : decode cX8_quarrelsOf 16 = .ok (.invokevirtual 412, 3) := by decide +kernel
theorem dX8_quarrelsOf_19 : decode cX8_quarrelsOf 19 = .ok (.ifCond .eq 9, 3) := by decide +kernel
theorem dX8_quarrelsOf_22 : decode cX8_quarrelsOf 22 = .ok (.iconst 1, 1) := by decide +kernel
theorem dX8_quarrelsOf_23 : decode cX8_quarrelsOf 23 = .ok (.iload_n 3, 1) := by decide +kernel
theorem dX8_quarrelsOf_24 : decode cX8_quarrelsOf 24 = .ok (.ishl, 1) := by decide +kernel
theorem dX8_quarrelsOf_25 : decode cX8_quarrelsOf 25 = .ok (.goto 4, 3) := by decide +kernel
theorem dX8_quarrelsOf_28 : decode cX8_quarrelsOf 28 = .ok (.iconst 0, 1) := by decide +kernel
theorem dX8_quarrelsOf_29 : decode cX8_quarrelsOf 29 = .ok (.ior, 1) := by decide +kernel
theorem dX8_quarrelsOf_30 : decode cX8_quarrelsOf 30 = .ok (.istore_n 2, 1) := by decide +kernel
theorem dX8_quarrelsOf_31 : decode cX8_quarrelsOf 31 = .ok (.iinc 3 1, 3) := by decide +kernel
theorem dX8_quarrelsOf_34 : decode cX8_quarrelsOf 34 = .ok (.goto (-30), 3) := by decide +kernel
theorem dX8_quarrelsOf_37 : decode cX8_quarrelsOf 37 = .ok (.iload_n 2, 1) := by decide +kernel
theorem dX8_quarrelsOf_38 : decode cX8_quarrelsOf 38 = .ok (.ireturn, 1) := by decide +kernel
theorem dX8_contract_0 : decode cX8_contract 0 = .ok (.aload_n 0, 1) := by decide +kernel
theorem dX8_contract_1 : decode cX8_contract 1 = .ok (.iconst 0, 1) := by decide +kernel
theorem dX8_contract_2 : decode cX8_contract 2 = .ok (.putfield 3, 3) := by decide +kernel
theorem dX8_contract_5 : decode cX8_contract 5 = .ok (.aload_n 0, 1) := by decide +kernel
theorem dX8_contract_6 : decode cX8_contract 6 = .ok (.iload_n 1, 1) := by decide +kernel
theorem dX8_contract_7 : decode cX8_contract 7 = .ok (.iconst 0, 1) := by decide +kernel
theorem dX8_contract_8 : decode cX8_contract 8 = .ok (.aload_n 0, 1) := by decide +kernel
theorem dX8_contract_9 : decode cX8_contract 9 = .ok (.invokevirtual 178, 3) := by decide +kernel
theorem dX8_contract_12 : decode cX8_contract 12 = .ok (.iconst 1, 1) := by decide +kernel
theorem dX8_contract_13 : decode cX8_contract 13 = .ok (.isub, 1) := by decide +kernel
theorem dX8_contract_14 : decode cX8_contract 14 = .ok (.invokestatic 85, 3) := by decide +kernel
theorem dX8_contract_17 : decode cX8_contract 17 = .ok (.ifCond .ne 7, 3) := by decide +kernel
theorem dX8_contract_20 : decode cX8_contract 20 = .ok (.iconst 1, 1) := by decide +kernel
theorem dX8_contract_21 : decode cX8_contract 21 = .ok (.goto 4, 3) := by decide +kernel
theorem dX8_contract_24 : decode cX8_contract 24 = .ok (.iconst 0, 1) := by decide +kernel
theorem dX8_contract_25 : decode cX8_contract 25 = .ok (.iconst 1, 1) := by decide +kernel
theorem dX8_contract_26 : decode cX8_contract 26 = .ok (.invokevirtual 281, 3) := by decide +kernel
theorem dX8_contract_29 : decode cX8_contract 29 = .ok (.ifCond .ne 25, 3) := by decide +kernel
theorem dX8_contract_32 : decode cX8_contract 32 = .ok (.aload_n 0, 1) := by decide +kernel
theorem dX8_contract_33 : decode cX8_contract 33 = .ok (.iload_n 2, 1) := by decide +kernel
theorem dX8_contract_34 : decode cX8_contract 34 = .ok (.iconst 0, 1) := by decide +kernel
theorem dX8_contract_35 : decode cX8_contract 35 = .ok (.iconst 4, 1) := by decide +kernel
theorem dX8_contract_36 : decode cX8_contract 36 = .ok (.invokestatic 85, 3) := by decide +kernel
theorem dX8_contract_39 : decode cX8_contract 39 = .ok (.ifCond .ne 7, 3) := by decide +kernel
theorem dX8_contract_42 : decode cX8_contract 42 = .ok (.iconst 1, 1) := by decide +kernel
theorem dX8_contract_43 : decode cX8_contract 43 = .ok (.goto 4, 3) := by decide +kernel
theorem dX8_contract_46 : decode cX8_contract 46 = .ok (.iconst 0, 1) := by decide +kernel
theorem dX8_contract_47 : decode cX8_contract 47 = .ok (.iconst 2, 1) := by decide +kernel
theorem dX8_contract_48 : decode cX8_contract 48 = .ok (.invokevirtual 281, 3) := by decide +kernel
theorem dX8_contract_51 : decode cX8_contract 51 = .ok (.ifCond .eq 5, 3) := by decide +kernel
theorem dX8_contract_54 : decode cX8_contract 54 = .ok (.iconst 0, 1) := by decide +kernel
theorem dX8_contract_55 : decode cX8_contract 55 = .ok (.ireturn, 1) := by decide +kernel
theorem dX8_contract_56 : decode cX8_contract 56 = .ok (.iload_n 2, 1) := by decide +kernel
theorem dX8_contract_57 : decode cX8_contract 57 = .ok (.iconst 4, 1) := by decide +kernel
theorem dX8_contract_58 : decode cX8_contract 58 = .ok (.if_icmp .ne 11, 3) := by decide +kernel
theorem dX8_contract_61 : decode cX8_contract 61 = .ok (.aload_n 0, 1) := by decide +kernel
theorem dX8_contract_62 : decode cX8_contract 62 = .ok (.iload_n 1, 1) := by decide +kernel
theorem dX8_contract_63 : decode cX8_contract 63 = .ok (.invokevirtual 415, 3) := by decide +kernel
theorem dX8_contract_66 : decode cX8_contract 66 = .ok (.goto 9, 3) := by decide +kernel
theorem dX8_contract_69 : decode cX8_contract 69 = .ok (.aload_n 0, 1) := by decide +kernel
theorem dX8_contract_70 : decode cX8_contract 70 = .ok (.iload_n 1, 1) := by decide +kernel
theorem dX8_contract_71 : decode cX8_contract 71 = .ok (.iload_n 2, 1) := by decide +kernel
theorem dX8_contract_72 : decode cX8_contract 72 = .ok (.invokevirtual 409, 3) := by decide +kernel
theorem dX8_contract_75 : decode cX8_contract 75 = .ok (.ireturn, 1) := by decide +kernel
theorem dX8_ofLog_0 : decode cX8_ofLog 0 = .ok (.aload_n 0, 1) := by decide +kernel
theorem dX8_ofLog_1 : decode cX8_ofLog 1 = .ok (.getfield 13, 3) := by decide +kernel
theorem dX8_ofLog_4 : decode cX8_ofLog 4 = .ok (.bipush 82, 2) := by decide +kernel
theorem dX8_ofLog_6 : decode cX8_ofLog 6 = .ok (.bipush 6, 2) := by decide +kernel
theorem dX8_ofLog_8 : decode cX8_ofLog 8 = .ok (.iload_n 1, 1) := by decide +kernel
theorem dX8_ofLog_9 : decode cX8_ofLog 9 = .ok (.imul, 1) := by decide +kernel
theorem dX8_ofLog_10 : decode cX8_ofLog 10 = .ok (.iadd, 1) := by decide +kernel
theorem dX8_ofLog_11 : decode cX8_ofLog 11 = .ok (.iload_n 2, 1) := by decide +kernel
theorem dX8_ofLog_12 : decode cX8_ofLog 12 = .ok (.iadd, 1) := by decide +kernel
theorem dX8_ofLog_13 : decode cX8_ofLog 13 = .ok (.iaload, 1) := by decide +kernel
theorem dX8_ofLog_14 : decode cX8_ofLog 14 = .ok (.ireturn, 1) := by decide +kernel
theorem dX8_isLogged_0 : decode cX8_isLogged 0 = .ok (.iconst 0, 1) := by decide +kernel
theorem dX8_isLogged_1 : decode cX8_isLogged 1 = .ok (.istore_n 3, 1) := by decide +kernel
theorem dX8_isLogged_2 : decode cX8_isLogged 2 = .ok (.iconst 0, 1) := by decide +kernel
theorem dX8_isLogged_3 : decode cX8_isLogged 3 = .ok (.istore 4, 2) := by decide +kernel
theorem dX8_isLogged_5 : decode cX8_isLogged 5 = .ok (.iload 4, 2) := by decide +kernel
theorem dX8_isLogged_7 : decode cX8_isLogged 7 = .ok (.aload_n 0, 1) := by decide +kernel
theorem dX8_isLogged_8 : decode cX8_isLogged 8 = .ok (.getfield 13, 3) := by decide +kernel
theorem dX8_isLogged_11 : decode cX8_isLogged 11 = .ok (.bipush 8, 2) := by decide +kernel
theorem dX8_isLogged_13 : decode cX8_isLogged 13 = .ok (.iaload, 1) := by decide +kernel
theorem dX8_isLogged_14 : decode cX8_isLogged 14 = .ok (.if_icmp .ge 94, 3) := by decide +kernel
theorem dX8_isLogged_17 : decode cX8_isLogged 17 = .ok (.aload_n 0, 1) := by decide +kernel
theorem dX8_isLogged_18 : decode cX8_isLogged 18 = .ok (.iload 4, 2) := by decide +kernel
theorem dX8_isLogged_20 : decode cX8_isLogged 20 = .ok (.iconst 1, 1) := by decide +kernel
theorem dX8_isLogged_21 : decode cX8_isLogged 21 = .ok (.invokevirtual 418, 3) := by decide +kernel
theorem dX8_isLogged_24 : decode cX8_isLogged 24 = .ok (.aload_n 0, 1) := by decide +kernel
theorem dX8_isLogged_25 : decode cX8_isLogged 25 = .ok (.iload_n 1, 1) := by decide +kernel
theorem dX8_isLogged_26 : decode cX8_isLogged 26 = .ok (.iconst 1, 1) := by decide +kernel
theorem dX8_isLogged_27 : decode cX8_isLogged 27 = .ok (.invokevirtual 409, 3) := by decide +kernel
theorem dX8_isLogged_30 : decode cX8_isLogged 30 = .ok (.if_icmp .ne 23, 3) := by decide +kernel
theorem dX8_isLogged_33 : decode cX8_isLogged 33 = .ok (.aload_n 0, 1) := by decide +kernel
theorem dX8_isLogged_34 : decode cX8_isLogged 34 = .ok (.iload 4, 2) := by decide +kernel
theorem dX8_isLogged_36 : decode cX8_isLogged 36 = .ok (.iconst 2, 1) := by decide +kernel
theorem dX8_isLogged_37 : decode cX8_isLogged 37 = .ok (.invokevirtual 418, 3) := by decide +kernel
theorem dX8_isLogged_40 : decode cX8_isLogged 40 = .ok (.aload_n 0, 1) := by decide +kernel
theorem dX8_isLogged_41 : decode cX8_isLogged 41 = .ok (.iload_n 1, 1) := by decide +kernel
theorem dX8_isLogged_42 : decode cX8_isLogged 42 = .ok (.iconst 2, 1) := by decide +kernel
theorem dX8_isLogged_43 : decode cX8_isLogged 43 = .ok (.invokevirtual 409, 3) := by decide +kernel
theorem dX8_isLogged_46 : decode cX8_isLogged 46 = .ok (.if_icmp .ne 7, 3) := by decide +kernel
theorem dX8_isLogged_49 : decode cX8_isLogged 49 = .ok (.iconst 1, 1) := by decide +kernel
theorem dX8_isLogged_50 : decode cX8_isLogged 50 = .ok (.goto 4, 3) := by decide +kernel
theorem dX8_isLogged_53 : decode cX8_isLogged 53 = .ok (.iconst 0, 1) := by decide +kernel
theorem dX8_isLogged_54 : decode cX8_isLogged 54 = .ok (.istore 5, 2) := by decide +kernel
theorem dX8_isLogged_56 : decode cX8_isLogged 56 = .ok (.iload_n 3, 1) := by decide +kernel
theorem dX8_isLogged_57 : decode cX8_isLogged 57 = .ok (.ifCond .ne 39, 3) := by decide +kernel
theorem dX8_isLogged_60 : decode cX8_isLogged 60 = .ok (.iload 5, 2) := by decide +kernel
theorem dX8_isLogged_62 : decode cX8_isLogged 62 = .ok (.ifCond .eq 38, 3) := by decide +kernel
theorem dX8_isLogged_65 : decode cX8_isLogged 65 = .ok (.iload_n 2, 1) := by decide +kernel
theorem dX8_isLogged_66 : decode cX8_isLogged 66 = .ok (.ifCond .eq 30, 3) := by decide +kernel
theorem dX8_isLogged_69 : decode cX8_isLogged 69 = .ok (.aload_n 0, 1) := by decide +kernel
theorem dX8_isLogged_70 : decode cX8_isLogged 70 = .ok (.iload 4, 2) := by decide +kernel
theorem dX8_isLogged_72 : decode cX8_isLogged 72 = .ok (.iconst 5, 1) := by decide +kernel
theorem dX8_isLogged_73 : decode cX8_isLogged 73 = .ok (.invokevirtual 418, 3) := by decide +kernel
theorem dX8_isLogged_76 : decode cX8_isLogged 76 = .ok (.iconst 1, 1) := by decide +kernel
theorem dX8_isLogged_77 : decode cX8_isLogged 77 = .ok (.if_icmp .ne 23, 3) := by decide +kernel
theorem dX8_isLogged_80 : decode cX8_isLogged 80 = .ok (.aload_n 0, 1) := by decide +kernel
theorem dX8_isLogged_81 : decode cX8_isLogged 81 = .ok (.iload 4, 2) := by decide +kernel
theorem dX8_isLogged_83 : decode cX8_isLogged 83 = .ok (.iconst 0, 1) := by decide +kernel
theorem dX8_isLogged_84 : decode cX8_isLogged 84 = .ok (.invokevirtual 418, 3) := by decide +kernel
theorem dX8_isLogged_87 : decode cX8_isLogged 87 = .ok (.aload_n 0, 1) := by decide +kernel
theorem dX8_isLogged_88 : decode cX8_isLogged 88 = .ok (.iload_n 1, 1) := by decide +kernel
theorem dX8_isLogged_89 : decode cX8_isLogged 89 = .ok (.iconst 3, 1) := by decide +kernel
theorem dX8_isLogged_90 : decode cX8_isLogged 90 = .ok (.invokevirtual 409, 3) := by decide +kernel
theorem dX8_isLogged_93 : decode cX8_isLogged 93 = .ok (.if_icmp .gt 7, 3) := by decide +kernel
theorem dX8_isLogged_96 : decode cX8_isLogged 96 = .ok (.iconst 1, 1) := by decide +kernel
theorem dX8_isLogged_97 : decode cX8_isLogged 97 = .ok (.goto 4, 3) := by decide +kernel
theorem dX8_isLogged_100 : decode cX8_isLogged 100 = .ok (.iconst 0, 1) := by decide +kernel
theorem dX8_isLogged_101 : decode cX8_isLogged 101 = .ok (.istore_n 3, 1) := by decide +kernel
theorem dX8_isLogged_102 : decode cX8_isLogged 102 = .ok (.iinc 4 1, 3) := by decide +kernel
theorem dX8_isLogged_105 : decode cX8_isLogged 105 = .ok (.goto (-100), 3) := by decide +kernel
theorem dX8_isLogged_108 : decode cX8_isLogged 108 = .ok (.iload_n 3, 1) := by decide +kernel
theorem dX8_isLogged_109 : decode cX8_isLogged 109 = .ok (.ireturn, 1) := by decide +kernel
theorem dX8_broken_0 : decode cX8_broken 0 = .ok (.aload_n 0, 1) := by decide +kernel
theorem dX8_broken_1 : decode cX8_broken 1 = .ok (.iconst 0, 1) := by decide +kernel
theorem dX8_broken_2 : decode cX8_broken 2 = .ok (.putfield 3, 3) := by decide +kernel
theorem dX8_broken_5 : decode cX8_broken 5 = .ok (.iconst 0, 1) := by decide +kernel
theorem dX8_broken_6 : decode cX8_broken 6 = .ok (.istore_n 1, 1) := by decide +kernel
theorem dX8_broken_7 : decode cX8_broken 7 = .ok (.iconst 0, 1) := by decide +kernel
theorem dX8_broken_8 : decode cX8_broken 8 = .ok (.istore_n 2, 1) := by decide +kernel
theorem dX8_broken_9 : decode cX8_broken 9 = .ok (.iload_n 2, 1) := by decide +kernel
theorem dX8_broken_10 : decode cX8_broken 10 = .ok (.aload_n 0, 1) := by decide +kernel
theorem dX8_broken_11 : decode cX8_broken 11 = .ok (.invokevirtual 178, 3) := by decide +kernel
theorem dX8_broken_14 : decode cX8_broken 14 = .ok (.if_icmp .ge 84, 3) := by decide +kernel
theorem dX8_broken_17 : decode cX8_broken 17 = .ok (.aload_n 0, 1) := by decide +kernel
theorem dX8_broken_18 : decode cX8_broken 18 = .ok (.iload_n 2, 1) := by decide +kernel
theorem dX8_broken_19 : decode cX8_broken 19 = .ok (.iconst 0, 1) := by decide +kernel
theorem dX8_broken_20 : decode cX8_broken 20 = .ok (.invokevirtual 409, 3) := by decide +kernel
theorem dX8_broken_23 : decode cX8_broken 23 = .ok (.iconst 1, 1) := by decide +kernel
theorem dX8_broken_24 : decode cX8_broken 24 = .ok (.if_icmp .ne 7, 3) := by decide +kernel
theorem dX8_broken_27 : decode cX8_broken 27 = .ok (.iconst 1, 1) := by decide +kernel
theorem dX8_broken_28 : decode cX8_broken 28 = .ok (.goto 4, 3) := by decide +kernel
theorem dX8_broken_31 : decode cX8_broken 31 = .ok (.iconst 0, 1) := by decide +kernel
theorem dX8_broken_32 : decode cX8_broken 32 = .ok (.istore_n 3, 1) := by decide +kernel
theorem dX8_broken_33 : decode cX8_broken 33 = .ok (.iload_n 3, 1) := by decide +kernel
theorem dX8_broken_34 : decode cX8_broken 34 = .ok (.ifCond .eq 35, 3) := by decide +kernel
theorem dX8_broken_37 : decode cX8_broken 37 = .ok (.aload_n 0, 1) := by decide +kernel
theorem dX8_broken_38 : decode cX8_broken 38 = .ok (.getfield 13, 3) := by decide +kernel
theorem dX8_broken_41 : decode cX8_broken 41 = .ok (.iconst 5, 1) := by decide +kernel
theorem dX8_broken_42 : decode cX8_broken 42 = .ok (.iaload, 1) := by decide +kernel
theorem dX8_broken_43 : decode cX8_broken 43 = .ok (.aload_n 0, 1) := by decide +kernel
theorem dX8_broken_44 : decode cX8_broken 44 = .ok (.iload_n 2, 1) := by decide +kernel
theorem dX8_broken_45 : decode cX8_broken 45 = .ok (.iconst 3, 1) := by decide +kernel
theorem dX8_broken_46 : decode cX8_broken 46 = .ok (.invokevirtual 409, 3) := by decide +kernel
theorem dX8_broken_49 : decode cX8_broken 49 = .ok (.if_icmp .le 16, 3) := by decide +kernel
theorem dX8_broken_52 : decode cX8_broken 52 = .ok (.aload_n 0, 1) := by decide +kernel
theorem dX8_broken_53 : decode cX8_broken 53 = .ok (.iload_n 2, 1) := by decide +kernel
theorem dX8_broken_54 : decode cX8_broken 54 = .ok (.iconst 1, 1) := by decide +kernel
theorem dX8_broken_55 : decode cX8_broken 55 = .ok (.invokevirtual 421, 3) := by decide +kernel
theorem dX8_broken_58 : decode cX8_broken 58 = .ok (.ifCond .ne 7, 3) := by decide +kernel
theorem dX8_broken_61 : decode cX8_broken 61 = .ok (.iconst 1, 1) := by decide +kernel
theorem dX8_broken_62 : decode cX8_broken 62 = .ok (.goto 13, 3) := by decide +kernel
theorem dX8_broken_65 : decode cX8_broken 65 = .ok (.iconst 0, 1) := by decide +kernel
theorem dX8_broken_66 : decode cX8_broken 66 = .ok (.goto 9, 3) := by decide +kernel
theorem dX8_broken_69 : decode cX8_broken 69 = .ok (.aload_n 0, 1) := by decide +kernel
theorem dX8_broken_70 : decode cX8_broken 70 = .ok (.iload_n 2, 1) := by decide +kernel
theorem dX8_broken_71 : decode cX8_broken 71 = .ok (.iconst 0, 1) := by decide +kernel
theorem dX8_broken_72 : decode cX8_broken 72 = .ok (.invokevirtual 421, 3) := by decide +kernel
theorem dX8_broken_75 : decode cX8_broken 75 = .ok (.istore 4, 2) := by decide +kernel
theorem dX8_broken_77 : decode cX8_broken 77 = .ok (.iload_n 1, 1) := by decide +kernel
theorem dX8_broken_78 : decode cX8_broken 78 = .ok (.iload 4, 2) := by decide +kernel
theorem dX8_broken_80 : decode cX8_broken 80 = .ok (.ifCond .eq 9, 3) := by decide +kernel
theorem dX8_broken_83 : decode cX8_broken 83 = .ok (.iconst 1, 1) := by decide +kernel
theorem dX8_broken_84 : decode cX8_broken 84 = .ok (.iload_n 2, 1) := by decide +kernel
theorem dX8_broken_85 : decode cX8_broken 85 = .ok (.ishl, 1) := by decide +kernel
theorem dX8_broken_86 : decode cX8_broken 86 = .ok (.goto 4, 3) := by decide +kernel
theorem dX8_broken_89 : decode cX8_broken 89 = .ok (.iconst 0, 1) := by decide +kernel
theorem dX8_broken_90 : decode cX8_broken 90 = .ok (.ior, 1) := by decide +kernel
theorem dX8_broken_91 : decode cX8_broken 91 = .ok (.istore_n 1, 1) := by decide +kernel
theorem dX8_broken_92 : decode cX8_broken 92 = .ok (.iinc 2 1, 3) := by decide +kernel
theorem dX8_broken_95 : decode cX8_broken 95 = .ok (.goto (-86), 3) := by decide +kernel
theorem dX8_broken_98 : decode cX8_broken 98 = .ok (.iload_n 1, 1) := by decide +kernel
theorem dX8_broken_99 : decode cX8_broken 99 = .ok (.ireturn, 1) := by decide +kernel
theorem dX8_isPeace_0 : decode cX8_isPeace 0 = .ok (.iconst 1, 1) := by decide +kernel
theorem dX8_isPeace_1 : decode cX8_isPeace 1 = .ok (.istore_n 2, 1) := by decide +kernel
theorem dX8_isPeace_2 : decode cX8_isPeace 2 = .ok (.iconst 0, 1) := by decide +kernel
theorem dX8_isPeace_3 : decode cX8_isPeace 3 = .ok (.istore_n 3, 1) := by decide +kernel
theorem dX8_isPeace_4 : decode cX8_isPeace 4 = .ok (.iload_n 3, 1) := by decide +kernel
theorem dX8_isPeace_5 : decode cX8_isPeace 5 = .ok (.aload_n 0, 1) := by decide +kernel
theorem dX8_isPeace_6 : decode cX8_isPeace 6 = .ok (.invokevirtual 178, 3) := by decide +kernel
theorem dX8_isPeace_9 : decode cX8_isPeace 9 = .ok (.if_icmp .ge 39, 3) := by decide +kernel
theorem dX8_isPeace_12 : decode cX8_isPeace 12 = .ok (.iload_n 2, 1) := by decide +kernel
theorem dX8_isPeace_13 : decode cX8_isPeace 13 = .ok (.ifCond .eq 35, 3) := by decide +kernel
theorem dX8_isPeace_16 : decode cX8_isPeace 16 = .ok (.iload_n 1, 1) := by decide +kernel
theorem dX8_isPeace_17 : decode cX8_isPeace 17 = .ok (.iload_n 3, 1) := by decide +kernel
theorem dX8_isPeace_18 : decode cX8_isPeace 18 = .ok (.invokestatic 320, 3) := by decide +kernel
theorem dX8_isPeace_21 : decode cX8_isPeace 21 = .ok (.ifCond .ne 15, 3) := by decide +kernel
theorem dX8_isPeace_24 : decode cX8_isPeace 24 = .ok (.aload_n 0, 1) := by decide +kernel
theorem dX8_isPeace_25 : decode cX8_isPeace 25 = .ok (.iload_n 3, 1) := by decide +kernel
theorem dX8_isPeace_26 : decode cX8_isPeace 26 = .ok (.invokevirtual 415, 3) := by decide +kernel
theorem dX8_isPeace_29 : decode cX8_isPeace 29 = .ok (.iload_n 1, 1) := by decide +kernel
theorem dX8_isPeace_30 : decode cX8_isPeace 30 = .ok (.iconst (-1), 1) := by decide +kernel
theorem dX8_isPeace_31 : decode cX8_isPeace 31 = .ok (.ixor, 1) := by decide +kernel
theorem dX8_isPeace_32 : decode cX8_isPeace 32 = .ok (.iand, 1) := by decide +kernel
theorem dX8_isPeace_33 : decode cX8_isPeace 33 = .ok (.ifCond .ne 7, 3) := by decide +kernel
theorem dX8_isPeace_36 : decode cX8_isPeace 36 = .ok (.iconst 1, 1) := by decide +kernel
theorem dX8_isPeace_37 : decode cX8_isPeace 37 = .ok (.goto 4, 3) := by decide +kernel
theorem dX8_isPeace_40 : decode cX8_isPeace 40 = .ok (.iconst 0, 1) := by decide +kernel
theorem dX8_isPeace_41 : decode cX8_isPeace 41 = .ok (.istore_n 2, 1) := by decide +kernel
theorem dX8_isPeace_42 : decode cX8_isPeace 42 = .ok (.iinc 3 1, 3) := by decide +kernel
theorem dX8_isPeace_45 : decode cX8_isPeace 45 = .ok (.goto (-41), 3) := by decide +kernel
theorem dX8_isPeace_48 : decode cX8_isPeace 48 = .ok (.iload_n 2, 1) := by decide +kernel
theorem dX8_isPeace_49 : decode cX8_isPeace 49 = .ok (.ireturn, 1) := by decide +kernel
theorem dX8_breaks_0 : decode cX8_breaks 0 = .ok (.aload_n 0, 1) := by decide +kernel
theorem dX8_breaks_1 : decode cX8_breaks 1 = .ok (.iconst 0, 1) := by decide +kernel
theorem dX8_breaks_2 : decode cX8_breaks 2 = .ok (.putfield 3, 3) := by decide +kernel
theorem dX8_breaks_5 : decode cX8_breaks 5 = .ok (.iconst 1, 1) := by decide +kernel
theorem dX8_breaks_6 : decode cX8_breaks 6 = .ok (.aload_n 0, 1) := by decide +kernel
theorem dX8_breaks_7 : decode cX8_breaks 7 = .ok (.invokevirtual 178, 3) := by decide +kernel
theorem dX8_breaks_10 : decode cX8_breaks 10 = .ok (.ishl, 1) := by decide +kernel
theorem dX8_breaks_11 : decode cX8_breaks 11 = .ok (.iconst 1, 1) := by decide +kernel
theorem dX8_breaks_12 : decode cX8_breaks 12 = .ok (.isub, 1) := by decide +kernel
theorem dX8_breaks_13 : decode cX8_breaks 13 = .ok (.istore_n 1, 1) := by decide +kernel
theorem dX8_breaks_14 : decode cX8_breaks 14 = .ok (.iload_n 1, 1) := by decide +kernel
theorem dX8_breaks_15 : decode cX8_breaks 15 = .ok (.istore_n 2, 1) := by decide +kernel
theorem dX8_breaks_16 : decode cX8_breaks 16 = .ok (.iload_n 2, 1) := by decide +kernel
theorem dX8_breaks_17 : decode cX8_breaks 17 = .ok (.ifCond .lt 34, 3) := by decide +kernel
theorem dX8_breaks_20 : decode cX8_breaks 20 = .ok (.iload_n 2, 1) := by decide +kernel
theorem dX8_breaks_21 : decode cX8_breaks 21 = .ok (.invokestatic 338, 3) := by decide +kernel
theorem dX8_breaks_24 : decode cX8_breaks 24 = .ok (.iload_n 1, 1) := by decide +kernel
theorem dX8_breaks_25 : decode cX8_breaks 25 = .ok (.invokestatic 338, 3) := by decide +kernel
theorem dX8_breaks_28 : decode cX8_breaks 28 = .ok (.if_icmp .gt 15, 3) := by decide +kernel
theorem dX8_breaks_31 : decode cX8_breaks 31 = .ok (.aload_n 0, 1) := by decide +kernel
theorem dX8_breaks_32 : decode cX8_breaks 32 = .ok (.iload_n 2, 1) := by decide +kernel
theorem dX8_breaks_33 : decode cX8_breaks 33 = .ok (.invokevirtual 425, 3) := by decide +kernel
theorem dX8_breaks_36 : decode cX8_breaks 36 = .ok (.ifCond .eq 7, 3) := by decide +kernel
theorem dX8_breaks_39 : decode cX8_breaks 39 = .ok (.iload_n 2, 1) := by decide +kernel
theorem dX8_breaks_40 : decode cX8_breaks 40 = .ok (.goto 4, 3) := by decide +kernel
theorem dX8_breaks_43 : decode cX8_breaks 43 = .ok (.iload_n 1, 1) := by decide +kernel
theorem dX8_breaks_44 : decode cX8_breaks 44 = .ok (.istore_n 1, 1) := by decide +kernel
theorem dX8_breaks_45 : decode cX8_breaks 45 = .ok (.iinc 2 (-1), 3) := by decide +kernel
theorem dX8_breaks_48 : decode cX8_breaks 48 = .ok (.goto (-32), 3) := by decide +kernel
theorem dX8_breaks_51 : decode cX8_breaks 51 = .ok (.iload_n 1, 1) := by decide +kernel
theorem dX8_breaks_52 : decode cX8_breaks 52 = .ok (.ireturn, 1) := by decide +kernel
theorem dX8_worthOf_0 : decode cX8_worthOf 0 = .ok (.aload_n 0, 1) := by decide +kernel
theorem dX8_worthOf_1 : decode cX8_worthOf 1 = .ok (.iload_n 1, 1) := by decide +kernel
theorem dX8_worthOf_2 : decode cX8_worthOf 2 = .ok (.iload_n 2, 1) := by decide +kernel
theorem dX8_worthOf_3 : decode cX8_worthOf 3 = .ok (.invokevirtual 345, 3) := by decide +kernel
theorem dX8_worthOf_6 : decode cX8_worthOf 6 = .ok (.istore_n 3, 1) := by decide +kernel
theorem dX8_worthOf_7 : decode cX8_worthOf 7 = .ok (.iload_n 3, 1) := by decide +kernel
theorem dX8_worthOf_8 : decode cX8_worthOf 8 = .ok (.ifCond .ne 7, 3) := by decide +kernel
theorem dX8_worthOf_11 : decode cX8_worthOf 11 = .ok (.iconst 0, 1) := by decide +kernel
theorem dX8_worthOf_12 : decode cX8_worthOf 12 = .ok (.goto 11, 3) := by decide +kernel
theorem dX8_worthOf_15 : decode cX8_worthOf 15 = .ok (.aload_n 0, 1) := by decide +kernel
theorem dX8_worthOf_16 : decode cX8_worthOf 16 = .ok (.iload_n 2, 1) := by decide +kernel
theorem dX8_worthOf_17 : decode cX8_worthOf 17 = .ok (.iconst 2, 1) := by decide +kernel
theorem dX8_worthOf_18 : decode cX8_worthOf 18 = .ok (.invokevirtual 167, 3) := by decide +kernel
theorem dX8_worthOf_21 : decode cX8_worthOf 21 = .ok (.iload_n 3, 1) := by decide +kernel
theorem dX8_worthOf_22 : decode cX8_worthOf 22 = .ok (.idiv, 1) := by decide +kernel
theorem dX8_worthOf_23 : decode cX8_worthOf 23 = .ok (.ireturn, 1) := by decide +kernel
theorem dX8_richest_0 : decode cX8_richest 0 = .ok (.aload_n 0, 1) := by decide +kernel
theorem dX8_richest_1 : decode cX8_richest 1 = .ok (.iconst 0, 1) := by decide +kernel
theorem dX8_richest_2 : decode cX8_richest 2 = .ok (.putfield 3, 3) := by decide +kernel
theorem dX8_richest_5 : decode cX8_richest 5 = .ok (.aload_n 0, 1) := by decide +kernel
theorem dX8_richest_6 : decode cX8_richest 6 = .ok (.aload_n 0, 1) := by decide +kernel
theorem dX8_richest_7 : decode cX8_richest 7 = .ok (.iload_n 1, 1) := by decide +kernel
theorem dX8_richest_8 : decode cX8_richest 8 = .ok (.invokevirtual 342, 3) := by decide +kernel
theorem dX8_richest_11 : decode cX8_richest 11 = .ok (.iconst 1, 1) := by decide +kernel
theorem dX8_richest_12 : decode cX8_richest 12 = .ok (.invokevirtual 281, 3) := by decide +kernel
theorem dX8_richest_15 : decode cX8_richest 15 = .ok (.ifCond .eq 5, 3) := by decide +kernel
theorem dX8_richest_18 : decode cX8_richest 18 = .ok (.iconst 0, 1) := by decide +kernel
theorem dX8_richest_19 : decode cX8_richest 19 = .ok (.ireturn, 1) := by decide +kernel
theorem dX8_richest_20 : decode cX8_richest 20 = .ok (.iconst (-1), 1) := by decide +kernel
theorem dX8_richest_21 : decode cX8_richest 21 = .ok (.istore_n 3, 1) := by decide +kernel
theorem dX8_richest_22 : decode cX8_richest 22 = .ok (.iconst 0, 1) := by decide +kernel
theorem dX8_richest_23 : decode cX8_richest 23 = .ok (.istore 4, 2) := by decide +kernel
theorem dX8_richest_25 : decode cX8_richest 25 = .ok (.iconst 0, 1) := by decide +kernel
theorem dX8_richest_26 : decode cX8_richest 26 = .ok (.istore 5, 2) := by decide +kernel
theorem dX8_richest_28 : decode cX8_richest 28 = .ok (.iload 5, 2) := by decide +kernel
theorem dX8_richest_30 : decode cX8_richest 30 = .ok (.aload_n 0, 1) := by decide +kernel
theorem dX8_richest_31 : decode cX8_richest 31 = .ok (.invokevirtual 81, 3) := by decide +kernel
theorem dX8_richest_34 : decode cX8_richest 34 = .ok (.if_icmp .ge 69, 3) := by decide +kernel
theorem dX8_richest_37 : decode cX8_richest 37 = .ok (.iload_n 2, 1) := by decide +kernel
theorem dX8_richest_38 : decode cX8_richest 38 = .ok (.ifCond .eq 14, 3) := by decide +kernel
theorem dX8_richest_41 : decode cX8_richest 41 = .ok (.aload_n 0, 1) := by decide +kernel
theorem dX8_richest_42 : decode cX8_richest 42 = .ok (.iload_n 1, 1) := by decide +kernel
theorem dX8_richest_43 : decode cX8_richest 43 = .ok (.iload 5, 2) := by decide +kernel
theorem dX8_richest_45 : decode cX8_richest 45 = .ok (.invokevirtual 345, 3) := by decide +kernel
theorem dX8_richest_48 : decode cX8_richest 48 = .ok (.ineg, 1) := by decide +kernel
theorem dX8_richest_49 : decode cX8_richest 49 = .ok (.goto 10, 3) := by decide +kernel
theorem dX8_richest_52 : decode cX8_richest 52 = .ok (.aload_n 0, 1) := by decide +kernel
theorem dX8_richest_53 : decode cX8_richest 53 = .ok (.iload_n 1, 1) := by decide +kernel
theorem dX8_richest_54 : decode cX8_richest 54 = .ok (.iload 5, 2) := by decide +kernel
theorem dX8_richest_56 : decode cX8_richest 56 = .ok (.invokevirtual 428, 3) := by decide +kernel
theorem dX8_richest_59 : decode cX8_richest 59 = .ok (.istore 6, 2) := by decide +kernel
theorem dX8_richest_61 : decode cX8_richest 61 = .ok (.aload_n 0, 1) := by decide +kernel
theorem dX8_richest_62 : decode cX8_richest 62 = .ok (.iload 5, 2) := by decide +kernel
theorem dX8_richest_64 : decode cX8_richest 64 = .ok (.aload_n 0, 1) := by decide +kernel
theorem dX8_richest_65 : decode cX8_richest 65 = .ok (.getfield 13, 3) := by decide +kernel
theorem dX8_richest_68 : decode cX8_richest 68 = .ok (.iconst 5, 1) := by decide +kernel
theorem dX8_richest_69 : decode cX8_richest 69 = .ok (.iaload, 1) := by decide +kernel
theorem dX8_richest_70 : decode cX8_richest 70 = .ok (.invokevirtual 323, 3) := by decide +kernel
theorem dX8_richest_73 : decode cX8_richest 73 = .ok (.ifCond .ne 24, 3) := by decide +kernel
theorem dX8_richest_76 : decode cX8_richest 76 = .ok (.iload_n 3, 1) := by decide +kernel
theorem dX8_richest_77 : decode cX8_richest 77 = .ok (.ifCond .lt 13, 3) := by decide +kernel
theorem dX8_richest_80 : decode cX8_richest 80 = .ok (.iload 6, 2) := by decide +kernel
theorem dX8_richest_82 : decode cX8_richest 82 = .ok (.iload 4, 2) := by decide +kernel
theorem dX8_richest_84 : decode cX8_richest 84 = .ok (.if_icmp .gt 6, 3) := by decide +kernel
theorem dX8_richest_87 : decode cX8_richest 87 = .ok (.goto 10, 3) := by decide +kernel
theorem dX8_richest_90 : decode cX8_richest 90 = .ok (.iload 5, 2) := by decide +kernel
theorem dX8_richest_92 : decode cX8_richest 92 = .ok (.istore_n 3, 1) := by decide +kernel
theorem dX8_richest_93 : decode cX8_richest 93 = .ok (.iload 6, 2) := by decide +kernel
theorem dX8_richest_95 : decode cX8_richest 95 = .ok (.istore 4, 2) := by decide +kernel
theorem dX8_richest_97 : decode cX8_richest 97 = .ok (.iinc 5 1, 3) := by decide +kernel
theorem dX8_richest_100 : decode cX8_richest 100 = .ok (.goto (-72), 3) := by decide +kernel
theorem dX8_richest_103 : decode cX8_richest 103 = .ok (.iload_n 3, 1) := by decide +kernel
theorem dX8_richest_104 : decode cX8_richest 104 = .ok (.ireturn, 1) := by decide +kernel
theorem dX8_first_0 : decode cX8_first 0 = .ok (.aload_n 0, 1) := by decide +kernel
theorem dX8_first_1 : decode cX8_first 1 = .ok (.iconst 0, 1) := by decide +kernel
theorem dX8_first_2 : decode cX8_first 2 = .ok (.putfield 3, 3) := by decide +kernel
theorem dX8_first_5 : decode cX8_first 5 = .ok (.aload_n 0, 1) := by decide +kernel
theorem dX8_first_6 : decode cX8_first 6 = .ok (.aload_n 0, 1) := by decide +kernel
theorem dX8_first_7 : decode cX8_first 7 = .ok (.iload_n 1, 1) := by decide +kernel
theorem dX8_first_8 : decode cX8_first 8 = .ok (.invokevirtual 329, 3) := by decide +kernel
theorem dX8_first_11 : decode cX8_first 11 = .ok (.iconst 1, 1) := by decide +kernel
theorem dX8_first_12 : decode cX8_first 12 = .ok (.invokevirtual 281, 3) := by decide +kernel
theorem dX8_first_15 : decode cX8_first 15 = .ok (.ifCond .eq 5, 3) := by decide +kernel
theorem dX8_first_18 : decode cX8_first 18 = .ok (.iconst 0, 1) := by decide +kernel
theorem dX8_first_19 : decode cX8_first 19 = .ok (.ireturn, 1) := by decide +kernel
theorem dX8_first_20 : decode cX8_first 20 = .ok (.iconst (-1), 1) := by decide +kernel
theorem dX8_first_21 : decode cX8_first 21 = .ok (.istore_n 2, 1) := by decide +kernel
theorem dX8_first_22 : decode cX8_first 22 = .ok (.iconst 0, 1) := by decide +kernel
theorem dX8_first_23 : decode cX8_first 23 = .ok (.istore_n 3, 1) := by decide +kernel
theorem dX8_first_24 : decode cX8_first 24 = .ok (.iload_n 3, 1) := by decide +kernel
theorem dX8_first_25 : decode cX8_first 25 = .ok (.aload_n 0, 1) := by decide +kernel
theorem dX8_first_26 : decode cX8_first 26 = .ok (.getfield 13, 3) := by decide +kernel
theorem dX8_first_29 : decode cX8_first 29 = .ok (.bipush 8, 2) := by decide +kernel
theorem dX8_first_31 : decode cX8_first 31 = .ok (.iaload, 1) := by decide +kernel
theorem dX8_first_32 : decode cX8_first 32 = .ok (.if_icmp .ge 40, 3) := by decide +kernel
theorem dX8_first_35 : decode cX8_first 35 = .ok (.aload_n 0, 1) := by decide +kernel
theorem dX8_first_36 : decode cX8_first 36 = .ok (.iload_n 3, 1) := by decide +kernel
theorem dX8_first_37 : decode cX8_first 37 = .ok (.iconst 2, 1) := by decide +kernel
theorem dX8_first_38 : decode cX8_first 38 = .ok (.invokevirtual 418, 3) := by decide +kernel
theorem dX8_first_41 : decode cX8_first 41 = .ok (.iload_n 1, 1) := by decide +kernel
theorem dX8_first_42 : decode cX8_first 42 = .ok (.if_icmp .ne 22, 3) := by decide +kernel
theorem dX8_first_45 : decode cX8_first 45 = .ok (.aload_n 0, 1) := by decide +kernel
theorem dX8_first_46 : decode cX8_first 46 = .ok (.iload_n 3, 1) := by decide +kernel
theorem dX8_first_47 : decode cX8_first 47 = .ok (.iconst 5, 1) := by decide +kernel
theorem dX8_first_48 : decode cX8_first 48 = .ok (.invokevirtual 418, 3) := by decide +kernel
theorem dX8_first_51 : decode cX8_first 51 = .ok (.iconst 1, 1) := by decide +kernel
theorem dX8_first_52 : decode cX8_first 52 = .ok (.if_icmp .ne 12, 3) := by decide +kernel
theorem dX8_first_55 : decode cX8_first 55 = .ok (.aload_n 0, 1) := by decide +kernel
theorem dX8_first_56 : decode cX8_first 56 = .ok (.iload_n 3, 1) := by decide +kernel
theorem dX8_first_57 : decode cX8_first 57 = .ok (.iconst 1, 1) := by decide +kernel
theorem dX8_first_58 : decode cX8_first 58 = .ok (.invokevirtual 418, 3) := by decide +kernel
theorem dX8_first_61 : decode cX8_first 61 = .ok (.goto 4, 3) := by decide +kernel
theorem dX8_first_64 : decode cX8_first 64 = .ok (.iload_n 2, 1) := by decide +kernel
theorem dX8_first_65 : decode cX8_first 65 = .ok (.istore_n 2, 1) := by decide +kernel
theorem dX8_first_66 : decode cX8_first 66 = .ok (.iinc 3 1, 3) := by decide +kernel
theorem dX8_first_69 : decode cX8_first 69 = .ok (.goto (-45), 3) := by decide +kernel
theorem dX8_first_72 : decode cX8_first 72 = .ok (.iload_n 2, 1) := by decide +kernel
theorem dX8_first_73 : decode cX8_first 73 = .ok (.ireturn, 1) := by decide +kernel
theorem dX8_turned_0 : decode cX8_turned 0 = .ok (.aload_n 0, 1) := by decide +kernel
theorem dX8_turned_1 : decode cX8_turned 1 = .ok (.iconst 0, 1) := by decide +kernel
theorem dX8_turned_2 : decode cX8_turned 2 = .ok (.putfield 3, 3) := by decide +kernel
theorem dX8_turned_5 : decode cX8_turned 5 = .ok (.aload_n 0, 1) := by decide +kernel
theorem dX8_turned_6 : decode cX8_turned 6 = .ok (.aload_n 0, 1) := by decide +kernel
theorem dX8_turned_7 : decode cX8_turned 7 = .ok (.iload_n 1, 1) := by decide +kernel
theorem dX8_turned_8 : decode cX8_turned 8 = .ok (.invokevirtual 329, 3) := by decide +kernel
theorem dX8_turned_11 : decode cX8_turned 11 = .ok (.ifCond .ne 16, 3) := by decide +kernel
theorem dX8_turned_14 : decode cX8_turned 14 = .ok (.iload_n 2, 1) := by decide +kernel
theorem dX8_turned_15 : decode cX8_turned 15 = .ok (.iconst (-1), 1) := by decide +kernel
theorem dX8_turned_16 : decode cX8_turned 16 = .ok (.if_icmp .eq 15, 3) := by decide +kernel
theorem dX8_turned_19 : decode cX8_turned 19 = .ok (.aload_n 0, 1) := by decide +kernel
theorem dX8_turned_20 : decode cX8_turned 20 = .ok (.iload_n 2, 1) := by decide +kernel
theorem dX8_turned_21 : decode cX8_turned 21 = .ok (.invokevirtual 342, 3) := by decide +kernel
theorem dX8_turned_24 : decode cX8_turned 24 = .ok (.ifCond .eq 7, 3) := by decide +kernel
theorem dX8_turned_27 : decode cX8_turned 27 = .ok (.iconst 1, 1) := by decide +kernel
theorem dX8_turned_28 : decode cX8_turned 28 = .ok (.goto 4, 3) := by decide +kernel
theorem dX8_turned_31 : decode cX8_turned 31 = .ok (.iconst 0, 1) := by decide +kernel
theorem dX8_turned_32 : decode cX8_turned 32 = .ok (.iconst 1, 1) := by decide +kernel
theorem dX8_turned_33 : decode cX8_turned 33 = .ok (.invokevirtual 281, 3) := by decide +kernel
theorem dX8_turned_36 : decode cX8_turned 36 = .ok (.ifCond .eq 5, 3) := by decide +kernel
theorem dX8_turned_39 : decode cX8_turned 39 = .ok (.iconst 0, 1) := by decide +kernel
theorem dX8_turned_40 : decode cX8_turned 40 = .ok (.ireturn, 1) := by decide +kernel
theorem dX8_turned_41 : decode cX8_turned 41 = .ok (.iconst 0, 1) := by decide +kernel
theorem dX8_turned_42 : decode cX8_turned 42 = .ok (.istore_n 3, 1) := by decide +kernel
theorem dX8_turned_43 : decode cX8_turned 43 = .ok (.iconst 0, 1) := by decide +kernel
theorem dX8_turned_44 : decode cX8_turned 44 = .ok (.istore 4, 2) := by decide +kernel
theorem dX8_turned_46 : decode cX8_turned 46 = .ok (.iload 4, 2) := by decide +kernel
theorem dX8_turned_48 : decode cX8_turned 48 = .ok (.aload_n 0, 1) := by decide +kernel
theorem dX8_turned_49 : decode cX8_turned 49 = .ok (.getfield 13, 3) := by decide +kernel
theorem dX8_turned_52 : decode cX8_turned 52 = .ok (.bipush 8, 2) := by decide +kernel
theorem dX8_turned_54 : decode cX8_turned 54 = .ok (.iaload, 1) := by decide +kernel
theorem dX8_turned_55 : decode cX8_turned 55 = .ok (.if_icmp .ge 44, 3) := by decide +kernel
theorem dX8_turned_58 : decode cX8_turned 58 = .ok (.iload_n 3, 1) := by decide +kernel
theorem dX8_turned_59 : decode cX8_turned 59 = .ok (.aload_n 0, 1) := by decide +kernel
theorem dX8_turned_60 : decode cX8_turned 60 = .ok (.iload 4, 2) := by decide +kernel
theorem dX8_turned_62 : decode cX8_turned 62 = .ok (.iconst 2, 1) := by decide +kernel
theorem dX8_turned_63 : decode cX8_turned 63 = .ok (.invokevirtual 418, 3) := by decide +kernel
theorem dX8_turned_66 : decode cX8_turned 66 = .ok (.iload_n 1, 1) := by decide +kernel
theorem dX8_turned_67 : decode cX8_turned 67 = .ok (.if_icmp .ne 23, 3) := by decide +kernel
theorem dX8_turned_70 : decode cX8_turned 70 = .ok (.iload_n 2, 1) := by decide +kernel
theorem dX8_turned_71 : decode cX8_turned 71 = .ok (.iconst (-1), 1) := by decide +kernel
theorem dX8_turned_72 : decode cX8_turned 72 = .ok (.if_icmp .eq 14, 3) := by decide +kernel
theorem dX8_turned_75 : decode cX8_turned 75 = .ok (.aload_n 0, 1) := by decide +kernel
theorem dX8_turned_76 : decode cX8_turned 76 = .ok (.iload 4, 2) := by decide +kernel
theorem dX8_turned_78 : decode cX8_turned 78 = .ok (.iconst 1, 1) := by decide +kernel
theorem dX8_turned_79 : decode cX8_turned 79 = .ok (.invokevirtual 418, 3) := by decide +kernel
theorem dX8_turned_82 : decode cX8_turned 82 = .ok (.iload_n 2, 1) := by decide +kernel
theorem dX8_turned_83 : decode cX8_turned 83 = .ok (.if_icmp .ne 7, 3) := by decide +kernel
theorem dX8_turned_86 : decode cX8_turned 86 = .ok (.iconst 1, 1) := by decide +kernel
theorem dX8_turned_87 : decode cX8_turned 87 = .ok (.goto 4, 3) := by decide +kernel
theorem dX8_turned_90 : decode cX8_turned 90 = .ok (.iconst 0, 1) := by decide +kernel
theorem dX8_turned_91 : decode cX8_turned 91 = .ok (.iadd, 1) := by decide +kernel
theorem dX8_turned_92 : decode cX8_turned 92 = .ok (.istore_n 3, 1) := by decide +kernel
theorem dX8_turned_93 : decode cX8_turned 93 = .ok (.iinc 4 1, 3) := by decide +kernel
theorem dX8_turned_96 : decode cX8_turned 96 = .ok (.goto (-50), 3) := by decide +kernel
theorem dX8_turned_99 : decode cX8_turned 99 = .ok (.iload_n 3, 1) := by decide +kernel
theorem dX8_turned_100 : decode cX8_turned 100 = .ok (.ireturn, 1) := by decide +kernel
theorem dX8_price_0 : decode cX8_price 0 = .ok (.aload_n 0, 1) := by decide +kernel
theorem dX8_price_1 : decode cX8_price 1 = .ok (.iconst 0, 1) := by decide +kernel
theorem dX8_price_2 : decode cX8_price 2 = .ok (.putfield 3, 3) := by decide +kernel
theorem dX8_price_5 : decode cX8_price 5 = .ok (.aload_n 0, 1) := by decide +kernel
theorem dX8_price_6 : decode cX8_price 6 = .ok (.aload_n 0, 1) := by decide +kernel
theorem dX8_price_7 : decode cX8_price 7 = .ok (.iload_n 1, 1) := by decide +kernel
theorem dX8_price_8 : decode cX8_price 8 = .ok (.invokevirtual 342, 3) := by decide +kernel
theorem dX8_price_11 : decode cX8_price 11 = .ok (.iconst 1, 1) := by decide +kernel
theorem dX8_price_12 : decode cX8_price 12 = .ok (.invokevirtual 281, 3) := by decide +kernel
theorem dX8_price_15 : decode cX8_price 15 = .ok (.ifCond .eq 5, 3) := by decide +kernel
theorem dX8_price_18 : decode cX8_price 18 = .ok (.iconst 0, 1) := by decide +kernel
theorem dX8_price_19 : decode cX8_price 19 = .ok (.ireturn, 1) := by decide +kernel
theorem dX8_price_20 : decode cX8_price 20 = .ok (.iconst 0, 1) := by decide +kernel
theorem dX8_price_21 : decode cX8_price 21 = .ok (.istore_n 2, 1) := by decide +kernel
theorem dX8_price_22 : decode cX8_price 22 = .ok (.iconst 0, 1) := by decide +kernel
theorem dX8_price_23 : decode cX8_price 23 = .ok (.istore_n 3, 1) := by decide +kernel
theorem dX8_price_24 : decode cX8_price 24 = .ok (.iload_n 3, 1) := by decide +kernel
theorem dX8_price_25 : decode cX8_price 25 = .ok (.aload_n 0, 1) := by decide +kernel
theorem dX8_price_26 : decode cX8_price 26 = .ok (.invokevirtual 81, 3) := by decide +kernel
theorem dX8_price_29 : decode cX8_price 29 = .ok (.if_icmp .ge 18, 3) := by decide +kernel
theorem dX8_price_32 : decode cX8_price 32 = .ok (.iload_n 2, 1) := by decide +kernel
theorem dX8_price_33 : decode cX8_price 33 = .ok (.aload_n 0, 1) := by decide +kernel
theorem dX8_price_34 : decode cX8_price 34 = .ok (.iload_n 1, 1) := by decide +kernel
theorem dX8_price_35 : decode cX8_price 35 = .ok (.iload_n 3, 1) := by decide +kernel
theorem dX8_price_36 : decode cX8_price 36 = .ok (.invokevirtual 428, 3) := by decide +kernel
theorem dX8_price_39 : decode cX8_price 39 = .ok (.iadd, 1) := by decide +kernel
theorem dX8_price_40 : decode cX8_price 40 = .ok (.istore_n 2, 1) := by decide +kernel
theorem dX8_price_41 : decode cX8_price 41 = .ok (.iinc 3 1, 3) := by decide +kernel
theorem dX8_price_44 : decode cX8_price 44 = .ok (.goto (-20), 3) := by decide +kernel
theorem dX8_price_47 : decode cX8_price 47 = .ok (.iload_n 2, 1) := by decide +kernel
theorem dX8_price_48 : decode cX8_price 48 = .ok (.ireturn, 1) := by decide +kernel
theorem dX8_risky_0 : decode cX8_risky 0 = .ok (.aload_n 0, 1) := by decide +kernel
theorem dX8_risky_1 : decode cX8_risky 1 = .ok (.iconst 0, 1) := by decide +kernel
theorem dX8_risky_2 : decode cX8_risky 2 = .ok (.putfield 3, 3) := by decide +kernel
theorem dX8_risky_5 : decode cX8_risky 5 = .ok (.iconst (-1), 1) := by decide +kernel
theorem dX8_risky_6 : decode cX8_risky 6 = .ok (.istore_n 1, 1) := by decide +kernel
theorem dX8_risky_7 : decode cX8_risky 7 = .ok (.ldc_w 389, 3) := by decide +kernel
theorem dX8_risky_10 : decode cX8_risky 10 = .ok (.istore_n 2, 1) := by decide +kernel
theorem dX8_risky_11 : decode cX8_risky 11 = .ok (.iconst 0, 1) := by decide +kernel
theorem dX8_risky_12 : decode cX8_risky 12 = .ok (.istore_n 3, 1) := by decide +kernel
theorem dX8_risky_13 : decode cX8_risky 13 = .ok (.iload_n 3, 1) := by decide +kernel
theorem dX8_risky_14 : decode cX8_risky 14 = .ok (.aload_n 0, 1) := by decide +kernel
theorem dX8_risky_15 : decode cX8_risky 15 = .ok (.invokevirtual 81, 3) := by decide +kernel
theorem dX8_risky_18 : decode cX8_risky 18 = .ok (.if_icmp .ge 63, 3) := by decide +kernel
theorem dX8_risky_21 : decode cX8_risky 21 = .ok (.aload_n 0, 1) := by decide +kernel
theorem dX8_risky_22 : decode cX8_risky 22 = .ok (.invokevirtual 89, 3) := by decide +kernel
theorem dX8_risky_25 : decode cX8_risky 25 = .ok (.ifCond .le 56, 3) := by decide +kernel
theorem dX8_risky_28 : decode cX8_risky 28 = .ok (.iconst 0, 1) := by decide +kernel
theorem dX8_risky_29 : decode cX8_risky 29 = .ok (.istore 4, 2) := by decide +kernel
theorem dX8_risky_31 : decode cX8_risky 31 = .ok (.iconst 0, 1) := by decide +kernel
theorem dX8_risky_32 : decode cX8_risky 32 = .ok (.istore 5, 2) := by decide +kernel
theorem dX8_risky_34 : decode cX8_risky 34 = .ok (.iload 5, 2) := by decide +kernel
theorem dX8_risky_36 : decode cX8_risky 36 = .ok (.aload_n 0, 1) := by decide +kernel
theorem dX8_risky_37 : decode cX8_risky 37 = .ok (.invokevirtual 89, 3) := by decide +kernel
theorem dX8_risky_40 : decode cX8_risky 40 = .ok (.if_icmp .ge 21, 3) := by decide +kernel
theorem dX8_risky_43 : decode cX8_risky 43 = .ok (.iload 4, 2) := by decide +kernel
theorem dX8_risky_45 : decode cX8_risky 45 = .ok (.aload_n 0, 1) := by decide +kernel
theorem dX8_risky_46 : decode cX8_risky 46 = .ok (.iload 5, 2) := by decide +kernel
theorem dX8_risky_48 : decode cX8_risky 48 = .ok (.iload_n 3, 1) := by decide +kernel
theorem dX8_risky_49 : decode cX8_risky 49 = .ok (.invokevirtual 345, 3) := by decide +kernel
theorem dX8_risky_52 : decode cX8_risky 52 = .ok (.iadd, 1) := by decide +kernel
theorem dX8_risky_53 : decode cX8_risky 53 = .ok (.istore 4, 2) := by decide +kernel
theorem dX8_risky_55 : decode cX8_risky 55 = .ok (.iinc 5 1, 3) := by decide +kernel
theorem dX8_risky_58 : decode cX8_risky 58 = .ok (.goto (-24), 3) := by decide +kernel
theorem dX8_risky_61 : decode cX8_risky 61 = .ok (.iload 4, 2) := by decide +kernel
theorem dX8_risky_63 : decode cX8_risky 63 = .ok (.iload_n 2, 1) := by decide +kernel
theorem dX8_risky_64 : decode cX8_risky 64 = .ok (.if_icmp .lt 6, 3) := by decide +kernel
theorem dX8_risky_67 : decode cX8_risky 67 = .ok (.goto 8, 3) := by decide +kernel
theorem dX8_risky_70 : decode cX8_risky 70 = .ok (.iload_n 3, 1) := by decide +kernel
theorem dX8_risky_71 : decode cX8_risky 71 = .ok (.istore_n 1, 1) := by decide +kernel
theorem dX8_risky_72 : decode cX8_risky 72 = .ok (.iload 4, 2) := by decide +kernel
theorem dX8_risky_74 : decode cX8_risky 74 = .ok (.istore_n 2, 1) := by decide +kernel
theorem dX8_risky_75 : decode cX8_risky 75 = .ok (.iinc 3 1, 3) := by decide +kernel
theorem dX8_risky_78 : decode cX8_risky 78 = .ok (.goto (-65), 3) := by decide +kernel
theorem dX8_risky_81 : decode cX8_risky 81 = .ok (.iload_n 1, 1) := by decide +kernel
theorem dX8_risky_82 : decode cX8_risky 82 = .ok (.ireturn, 1) := by decide +kernel
theorem dX8_keepsAll_0 : decode cX8_keepsAll 0 = .ok (.iconst 0, 1) := by decide +kernel
theorem dX8_keepsAll_1 : decode cX8_keepsAll 1 = .ok (.istore_n 1, 1) := by decide +kernel
theorem dX8_keepsAll_2 : decode cX8_keepsAll 2 = .ok (.iload_n 1, 1) := by decide +kernel
theorem dX8_keepsAll_3 : decode cX8_keepsAll 3 = .ok (.sipush 562, 3) := by decide +kernel
theorem dX8_keepsAll_6 : decode cX8_keepsAll 6 = .ok (.if_icmp .ge 21, 3) := by decide +kernel
theorem dX8_keepsAll_9 : decode cX8_keepsAll 9 = .ok (.aload_n 0, 1) := by decide +kernel
theorem dX8_keepsAll_10 : decode cX8_keepsAll 10 = .ok (.getfield 23, 3) := by decide +kernel
theorem dX8_keepsAll_13 : decode cX8_keepsAll 13 = .ok (.iload_n 1, 1) := by decide +kernel
theorem dX8_keepsAll_14 : decode cX8_keepsAll 14 = .ok (.aload_n 0, 1) := by decide +kernel
theorem dX8_keepsAll_15 : decode cX8_keepsAll 15 = .ok (.getfield 13, 3) := by decide +kernel
theorem dX8_keepsAll_18 : decode cX8_keepsAll 18 = .ok (.iload_n 1, 1) := by decide +kernel
theorem dX8_keepsAll_19 : decode cX8_keepsAll 19 = .ok (.iaload, 1) := by decide +kernel
theorem dX8_keepsAll_20 : decode cX8_keepsAll 20 = .ok (.iastore, 1) := by decide +kernel
theorem dX8_keepsAll_21 : decode cX8_keepsAll 21 = .ok (.iinc 1 1, 3) := by decide +kernel
theorem dX8_keepsAll_24 : decode cX8_keepsAll 24 = .ok (.goto (-22), 3) := by decide +kernel
theorem dX8_keepsAll_27 : decode cX8_keepsAll 27 = .ok (.aload_n 0, 1) := by decide +kernel
theorem dX8_keepsAll_28 : decode cX8_keepsAll 28 = .ok (.getfield 29, 3) := by decide +kernel
theorem dX8_keepsAll_31 : decode cX8_keepsAll 31 = .ok (.aload_n 0, 1) := by decide +kernel
theorem dX8_keepsAll_32 : decode cX8_keepsAll 32 = .ok (.getfield 39, 3) := by decide +kernel
theorem dX8_keepsAll_35 : decode cX8_keepsAll 35 = .ok (.invokestatic 70, 3) := by decide +kernel
theorem dX8_keepsAll_38 : decode cX8_keepsAll 38 = .ok (.return_, 1) := by decide +kernel
theorem dX8_bringsBack_0 : decode cX8_bringsBack 0 = .ok (.iconst 0, 1) := by decide +kernel
theorem dX8_bringsBack_1 : decode cX8_bringsBack 1 = .ok (.istore_n 1, 1) := by decide +kernel
theorem dX8_bringsBack_2 : decode cX8_bringsBack 2 = .ok (.iload_n 1, 1) := by decide +kernel
theorem dX8_bringsBack_3 : decode cX8_bringsBack 3 = .ok (.sipush 562, 3) := by decide +kernel
theorem dX8_bringsBack_6 : decode cX8_bringsBack 6 = .ok (.if_icmp .ge 21, 3) := by decide +kernel
theorem dX8_bringsBack_9 : decode cX8_bringsBack 9 = .ok (.aload_n 0, 1) := by decide +kernel
theorem dX8_bringsBack_10 : decode cX8_bringsBack 10 = .ok (.getfield 13, 3) := by decide +kernel
theorem dX8_bringsBack_13 : decode cX8_bringsBack 13 = .ok (.iload_n 1, 1) := by decide +kernel
theorem dX8_bringsBack_14 : decode cX8_bringsBack 14 = .ok (.aload_n 0, 1) := by decide +kernel
theorem dX8_bringsBack_15 : decode cX8_bringsBack 15 = .ok (.getfield 23, 3) := by decide +kernel
theorem dX8_bringsBack_18 : decode cX8_bringsBack 18 = .ok (.iload_n 1, 1) := by decide +kernel
theorem dX8_bringsBack_19 : decode cX8_bringsBack 19 = .ok (.iaload, 1) := by decide +kernel
theorem dX8_bringsBack_20 : decode cX8_bringsBack 20 = .ok (.iastore, 1) := by decide +kernel
theorem dX8_bringsBack_21 : decode cX8_bringsBack 21 = .ok (.iinc 1 1, 3) := by decide +kernel
theorem dX8_bringsBack_24 : decode cX8_bringsBack 24 = .ok (.goto (-22), 3) := by decide +kernel
theorem dX8_bringsBack_27 : decode cX8_bringsBack 27 = .ok (.aload_n 0, 1) := by decide +kernel
theorem dX8_bringsBack_28 : decode cX8_bringsBack 28 = .ok (.getfield 39, 3) := by decide +kernel
theorem dX8_bringsBack_31 : decode cX8_bringsBack 31 = .ok (.aload_n 0, 1) := by decide +kernel
theorem dX8_bringsBack_32 : decode cX8_bringsBack 32 = .ok (.getfield 29, 3) := by decide +kernel
theorem dX8_bringsBack_35 : decode cX8_bringsBack 35 = .ok (.invokestatic 70, 3) := by decide +kernel
theorem dX8_bringsBack_38 : decode cX8_bringsBack 38 = .ok (.return_, 1) := by decide +kernel
theorem dX8_when_0 : decode cX8_when 0 = .ok (.aload_n 0, 1) := by decide +kernel
theorem dX8_when_1 : decode cX8_when 1 = .ok (.iconst 0, 1) := by decide +kernel
theorem dX8_when_2 : decode cX8_when 2 = .ok (.putfield 3, 3) := by decide +kernel
theorem dX8_when_5 : decode cX8_when 5 = .ok (.aload_n 0, 1) := by decide +kernel
theorem dX8_when_6 : decode cX8_when 6 = .ok (.aload_n 0, 1) := by decide +kernel
theorem dX8_when_7 : decode cX8_when 7 = .ok (.iload_n 1, 1) := by decide +kernel
theorem dX8_when_8 : decode cX8_when 8 = .ok (.invokevirtual 342, 3) := by decide +kernel
theorem dX8_when_11 : decode cX8_when 11 = .ok (.ifCond .ne 11, 3) := by decide +kernel
theorem dX8_when_14 : decode cX8_when 14 = .ok (.aload_n 0, 1) := by decide +kernel
theorem dX8_when_15 : decode cX8_when 15 = .ok (.iload_n 2, 1) := by decide +kernel
theorem dX8_when_16 : decode cX8_when 16 = .ok (.invokevirtual 329, 3) := by decide +kernel
theorem dX8_when_19 : decode cX8_when 19 = .ok (.ifCond .eq 7, 3) := by decide +kernel
theorem dX8_when_22 : decode cX8_when 22 = .ok (.iconst 1, 1) := by decide +kernel
theorem dX8_when_23 : decode cX8_when 23 = .ok (.goto 4, 3) := by decide +kernel
theorem dX8_when_26 : decode cX8_when 26 = .ok (.iconst 0, 1) := by decide +kernel
theorem dX8_when_27 : decode cX8_when 27 = .ok (.iconst 1, 1) := by decide +kernel
theorem dX8_when_28 : decode cX8_when 28 = .ok (.invokevirtual 281, 3) := by decide +kernel
theorem dX8_when_31 : decode cX8_when 31 = .ok (.ifCond .eq 5, 3) := by decide +kernel
theorem dX8_when_34 : decode cX8_when 34 = .ok (.iconst 0, 1) := by decide +kernel
theorem dX8_when_35 : decode cX8_when 35 = .ok (.ireturn, 1) := by decide +kernel
theorem dX8_when_36 : decode cX8_when 36 = .ok (.aload_n 0, 1) := by decide +kernel
theorem dX8_when_37 : decode cX8_when 37 = .ok (.invokevirtual 431, 3) := by decide +kernel
theorem dX8_when_40 : decode cX8_when 40 = .ok (.aload_n 0, 1) := by decide +kernel
theorem dX8_when_41 : decode cX8_when 41 = .ok (.invokevirtual 314, 3) := by decide +kernel
theorem dX8_when_44 : decode cX8_when 44 = .ok (.iconst 0, 1) := by decide +kernel
theorem dX8_when_45 : decode cX8_when 45 = .ok (.istore_n 3, 1) := by decide +kernel
theorem dX8_when_46 : decode cX8_when 46 = .ok (.iconst 0, 1) := by decide +kernel
theorem dX8_when_47 : decode cX8_when 47 = .ok (.istore 4, 2) := by decide +kernel
theorem dX8_when_49 : decode cX8_when 49 = .ok (.iload_n 3, 1) := by decide +kernel
theorem dX8_when_50 : decode cX8_when 50 = .ok (.bipush 20, 2) := by decide +kernel
theorem dX8_when_52 : decode cX8_when 52 = .ok (.if_icmp .ge 28, 3) := by decide +kernel
theorem dX8_when_55 : decode cX8_when 55 = .ok (.iload 4, 2) := by decide +kernel
theorem dX8_when_57 : decode cX8_when 57 = .ok (.ifCond .ne 23, 3) := by decide +kernel
theorem dX8_when_60 : decode cX8_when 60 = .ok (.aload_n 0, 1) := by decide +kernel
theorem dX8_when_61 : decode cX8_when 61 = .ok (.iload_n 1, 1) := by decide +kernel
theorem dX8_when_62 : decode cX8_when 62 = .ok (.iload_n 2, 1) := by decide +kernel
theorem dX8_when_63 : decode cX8_when 63 = .ok (.aload_n 0, 1) := by decide +kernel
theorem dX8_when_64 : decode cX8_when 64 = .ok (.iload_n 1, 1) := by decide +kernel
theorem dX8_when_65 : decode cX8_when 65 = .ok (.iload_n 2, 1) := by decide +kernel
theorem dX8_when_66 : decode cX8_when 66 = .ok (.invokevirtual 390, 3) := by decide +kernel
theorem dX8_when_69 : decode cX8_when 69 = .ok (.invokevirtual 366, 3) := by decide +kernel
theorem dX8_when_72 : decode cX8_when 72 = .ok (.istore 4, 2) := by decide +kernel
theorem dX8_when_74 : decode cX8_when 74 = .ok (.iinc 3 1, 3) := by decide +kernel
theorem dX8_when_77 : decode cX8_when 77 = .ok (.goto (-28), 3) := by decide +kernel
theorem dX8_when_80 : decode cX8_when 80 = .ok (.aload_n 0, 1) := by decide +kernel
theorem dX8_when_81 : decode cX8_when 81 = .ok (.invokevirtual 434, 3) := by decide +kernel
theorem dX8_when_84 : decode cX8_when 84 = .ok (.iload 4, 2) := by decide +kernel
theorem dX8_when_86 : decode cX8_when 86 = .ok (.ifCond .eq 7, 3) := by decide +kernel
theorem dX8_when_89 : decode cX8_when 89 = .ok (.iload_n 3, 1) := by decide +kernel
theorem dX8_when_90 : decode cX8_when 90 = .ok (.goto 4, 3) := by decide +kernel
theorem dX8_when_93 : decode cX8_when 93 = .ok (.iconst (-1), 1) := by decide +kernel
theorem dX8_when_94 : decode cX8_when 94 = .ok (.ireturn, 1) := by decide +kernel
theorem dX8_changedOnes_0 : decode cX8_changedOnes 0 = .ok (.iconst 0, 1) := by decide +kernel
theorem dX8_changedOnes_1 : decode cX8_changedOnes 1 = .ok (.istore_n 1, 1) := by decide +kernel
theorem dX8_changedOnes_2 : decode cX8_changedOnes 2 = .ok (.iconst 0, 1) := by decide +kernel
theorem dX8_changedOnes_3 : decode cX8_changedOnes 3 = .ok (.istore_n 2, 1) := by decide +kernel
theorem dX8_changedOnes_4 : decode cX8_changedOnes 4 = .ok (.iload_n 2, 1) := by decide +kernel
theorem dX8_changedOnes_5 : decode cX8_changedOnes 5 = .ok (.aload_n 0, 1) := by decide +kernel
theorem dX8_changedOnes_6 : decode cX8_changedOnes 6 = .ok (.invokevirtual 81, 3) := by decide +kernel
theorem dX8_changedOnes_9 : decode cX8_changedOnes 9 = .ok (.if_icmp .ge 41, 3) := by decide +kernel
theorem dX8_changedOnes_12 : decode cX8_changedOnes 12 = .ok (.iload_n 1, 1) := by decide +kernel
theorem dX8_changedOnes_13 : decode cX8_changedOnes 13 = .ok (.aload_n 0, 1) := by decide +kernel
theorem dX8_changedOnes_14 : decode cX8_changedOnes 14 = .ok (.iload_n 2, 1) := by decide +kernel
theorem dX8_changedOnes_15 : decode cX8_changedOnes 15 = .ok (.iconst 0, 1) := by decide +kernel
theorem dX8_changedOnes_16 : decode cX8_changedOnes 16 = .ok (.invokevirtual 167, 3) := by decide +kernel
theorem dX8_changedOnes_19 : decode cX8_changedOnes 19 = .ok (.aload_n 0, 1) := by decide +kernel
theorem dX8_changedOnes_20 : decode cX8_changedOnes 20 = .ok (.getfield 23, 3) := by decide +kernel
theorem dX8_changedOnes_23 : decode cX8_changedOnes 23 = .ok (.bipush 10, 2) := by decide +kernel
theorem dX8_changedOnes_25 : decode cX8_changedOnes 25 = .ok (.iconst 4, 1) := by decide +kernel
theorem dX8_changedOnes_26 : decode cX8_changedOnes 26 = .ok (.iload_n 2, 1) := by decide +kernel
theorem dX8_changedOnes_27 : decode cX8_changedOnes 27 = .ok (.imul, 1) := by decide +kernel
theorem dX8_changedOnes_28 : decode cX8_changedOnes 28 = .ok (.iadd, 1) := by decide +kernel
theorem dX8_changedOnes_29 : decode cX8_changedOnes 29 = .ok (.iconst 0, 1) := by decide +kernel
theorem dX8_changedOnes_30 : decode cX8_changedOnes 30 = .ok (.iadd, 1) := by decide +kernel
theorem dX8_changedOnes_31 : decode cX8_changedOnes 31 = .ok (.iaload, 1) := by decide +kernel
theorem dX8_changedOnes_32 : decode cX8_changedOnes 32 = .ok (.if_icmp .eq 9, 3) := by decide +kernel
theorem dX8_changedOnes_35 : decode cX8_changedOnes 35 = .ok (.iconst 1, 1) := by decide +kernel
theorem dX8_changedOnes_36 : decode cX8_changedOnes 36 = .ok (.iload_n 2, 1) := by decide +kernel
theorem dX8_changedOnes_37 : decode cX8_changedOnes 37 = .ok (.ishl, 1) := by decide +kernel
theorem dX8_changedOnes_38 : decode cX8_changedOnes 38 = .ok (.goto 4, 3) := by decide +kernel
theorem dX8_changedOnes_41 : decode cX8_changedOnes 41 = .ok (.iconst 0, 1) := by decide +kernel
theorem dX8_changedOnes_42 : decode cX8_changedOnes 42 = .ok (.ior, 1) := by decide +kernel
theorem dX8_changedOnes_43 : decode cX8_changedOnes 43 = .ok (.istore_n 1, 1) := by decide +kernel
theorem dX8_changedOnes_44 : decode cX8_changedOnes 44 = .ok (.iinc 2 1, 3) := by decide +kernel
theorem dX8_changedOnes_47 : decode cX8_changedOnes 47 = .ok (.goto (-43), 3) := by decide +kernel
theorem dX8_changedOnes_50 : decode cX8_changedOnes 50 = .ok (.iload_n 1, 1) := by decide +kernel
theorem dX8_changedOnes_51 : decode cX8_changedOnes 51 = .ok (.ireturn, 1) := by decide +kernel
theorem dX8_unknown_0 : decode cX8_unknown 0 = .ok (.iconst 0, 1) := by decide +kernel
theorem dX8_unknown_1 : decode cX8_unknown 1 = .ok (.istore_n 1, 1) := by decide +kernel
theorem dX8_unknown_2 : decode cX8_unknown 2 = .ok (.iconst 0, 1) := by decide +kernel
theorem dX8_unknown_3 : decode cX8_unknown 3 = .ok (.istore_n 2, 1) := by decide +kernel
theorem dX8_unknown_4 : decode cX8_unknown 4 = .ok (.iload_n 2, 1) := by decide +kernel
theorem dX8_unknown_5 : decode cX8_unknown 5 = .ok (.aload_n 0, 1) := by decide +kernel
theorem dX8_unknown_6 : decode cX8_unknown 6 = .ok (.invokevirtual 89, 3) := by decide +kernel
theorem dX8_unknown_9 : decode cX8_unknown 9 = .ok (.if_icmp .ge 45, 3) := by decide +kernel
theorem dX8_unknown_12 : decode cX8_unknown 12 = .ok (.iconst 0, 1) := by decide +kernel
theorem dX8_unknown_13 : decode cX8_unknown 13 = .ok (.istore_n 3, 1) := by decide +kernel
theorem dX8_unknown_14 : decode cX8_unknown 14 = .ok (.iload_n 3, 1) := by decide +kernel
theorem dX8_unknown_15 : decode cX8_unknown 15 = .ok (.aload_n 0, 1) := by decide +kernel
theorem dX8_unknown_16 : decode cX8_unknown 16 = .ok (.invokevirtual 81, 3) := by decide +kernel
theorem dX8_unknown_19 : decode cX8_unknown 19 = .ok (.if_icmp .ge 29, 3) := by decide +kernel
theorem dX8_unknown_22 : decode cX8_unknown 22 = .ok (.iload_n 1, 1) := by decide +kernel
theorem dX8_unknown_23 : decode cX8_unknown 23 = .ok (.aload_n 0, 1) := by decide +kernel
theorem dX8_unknown_24 : decode cX8_unknown 24 = .ok (.iload_n 2, 1) := by decide +kernel
theorem dX8_unknown_25 : decode cX8_unknown 25 = .ok (.iload_n 3, 1) := by decide +kernel
theorem dX8_unknown_26 : decode cX8_unknown 26 = .ok (.invokevirtual 345, 3) := by decide +kernel
theorem dX8_unknown_29 : decode cX8_unknown 29 = .ok (.sipush 216, 3) := by decide +kernel
theorem dX8_unknown_32 : decode cX8_unknown 32 = .ok (.if_icmp .ne 7, 3) := by decide +kernel
theorem dX8_unknown_35 : decode cX8_unknown 35 = .ok (.iconst 1, 1) := by decide +kernel
theorem dX8_unknown_36 : decode cX8_unknown 36 = .ok (.goto 4, 3) := by decide +kernel
theorem dX8_unknown_39 : decode cX8_unknown 39 = .ok (.iconst 0, 1) := by decide +kernel
theorem dX8_unknown_40 : decode cX8_unknown 40 = .ok (.iadd, 1) := by decide +kernel
theorem dX8_unknown_41 : decode cX8_unknown 41 = .ok (.istore_n 1, 1) := by decide +kernel
theorem dX8_unknown_42 : decode cX8_unknown 42 = .ok (.iinc 3 1, 3) := by decide +kernel
theorem dX8_unknown_45 : decode cX8_unknown 45 = .ok (.goto (-31), 3) := by decide +kernel
theorem dX8_unknown_48 : decode cX8_unknown 48 = .ok (.iinc 2 1, 3) := by decide +kernel
theorem dX8_unknown_51 : decode cX8_unknown 51 = .ok (.goto (-47), 3) := by decide +kernel
theorem dX8_unknown_54 : decode cX8_unknown 54 = .ok (.iload_n 1, 1) := by decide +kernel
theorem dX8_unknown_55 : decode cX8_unknown 55 = .ok (.ireturn, 1) := by decide +kernel
theorem dX8_trial_0 : decode cX8_trial 0 = .ok (.aload_n 0, 1) := by decide +kernel
theorem dX8_trial_1 : decode cX8_trial 1 = .ok (.iconst 0, 1) := by decide +kernel
theorem dX8_trial_2 : decode cX8_trial 2 = .ok (.putfield 3, 3) := by decide +kernel
theorem dX8_trial_5 : decode cX8_trial 5 = .ok (.aload_n 0, 1) := by decide +kernel
theorem dX8_trial_6 : decode cX8_trial 6 = .ok (.iload_n 1, 1) := by decide +kernel
theorem dX8_trial_7 : decode cX8_trial 7 = .ok (.iconst 0, 1) := by decide +kernel
theorem dX8_trial_8 : decode cX8_trial 8 = .ok (.bipush 40, 2) := by decide +kernel
theorem dX8_trial_10 : decode cX8_trial 10 = .ok (.invokestatic 85, 3) := by decide +kernel
theorem dX8_trial_13 : decode cX8_trial 13 = .ok (.ifCond .ne 7, 3) := by decide +kernel
theorem dX8_trial_16 : decode cX8_trial 16 = .ok (.iconst 1, 1) := by decide +kernel
theorem dX8_trial_17 : decode cX8_trial 17 = .ok (.goto 4, 3) := by decide +kernel
theorem dX8_trial_20 : decode cX8_trial 20 = .ok (.iconst 0, 1) := by decide +kernel
theorem dX8_trial_21 : decode cX8_trial 21 = .ok (.iconst 1, 1) := by decide +kernel
theorem dX8_trial_22 : decode cX8_trial 22 = .ok (.invokevirtual 281, 3) := by decide +kernel
theorem dX8_trial_25 : decode cX8_trial 25 = .ok (.ifCond .eq 5, 3) := by decide +kernel
theorem dX8_trial_28 : decode cX8_trial 28 = .ok (.iconst 0, 1) := by decide +kernel
theorem dX8_trial_29 : decode cX8_trial 29 = .ok (.ireturn, 1) := by decide +kernel
theorem dX8_trial_30 : decode cX8_trial 30 = .ok (.aload_n 0, 1) := by decide +kernel
theorem dX8_trial_31 : decode cX8_trial 31 = .ok (.invokevirtual 431, 3) := by decide +kernel
theorem dX8_trial_34 : decode cX8_trial 34 = .ok (.iconst 0, 1) := by decide +kernel
theorem dX8_trial_35 : decode cX8_trial 35 = .ok (.istore_n 3, 1) := by decide +kernel
theorem dX8_trial_36 : decode cX8_trial 36 = .ok (.iload_n 3, 1) := by decide +kernel
theorem dX8_trial_37 : decode cX8_trial 37 = .ok (.iload_n 1, 1) := by decide +kernel
theorem dX8_trial_38 : decode cX8_trial 38 = .ok (.if_icmp .ge 13, 3) := by decide +kernel
theorem dX8_trial_41 : decode cX8_trial 41 = .ok (.aload_n 0, 1) := by decide +kernel
theorem dX8_trial_42 : decode cX8_trial 42 = .ok (.invokevirtual 382, 3) := by decide +kernel
theorem dX8_trial_45 : decode cX8_trial 45 = .ok (.iinc 3 1, 3) := by decide +kernel
theorem dX8_trial_48 : decode cX8_trial 48 = .ok (.goto (-12), 3) := by decide +kernel
theorem dX8_trial_51 : decode cX8_trial 51 = .ok (.iload_n 2, 1) := by decide +kernel
theorem dX8_trial_52 : decode cX8_trial 52 = .ok (.ifCond .eq 10, 3) := by decide +kernel
theorem dX8_trial_55 : decode cX8_trial 55 = .ok (.aload_n 0, 1) := by decide +kernel
theorem dX8_trial_56 : decode cX8_trial 56 = .ok (.invokevirtual 437, 3) := by decide +kernel
theorem dX8_trial_59 : decode cX8_trial 59 = .ok (.goto 7, 3) := by decide +kernel
theorem dX8_trial_62 : decode cX8_trial 62 = .ok (.aload_n 0, 1) := by decide +kernel
theorem dX8_trial_63 : decode cX8_trial 63 = .ok (.invokevirtual 440, 3) := by decide +kernel
theorem dX8_trial_66 : decode cX8_trial 66 = .ok (.istore_n 3, 1) := by decide +kernel
theorem dX8_trial_67 : decode cX8_trial 67 = .ok (.aload_n 0, 1) := by decide +kernel
theorem dX8_trial_68 : decode cX8_trial 68 = .ok (.invokevirtual 434, 3) := by decide +kernel
theorem dX8_trial_71 : decode cX8_trial 71 = .ok (.iload_n 3, 1) := by decide +kernel
theorem dX8_trial_72 : decode cX8_trial 72 = .ok (.ireturn, 1) := by decide +kernel
theorem dX8_span_0 : decode cX8_span 0 = .ok (.aload_n 0, 1) := by decide +kernel
theorem dX8_span_1 : decode cX8_span 1 = .ok (.iconst 0, 1) := by decide +kernel
theorem dX8_span_2 : decode cX8_span 2 = .ok (.putfield 3, 3) := by decide +kernel
theorem dX8_span_5 : decode cX8_span 5 = .ok (.aload_n 0, 1) := by decide +kernel
theorem dX8_span_6 : decode cX8_span 6 = .ok (.iload_n 1, 1) := by decide +kernel
theorem dX8_span_7 : decode cX8_span 7 = .ok (.iconst 0, 1) := by decide +kernel
theorem dX8_span_8 : decode cX8_span 8 = .ok (.bipush 40, 2) := by decide +kernel
theorem dX8_span_10 : decode cX8_span 10 = .ok (.invokestatic 85, 3) := by decide +kernel
theorem dX8_span_13 : decode cX8_span 13 = .ok (.ifCond .ne 7, 3) := by decide +kernel
theorem dX8_span_16 : decode cX8_span 16 = .ok (.iconst 1, 1) := by decide +kernel
theorem dX8_span_17 : decode cX8_span 17 = .ok (.goto 4, 3) := by decide +kernel
theorem dX8_span_20 : decode cX8_span 20 = .ok (.iconst 0, 1) := by decide +kernel
theorem dX8_span_21 : decode cX8_span 21 = .ok (.iconst 1, 1) := by decide +kernel
theorem dX8_span_22 : decode cX8_span 22 = .ok (.invokevirtual 281, 3) := by decide +kernel
theorem dX8_span_25 : decode cX8_span 25 = .ok (.ifCond .eq 5, 3) := by decide +kernel
theorem dX8_span_28 : decode cX8_span 28 = .ok (.iconst 0, 1) := by decide +kernel
theorem dX8_span_29 : decode cX8_span 29 = .ok (.ireturn, 1) := by decide +kernel
theorem dX8_span_30 : decode cX8_span 30 = .ok (.aload_n 0, 1) := by decide +kernel
theorem dX8_span_31 : decode cX8_span 31 = .ok (.invokevirtual 431, 3) := by decide +kernel
theorem dX8_span_34 : decode cX8_span 34 = .ok (.iconst (-1), 1) := by decide +kernel
theorem dX8_span_35 : decode cX8_span 35 = .ok (.istore_n 3, 1) := by decide +kernel
theorem dX8_span_36 : decode cX8_span 36 = .ok (.iconst 1, 1) := by decide +kernel
theorem dX8_span_37 : decode cX8_span 37 = .ok (.istore 4, 2) := by decide +kernel
theorem dX8_span_39 : decode cX8_span 39 = .ok (.iload 4, 2) := by decide +kernel
theorem dX8_span_41 : decode cX8_span 41 = .ok (.bipush 6, 2) := by decide +kernel
theorem dX8_span_43 : decode cX8_span 43 = .ok (.if_icmp .gt 79, 3) := by decide +kernel
theorem dX8_span_46 : decode cX8_span 46 = .ok (.aload_n 0, 1) := by decide +kernel
theorem dX8_span_47 : decode cX8_span 47 = .ok (.getfield 13, 3) := by decide +kernel
theorem dX8_span_50 : decode cX8_span 50 = .ok (.bipush 9, 2) := by decide +kernel
theorem dX8_span_52 : decode cX8_span 52 = .ok (.iload 4, 2) := by decide +kernel
theorem dX8_span_54 : decode cX8_span 54 = .ok (.iastore, 1) := by decide +kernel
theorem dX8_span_55 : decode cX8_span 55 = .ok (.iconst 0, 1) := by decide +kernel
theorem dX8_span_56 : decode cX8_span 56 = .ok (.istore 5, 2) := by decide +kernel
theorem dX8_span_58 : decode cX8_span 58 = .ok (.iload 5, 2) := by decide +kernel
theorem dX8_span_60 : decode cX8_span 60 = .ok (.iload_n 1, 1) := by decide +kernel
theorem dX8_span_61 : decode cX8_span 61 = .ok (.if_icmp .ge 13, 3) := by decide +kernel
theorem dX8_span_64 : decode cX8_span 64 = .ok (.aload_n 0, 1) := by decide +kernel
theorem dX8_span_65 : decode cX8_span 65 = .ok (.invokevirtual 382, 3) := by decide +kernel
theorem dX8_span_68 : decode cX8_span 68 = .ok (.iinc 5 1, 3) := by decide +kernel
theorem dX8_span_71 : decode cX8_span 71 = .ok (.goto (-13), 3) := by decide +kernel
theorem dX8_span_74 : decode cX8_span 74 = .ok (.aload_n 0, 1) := by decide +kernel
theorem dX8_span_75 : decode cX8_span 75 = .ok (.invokevirtual 440, 3) := by decide +kernel
theorem dX8_span_78 : decode cX8_span 78 = .ok (.invokestatic 338, 3) := by decide +kernel
theorem dX8_span_81 : decode cX8_span 81 = .ok (.istore 5, 2) := by decide +kernel
theorem dX8_span_83 : decode cX8_span 83 = .ok (.aload_n 0, 1) := by decide +kernel
theorem dX8_span_84 : decode cX8_span 84 = .ok (.invokevirtual 434, 3) := by decide +kernel
theorem dX8_span_87 : decode cX8_span 87 = .ok (.iload_n 3, 1) := by decide +kernel
theorem dX8_span_88 : decode cX8_span 88 = .ok (.ifCond .ge 8, 3) := by decide +kernel
theorem dX8_span_91 : decode cX8_span 91 = .ok (.iload 5, 2) := by decide +kernel
theorem dX8_span_93 : decode cX8_span 93 = .ok (.goto 22, 3) := by decide +kernel
theorem dX8_span_96 : decode cX8_span 96 = .ok (.iload_n 2, 1) := by decide +kernel
theorem dX8_span_97 : decode cX8_span 97 = .ok (.ifCond .eq 12, 3) := by decide +kernel
theorem dX8_span_100 : decode cX8_span 100 = .ok (.iload_n 3, 1) := by decide +kernel
theorem dX8_span_101 : decode cX8_span 101 = .ok (.iload 5, 2) := by decide +kernel
theorem dX8_span_103 : decode cX8_span 103 = .ok (.invokestatic 326, 3) := by decide +kernel
theorem dX8_span_106 : decode cX8_span 106 = .ok (.goto 9, 3) := by decide +kernel
theorem dX8_span_109 : decode cX8_span 109 = .ok (.iload_n 3, 1) := by decide +kernel
theorem dX8_span_110 : decode cX8_span 110 = .ok (.iload 5, 2) := by decide +kernel
theorem dX8_span_112 : decode cX8_span 112 = .ok (.invokestatic 290, 3) := by decide +kernel
theorem dX8_span_115 : decode cX8_span 115 = .ok (.istore_n 3, 1) := by decide +kernel
theorem dX8_span_116 : decode cX8_span 116 = .ok (.iinc 4 1, 3) := by decide +kernel
theorem dX8_span_119 : decode cX8_span 119 = .ok (.goto (-80), 3) := by decide +kernel
theorem dX8_span_122 : decode cX8_span 122 = .ok (.iload_n 3, 1) := by decide +kernel
theorem dX8_span_123 : decode cX8_span 123 = .ok (.ireturn, 1) := by decide +kernel
theorem dX8_log_0 : decode cX8_log 0 = .ok (.aload_n 0, 1) := by decide +kernel
theorem dX8_log_1 : decode cX8_log 1 = .ok (.iconst 0, 1) := by decide +kernel
theorem dX8_log_2 : decode cX8_log 2 = .ok (.putfield 3, 3) := by decide +kernel
theorem dX8_log_5 : decode cX8_log 5 = .ok (.aload_n 0, 1) := by decide +kernel
theorem dX8_log_6 : decode cX8_log 6 = .ok (.iload_n 2, 1) := by decide +kernel
theorem dX8_log_7 : decode cX8_log 7 = .ok (.iconst 0, 1) := by decide +kernel
theorem dX8_log_8 : decode cX8_log 8 = .ok (.iconst 5, 1) := by decide +kernel
theorem dX8_log_9 : decode cX8_log 9 = .ok (.invokestatic 85, 3) := by decide +kernel
theorem dX8_log_12 : decode cX8_log 12 = .ok (.ifCond .ne 7, 3) := by decide +kernel
theorem dX8_log_15 : decode cX8_log 15 = .ok (.iconst 1, 1) := by decide +kernel
theorem dX8_log_16 : decode cX8_log 16 = .ok (.goto 4, 3) := by decide +kernel
theorem dX8_log_19 : decode cX8_log 19 = .ok (.iconst 0, 1) := by decide +kernel
theorem dX8_log_20 : decode cX8_log 20 = .ok (.iconst 1, 1) := by decide +kernel
theorem dX8_log_21 : decode cX8_log 21 = .ok (.invokevirtual 281, 3) := by decide +kernel
theorem dX8_log_24 : decode cX8_log 24 = .ok (.ifCond .eq 5, 3) := by decide +kernel
theorem dX8_log_27 : decode cX8_log 27 = .ok (.iconst 0, 1) := by decide +kernel
theorem dX8_log_28 : decode cX8_log 28 = .ok (.ireturn, 1) := by decide +kernel
theorem dX8_log_29 : decode cX8_log 29 = .ok (.iload_n 1, 1) := by decide +kernel
theorem dX8_log_30 : decode cX8_log 30 = .ok (.iconst 0, 1) := by decide +kernel
theorem dX8_log_31 : decode cX8_log 31 = .ok (.aload_n 0, 1) := by decide +kernel
theorem dX8_log_32 : decode cX8_log 32 = .ok (.getfield 13, 3) := by decide +kernel
theorem dX8_log_35 : decode cX8_log 35 = .ok (.bipush 8, 2) := by decide +kernel
theorem dX8_log_37 : decode cX8_log 37 = .ok (.iaload, 1) := by decide +kernel
theorem dX8_log_38 : decode cX8_log 38 = .ok (.iconst 1, 1) := by decide +kernel
theorem dX8_log_39 : decode cX8_log 39 = .ok (.isub, 1) := by decide +kernel
theorem dX8_log_40 : decode cX8_log 40 = .ok (.invokestatic 85, 3) := by decide +kernel
theorem dX8_log_43 : decode cX8_log 43 = .ok (.ifCond .eq 12, 3) := by decide +kernel
theorem dX8_log_46 : decode cX8_log 46 = .ok (.aload_n 0, 1) := by decide +kernel
theorem dX8_log_47 : decode cX8_log 47 = .ok (.iload_n 1, 1) := by decide +kernel
theorem dX8_log_48 : decode cX8_log 48 = .ok (.iload_n 2, 1) := by decide +kernel
theorem dX8_log_49 : decode cX8_log 49 = .ok (.invokevirtual 418, 3) := by decide +kernel
theorem dX8_log_52 : decode cX8_log 52 = .ok (.goto 6, 3) := by decide +kernel
theorem dX8_log_55 : decode cX8_log 55 = .ok (.sipush (-999), 3) := by decide +kernel
theorem dX8_log_58 : decode cX8_log 58 = .ok (.ireturn, 1) := by decide +kernel
theorem dX8_seed_0 : decode cX8_seed 0 = .ok (.aload_n 0, 1) := by decide +kernel
theorem dX8_seed_1 : decode cX8_seed 1 = .ok (.iconst 0, 1) := by decide +kernel
theorem dX8_seed_2 : decode cX8_seed 2 = .ok (.putfield 3, 3) := by decide +kernel
theorem dX8_seed_5 : decode cX8_seed 5 = .ok (.aload_n 0, 1) := by decide +kernel
theorem dX8_seed_6 : decode cX8_seed 6 = .ok (.getfield 13, 3) := by decide +kernel
theorem dX8_seed_9 : decode cX8_seed 9 = .ok (.bipush 9, 2) := by decide +kernel
theorem dX8_seed_11 : decode cX8_seed 11 = .ok (.iaload, 1) := by decide +kernel
theorem dX8_seed_12 : decode cX8_seed 12 = .ok (.istore_n 2, 1) := by decide +kernel
theorem dX8_seed_13 : decode cX8_seed 13 = .ok (.aload_n 0, 1) := by decide +kernel
theorem dX8_seed_14 : decode cX8_seed 14 = .ok (.getfield 13, 3) := by decide +kernel
theorem dX8_seed_17 : decode cX8_seed 17 = .ok (.bipush 9, 2) := by decide +kernel
theorem dX8_seed_19 : decode cX8_seed 19 = .ok (.iload_n 1, 1) := by decide +kernel
theorem dX8_seed_20 : decode cX8_seed 20 = .ok (.iastore, 1) := by decide +kernel
theorem dX8_seed_21 : decode cX8_seed 21 = .ok (.iload_n 2, 1) := by decide +kernel
theorem dX8_seed_22 : decode cX8_seed 22 = .ok (.ireturn, 1) := by decide +kernel
theorem dX8_openedOnes_0 : decode cX8_openedOnes 0 = .ok (.iconst 0, 1) := by decide +kernel
theorem dX8_openedOnes_1 : decode cX8_openedOnes 1 = .ok (.istore_n 1, 1) := by decide +kernel
theorem dX8_openedOnes_2 : decode cX8_openedOnes 2 = .ok (.iconst 0, 1) := by decide +kernel
theorem dX8_openedOnes_3 : decode cX8_openedOnes 3 = .ok (.istore_n 2, 1) := by decide +kernel
theorem dX8_openedOnes_4 : decode cX8_openedOnes 4 = .ok (.iload_n 2, 1) := by decide +kernel
theorem dX8_openedOnes_5 : decode cX8_openedOnes 5 = .ok (.aload_n 0, 1) := by decide +kernel
theorem dX8_openedOnes_6 : decode cX8_openedOnes 6 = .ok (.invokevirtual 81, 3) := by decide +kernel
theorem dX8_openedOnes_9 : decode cX8_openedOnes 9 = .ok (.if_icmp .ge 29, 3) := by decide +kernel
theorem dX8_openedOnes_12 : decode cX8_openedOnes 12 = .ok (.iload_n 1, 1) := by decide +kernel
theorem dX8_openedOnes_13 : decode cX8_openedOnes 13 = .ok (.aload_n 0, 1) := by decide +kernel
theorem dX8_openedOnes_14 : decode cX8_openedOnes 14 = .ok (.iload_n 2, 1) := by decide +kernel
theorem dX8_openedOnes_15 : decode cX8_openedOnes 15 = .ok (.iconst 3, 1) := by decide +kernel
theorem dX8_openedOnes_16 : decode cX8_openedOnes 16 = .ok (.invokevirtual 167, 3) := by decide +kernel
theorem dX8_openedOnes_19 : decode cX8_openedOnes 19 = .ok (.iconst 1, 1) := by decide +kernel
theorem dX8_openedOnes_20 : decode cX8_openedOnes 20 = .ok (.if_icmp .ne 9, 3) := by decide +kernel
theorem dX8_openedOnes_23 : decode cX8_openedOnes 23 = .ok (.iconst 1, 1) := by decide +kernel
theorem dX8_openedOnes_24 : decode cX8_openedOnes 24 = .ok (.iload_n 2, 1) := by decide +kernel
theorem dX8_openedOnes_25 : decode cX8_openedOnes 25 = .ok (.ishl, 1) := by decide +kernel
theorem dX8_openedOnes_26 : decode cX8_openedOnes 26 = .ok (.goto 4, 3) := by decide +kernel
theorem dX8_openedOnes_29 : decode cX8_openedOnes 29 = .ok (.iconst 0, 1) := by decide +kernel
theorem dX8_openedOnes_30 : decode cX8_openedOnes 30 = .ok (.ior, 1) := by decide +kernel
theorem dX8_openedOnes_31 : decode cX8_openedOnes 31 = .ok (.istore_n 1, 1) := by decide +kernel
theorem dX8_openedOnes_32 : decode cX8_openedOnes 32 = .ok (.iinc 2 1, 3) := by decide +kernel
theorem dX8_openedOnes_35 : decode cX8_openedOnes 35 = .ok (.goto (-31), 3) := by decide +kernel
theorem dX8_openedOnes_38 : decode cX8_openedOnes 38 = .ok (.iload_n 1, 1) := by decide +kernel
theorem dX8_openedOnes_39 : decode cX8_openedOnes 39 = .ok (.ireturn, 1) := by decide +kernel
theorem dX8_guardedOnes_0 : decode cX8_guardedOnes 0 = .ok (.iconst 0, 1) := by decide +kernel
theorem dX8_guardedOnes_1 : decode cX8_guardedOnes 1 = .ok (.istore_n 1, 1) := by decide +kernel
theorem dX8_guardedOnes_2 : decode cX8_guardedOnes 2 = .ok (.iconst 0, 1) := by decide +kernel
theorem dX8_guardedOnes_3 : decode cX8_guardedOnes 3 = .ok (.istore_n 2, 1) := by decide +kernel
theorem dX8_guardedOnes_4 : decode cX8_guardedOnes 4 = .ok (.iload_n 2, 1) := by decide +kernel
theorem dX8_guardedOnes_5 : decode cX8_guardedOnes 5 = .ok (.aload_n 0, 1) := by decide +kernel
theorem dX8_guardedOnes_6 : decode cX8_guardedOnes 6 = .ok (.invokevirtual 81, 3) := by decide +kernel
theorem dX8_guardedOnes_9 : decode cX8_guardedOnes 9 = .ok (.if_icmp .ge 33, 3) := by decide +kernel
theorem dX8_guardedOnes_12 : decode cX8_guardedOnes 12 = .ok (.iload_n 1, 1) := by decide +kernel
theorem dX8_guardedOnes_13 : decode cX8_guardedOnes 13 = .ok (.aload_n 0, 1) := by decide +kernel
theorem dX8_guardedOnes_14 : decode cX8_guardedOnes 14 = .ok (.iload_n 2, 1) := by decide +kernel
theorem dX8_guardedOnes_15 : decode cX8_guardedOnes 15 = .ok (.aload_n 0, 1) := by decide +kernel
theorem dX8_guardedOnes_16 : decode cX8_guardedOnes 16 = .ok (.getfield 13, 3) := by decide +kernel
theorem dX8_guardedOnes_19 : decode cX8_guardedOnes 19 = .ok (.iconst 5, 1) := by decide +kernel
theorem dX8_guardedOnes_20 : decode cX8_guardedOnes 20 = .ok (.iaload, 1) := by decide +kernel
theorem dX8_guardedOnes_21 : decode cX8_guardedOnes 21 = .ok (.invokevirtual 323, 3) := by decide +kernel
theorem dX8_guardedOnes_24 : decode cX8_guardedOnes 24 = .ok (.ifCond .eq 9, 3) := by decide +kernel
theorem dX8_guardedOnes_27 : decode cX8_guardedOnes 27 = .ok (.iconst 1, 1) := by decide +kernel
theorem dX8_guardedOnes_28 : decode cX8_guardedOnes 28 = .ok (.iload_n 2, 1) := by decide +kernel
theorem dX8_guardedOnes_29 : decode cX8_guardedOnes 29 = .ok (.ishl, 1) := by decide +kernel
theorem dX8_guardedOnes_30 : decode cX8_guardedOnes 30 = .ok (.goto 4, 3) := by decide +kernel
theorem dX8_guardedOnes_33 : decode cX8_guardedOnes 33 = .ok (.iconst 0, 1) := by decide +kernel
theorem dX8_guardedOnes_34 : decode cX8_guardedOnes 34 = .ok (.ior, 1) := by decide +kernel
theorem dX8_guardedOnes_35 : decode cX8_guardedOnes 35 = .ok (.istore_n 1, 1) := by decide +kernel
theorem dX8_guardedOnes_36 : decode cX8_guardedOnes 36 = .ok (.iinc 2 1, 3) := by decide +kernel
theorem dX8_guardedOnes_39 : decode cX8_guardedOnes 39 = .ok (.goto (-35), 3) := by decide +kernel
theorem dX8_guardedOnes_42 : decode cX8_guardedOnes 42 = .ok (.iload_n 1, 1) := by decide +kernel
theorem dX8_guardedOnes_43 : decode cX8_guardedOnes 43 = .ok (.ireturn, 1) := by decide +kernel
theorem dX8_allWorth_0 : decode cX8_allWorth 0 = .ok (.iconst 0, 1) := by decide +kernel
theorem dX8_allWorth_1 : decode cX8_allWorth 1 = .ok (.istore_n 1, 1) := by decide +kernel
theorem dX8_allWorth_2 : decode cX8_allWorth 2 = .ok (.iconst 0, 1) := by decide +kernel
theorem dX8_allWorth_3 : decode cX8_allWorth 3 = .ok (.istore_n 2, 1) := by decide +kernel
theorem dX8_allWorth_4 : decode cX8_allWorth 4 = .ok (.iload_n 2, 1) := by decide +kernel
theorem dX8_allWorth_5 : decode cX8_allWorth 5 = .ok (.aload_n 0, 1) := by decide +kernel
theorem dX8_allWorth_6 : decode cX8_allWorth 6 = .ok (.invokevirtual 81, 3) := by decide +kernel
theorem dX8_allWorth_9 : decode cX8_allWorth 9 = .ok (.if_icmp .ge 18, 3) := by decide +kernel
theorem dX8_allWorth_12 : decode cX8_allWorth 12 = .ok (.iload_n 1, 1) := by decide +kernel
theorem dX8_allWorth_13 : decode cX8_allWorth 13 = .ok (.aload_n 0, 1) := by decide +kernel
theorem dX8_allWorth_14 : decode cX8_allWorth 14 = .ok (.iload_n 2, 1) := by decide +kernel
theorem dX8_allWorth_15 : decode cX8_allWorth 15 = .ok (.iconst 2, 1) := by decide +kernel
theorem dX8_allWorth_16 : decode cX8_allWorth 16 = .ok (.invokevirtual 167, 3) := by decide +kernel
theorem dX8_allWorth_19 : decode cX8_allWorth 19 = .ok (.iadd, 1) := by decide +kernel
theorem dX8_allWorth_20 : decode cX8_allWorth 20 = .ok (.istore_n 1, 1) := by decide +kernel
theorem dX8_allWorth_21 : decode cX8_allWorth 21 = .ok (.iinc 2 1, 3) := by decide +kernel
theorem dX8_allWorth_24 : decode cX8_allWorth 24 = .ok (.goto (-20), 3) := by decide +kernel
theorem dX8_allWorth_27 : decode cX8_allWorth 27 = .ok (.iload_n 1, 1) := by decide +kernel
theorem dX8_allWorth_28 : decode cX8_allWorth 28 = .ok (.ireturn, 1) := by decide +kernel
theorem dX8_count_0 : decode cX8_count 0 = .ok (.aload_n 0, 1) := by decide +kernel
theorem dX8_count_1 : decode cX8_count 1 = .ok (.iconst 0, 1) := by decide +kernel
theorem dX8_count_2 : decode cX8_count 2 = .ok (.putfield 3, 3) := by decide +kernel
theorem dX8_count_5 : decode cX8_count 5 = .ok (.iload_n 1, 1) := by decide +kernel
theorem dX8_count_6 : decode cX8_count 6 = .ok (.tableswitch 109 4 12 #[50, 109, 109, 73, 78, 83, 91, 99, 104], 50) := by decide +kernel
theorem dX8_count_56 : decode cX8_count 56 = .ok (.aload_n 0, 1) := by decide +kernel
theorem dX8_count_57 : decode cX8_count 57 = .ok (.getfield 13, 3) := by decide +kernel
theorem dX8_count_60 : decode cX8_count 60 = .ok (.iconst 4, 1) := by decide +kernel
theorem dX8_count_61 : decode cX8_count 61 = .ok (.iaload, 1) := by decide +kernel
theorem dX8_count_62 : decode cX8_count 62 = .ok (.iconst 1, 1) := by decide +kernel
theorem dX8_count_63 : decode cX8_count 63 = .ok (.if_icmp .ne 14, 3) := by decide +kernel
theorem dX8_count_66 : decode cX8_count 66 = .ok (.aload_n 0, 1) := by decide +kernel
theorem dX8_count_67 : decode cX8_count 67 = .ok (.getfield 13, 3) := by decide +kernel
theorem dX8_count_70 : decode cX8_count 70 = .ok (.sipush 562, 3) := by decide +kernel
theorem dX8_count_73 : decode cX8_count 73 = .ok (.iaload, 1) := by decide +kernel
theorem dX8_count_74 : decode cX8_count 74 = .ok (.goto 4, 3) := by decide +kernel
theorem dX8_count_77 : decode cX8_count 77 = .ok (.iconst (-1), 1) := by decide +kernel
theorem dX8_count_78 : decode cX8_count 78 = .ok (.ireturn, 1) := by decide +kernel
theorem dX8_count_79 : decode cX8_count 79 = .ok (.aload_n 0, 1) := by decide +kernel
theorem dX8_count_80 : decode cX8_count 80 = .ok (.invokevirtual 443, 3) := by decide +kernel
theorem dX8_count_83 : decode cX8_count 83 = .ok (.ireturn, 1) := by decide +kernel
theorem dX8_count_84 : decode cX8_count 84 = .ok (.aload_n 0, 1) := by decide +kernel
theorem dX8_count_85 : decode cX8_count 85 = .ok (.invokevirtual 446, 3) := by decide +kernel
theorem dX8_count_88 : decode cX8_count 88 = .ok (.ireturn, 1) := by decide +kernel
theorem dX8_count_89 : decode cX8_count 89 = .ok (.aload_n 0, 1) := by decide +kernel
theorem dX8_count_90 : decode cX8_count 90 = .ok (.getfield 13, 3) := by decide +kernel
theorem dX8_count_93 : decode cX8_count 93 = .ok (.bipush 8, 2) := by decide +kernel
theorem dX8_count_95 : decode cX8_count 95 = .ok (.iaload, 1) := by decide +kernel
theorem dX8_count_96 : decode cX8_count 96 = .ok (.ireturn, 1) := by decide +kernel
theorem dX8_count_97 : decode cX8_count 97 = .ok (.aload_n 0, 1) := by decide +kernel
theorem dX8_count_98 : decode cX8_count 98 = .ok (.getfield 13, 3) := by decide +kernel
theorem dX8_count_101 : decode cX8_count 101 = .ok (.bipush 7, 2) := by decide +kernel
theorem dX8_count_103 : decode cX8_count 103 = .ok (.iaload, 1) := by decide +kernel
theorem dX8_count_104 : decode cX8_count 104 = .ok (.ireturn, 1) := by decide +kernel
theorem dX8_count_105 : decode cX8_count 105 = .ok (.aload_n 0, 1) := by decide +kernel
theorem dX8_count_106 : decode cX8_count 106 = .ok (.invokevirtual 449, 3) := by decide +kernel
theorem dX8_count_109 : decode cX8_count 109 = .ok (.ireturn, 1) := by decide +kernel
theorem dX8_count_110 : decode cX8_count 110 = .ok (.aload_n 0, 1) := by decide +kernel
theorem dX8_count_111 : decode cX8_count 111 = .ok (.getfield 78, 3) := by decide +kernel
theorem dX8_count_114 : decode cX8_count 114 = .ok (.ireturn, 1) := by decide +kernel
theorem dX8_count_115 : decode cX8_count 115 = .ok (.iload_n 1, 1) := by decide +kernel
theorem dX8_count_116 : decode cX8_count 116 = .ok (.iconst 0, 1) := by decide +kernel
theorem dX8_count_117 : decode cX8_count 117 = .ok (.bipush 6, 2) := by decide +kernel
theorem dX8_count_119 : decode cX8_count 119 = .ok (.invokestatic 85, 3) := by decide +kernel
theorem dX8_count_122 : decode cX8_count 122 = .ok (.ifCond .eq 12, 3) := by decide +kernel
theorem dX8_count_125 : decode cX8_count 125 = .ok (.aload_n 0, 1) := by decide +kernel
theorem dX8_count_126 : decode cX8_count 126 = .ok (.getfield 13, 3) := by decide +kernel
theorem dX8_count_129 : decode cX8_count 129 = .ok (.iload_n 1, 1) := by decide +kernel
theorem dX8_count_130 : decode cX8_count 130 = .ok (.iaload, 1) := by decide +kernel
theorem dX8_count_131 : decode cX8_count 131 = .ok (.goto 4, 3) := by decide +kernel
theorem dX8_count_134 : decode cX8_count 134 = .ok (.iconst (-1), 1) := by decide +kernel
theorem dX8_count_135 : decode cX8_count 135 = .ok (.ireturn, 1) := by decide +kernel
