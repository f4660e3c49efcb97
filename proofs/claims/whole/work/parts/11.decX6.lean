theorem dX6_init_0 : decode cX6_init 0 = .ok (.aload_n 0, 1) := by decide +kernel
theorem dX6_init_1 : decode cX6_init 1 = .ok (.invokespecial 3, 3) := by decide +kernel
theorem dX6_init_4 : decode cX6_init 4 = .ok (.aload_n 0, 1) := by decide +kernel
theorem dX6_init_5 : decode cX6_init 5 = .ok (.sipush 400, 3) := by decide +kernel
theorem dX6_init_8 : decode cX6_init 8 = .ok (.newarray .int, 2) := by decide +kernel
theorem dX6_init_10 : decode cX6_init 10 = .ok (.putfield 11, 3) := by decide +kernel
theorem dX6_init_13 : decode cX6_init 13 = .ok (.aload_n 0, 1) := by decide +kernel
theorem dX6_init_14 : decode cX6_init 14 = .ok (.iconst (-1), 1) := by decide +kernel
theorem dX6_init_15 : decode cX6_init 15 = .ok (.putfield 15, 3) := by decide +kernel
theorem dX6_init_18 : decode cX6_init 18 = .ok (.return_, 1) := by decide +kernel
theorem dX6_hasRoom_0 : decode cX6_hasRoom 0 = .ok (.aload_n 0, 1) := by decide +kernel
theorem dX6_hasRoom_1 : decode cX6_hasRoom 1 = .ok (.getfield 19, 3) := by decide +kernel
theorem dX6_hasRoom_4 : decode cX6_hasRoom 4 = .ok (.iload_n 1, 1) := by decide +kernel
theorem dX6_hasRoom_5 : decode cX6_hasRoom 5 = .ok (.iadd, 1) := by decide +kernel
theorem dX6_hasRoom_6 : decode cX6_hasRoom 6 = .ok (.sipush 400, 3) := by decide +kernel
theorem dX6_hasRoom_9 : decode cX6_hasRoom 9 = .ok (.if_icmp .gt 7, 3) := by decide +kernel
theorem dX6_hasRoom_12 : decode cX6_hasRoom 12 = .ok (.iconst 1, 1) := by decide +kernel
theorem dX6_hasRoom_13 : decode cX6_hasRoom 13 = .ok (.goto 4, 3) := by decide +kernel
theorem dX6_hasRoom_16 : decode cX6_hasRoom 16 = .ok (.iconst 0, 1) := by decide +kernel
theorem dX6_hasRoom_17 : decode cX6_hasRoom 17 = .ok (.ireturn, 1) := by decide +kernel
theorem dX6_put_0 : decode cX6_put 0 = .ok (.bipush 24, 2) := by decide +kernel
theorem dX6_put_2 : decode cX6_put 2 = .ok (.istore_n 2, 1) := by decide +kernel
theorem dX6_put_3 : decode cX6_put 3 = .ok (.iload_n 2, 1) := by decide +kernel
theorem dX6_put_4 : decode cX6_put 4 = .ok (.ifCond .lt 45, 3) := by decide +kernel
theorem dX6_put_7 : decode cX6_put 7 = .ok (.aload_n 0, 1) := by decide +kernel
theorem dX6_put_8 : decode cX6_put 8 = .ok (.getfield 19, 3) := by decide +kernel
theorem dX6_put_11 : decode cX6_put 11 = .ok (.sipush 400, 3) := by decide +kernel
theorem dX6_put_14 : decode cX6_put 14 = .ok (.if_icmp .ge 35, 3) := by decide +kernel
theorem dX6_put_17 : decode cX6_put 17 = .ok (.aload_n 0, 1) := by decide +kernel
theorem dX6_put_18 : decode cX6_put 18 = .ok (.getfield 11, 3) := by decide +kernel
theorem dX6_put_21 : decode cX6_put 21 = .ok (.aload_n 0, 1) := by decide +kernel
theorem dX6_put_22 : decode cX6_put 22 = .ok (.getfield 19, 3) := by decide +kernel
theorem dX6_put_25 : decode cX6_put 25 = .ok (.iload_n 1, 1) := by decide +kernel
theorem dX6_put_26 : decode cX6_put 26 = .ok (.iload_n 2, 1) := by decide +kernel
theorem dX6_put_27 : decode cX6_put 27 = .ok (.iushr, 1) := by decide +kernel
theorem dX6_put_28 : decode cX6_put 28 = .ok (.sipush 255, 3) := by decide +kernel
theorem dX6_put_31 : decode cX6_put 31 = .ok (.iand, 1) := by decide +kernel
theorem dX6_put_32 : decode cX6_put 32 = .ok (.iastore, 1) := by decide +kernel
theorem dX6_put_33 : decode cX6_put 33 = .ok (.aload_n 0, 1) := by decide +kernel
theorem dX6_put_34 : decode cX6_put 34 = .ok (.dup, 1) := by decide +kernel
theorem dX6_put_35 : decode cX6_put 35 = .ok (.getfield 19, 3) := by decide +kernel
theorem dX6_put_38 : decode cX6_put 38 = .ok (.iconst 1, 1) := by decide +kernel
theorem dX6_put_39 : decode cX6_put 39 = .ok (.iadd, 1) := by decide +kernel
theorem dX6_put_40 : decode cX6_put 40 = .ok (.putfield 19, 3) := by decide +kernel
theorem dX6_put_43 : decode cX6_put 43 = .ok (.iinc 2 (-8), 3) := by decide +kernel
theorem dX6_put_46 : decode cX6_put 46 = .ok (.goto (-43), 3) := by decide +kernel
theorem dX6_put_49 : decode cX6_put 49 = .ok (.return_, 1) := by decide +kernel
theorem dX6_rewind_0 : decode cX6_rewind 0 = .ok (.aload_n 0, 1) := by decide +kernel
theorem dX6_rewind_1 : decode cX6_rewind 1 = .ok (.iconst (-1), 1) := by decide +kernel
theorem dX6_rewind_2 : decode cX6_rewind 2 = .ok (.putfield 15, 3) := by decide +kernel
theorem dX6_rewind_5 : decode cX6_rewind 5 = .ok (.aload_n 0, 1) := by decide +kernel
theorem dX6_rewind_6 : decode cX6_rewind 6 = .ok (.iconst 0, 1) := by decide +kernel
theorem dX6_rewind_7 : decode cX6_rewind 7 = .ok (.putfield 22, 3) := by decide +kernel
theorem dX6_rewind_10 : decode cX6_rewind 10 = .ok (.aload_n 0, 1) := by decide +kernel
theorem dX6_rewind_11 : decode cX6_rewind 11 = .ok (.invokevirtual 25, 3) := by decide +kernel
theorem dX6_rewind_14 : decode cX6_rewind 14 = .ok (.return_, 1) := by decide +kernel
theorem dX6_step_0 : decode cX6_step 0 = .ok (.aload_n 0, 1) := by decide +kernel
theorem dX6_step_1 : decode cX6_step 1 = .ok (.aload_n 0, 1) := by decide +kernel
theorem dX6_step_2 : decode cX6_step 2 = .ok (.getfield 22, 3) := by decide +kernel
theorem dX6_step_5 : decode cX6_step 5 = .ok (.putfield 28, 3) := by decide +kernel
theorem dX6_step_8 : decode cX6_step 8 = .ok (.aload_n 0, 1) := by decide +kernel
theorem dX6_step_9 : decode cX6_step 9 = .ok (.getfield 28, 3) := by decide +kernel
theorem dX6_step_12 : decode cX6_step 12 = .ok (.aload_n 0, 1) := by decide +kernel
theorem dX6_step_13 : decode cX6_step 13 = .ok (.getfield 19, 3) := by decide +kernel
theorem dX6_step_16 : decode cX6_step 16 = .ok (.if_icmp .ge 30, 3) := by decide +kernel
theorem dX6_step_19 : decode cX6_step 19 = .ok (.aload_n 0, 1) := by decide +kernel
theorem dX6_step_20 : decode cX6_step 20 = .ok (.getfield 11, 3) := by decide +kernel
theorem dX6_step_23 : decode cX6_step 23 = .ok (.aload_n 0, 1) := by decide +kernel
theorem dX6_step_24 : decode cX6_step 24 = .ok (.getfield 28, 3) := by decide +kernel
theorem dX6_step_27 : decode cX6_step 27 = .ok (.iaload, 1) := by decide +kernel
theorem dX6_step_28 : decode cX6_step 28 = .ok (.bipush 32, 2) := by decide +kernel
theorem dX6_step_30 : decode cX6_step 30 = .ok (.if_icmp .ne 16, 3) := by decide +kernel
theorem dX6_step_33 : decode cX6_step 33 = .ok (.aload_n 0, 1) := by decide +kernel
theorem dX6_step_34 : decode cX6_step 34 = .ok (.dup, 1) := by decide +kernel
theorem dX6_step_35 : decode cX6_step 35 = .ok (.getfield 28, 3) := by decide +kernel
theorem dX6_step_38 : decode cX6_step 38 = .ok (.iconst 1, 1) := by decide +kernel
theorem dX6_step_39 : decode cX6_step 39 = .ok (.iadd, 1) := by decide +kernel
theorem dX6_step_40 : decode cX6_step 40 = .ok (.putfield 28, 3) := by decide +kernel
theorem dX6_step_43 : decode cX6_step 43 = .ok (.goto (-35), 3) := by decide +kernel
theorem dX6_step_46 : decode cX6_step 46 = .ok (.aload_n 0, 1) := by decide +kernel
theorem dX6_step_47 : decode cX6_step 47 = .ok (.aload_n 0, 1) := by decide +kernel
theorem dX6_step_48 : decode cX6_step 48 = .ok (.getfield 28, 3) := by decide +kernel
theorem dX6_step_51 : decode cX6_step 51 = .ok (.putfield 22, 3) := by decide +kernel
theorem dX6_step_54 : decode cX6_step 54 = .ok (.aload_n 0, 1) := by decide +kernel
theorem dX6_step_55 : decode cX6_step 55 = .ok (.getfield 28, 3) := by decide +kernel
theorem dX6_step_58 : decode cX6_step 58 = .ok (.aload_n 0, 1) := by decide +kernel
theorem dX6_step_59 : decode cX6_step 59 = .ok (.getfield 19, 3) := by decide +kernel
theorem dX6_step_62 : decode cX6_step 62 = .ok (.if_icmp .lt 11, 3) := by decide +kernel
theorem dX6_step_65 : decode cX6_step 65 = .ok (.aload_n 0, 1) := by decide +kernel
theorem dX6_step_66 : decode cX6_step 66 = .ok (.iconst 0, 1) := by decide +kernel
theorem dX6_step_67 : decode cX6_step 67 = .ok (.putfield 31, 3) := by decide +kernel
theorem dX6_step_70 : decode cX6_step 70 = .ok (.goto 188, 3) := by decide +kernel
theorem dX6_step_73 : decode cX6_step 73 = .ok (.aload_n 0, 1) := by decide +kernel
theorem dX6_step_74 : decode cX6_step 74 = .ok (.getfield 11, 3) := by decide +kernel
theorem dX6_step_77 : decode cX6_step 77 = .ok (.aload_n 0, 1) := by decide +kernel
theorem dX6_step_78 : decode cX6_step 78 = .ok (.getfield 28, 3) := by decide +kernel
theorem dX6_step_81 : decode cX6_step 81 = .ok (.iaload, 1) := by decide +kernel
theorem dX6_step_82 : decode cX6_step 82 = .ok (.bipush 97, 2) := by decide +kernel
theorem dX6_step_84 : decode cX6_step 84 = .ok (.if_icmp .lt 74, 3) := by decide +kernel
theorem dX6_step_87 : decode cX6_step 87 = .ok (.aload_n 0, 1) := by decide +kernel
theorem dX6_step_88 : decode cX6_step 88 = .ok (.getfield 11, 3) := by decide +kernel
theorem dX6_step_91 : decode cX6_step 91 = .ok (.aload_n 0, 1) := by decide +kernel
theorem dX6_step_92 : decode cX6_step 92 = .ok (.getfield 28, 3) := by decide +kernel
theorem dX6_step_95 : decode cX6_step 95 = .ok (.iaload, 1) := by decide +kernel
theorem dX6_step_96 : decode cX6_step 96 = .ok (.bipush 122, 2) := by decide +kernel
theorem dX6_step_98 : decode cX6_step 98 = .ok (.if_icmp .gt 60, 3) := by decide +kernel
theorem dX6_step_101 : decode cX6_step 101 = .ok (.aload_n 0, 1) := by decide +kernel
theorem dX6_step_102 : decode cX6_step 102 = .ok (.iconst 1, 1) := by decide +kernel
theorem dX6_step_103 : decode cX6_step 103 = .ok (.putfield 31, 3) := by decide +kernel
theorem dX6_step_106 : decode cX6_step 106 = .ok (.aload_n 0, 1) := by decide +kernel
theorem dX6_step_107 : decode cX6_step 107 = .ok (.getfield 22, 3) := by decide +kernel
theorem dX6_step_110 : decode cX6_step 110 = .ok (.aload_n 0, 1) := by decide +kernel
theorem dX6_step_111 : decode cX6_step 111 = .ok (.getfield 19, 3) := by decide +kernel
theorem dX6_step_114 : decode cX6_step 114 = .ok (.if_icmp .ge 144, 3) := by decide +kernel
theorem dX6_step_117 : decode cX6_step 117 = .ok (.aload_n 0, 1) := by decide +kernel
theorem dX6_step_118 : decode cX6_step 118 = .ok (.getfield 11, 3) := by decide +kernel
theorem dX6_step_121 : decode cX6_step 121 = .ok (.aload_n 0, 1) := by decide +kernel
theorem dX6_step_122 : decode cX6_step 122 = .ok (.getfield 22, 3) := by decide +kernel
theorem dX6_step_125 : decode cX6_step 125 = .ok (.iaload, 1) := by decide +kernel
theorem dX6_step_126 : decode cX6_step 126 = .ok (.bipush 97, 2) := by decide +kernel
theorem dX6_step_128 : decode cX6_step 128 = .ok (.if_icmp .lt 130, 3) := by decide +kernel
theorem dX6_step_131 : decode cX6_step 131 = .ok (.aload_n 0, 1) := by decide +kernel
theorem dX6_step_132 : decode cX6_step 132 = .ok (.getfield 11, 3) := by decide +kernel
theorem dX6_step_135 : decode cX6_step 135 = .ok (.aload_n 0, 1) := by decide +kernel
theorem dX6_step_136 : decode cX6_step 136 = .ok (.getfield 22, 3) := by decide +kernel
theorem dX6_step_139 : decode cX6_step 139 = .ok (.iaload, 1) := by decide +kernel
theorem dX6_step_140 : decode cX6_step 140 = .ok (.bipush 122, 2) := by decide +kernel
theorem dX6_step_142 : decode cX6_step 142 = .ok (.if_icmp .gt 116, 3) := by decide +kernel
theorem dX6_step_145 : decode cX6_step 145 = .ok (.aload_n 0, 1) := by decide +kernel
theorem dX6_step_146 : decode cX6_step 146 = .ok (.dup, 1) := by decide +kernel
theorem dX6_step_147 : decode cX6_step 147 = .ok (.getfield 22, 3) := by decide +kernel
theorem dX6_step_150 : decode cX6_step 150 = .ok (.iconst 1, 1) := by decide +kernel
theorem dX6_step_151 : decode cX6_step 151 = .ok (.iadd, 1) := by decide +kernel
theorem dX6_step_152 : decode cX6_step 152 = .ok (.putfield 22, 3) := by decide +kernel
theorem dX6_step_155 : decode cX6_step 155 = .ok (.goto (-49), 3) := by decide +kernel
theorem dX6_step_158 : decode cX6_step 158 = .ok (.aload_n 0, 1) := by decide +kernel
theorem dX6_step_159 : decode cX6_step 159 = .ok (.getfield 11, 3) := by decide +kernel
theorem dX6_step_162 : decode cX6_step 162 = .ok (.aload_n 0, 1) := by decide +kernel
theorem dX6_step_163 : decode cX6_step 163 = .ok (.getfield 28, 3) := by decide +kernel
theorem dX6_step_166 : decode cX6_step 166 = .ok (.iaload, 1) := by decide +kernel
theorem dX6_step_167 : decode cX6_step 167 = .ok (.bipush 48, 2) := by decide +kernel
theorem dX6_step_169 : decode cX6_step 169 = .ok (.if_icmp .lt 74, 3) := by decide +kernel
theorem dX6_step_172 : decode cX6_step 172 = .ok (.aload_n 0, 1) := by decide +kernel
theorem dX6_step_173 : decode cX6_step 173 = .ok (.getfield 11, 3) := by decide +kernel
theorem dX6_step_176 : decode cX6_step 176 = .ok (.aload_n 0, 1) := by decide +kernel
theorem dX6_step_177 : decode cX6_step 177 = .ok (.getfield 28, 3) := by decide +kernel
theorem dX6_step_180 : decode cX6_step 180 = .ok (.iaload, 1) := by decide +kernel
theorem dX6_step_181 : decode cX6_step 181 = .ok (.bipush 57, 2) := by decide +kernel
theorem dX6_step_183 : decode cX6_step 183 = .ok (.if_icmp .gt 60, 3) := by decide +kernel
theorem dX6_step_186 : decode cX6_step 186 = .ok (.aload_n 0, 1) := by decide +kernel
theorem dX6_step_187 : decode cX6_step 187 = .ok (.iconst 2, 1) := by decide +kernel
theorem dX6_step_188 : decode cX6_step 188 = .ok (.putfield 31, 3) := by decide +kernel
theorem dX6_step_191 : decode cX6_step 191 = .ok (.aload_n 0, 1) := by decide +kernel
theorem dX6_step_192 : decode cX6_step 192 = .ok (.getfield 22, 3) := by decide +kernel
theorem dX6_step_195 : decode cX6_step 195 = .ok (.aload_n 0, 1) := by decide +kernel
theorem dX6_step_196 : decode cX6_step 196 = .ok (.getfield 19, 3) := by decide +kernel
theorem dX6_step_199 : decode cX6_step 199 = .ok (.if_icmp .ge 59, 3) := by decide +kernel
theorem dX6_step_202 : decode cX6_step 202 = .ok (.aload_n 0, 1) := by decide +kernel
theorem dX6_step_203 : decode cX6_step 203 = .ok (.getfield 11, 3) := by decide +kernel
theorem dX6_step_206 : decode cX6_step 206 = .ok (.aload_n 0, 1) := by decide +kernel
theorem dX6_step_207 : decode cX6_step 207 = .ok (.getfield 22, 3) := by decide +kernel
theorem dX6_step_210 : decode cX6_step 210 = .ok (.iaload, 1) := by decide +kernel
theorem dX6_step_211 : decode cX6_step 211 = .ok (.bipush 48, 2) := by decide +kernel
theorem dX6_step_213 : decode cX6_step 213 = .ok (.if_icmp .lt 45, 3) := by decide +kernel
theorem dX6_step_216 : decode cX6_step 216 = .ok (.aload_n 0, 1) := by decide +kernel
theorem dX6_step_217 : decode cX6_step 217 = .ok (.getfield 11, 3) := by decide +kernel
theorem dX6_step_220 : decode cX6_step 220 = .ok (.aload_n 0, 1) := by decide +kernel
theorem dX6_step_221 : decode cX6_step 221 = .ok (.getfield 22, 3) := by decide +kernel
theorem dX6_step_224 : decode cX6_step 224 = .ok (.iaload, 1) := by decide +kernel
theorem dX6_step_225 : decode cX6_step 225 = .ok (.bipush 57, 2) := by decide +kernel
theorem dX6_step_227 : decode cX6_step 227 = .ok (.if_icmp .gt 31, 3) := by decide +kernel
theorem dX6_step_230 : decode cX6_step 230 = .ok (.aload_n 0, 1) := by decide +kernel
theorem dX6_step_231 : decode cX6_step 231 = .ok (.dup, 1) := by decide +kernel
theorem dX6_step_232 : decode cX6_step 232 = .ok (.getfield 22, 3) := by decide +kernel
theorem dX6_step_235 : decode cX6_step 235 = .ok (.iconst 1, 1) := by decide +kernel
theorem dX6_step_236 : decode cX6_step 236 = .ok (.iadd, 1) := by decide +kernel
theorem dX6_step_237 : decode cX6_step 237 = .ok (.putfield 22, 3) := by decide +kernel
theorem dX6_step_240 : decode cX6_step 240 = .ok (.goto (-49), 3) := by decide +kernel
theorem dX6_step_243 : decode cX6_step 243 = .ok (.aload_n 0, 1) := by decide +kernel
theorem dX6_step_244 : decode cX6_step 244 = .ok (.iconst 3, 1) := by decide +kernel
theorem dX6_step_245 : decode cX6_step 245 = .ok (.putfield 31, 3) := by decide +kernel
theorem dX6_step_248 : decode cX6_step 248 = .ok (.aload_n 0, 1) := by decide +kernel
theorem dX6_step_249 : decode cX6_step 249 = .ok (.dup, 1) := by decide +kernel
theorem dX6_step_250 : decode cX6_step 250 = .ok (.getfield 22, 3) := by decide +kernel
theorem dX6_step_253 : decode cX6_step 253 = .ok (.iconst 1, 1) := by decide +kernel
theorem dX6_step_254 : decode cX6_step 254 = .ok (.iadd, 1) := by decide +kernel
theorem dX6_step_255 : decode cX6_step 255 = .ok (.putfield 22, 3) := by decide +kernel
theorem dX6_step_258 : decode cX6_step 258 = .ok (.return_, 1) := by decide +kernel
theorem dX6_isWrong_0 : decode cX6_isWrong 0 = .ok (.aload_n 0, 1) := by decide +kernel
theorem dX6_isWrong_1 : decode cX6_isWrong 1 = .ok (.getfield 15, 3) := by decide +kernel
theorem dX6_isWrong_4 : decode cX6_isWrong 4 = .ok (.iconst (-1), 1) := by decide +kernel
theorem dX6_isWrong_5 : decode cX6_isWrong 5 = .ok (.if_icmp .eq 7, 3) := by decide +kernel
theorem dX6_isWrong_8 : decode cX6_isWrong 8 = .ok (.iconst 1, 1) := by decide +kernel
theorem dX6_isWrong_9 : decode cX6_isWrong 9 = .ok (.goto 4, 3) := by decide +kernel
theorem dX6_isWrong_12 : decode cX6_isWrong 12 = .ok (.iconst 0, 1) := by decide +kernel
theorem dX6_isWrong_13 : decode cX6_isWrong 13 = .ok (.ireturn, 1) := by decide +kernel
theorem dX6_refuse_0 : decode cX6_refuse 0 = .ok (.aload_n 0, 1) := by decide +kernel
theorem dX6_refuse_1 : decode cX6_refuse 1 = .ok (.getfield 15, 3) := by decide +kernel
theorem dX6_refuse_4 : decode cX6_refuse 4 = .ok (.iconst (-1), 1) := by decide +kernel
theorem dX6_refuse_5 : decode cX6_refuse 5 = .ok (.if_icmp .ne 11, 3) := by decide +kernel
theorem dX6_refuse_8 : decode cX6_refuse 8 = .ok (.aload_n 0, 1) := by decide +kernel
theorem dX6_refuse_9 : decode cX6_refuse 9 = .ok (.aload_n 0, 1) := by decide +kernel
theorem dX6_refuse_10 : decode cX6_refuse 10 = .ok (.getfield 28, 3) := by decide +kernel
theorem dX6_refuse_13 : decode cX6_refuse 13 = .ok (.putfield 15, 3) := by decide +kernel
theorem dX6_refuse_16 : decode cX6_refuse 16 = .ok (.iconst 0, 1) := by decide +kernel
theorem dX6_refuse_17 : decode cX6_refuse 17 = .ok (.ireturn, 1) := by decide +kernel
theorem dX6_is_0 : decode cX6_is 0 = .ok (.aload_n 0, 1) := by decide +kernel
theorem dX6_is_1 : decode cX6_is 1 = .ok (.getfield 31, 3) := by decide +kernel
theorem dX6_is_4 : decode cX6_is 4 = .ok (.iconst 1, 1) := by decide +kernel
theorem dX6_is_5 : decode cX6_is 5 = .ok (.if_icmp .ne 19, 3) := by decide +kernel
theorem dX6_is_8 : decode cX6_is 8 = .ok (.aload_n 0, 1) := by decide +kernel
theorem dX6_is_9 : decode cX6_is 9 = .ok (.getfield 22, 3) := by decide +kernel
theorem dX6_is_12 : decode cX6_is 12 = .ok (.aload_n 0, 1) := by decide +kernel
theorem dX6_is_13 : decode cX6_is 13 = .ok (.getfield 28, 3) := by decide +kernel
theorem dX6_is_16 : decode cX6_is 16 = .ok (.isub, 1) := by decide +kernel
theorem dX6_is_17 : decode cX6_is 17 = .ok (.aload_n 1, 1) := by decide +kernel
theorem dX6_is_18 : decode cX6_is 18 = .ok (.invokevirtual 34, 3) := by decide +kernel
theorem dX6_is_21 : decode cX6_is 21 = .ok (.if_icmp .eq 5, 3) := by decide +kernel
theorem dX6_is_24 : decode cX6_is 24 = .ok (.iconst 0, 1) := by decide +kernel
theorem dX6_is_25 : decode cX6_is 25 = .ok (.ireturn, 1) := by decide +kernel
theorem dX6_is_26 : decode cX6_is 26 = .ok (.iconst 0, 1) := by decide +kernel
theorem dX6_is_27 : decode cX6_is 27 = .ok (.istore_n 2, 1) := by decide +kernel
theorem dX6_is_28 : decode cX6_is 28 = .ok (.iload_n 2, 1) := by decide +kernel
theorem dX6_is_29 : decode cX6_is 29 = .ok (.aload_n 1, 1) := by decide +kernel
theorem dX6_is_30 : decode cX6_is 30 = .ok (.invokevirtual 34, 3) := by decide +kernel
theorem dX6_is_33 : decode cX6_is 33 = .ok (.if_icmp .ge 30, 3) := by decide +kernel
theorem dX6_is_36 : decode cX6_is 36 = .ok (.aload_n 0, 1) := by decide +kernel
theorem dX6_is_37 : decode cX6_is 37 = .ok (.getfield 11, 3) := by decide +kernel
theorem dX6_is_40 : decode cX6_is 40 = .ok (.aload_n 0, 1) := by decide +kernel
theorem dX6_is_41 : decode cX6_is 41 = .ok (.getfield 28, 3) := by decide +kernel
theorem dX6_is_44 : decode cX6_is 44 = .ok (.iload_n 2, 1) := by decide +kernel
theorem dX6_is_45 : decode cX6_is 45 = .ok (.iadd, 1) := by decide +kernel
theorem dX6_is_46 : decode cX6_is 46 = .ok (.iaload, 1) := by decide +kernel
theorem dX6_is_47 : decode cX6_is 47 = .ok (.aload_n 1, 1) := by decide +kernel
theorem dX6_is_48 : decode cX6_is 48 = .ok (.iload_n 2, 1) := by decide +kernel
theorem dX6_is_49 : decode cX6_is 49 = .ok (.invokevirtual 39, 3) := by decide +kernel
theorem dX6_is_52 : decode cX6_is 52 = .ok (.if_icmp .eq 5, 3) := by decide +kernel
theorem dX6_is_55 : decode cX6_is 55 = .ok (.iconst 0, 1) := by decide +kernel
theorem dX6_is_56 : decode cX6_is 56 = .ok (.ireturn, 1) := by decide +kernel
theorem dX6_is_57 : decode cX6_is 57 = .ok (.iinc 2 1, 3) := by decide +kernel
theorem dX6_is_60 : decode cX6_is 60 = .ok (.goto (-32), 3) := by decide +kernel
theorem dX6_is_63 : decode cX6_is 63 = .ok (.iconst 1, 1) := by decide +kernel
theorem dX6_is_64 : decode cX6_is 64 = .ok (.ireturn, 1) := by decide +kernel
theorem dX6_isSign_0 : decode cX6_isSign 0 = .ok (.aload_n 0, 1) := by decide +kernel
theorem dX6_isSign_1 : decode cX6_isSign 1 = .ok (.getfield 31, 3) := by decide +kernel
theorem dX6_isSign_4 : decode cX6_isSign 4 = .ok (.iconst 3, 1) := by decide +kernel
theorem dX6_isSign_5 : decode cX6_isSign 5 = .ok (.if_icmp .ne 20, 3) := by decide +kernel
theorem dX6_isSign_8 : decode cX6_isSign 8 = .ok (.aload_n 0, 1) := by decide +kernel
theorem dX6_isSign_9 : decode cX6_isSign 9 = .ok (.getfield 11, 3) := by decide +kernel
theorem dX6_isSign_12 : decode cX6_isSign 12 = .ok (.aload_n 0, 1) := by decide +kernel
theorem dX6_isSign_13 : decode cX6_isSign 13 = .ok (.getfield 28, 3) := by decide +kernel
theorem dX6_isSign_16 : decode cX6_isSign 16 = .ok (.iaload, 1) := by decide +kernel
theorem dX6_isSign_17 : decode cX6_isSign 17 = .ok (.iload_n 1, 1) := by decide +kernel
theorem dX6_isSign_18 : decode cX6_isSign 18 = .ok (.if_icmp .ne 7, 3) := by decide +kernel
theorem dX6_isSign_21 : decode cX6_isSign 21 = .ok (.iconst 1, 1) := by decide +kernel
theorem dX6_isSign_22 : decode cX6_isSign 22 = .ok (.goto 4, 3) := by decide +kernel
theorem dX6_isSign_25 : decode cX6_isSign 25 = .ok (.iconst 0, 1) := by decide +kernel
theorem dX6_isSign_26 : decode cX6_isSign 26 = .ok (.ireturn, 1) := by decide +kernel
theorem dX6_pass_0 : decode cX6_pass 0 = .ok (.aload_n 0, 1) := by decide +kernel
theorem dX6_pass_1 : decode cX6_pass 1 = .ok (.aload_n 1, 1) := by decide +kernel
theorem dX6_pass_2 : decode cX6_pass 2 = .ok (.invokevirtual 43, 3) := by decide +kernel
theorem dX6_pass_5 : decode cX6_pass 5 = .ok (.ifCond .ne 8, 3) := by decide +kernel
theorem dX6_pass_8 : decode cX6_pass 8 = .ok (.aload_n 0, 1) := by decide +kernel
theorem dX6_pass_9 : decode cX6_pass 9 = .ok (.invokevirtual 47, 3) := by decide +kernel
theorem dX6_pass_12 : decode cX6_pass 12 = .ok (.ireturn, 1) := by decide +kernel
theorem dX6_pass_13 : decode cX6_pass 13 = .ok (.aload_n 0, 1) := by decide +kernel
theorem dX6_pass_14 : decode cX6_pass 14 = .ok (.invokevirtual 25, 3) := by decide +kernel
theorem dX6_pass_17 : decode cX6_pass 17 = .ok (.iconst 1, 1) := by decide +kernel
theorem dX6_pass_18 : decode cX6_pass 18 = .ok (.ireturn, 1) := by decide +kernel
theorem dX6_passSign_0 : decode cX6_passSign 0 = .ok (.aload_n 0, 1) := by decide +kernel
theorem dX6_passSign_1 : decode cX6_passSign 1 = .ok (.iload_n 1, 1) := by decide +kernel
theorem dX6_passSign_2 : decode cX6_passSign 2 = .ok (.invokevirtual 51, 3) := by decide +kernel
theorem dX6_passSign_5 : decode cX6_passSign 5 = .ok (.ifCond .ne 8, 3) := by decide +kernel
theorem dX6_passSign_8 : decode cX6_passSign 8 = .ok (.aload_n 0, 1) := by decide +kernel
theorem dX6_passSign_9 : decode cX6_passSign 9 = .ok (.invokevirtual 47, 3) := by decide +kernel
theorem dX6_passSign_12 : decode cX6_passSign 12 = .ok (.ireturn, 1) := by decide +kernel
theorem dX6_passSign_13 : decode cX6_passSign 13 = .ok (.aload_n 0, 1) := by decide +kernel
theorem dX6_passSign_14 : decode cX6_passSign 14 = .ok (.invokevirtual 25, 3) := by decide +kernel
theorem dX6_passSign_17 : decode cX6_passSign 17 = .ok (.iconst 1, 1) := by decide +kernel
theorem dX6_passSign_18 : decode cX6_passSign 18 = .ok (.ireturn, 1) := by decide +kernel
theorem dX6_numberUpTo_0 : decode cX6_numberUpTo 0 = .ok (.aload_n 0, 1) := by decide +kernel
theorem dX6_numberUpTo_1 : decode cX6_numberUpTo 1 = .ok (.getfield 31, 3) := by decide +kernel
theorem dX6_numberUpTo_4 : decode cX6_numberUpTo 4 = .ok (.iconst 2, 1) := by decide +kernel
theorem dX6_numberUpTo_5 : decode cX6_numberUpTo 5 = .ok (.if_icmp .ne 20, 3) := by decide +kernel
theorem dX6_numberUpTo_8 : decode cX6_numberUpTo 8 = .ok (.aload_n 0, 1) := by decide +kernel
theorem dX6_numberUpTo_9 : decode cX6_numberUpTo 9 = .ok (.getfield 22, 3) := by decide +kernel
theorem dX6_numberUpTo_12 : decode cX6_numberUpTo 12 = .ok (.aload_n 0, 1) := by decide +kernel
theorem dX6_numberUpTo_13 : decode cX6_numberUpTo 13 = .ok (.getfield 28, 3) := by decide +kernel
theorem dX6_numberUpTo_16 : decode cX6_numberUpTo 16 = .ok (.isub, 1) := by decide +kernel
theorem dX6_numberUpTo_17 : decode cX6_numberUpTo 17 = .ok (.iconst 3, 1) := by decide +kernel
theorem dX6_numberUpTo_18 : decode cX6_numberUpTo 18 = .ok (.if_icmp .gt 7, 3) := by decide +kernel
theorem dX6_numberUpTo_21 : decode cX6_numberUpTo 21 = .ok (.iconst 0, 1) := by decide +kernel
theorem dX6_numberUpTo_22 : decode cX6_numberUpTo 22 = .ok (.goto 4, 3) := by decide +kernel
theorem dX6_numberUpTo_25 : decode cX6_numberUpTo 25 = .ok (.iconst (-1), 1) := by decide +kernel
theorem dX6_numberUpTo_26 : decode cX6_numberUpTo 26 = .ok (.istore_n 2, 1) := by decide +kernel
theorem dX6_numberUpTo_27 : decode cX6_numberUpTo 27 = .ok (.aload_n 0, 1) := by decide +kernel
theorem dX6_numberUpTo_28 : decode cX6_numberUpTo 28 = .ok (.getfield 28, 3) := by decide +kernel
theorem dX6_numberUpTo_31 : decode cX6_numberUpTo 31 = .ok (.istore_n 3, 1) := by decide +kernel
theorem dX6_numberUpTo_32 : decode cX6_numberUpTo 32 = .ok (.iload_n 3, 1) := by decide +kernel
theorem dX6_numberUpTo_33 : decode cX6_numberUpTo 33 = .ok (.aload_n 0, 1) := by decide +kernel
theorem dX6_numberUpTo_34 : decode cX6_numberUpTo 34 = .ok (.getfield 22, 3) := by decide +kernel
theorem dX6_numberUpTo_37 : decode cX6_numberUpTo 37 = .ok (.if_icmp .ge 29, 3) := by decide +kernel
theorem dX6_numberUpTo_40 : decode cX6_numberUpTo 40 = .ok (.iload_n 2, 1) := by decide +kernel
theorem dX6_numberUpTo_41 : decode cX6_numberUpTo 41 = .ok (.iconst (-1), 1) := by decide +kernel
theorem dX6_numberUpTo_42 : decode cX6_numberUpTo 42 = .ok (.if_icmp .eq 24, 3) := by decide +kernel
theorem dX6_numberUpTo_45 : decode cX6_numberUpTo 45 = .ok (.bipush 10, 2) := by decide +kernel
theorem dX6_numberUpTo_47 : decode cX6_numberUpTo 47 = .ok (.iload_n 2, 1) := by decide +kernel
theorem dX6_numberUpTo_48 : decode cX6_numberUpTo 48 = .ok (.imul, 1) := by decide +kernel
theorem dX6_numberUpTo_49 : decode cX6_numberUpTo 49 = .ok (.aload_n 0, 1) := by decide +kernel
theorem dX6_numberUpTo_50 : decode cX6_numberUpTo 50 = .ok (.getfield 11, 3) := by decide +kernel
theorem dX6_numberUpTo_53 : decode cX6_numberUpTo 53 = .ok (.iload_n 3, 1) := by decide +kernel
theorem dX6_numberUpTo_54 : decode cX6_numberUpTo 54 = .ok (.iaload, 1) := by decide +kernel
theorem dX6_numberUpTo_55 : decode cX6_numberUpTo 55 = .ok (.iadd, 1) := by decide +kernel
theorem dX6_numberUpTo_56 : decode cX6_numberUpTo 56 = .ok (.bipush 48, 2) := by decide +kernel
theorem dX6_numberUpTo_58 : decode cX6_numberUpTo 58 = .ok (.isub, 1) := by decide +kernel
theorem dX6_numberUpTo_59 : decode cX6_numberUpTo 59 = .ok (.istore_n 2, 1) := by decide +kernel
theorem dX6_numberUpTo_60 : decode cX6_numberUpTo 60 = .ok (.iinc 3 1, 3) := by decide +kernel
theorem dX6_numberUpTo_63 : decode cX6_numberUpTo 63 = .ok (.goto (-31), 3) := by decide +kernel
theorem dX6_numberUpTo_66 : decode cX6_numberUpTo 66 = .ok (.iload_n 2, 1) := by decide +kernel
theorem dX6_numberUpTo_67 : decode cX6_numberUpTo 67 = .ok (.iconst (-1), 1) := by decide +kernel
theorem dX6_numberUpTo_68 : decode cX6_numberUpTo 68 = .ok (.if_icmp .eq 8, 3) := by decide +kernel
theorem dX6_numberUpTo_71 : decode cX6_numberUpTo 71 = .ok (.iload_n 2, 1) := by decide +kernel
theorem dX6_numberUpTo_72 : decode cX6_numberUpTo 72 = .ok (.iload_n 1, 1) := by decide +kernel
theorem dX6_numberUpTo_73 : decode cX6_numberUpTo 73 = .ok (.if_icmp .le 10, 3) := by decide +kernel
theorem dX6_numberUpTo_76 : decode cX6_numberUpTo 76 = .ok (.aload_n 0, 1) := by decide +kernel
theorem dX6_numberUpTo_77 : decode cX6_numberUpTo 77 = .ok (.invokevirtual 47, 3) := by decide +kernel
theorem dX6_numberUpTo_80 : decode cX6_numberUpTo 80 = .ok (.pop, 1) := by decide +kernel
theorem dX6_numberUpTo_81 : decode cX6_numberUpTo 81 = .ok (.iconst (-1), 1) := by decide +kernel
theorem dX6_numberUpTo_82 : decode cX6_numberUpTo 82 = .ok (.ireturn, 1) := by decide +kernel
theorem dX6_numberUpTo_83 : decode cX6_numberUpTo 83 = .ok (.aload_n 0, 1) := by decide +kernel
theorem dX6_numberUpTo_84 : decode cX6_numberUpTo 84 = .ok (.invokevirtual 25, 3) := by decide +kernel
theorem dX6_numberUpTo_87 : decode cX6_numberUpTo 87 = .ok (.iload_n 2, 1) := by decide +kernel
theorem dX6_numberUpTo_88 : decode cX6_numberUpTo 88 = .ok (.ireturn, 1) := by decide +kernel
theorem dX6_figures_0 : decode cX6_figures 0 = .ok (.aload_n 0, 1) := by decide +kernel
theorem dX6_figures_1 : decode cX6_figures 1 = .ok (.getfield 31, 3) := by decide +kernel
theorem dX6_figures_4 : decode cX6_figures 4 = .ok (.iconst 2, 1) := by decide +kernel
theorem dX6_figures_5 : decode cX6_figures 5 = .ok (.if_icmp .ne 20, 3) := by decide +kernel
theorem dX6_figures_8 : decode cX6_figures 8 = .ok (.aload_n 0, 1) := by decide +kernel
theorem dX6_figures_9 : decode cX6_figures 9 = .ok (.getfield 22, 3) := by decide +kernel
theorem dX6_figures_12 : decode cX6_figures 12 = .ok (.aload_n 0, 1) := by decide +kernel
theorem dX6_figures_13 : decode cX6_figures 13 = .ok (.getfield 28, 3) := by decide +kernel
theorem dX6_figures_16 : decode cX6_figures 16 = .ok (.isub, 1) := by decide +kernel
theorem dX6_figures_17 : decode cX6_figures 17 = .ok (.iconst 3, 1) := by decide +kernel
theorem dX6_figures_18 : decode cX6_figures 18 = .ok (.if_icmp .ne 7, 3) := by decide +kernel
theorem dX6_figures_21 : decode cX6_figures 21 = .ok (.iconst 0, 1) := by decide +kernel
theorem dX6_figures_22 : decode cX6_figures 22 = .ok (.goto 4, 3) := by decide +kernel
theorem dX6_figures_25 : decode cX6_figures 25 = .ok (.iconst (-1), 1) := by decide +kernel
theorem dX6_figures_26 : decode cX6_figures 26 = .ok (.istore_n 1, 1) := by decide +kernel
theorem dX6_figures_27 : decode cX6_figures 27 = .ok (.aload_n 0, 1) := by decide +kernel
theorem dX6_figures_28 : decode cX6_figures 28 = .ok (.getfield 28, 3) := by decide +kernel
theorem dX6_figures_31 : decode cX6_figures 31 = .ok (.istore_n 2, 1) := by decide +kernel
theorem dX6_figures_32 : decode cX6_figures 32 = .ok (.iload_n 2, 1) := by decide +kernel
theorem dX6_figures_33 : decode cX6_figures 33 = .ok (.aload_n 0, 1) := by decide +kernel
theorem dX6_figures_34 : decode cX6_figures 34 = .ok (.getfield 22, 3) := by decide +kernel
theorem dX6_figures_37 : decode cX6_figures 37 = .ok (.if_icmp .ge 41, 3) := by decide +kernel
theorem dX6_figures_40 : decode cX6_figures 40 = .ok (.iload_n 1, 1) := by decide +kernel
theorem dX6_figures_41 : decode cX6_figures 41 = .ok (.iconst (-1), 1) := by decide +kernel
theorem dX6_figures_42 : decode cX6_figures 42 = .ok (.if_icmp .eq 36, 3) := by decide +kernel
theorem dX6_figures_45 : decode cX6_figures 45 = .ok (.aload_n 0, 1) := by decide +kernel
theorem dX6_figures_46 : decode cX6_figures 46 = .ok (.getfield 11, 3) := by decide +kernel
theorem dX6_figures_49 : decode cX6_figures 49 = .ok (.iload_n 2, 1) := by decide +kernel
theorem dX6_figures_50 : decode cX6_figures 50 = .ok (.iaload, 1) := by decide +kernel
theorem dX6_figures_51 : decode cX6_figures 51 = .ok (.bipush 48, 2) := by decide +kernel
theorem dX6_figures_53 : decode cX6_figures 53 = .ok (.isub, 1) := by decide +kernel
theorem dX6_figures_54 : decode cX6_figures 54 = .ok (.istore_n 3, 1) := by decide +kernel
theorem dX6_figures_55 : decode cX6_figures 55 = .ok (.iload_n 3, 1) := by decide +kernel
theorem dX6_figures_56 : decode cX6_figures 56 = .ok (.bipush 6, 2) := by decide +kernel
theorem dX6_figures_58 : decode cX6_figures 58 = .ok (.if_icmp .ge 12, 3) := by decide +kernel
theorem dX6_figures_61 : decode cX6_figures 61 = .ok (.bipush 6, 2) := by decide +kernel
theorem dX6_figures_63 : decode cX6_figures 63 = .ok (.iload_n 1, 1) := by decide +kernel
theorem dX6_figures_64 : decode cX6_figures 64 = .ok (.imul, 1) := by decide +kernel
theorem dX6_figures_65 : decode cX6_figures 65 = .ok (.iload_n 3, 1) := by decide +kernel
theorem dX6_figures_66 : decode cX6_figures 66 = .ok (.iadd, 1) := by decide +kernel
theorem dX6_figures_67 : decode cX6_figures 67 = .ok (.goto 4, 3) := by decide +kernel
theorem dX6_figures_70 : decode cX6_figures 70 = .ok (.iconst (-1), 1) := by decide +kernel
theorem dX6_figures_71 : decode cX6_figures 71 = .ok (.istore_n 1, 1) := by decide +kernel
theorem dX6_figures_72 : decode cX6_figures 72 = .ok (.iinc 2 1, 3) := by decide +kernel
theorem dX6_figures_75 : decode cX6_figures 75 = .ok (.goto (-43), 3) := by decide +kernel
theorem dX6_figures_78 : decode cX6_figures 78 = .ok (.iload_n 1, 1) := by decide +kernel
theorem dX6_figures_79 : decode cX6_figures 79 = .ok (.iconst (-1), 1) := by decide +kernel
theorem dX6_figures_80 : decode cX6_figures 80 = .ok (.if_icmp .ne 10, 3) := by decide +kernel
theorem dX6_figures_83 : decode cX6_figures 83 = .ok (.aload_n 0, 1) := by decide +kernel
theorem dX6_figures_84 : decode cX6_figures 84 = .ok (.invokevirtual 47, 3) := by decide +kernel
theorem dX6_figures_87 : decode cX6_figures 87 = .ok (.pop, 1) := by decide +kernel
theorem dX6_figures_88 : decode cX6_figures 88 = .ok (.iconst (-1), 1) := by decide +kernel
theorem dX6_figures_89 : decode cX6_figures 89 = .ok (.ireturn, 1) := by decide +kernel
theorem dX6_figures_90 : decode cX6_figures 90 = .ok (.aload_n 0, 1) := by decide +kernel
theorem dX6_figures_91 : decode cX6_figures 91 = .ok (.invokevirtual 25, 3) := by decide +kernel
theorem dX6_figures_94 : decode cX6_figures 94 = .ok (.iload_n 1, 1) := by decide +kernel
theorem dX6_figures_95 : decode cX6_figures 95 = .ok (.ireturn, 1) := by decide +kernel
