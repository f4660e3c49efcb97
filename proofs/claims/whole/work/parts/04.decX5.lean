theorem dX5_init_0 : decode cX5_init 0 = .ok (.aload_n 0, 1) := by decide +kernel
theorem dX5_init_1 : decode cX5_init 1 = .ok (.invokespecial 5, 3) := by decide +kernel
theorem dX5_init_4 : decode cX5_init 4 = .ok (.aload_n 0, 1) := by decide +kernel
theorem dX5_init_5 : decode cX5_init 5 = .ok (.iconst (-1), 1) := by decide +kernel
theorem dX5_init_6 : decode cX5_init 6 = .ok (.putfield 11, 3) := by decide +kernel
theorem dX5_init_9 : decode cX5_init 9 = .ok (.aload_n 0, 1) := by decide +kernel
theorem dX5_init_10 : decode cX5_init 10 = .ok (.iconst 1, 1) := by decide +kernel
theorem dX5_init_11 : decode cX5_init 11 = .ok (.putfield 15, 3) := by decide +kernel
theorem dX5_init_14 : decode cX5_init 14 = .ok (.aload_n 0, 1) := by decide +kernel
theorem dX5_init_15 : decode cX5_init 15 = .ok (.bipush 6, 2) := by decide +kernel
theorem dX5_init_17 : decode cX5_init 17 = .ok (.newarray .int, 2) := by decide +kernel
theorem dX5_init_19 : decode cX5_init 19 = .ok (.putfield 18, 3) := by decide +kernel
theorem dX5_init_22 : decode cX5_init 22 = .ok (.aload_n 0, 1) := by decide +kernel
theorem dX5_init_23 : decode cX5_init 23 = .ok (.bipush 6, 2) := by decide +kernel
theorem dX5_init_25 : decode cX5_init 25 = .ok (.newarray .int, 2) := by decide +kernel
theorem dX5_init_27 : decode cX5_init 27 = .ok (.putfield 22, 3) := by decide +kernel
theorem dX5_init_30 : decode cX5_init 30 = .ok (.aload_n 0, 1) := by decide +kernel
theorem dX5_init_31 : decode cX5_init 31 = .ok (.bipush 6, 2) := by decide +kernel
theorem dX5_init_33 : decode cX5_init 33 = .ok (.newarray .int, 2) := by decide +kernel
theorem dX5_init_35 : decode cX5_init 35 = .ok (.putfield 25, 3) := by decide +kernel
theorem dX5_init_38 : decode cX5_init 38 = .ok (.aload_n 0, 1) := by decide +kernel
theorem dX5_init_39 : decode cX5_init 39 = .ok (.bipush 12, 2) := by decide +kernel
theorem dX5_init_41 : decode cX5_init 41 = .ok (.newarray .int, 2) := by decide +kernel
theorem dX5_init_43 : decode cX5_init 43 = .ok (.putfield 28, 3) := by decide +kernel
theorem dX5_init_46 : decode cX5_init 46 = .ok (.aload_n 0, 1) := by decide +kernel
theorem dX5_init_47 : decode cX5_init 47 = .ok (.bipush 12, 2) := by decide +kernel
theorem dX5_init_49 : decode cX5_init 49 = .ok (.newarray .int, 2) := by decide +kernel
theorem dX5_init_51 : decode cX5_init 51 = .ok (.putfield 31, 3) := by decide +kernel
theorem dX5_init_54 : decode cX5_init 54 = .ok (.aload_n 0, 1) := by decide +kernel
theorem dX5_init_55 : decode cX5_init 55 = .ok (.bipush 12, 2) := by decide +kernel
theorem dX5_init_57 : decode cX5_init 57 = .ok (.newarray .int, 2) := by decide +kernel
theorem dX5_init_59 : decode cX5_init 59 = .ok (.putfield 34, 3) := by decide +kernel
theorem dX5_init_62 : decode cX5_init 62 = .ok (.aload_n 0, 1) := by decide +kernel
theorem dX5_init_63 : decode cX5_init 63 = .ok (.bipush 108, 2) := by decide +kernel
theorem dX5_init_65 : decode cX5_init 65 = .ok (.newarray .int, 2) := by decide +kernel
theorem dX5_init_67 : decode cX5_init 67 = .ok (.putfield 37, 3) := by decide +kernel
theorem dX5_init_70 : decode cX5_init 70 = .ok (.aload_n 0, 1) := by decide +kernel
theorem dX5_init_71 : decode cX5_init 71 = .ok (.sipush 480, 3) := by decide +kernel
theorem dX5_init_74 : decode cX5_init 74 = .ok (.newarray .int, 2) := by decide +kernel
theorem dX5_init_76 : decode cX5_init 76 = .ok (.putfield 40, 3) := by decide +kernel
theorem dX5_init_79 : decode cX5_init 79 = .ok (.aload_n 0, 1) := by decide +kernel
theorem dX5_init_80 : decode cX5_init 80 = .ok (.sipush 144, 3) := by decide +kernel
theorem dX5_init_83 : decode cX5_init 83 = .ok (.newarray .long, 2) := by decide +kernel
theorem dX5_init_85 : decode cX5_init 85 = .ok (.putfield 43, 3) := by decide +kernel
theorem dX5_init_88 : decode cX5_init 88 = .ok (.iconst 0, 1) := by decide +kernel
theorem dX5_init_89 : decode cX5_init 89 = .ok (.istore_n 1, 1) := by decide +kernel
theorem dX5_init_90 : decode cX5_init 90 = .ok (.iload_n 1, 1) := by decide +kernel
theorem dX5_init_91 : decode cX5_init 91 = .ok (.aload_n 0, 1) := by decide +kernel
theorem dX5_init_92 : decode cX5_init 92 = .ok (.getfield 37, 3) := by decide +kernel
theorem dX5_init_95 : decode cX5_init 95 = .ok (.arraylength, 1) := by decide +kernel
theorem dX5_init_96 : decode cX5_init 96 = .ok (.if_icmp .ge 34, 3) := by decide +kernel
theorem dX5_init_99 : decode cX5_init 99 = .ok (.aload_n 0, 1) := by decide +kernel
theorem dX5_init_100 : decode cX5_init 100 = .ok (.getfield 37, 3) := by decide +kernel
theorem dX5_init_103 : decode cX5_init 103 = .ok (.iload_n 1, 1) := by decide +kernel
theorem dX5_init_104 : decode cX5_init 104 = .ok (.iload_n 1, 1) := by decide +kernel
theorem dX5_init_105 : decode cX5_init 105 = .ok (.bipush 36, 2) := by decide +kernel
theorem dX5_init_107 : decode cX5_init 107 = .ok (.irem, 1) := by decide +kernel
theorem dX5_init_108 : decode cX5_init 108 = .ok (.bipush 6, 2) := by decide +kernel
theorem dX5_init_110 : decode cX5_init 110 = .ok (.idiv, 1) := by decide +kernel
theorem dX5_init_111 : decode cX5_init 111 = .ok (.iload_n 1, 1) := by decide +kernel
theorem dX5_init_112 : decode cX5_init 112 = .ok (.bipush 6, 2) := by decide +kernel
theorem dX5_init_114 : decode cX5_init 114 = .ok (.irem, 1) := by decide +kernel
theorem dX5_init_115 : decode cX5_init 115 = .ok (.if_icmp .ne 7, 3) := by decide +kernel
theorem dX5_init_118 : decode cX5_init 118 = .ok (.iconst 1, 1) := by decide +kernel
theorem dX5_init_119 : decode cX5_init 119 = .ok (.goto 4, 3) := by decide +kernel
theorem dX5_init_122 : decode cX5_init 122 = .ok (.iconst 0, 1) := by decide +kernel
theorem dX5_init_123 : decode cX5_init 123 = .ok (.iastore, 1) := by decide +kernel
theorem dX5_init_124 : decode cX5_init 124 = .ok (.iinc 1 1, 3) := by decide +kernel
theorem dX5_init_127 : decode cX5_init 127 = .ok (.goto (-37), 3) := by decide +kernel
theorem dX5_init_130 : decode cX5_init 130 = .ok (.iconst 0, 1) := by decide +kernel
theorem dX5_init_131 : decode cX5_init 131 = .ok (.istore_n 1, 1) := by decide +kernel
theorem dX5_init_132 : decode cX5_init 132 = .ok (.iload_n 1, 1) := by decide +kernel
theorem dX5_init_133 : decode cX5_init 133 = .ok (.aload_n 0, 1) := by decide +kernel
theorem dX5_init_134 : decode cX5_init 134 = .ok (.getfield 43, 3) := by decide +kernel
theorem dX5_init_137 : decode cX5_init 137 = .ok (.arraylength, 1) := by decide +kernel
theorem dX5_init_138 : decode cX5_init 138 = .ok (.if_icmp .ge 31, 3) := by decide +kernel
theorem dX5_init_141 : decode cX5_init 141 = .ok (.aload_n 0, 1) := by decide +kernel
theorem dX5_init_142 : decode cX5_init 142 = .ok (.getfield 43, 3) := by decide +kernel
theorem dX5_init_145 : decode cX5_init 145 = .ok (.iload_n 1, 1) := by decide +kernel
theorem dX5_init_146 : decode cX5_init 146 = .ok (.iload_n 1, 1) := by decide +kernel
theorem dX5_init_147 : decode cX5_init 147 = .ok (.iconst 4, 1) := by decide +kernel
theorem dX5_init_148 : decode cX5_init 148 = .ok (.irem, 1) := by decide +kernel
theorem dX5_init_149 : decode cX5_init 149 = .ok (.iconst 3, 1) := by decide +kernel
theorem dX5_init_150 : decode cX5_init 150 = .ok (.if_icmp .ne 9, 3) := by decide +kernel
theorem dX5_init_153 : decode cX5_init 153 = .ok (.ldc2_w 47, 3) := by decide +kernel
theorem dX5_init_156 : decode cX5_init 156 = .ok (.goto 6, 3) := by decide +kernel
theorem dX5_init_159 : decode cX5_init 159 = .ok (.ldc2_w 49, 3) := by decide +kernel
theorem dX5_init_162 : decode cX5_init 162 = .ok (.lastore, 1) := by decide +kernel
theorem dX5_init_163 : decode cX5_init 163 = .ok (.iinc 1 1, 3) := by decide +kernel
theorem dX5_init_166 : decode cX5_init 166 = .ok (.goto (-34), 3) := by decide +kernel
theorem dX5_init_169 : decode cX5_init 169 = .ok (.return_, 1) := by decide +kernel
theorem dX5_copyFrom_0 : decode cX5_copyFrom 0 = .ok (.aload_n 0, 1) := by decide +kernel
theorem dX5_copyFrom_1 : decode cX5_copyFrom 1 = .ok (.aload_n 1, 1) := by decide +kernel
theorem dX5_copyFrom_2 : decode cX5_copyFrom 2 = .ok (.getfield 51, 3) := by decide +kernel
theorem dX5_copyFrom_5 : decode cX5_copyFrom 5 = .ok (.putfield 51, 3) := by decide +kernel
theorem dX5_copyFrom_8 : decode cX5_copyFrom 8 = .ok (.aload_n 0, 1) := by decide +kernel
theorem dX5_copyFrom_9 : decode cX5_copyFrom 9 = .ok (.aload_n 1, 1) := by decide +kernel
theorem dX5_copyFrom_10 : decode cX5_copyFrom 10 = .ok (.getfield 54, 3) := by decide +kernel
theorem dX5_copyFrom_13 : decode cX5_copyFrom 13 = .ok (.putfield 54, 3) := by decide +kernel
theorem dX5_copyFrom_16 : decode cX5_copyFrom 16 = .ok (.aload_n 0, 1) := by decide +kernel
theorem dX5_copyFrom_17 : decode cX5_copyFrom 17 = .ok (.aload_n 1, 1) := by decide +kernel
theorem dX5_copyFrom_18 : decode cX5_copyFrom 18 = .ok (.getfield 57, 3) := by decide +kernel
theorem dX5_copyFrom_21 : decode cX5_copyFrom 21 = .ok (.putfield 57, 3) := by decide +kernel
theorem dX5_copyFrom_24 : decode cX5_copyFrom 24 = .ok (.aload_n 0, 1) := by decide +kernel
theorem dX5_copyFrom_25 : decode cX5_copyFrom 25 = .ok (.aload_n 1, 1) := by decide +kernel
theorem dX5_copyFrom_26 : decode cX5_copyFrom 26 = .ok (.getfield 60, 3) := by decide +kernel
theorem dX5_copyFrom_29 : decode cX5_copyFrom 29 = .ok (.putfield 60, 3) := by decide +kernel
theorem dX5_copyFrom_32 : decode cX5_copyFrom 32 = .ok (.aload_n 0, 1) := by decide +kernel
theorem dX5_copyFrom_33 : decode cX5_copyFrom 33 = .ok (.aload_n 1, 1) := by decide +kernel
theorem dX5_copyFrom_34 : decode cX5_copyFrom 34 = .ok (.getfield 11, 3) := by decide +kernel
theorem dX5_copyFrom_37 : decode cX5_copyFrom 37 = .ok (.putfield 11, 3) := by decide +kernel
theorem dX5_copyFrom_40 : decode cX5_copyFrom 40 = .ok (.aload_n 0, 1) := by decide +kernel
theorem dX5_copyFrom_41 : decode cX5_copyFrom 41 = .ok (.aload_n 1, 1) := by decide +kernel
theorem dX5_copyFrom_42 : decode cX5_copyFrom 42 = .ok (.getfield 63, 3) := by decide +kernel
theorem dX5_copyFrom_45 : decode cX5_copyFrom 45 = .ok (.putfield 63, 3) := by decide +kernel
theorem dX5_copyFrom_48 : decode cX5_copyFrom 48 = .ok (.aload_n 0, 1) := by decide +kernel
theorem dX5_copyFrom_49 : decode cX5_copyFrom 49 = .ok (.aload_n 1, 1) := by decide +kernel
theorem dX5_copyFrom_50 : decode cX5_copyFrom 50 = .ok (.getfield 66, 3) := by decide +kernel
theorem dX5_copyFrom_53 : decode cX5_copyFrom 53 = .ok (.putfield 66, 3) := by decide +kernel
theorem dX5_copyFrom_56 : decode cX5_copyFrom 56 = .ok (.aload_n 0, 1) := by decide +kernel
theorem dX5_copyFrom_57 : decode cX5_copyFrom 57 = .ok (.aload_n 1, 1) := by decide +kernel
theorem dX5_copyFrom_58 : decode cX5_copyFrom 58 = .ok (.getfield 15, 3) := by decide +kernel
theorem dX5_copyFrom_61 : decode cX5_copyFrom 61 = .ok (.putfield 15, 3) := by decide +kernel
theorem dX5_copyFrom_64 : decode cX5_copyFrom 64 = .ok (.aload_n 0, 1) := by decide +kernel
theorem dX5_copyFrom_65 : decode cX5_copyFrom 65 = .ok (.aload_n 1, 1) := by decide +kernel
theorem dX5_copyFrom_66 : decode cX5_copyFrom 66 = .ok (.getfield 69, 3) := by decide +kernel
theorem dX5_copyFrom_69 : decode cX5_copyFrom 69 = .ok (.putfield 69, 3) := by decide +kernel
theorem dX5_copyFrom_72 : decode cX5_copyFrom 72 = .ok (.aload_n 0, 1) := by decide +kernel
theorem dX5_copyFrom_73 : decode cX5_copyFrom 73 = .ok (.aload_n 1, 1) := by decide +kernel
theorem dX5_copyFrom_74 : decode cX5_copyFrom 74 = .ok (.getfield 72, 3) := by decide +kernel
theorem dX5_copyFrom_77 : decode cX5_copyFrom 77 = .ok (.putfield 72, 3) := by decide +kernel
theorem dX5_copyFrom_80 : decode cX5_copyFrom 80 = .ok (.aload_n 0, 1) := by decide +kernel
theorem dX5_copyFrom_81 : decode cX5_copyFrom 81 = .ok (.aload_n 1, 1) := by decide +kernel
theorem dX5_copyFrom_82 : decode cX5_copyFrom 82 = .ok (.getfield 75, 3) := by decide +kernel
theorem dX5_copyFrom_85 : decode cX5_copyFrom 85 = .ok (.putfield 75, 3) := by decide +kernel
theorem dX5_copyFrom_88 : decode cX5_copyFrom 88 = .ok (.aload_n 0, 1) := by decide +kernel
theorem dX5_copyFrom_89 : decode cX5_copyFrom 89 = .ok (.aload_n 1, 1) := by decide +kernel
theorem dX5_copyFrom_90 : decode cX5_copyFrom 90 = .ok (.getfield 78, 3) := by decide +kernel
theorem dX5_copyFrom_93 : decode cX5_copyFrom 93 = .ok (.putfield 78, 3) := by decide +kernel
theorem dX5_copyFrom_96 : decode cX5_copyFrom 96 = .ok (.aload_n 1, 1) := by decide +kernel
theorem dX5_copyFrom_97 : decode cX5_copyFrom 97 = .ok (.getfield 18, 3) := by decide +kernel
theorem dX5_copyFrom_100 : decode cX5_copyFrom 100 = .ok (.iconst 0, 1) := by decide +kernel
theorem dX5_copyFrom_101 : decode cX5_copyFrom 101 = .ok (.aload_n 0, 1) := by decide +kernel
theorem dX5_copyFrom_102 : decode cX5_copyFrom 102 = .ok (.getfield 18, 3) := by decide +kernel
theorem dX5_copyFrom_105 : decode cX5_copyFrom 105 = .ok (.iconst 0, 1) := by decide +kernel
theorem dX5_copyFrom_106 : decode cX5_copyFrom 106 = .ok (.aload_n 0, 1) := by decide +kernel
theorem dX5_copyFrom_107 : decode cX5_copyFrom 107 = .ok (.getfield 18, 3) := by decide +kernel
theorem dX5_copyFrom_110 : decode cX5_copyFrom 110 = .ok (.arraylength, 1) := by decide +kernel
theorem dX5_copyFrom_111 : decode cX5_copyFrom 111 = .ok (.invokestatic 81, 3) := by decide +kernel
theorem dX5_copyFrom_114 : decode cX5_copyFrom 114 = .ok (.aload_n 1, 1) := by decide +kernel
theorem dX5_copyFrom_115 : decode cX5_copyFrom 115 = .ok (.getfield 22, 3) := by decide +kernel
theorem dX5_copyFrom_118 : decode cX5_copyFrom 118 = .ok (.iconst 0, 1) := by decide +kernel
theorem dX5_copyFrom_119 : decode cX5_copyFrom 119 = .ok (.aload_n 0, 1) := by decide +kernel
theorem dX5_copyFrom_120 : decode cX5_copyFrom 120 = .ok (.getfield 22, 3) := by decide +kernel
theorem dX5_copyFrom_123 : decode cX5_copyFrom 123 = .ok (.iconst 0, 1) := by decide +kernel
theorem dX5_copyFrom_124 : decode cX5_copyFrom 124 = .ok (.aload_n 0, 1) := by decide +kernel
theorem dX5_copyFrom_125 : decode cX5_copyFrom 125 = .ok (.getfield 22, 3) := by decide +kernel
theorem dX5_copyFrom_128 : decode cX5_copyFrom 128 = .ok (.arraylength, 1) := by decide +kernel
theorem dX5_copyFrom_129 : decode cX5_copyFrom 129 = .ok (.invokestatic 81, 3) := by decide +kernel
theorem dX5_copyFrom_132 : decode cX5_copyFrom 132 = .ok (.aload_n 1, 1) := by decide +kernel
theorem dX5_copyFrom_133 : decode cX5_copyFrom 133 = .ok (.getfield 25, 3) := by decide +kernel
theorem dX5_copyFrom_136 : decode cX5_copyFrom 136 = .ok (.iconst 0, 1) := by decide +kernel
theorem dX5_copyFrom_137 : decode cX5_copyFrom 137 = .ok (.aload_n 0, 1) := by decide +kernel
theorem dX5_copyFrom_138 : decode cX5_copyFrom 138 = .ok (.getfield 25, 3) := by decide +kernel
theorem dX5_copyFrom_141 : decode cX5_copyFrom 141 = .ok (.iconst 0, 1) := by decide +kernel
theorem dX5_copyFrom_142 : decode cX5_copyFrom 142 = .ok (.aload_n 0, 1) := by decide +kernel
theorem dX5_copyFrom_143 : decode cX5_copyFrom 143 = .ok (.getfield 25, 3) := by decide +kernel
theorem dX5_copyFrom_146 : decode cX5_copyFrom 146 = .ok (.arraylength, 1) := by decide +kernel
theorem dX5_copyFrom_147 : decode cX5_copyFrom 147 = .ok (.invokestatic 81, 3) := by decide +kernel
theorem dX5_copyFrom_150 : decode cX5_copyFrom 150 = .ok (.aload_n 1, 1) := by decide +kernel
theorem dX5_copyFrom_151 : decode cX5_copyFrom 151 = .ok (.getfield 28, 3) := by decide +kernel
theorem dX5_copyFrom_154 : decode cX5_copyFrom 154 = .ok (.iconst 0, 1) := by decide +kernel
theorem dX5_copyFrom_155 : decode cX5_copyFrom 155 = .ok (.aload_n 0, 1) := by decide +kernel
theorem dX5_copyFrom_156 : decode cX5_copyFrom 156 = .ok (.getfield 28, 3) := by decide +kernel
theorem dX5_copyFrom_159 : decode cX5_copyFrom 159 = .ok (.iconst 0, 1) := by decide +kernel
theorem dX5_copyFrom_160 : decode cX5_copyFrom 160 = .ok (.aload_n 0, 1) := by decide +kernel
theorem dX5_copyFrom_161 : decode cX5_copyFrom 161 = .ok (.getfield 28, 3) := by decide +kernel
theorem dX5_copyFrom_164 : decode cX5_copyFrom 164 = .ok (.arraylength, 1) := by decide +kernel
theorem dX5_copyFrom_165 : decode cX5_copyFrom 165 = .ok (.invokestatic 81, 3) := by decide +kernel
theorem dX5_copyFrom_168 : decode cX5_copyFrom 168 = .ok (.aload_n 1, 1) := by decide +kernel
theorem dX5_copyFrom_169 : decode cX5_copyFrom 169 = .ok (.getfield 31, 3) := by decide +kernel
theorem dX5_copyFrom_172 : decode cX5_copyFrom 172 = .ok (.iconst 0, 1) := by decide +kernel
theorem dX5_copyFrom_173 : decode cX5_copyFrom 173 = .ok (.aload_n 0, 1) := by decide +kernel
theorem dX5_copyFrom_174 : decode cX5_copyFrom 174 = .ok (.getfield 31, 3) := by decide +kernel
theorem dX5_copyFrom_177 : decode cX5_copyFrom 177 = .ok (.iconst 0, 1) := by decide +kernel
theorem dX5_copyFrom_178 : decode cX5_copyFrom 178 = .ok (.aload_n 0, 1) := by decide +kernel
theorem dX5_copyFrom_179 : decode cX5_copyFrom 179 = .ok (.getfield 31, 3) := by decide +kernel
theorem dX5_copyFrom_182 : decode cX5_copyFrom 182 = .ok (.arraylength, 1) := by decide +kernel
theorem dX5_copyFrom_183 : decode cX5_copyFrom 183 = .ok (.invokestatic 81, 3) := by decide +kernel
theorem dX5_copyFrom_186 : decode cX5_copyFrom 186 = .ok (.aload_n 1, 1) := by decide +kernel
theorem dX5_copyFrom_187 : decode cX5_copyFrom 187 = .ok (.getfield 34, 3) := by decide +kernel
theorem dX5_copyFrom_190 : decode cX5_copyFrom 190 = .ok (.iconst 0, 1) := by decide +kernel
theorem dX5_copyFrom_191 : decode cX5_copyFrom 191 = .ok (.aload_n 0, 1) := by decide +kernel
theorem dX5_copyFrom_192 : decode cX5_copyFrom 192 = .ok (.getfield 34, 3) := by decide +kernel
theorem dX5_copyFrom_195 : decode cX5_copyFrom 195 = .ok (.iconst 0, 1) := by decide +kernel
theorem dX5_copyFrom_196 : decode cX5_copyFrom 196 = .ok (.aload_n 0, 1) := by decide +kernel
theorem dX5_copyFrom_197 : decode cX5_copyFrom 197 = .ok (.getfield 34, 3) := by decide +kernel
theorem dX5_copyFrom_200 : decode cX5_copyFrom 200 = .ok (.arraylength, 1) := by decide +kernel
theorem dX5_copyFrom_201 : decode cX5_copyFrom 201 = .ok (.invokestatic 81, 3) := by decide +kernel
theorem dX5_copyFrom_204 : decode cX5_copyFrom 204 = .ok (.aload_n 1, 1) := by decide +kernel
theorem dX5_copyFrom_205 : decode cX5_copyFrom 205 = .ok (.getfield 37, 3) := by decide +kernel
theorem dX5_copyFrom_208 : decode cX5_copyFrom 208 = .ok (.iconst 0, 1) := by decide +kernel
theorem dX5_copyFrom_209 : decode cX5_copyFrom 209 = .ok (.aload_n 0, 1) := by decide +kernel
theorem dX5_copyFrom_210 : decode cX5_copyFrom 210 = .ok (.getfield 37, 3) := by decide +kernel
theorem dX5_copyFrom_213 : decode cX5_copyFrom 213 = .ok (.iconst 0, 1) := by decide +kernel
theorem dX5_copyFrom_214 : decode cX5_copyFrom 214 = .ok (.aload_n 0, 1) := by decide +kernel
theorem dX5_copyFrom_215 : decode cX5_copyFrom 215 = .ok (.getfield 37, 3) := by decide +kernel
theorem dX5_copyFrom_218 : decode cX5_copyFrom 218 = .ok (.arraylength, 1) := by decide +kernel
theorem dX5_copyFrom_219 : decode cX5_copyFrom 219 = .ok (.invokestatic 81, 3) := by decide +kernel
theorem dX5_copyFrom_222 : decode cX5_copyFrom 222 = .ok (.aload_n 1, 1) := by decide +kernel
theorem dX5_copyFrom_223 : decode cX5_copyFrom 223 = .ok (.getfield 40, 3) := by decide +kernel
theorem dX5_copyFrom_226 : decode cX5_copyFrom 226 = .ok (.iconst 0, 1) := by decide +kernel
theorem dX5_copyFrom_227 : decode cX5_copyFrom 227 = .ok (.aload_n 0, 1) := by decide +kernel
theorem dX5_copyFrom_228 : decode cX5_copyFrom 228 = .ok (.getfield 40, 3) := by decide +kernel
theorem dX5_copyFrom_231 : decode cX5_copyFrom 231 = .ok (.iconst 0, 1) := by decide +kernel
theorem dX5_copyFrom_232 : decode cX5_copyFrom 232 = .ok (.aload_n 0, 1) := by decide +kernel
theorem dX5_copyFrom_233 : decode cX5_copyFrom 233 = .ok (.getfield 40, 3) := by decide +kernel
theorem dX5_copyFrom_236 : decode cX5_copyFrom 236 = .ok (.arraylength, 1) := by decide +kernel
theorem dX5_copyFrom_237 : decode cX5_copyFrom 237 = .ok (.invokestatic 81, 3) := by decide +kernel
theorem dX5_copyFrom_240 : decode cX5_copyFrom 240 = .ok (.aload_n 1, 1) := by decide +kernel
theorem dX5_copyFrom_241 : decode cX5_copyFrom 241 = .ok (.getfield 43, 3) := by decide +kernel
theorem dX5_copyFrom_244 : decode cX5_copyFrom 244 = .ok (.iconst 0, 1) := by decide +kernel
theorem dX5_copyFrom_245 : decode cX5_copyFrom 245 = .ok (.aload_n 0, 1) := by decide +kernel
theorem dX5_copyFrom_246 : decode cX5_copyFrom 246 = .ok (.getfield 43, 3) := by decide +kernel
theorem dX5_copyFrom_249 : decode cX5_copyFrom 249 = .ok (.iconst 0, 1) := by decide +kernel
theorem dX5_copyFrom_250 : decode cX5_copyFrom 250 = .ok (.aload_n 0, 1) := by decide +kernel
theorem dX5_copyFrom_251 : decode cX5_copyFrom 251 = .ok (.getfield 43, 3) := by decide +kernel
theorem dX5_copyFrom_254 : decode cX5_copyFrom 254 = .ok (.arraylength, 1) := by decide +kernel
theorem dX5_copyFrom_255 : decode cX5_copyFrom 255 = .ok (.invokestatic 81, 3) := by decide +kernel
theorem dX5_copyFrom_258 : decode cX5_copyFrom 258 = .ok (.return_, 1) := by decide +kernel
theorem dX5_obey_0 : decode cX5_obey 0 = .ok (.aload_n 1, 1) := by decide +kernel
theorem dX5_obey_1 : decode cX5_obey 1 = .ok (.iconst 0, 1) := by decide +kernel
theorem dX5_obey_2 : decode cX5_obey 2 = .ok (.aload_n 0, 1) := by decide +kernel
theorem dX5_obey_3 : decode cX5_obey 3 = .ok (.getfield 37, 3) := by decide +kernel
theorem dX5_obey_6 : decode cX5_obey 6 = .ok (.iconst 0, 1) := by decide +kernel
theorem dX5_obey_7 : decode cX5_obey 7 = .ok (.aload_n 0, 1) := by decide +kernel
theorem dX5_obey_8 : decode cX5_obey 8 = .ok (.getfield 37, 3) := by decide +kernel
theorem dX5_obey_11 : decode cX5_obey 11 = .ok (.arraylength, 1) := by decide +kernel
theorem dX5_obey_12 : decode cX5_obey 12 = .ok (.invokestatic 81, 3) := by decide +kernel
theorem dX5_obey_15 : decode cX5_obey 15 = .ok (.aload_n 0, 1) := by decide +kernel
theorem dX5_obey_16 : decode cX5_obey 16 = .ok (.iload_n 2, 1) := by decide +kernel
theorem dX5_obey_17 : decode cX5_obey 17 = .ok (.putfield 11, 3) := by decide +kernel
theorem dX5_obey_20 : decode cX5_obey 20 = .ok (.iconst 0, 1) := by decide +kernel
theorem dX5_obey_21 : decode cX5_obey 21 = .ok (.istore_n 3, 1) := by decide +kernel
theorem dX5_obey_22 : decode cX5_obey 22 = .ok (.iload_n 3, 1) := by decide +kernel
theorem dX5_obey_23 : decode cX5_obey 23 = .ok (.aload_n 0, 1) := by decide +kernel
theorem dX5_obey_24 : decode cX5_obey 24 = .ok (.getfield 54, 3) := by decide +kernel
theorem dX5_obey_27 : decode cX5_obey 27 = .ok (.if_icmp .ge 34, 3) := by decide +kernel
theorem dX5_obey_30 : decode cX5_obey 30 = .ok (.iconst 0, 1) := by decide +kernel
theorem dX5_obey_31 : decode cX5_obey 31 = .ok (.istore 4, 2) := by decide +kernel
theorem dX5_obey_33 : decode cX5_obey 33 = .ok (.iload 4, 2) := by decide +kernel
theorem dX5_obey_35 : decode cX5_obey 35 = .ok (.aload_n 0, 1) := by decide +kernel
theorem dX5_obey_36 : decode cX5_obey 36 = .ok (.getfield 51, 3) := by decide +kernel
theorem dX5_obey_39 : decode cX5_obey 39 = .ok (.if_icmp .ge 16, 3) := by decide +kernel
theorem dX5_obey_42 : decode cX5_obey 42 = .ok (.aload_n 0, 1) := by decide +kernel
theorem dX5_obey_43 : decode cX5_obey 43 = .ok (.iload_n 3, 1) := by decide +kernel
theorem dX5_obey_44 : decode cX5_obey 44 = .ok (.iload 4, 2) := by decide +kernel
theorem dX5_obey_46 : decode cX5_obey 46 = .ok (.invokevirtual 87, 3) := by decide +kernel
theorem dX5_obey_49 : decode cX5_obey 49 = .ok (.iinc 4 1, 3) := by decide +kernel
theorem dX5_obey_52 : decode cX5_obey 52 = .ok (.goto (-19), 3) := by decide +kernel
theorem dX5_obey_55 : decode cX5_obey 55 = .ok (.iinc 3 1, 3) := by decide +kernel
theorem dX5_obey_58 : decode cX5_obey 58 = .ok (.goto (-36), 3) := by decide +kernel
theorem dX5_obey_61 : decode cX5_obey 61 = .ok (.return_, 1) := by decide +kernel
theorem dX5_soundOf_0 : decode cX5_soundOf 0 = .ok (.aload_n 0, 1) := by decide +kernel
theorem dX5_soundOf_1 : decode cX5_soundOf 1 = .ok (.getfield 37, 3) := by decide +kernel
theorem dX5_soundOf_4 : decode cX5_soundOf 4 = .ok (.iload_n 1, 1) := by decide +kernel
theorem dX5_soundOf_5 : decode cX5_soundOf 5 = .ok (.bipush 36, 2) := by decide +kernel
theorem dX5_soundOf_7 : decode cX5_soundOf 7 = .ok (.idiv, 1) := by decide +kernel
theorem dX5_soundOf_8 : decode cX5_soundOf 8 = .ok (.bipush 6, 2) := by decide +kernel
theorem dX5_soundOf_10 : decode cX5_soundOf 10 = .ok (.imul, 1) := by decide +kernel
theorem dX5_soundOf_11 : decode cX5_soundOf 11 = .ok (.iload_n 2, 1) := by decide +kernel
theorem dX5_soundOf_12 : decode cX5_soundOf 12 = .ok (.bipush 36, 2) := by decide +kernel
theorem dX5_soundOf_14 : decode cX5_soundOf 14 = .ok (.idiv, 1) := by decide +kernel
theorem dX5_soundOf_15 : decode cX5_soundOf 15 = .ok (.iadd, 1) := by decide +kernel
theorem dX5_soundOf_16 : decode cX5_soundOf 16 = .ok (.iaload, 1) := by decide +kernel
theorem dX5_soundOf_17 : decode cX5_soundOf 17 = .ok (.aload_n 0, 1) := by decide +kernel
theorem dX5_soundOf_18 : decode cX5_soundOf 18 = .ok (.getfield 37, 3) := by decide +kernel
theorem dX5_soundOf_21 : decode cX5_soundOf 21 = .ok (.bipush 36, 2) := by decide +kernel
theorem dX5_soundOf_23 : decode cX5_soundOf 23 = .ok (.iload_n 1, 1) := by decide +kernel
theorem dX5_soundOf_24 : decode cX5_soundOf 24 = .ok (.bipush 6, 2) := by decide +kernel
theorem dX5_soundOf_26 : decode cX5_soundOf 26 = .ok (.idiv, 1) := by decide +kernel
theorem dX5_soundOf_27 : decode cX5_soundOf 27 = .ok (.bipush 6, 2) := by decide +kernel
theorem dX5_soundOf_29 : decode cX5_soundOf 29 = .ok (.irem, 1) := by decide +kernel
theorem dX5_soundOf_30 : decode cX5_soundOf 30 = .ok (.bipush 6, 2) := by decide +kernel
theorem dX5_soundOf_32 : decode cX5_soundOf 32 = .ok (.imul, 1) := by decide +kernel
theorem dX5_soundOf_33 : decode cX5_soundOf 33 = .ok (.iadd, 1) := by decide +kernel
theorem dX5_soundOf_34 : decode cX5_soundOf 34 = .ok (.iload_n 2, 1) := by decide +kernel
theorem dX5_soundOf_35 : decode cX5_soundOf 35 = .ok (.bipush 6, 2) := by decide +kernel
theorem dX5_soundOf_37 : decode cX5_soundOf 37 = .ok (.idiv, 1) := by decide +kernel
theorem dX5_soundOf_38 : decode cX5_soundOf 38 = .ok (.bipush 6, 2) := by decide +kernel
theorem dX5_soundOf_40 : decode cX5_soundOf 40 = .ok (.irem, 1) := by decide +kernel
theorem dX5_soundOf_41 : decode cX5_soundOf 41 = .ok (.iadd, 1) := by decide +kernel
theorem dX5_soundOf_42 : decode cX5_soundOf 42 = .ok (.iaload, 1) := by decide +kernel
theorem dX5_soundOf_43 : decode cX5_soundOf 43 = .ok (.iadd, 1) := by decide +kernel
theorem dX5_soundOf_44 : decode cX5_soundOf 44 = .ok (.aload_n 0, 1) := by decide +kernel
theorem dX5_soundOf_45 : decode cX5_soundOf 45 = .ok (.getfield 37, 3) := by decide +kernel
theorem dX5_soundOf_48 : decode cX5_soundOf 48 = .ok (.bipush 72, 2) := by decide +kernel
theorem dX5_soundOf_50 : decode cX5_soundOf 50 = .ok (.iload_n 1, 1) := by decide +kernel
theorem dX5_soundOf_51 : decode cX5_soundOf 51 = .ok (.bipush 6, 2) := by decide +kernel
theorem dX5_soundOf_53 : decode cX5_soundOf 53 = .ok (.irem, 1) := by decide +kernel
theorem dX5_soundOf_54 : decode cX5_soundOf 54 = .ok (.bipush 6, 2) := by decide +kernel
theorem dX5_soundOf_56 : decode cX5_soundOf 56 = .ok (.imul, 1) := by decide +kernel
theorem dX5_soundOf_57 : decode cX5_soundOf 57 = .ok (.iadd, 1) := by decide +kernel
theorem dX5_soundOf_58 : decode cX5_soundOf 58 = .ok (.iload_n 2, 1) := by decide +kernel
theorem dX5_soundOf_59 : decode cX5_soundOf 59 = .ok (.bipush 6, 2) := by decide +kernel
theorem dX5_soundOf_61 : decode cX5_soundOf 61 = .ok (.irem, 1) := by decide +kernel
theorem dX5_soundOf_62 : decode cX5_soundOf 62 = .ok (.iadd, 1) := by decide +kernel
theorem dX5_soundOf_63 : decode cX5_soundOf 63 = .ok (.iaload, 1) := by decide +kernel
theorem dX5_soundOf_64 : decode cX5_soundOf 64 = .ok (.iadd, 1) := by decide +kernel
theorem dX5_soundOf_65 : decode cX5_soundOf 65 = .ok (.ireturn, 1) := by decide +kernel
theorem dX5_rangeOf_0 : decode cX5_rangeOf 0 = .ok (.aload_n 0, 1) := by decide +kernel
theorem dX5_rangeOf_1 : decode cX5_rangeOf 1 = .ok (.iconst 0, 1) := by decide +kernel
theorem dX5_rangeOf_2 : decode cX5_rangeOf 2 = .ok (.iload_n 1, 1) := by decide +kernel
theorem dX5_rangeOf_3 : decode cX5_rangeOf 3 = .ok (.bipush 36, 2) := by decide +kernel
theorem dX5_rangeOf_5 : decode cX5_rangeOf 5 = .ok (.idiv, 1) := by decide +kernel
theorem dX5_rangeOf_6 : decode cX5_rangeOf 6 = .ok (.invokevirtual 91, 3) := by decide +kernel
theorem dX5_rangeOf_9 : decode cX5_rangeOf 9 = .ok (.aload_n 0, 1) := by decide +kernel
theorem dX5_rangeOf_10 : decode cX5_rangeOf 10 = .ok (.iconst 1, 1) := by decide +kernel
theorem dX5_rangeOf_11 : decode cX5_rangeOf 11 = .ok (.iload_n 1, 1) := by decide +kernel
theorem dX5_rangeOf_12 : decode cX5_rangeOf 12 = .ok (.bipush 6, 2) := by decide +kernel
theorem dX5_rangeOf_14 : decode cX5_rangeOf 14 = .ok (.idiv, 1) := by decide +kernel
theorem dX5_rangeOf_15 : decode cX5_rangeOf 15 = .ok (.bipush 6, 2) := by decide +kernel
theorem dX5_rangeOf_17 : decode cX5_rangeOf 17 = .ok (.irem, 1) := by decide +kernel
theorem dX5_rangeOf_18 : decode cX5_rangeOf 18 = .ok (.invokevirtual 91, 3) := by decide +kernel
theorem dX5_rangeOf_21 : decode cX5_rangeOf 21 = .ok (.iadd, 1) := by decide +kernel
theorem dX5_rangeOf_22 : decode cX5_rangeOf 22 = .ok (.aload_n 0, 1) := by decide +kernel
theorem dX5_rangeOf_23 : decode cX5_rangeOf 23 = .ok (.iconst 2, 1) := by decide +kernel
theorem dX5_rangeOf_24 : decode cX5_rangeOf 24 = .ok (.iload_n 1, 1) := by decide +kernel
theorem dX5_rangeOf_25 : decode cX5_rangeOf 25 = .ok (.bipush 6, 2) := by decide +kernel
theorem dX5_rangeOf_27 : decode cX5_rangeOf 27 = .ok (.irem, 1) := by decide +kernel
theorem dX5_rangeOf_28 : decode cX5_rangeOf 28 = .ok (.invokevirtual 91, 3) := by decide +kernel
theorem dX5_rangeOf_31 : decode cX5_rangeOf 31 = .ok (.iadd, 1) := by decide +kernel
theorem dX5_rangeOf_32 : decode cX5_rangeOf 32 = .ok (.ireturn, 1) := by decide +kernel
theorem dX5_wheelRange_0 : decode cX5_wheelRange 0 = .ok (.iload_n 1, 1) := by decide +kernel
theorem dX5_wheelRange_1 : decode cX5_wheelRange 1 = .ok (.bipush 36, 2) := by decide +kernel
theorem dX5_wheelRange_3 : decode cX5_wheelRange 3 = .ok (.imul, 1) := by decide +kernel
theorem dX5_wheelRange_4 : decode cX5_wheelRange 4 = .ok (.iload_n 2, 1) := by decide +kernel
theorem dX5_wheelRange_5 : decode cX5_wheelRange 5 = .ok (.bipush 6, 2) := by decide +kernel
theorem dX5_wheelRange_7 : decode cX5_wheelRange 7 = .ok (.imul, 1) := by decide +kernel
theorem dX5_wheelRange_8 : decode cX5_wheelRange 8 = .ok (.iadd, 1) := by decide +kernel
theorem dX5_wheelRange_9 : decode cX5_wheelRange 9 = .ok (.istore_n 3, 1) := by decide +kernel
theorem dX5_wheelRange_10 : decode cX5_wheelRange 10 = .ok (.aload_n 0, 1) := by decide +kernel
theorem dX5_wheelRange_11 : decode cX5_wheelRange 11 = .ok (.getfield 37, 3) := by decide +kernel
theorem dX5_wheelRange_14 : decode cX5_wheelRange 14 = .ok (.iload_n 3, 1) := by decide +kernel
theorem dX5_wheelRange_15 : decode cX5_wheelRange 15 = .ok (.iaload, 1) := by decide +kernel
theorem dX5_wheelRange_16 : decode cX5_wheelRange 16 = .ok (.istore 4, 2) := by decide +kernel
theorem dX5_wheelRange_18 : decode cX5_wheelRange 18 = .ok (.aload_n 0, 1) := by decide +kernel
theorem dX5_wheelRange_19 : decode cX5_wheelRange 19 = .ok (.getfield 37, 3) := by decide +kernel
theorem dX5_wheelRange_22 : decode cX5_wheelRange 22 = .ok (.iload_n 3, 1) := by decide +kernel
theorem dX5_wheelRange_23 : decode cX5_wheelRange 23 = .ok (.iaload, 1) := by decide +kernel
theorem dX5_wheelRange_24 : decode cX5_wheelRange 24 = .ok (.istore 5, 2) := by decide +kernel
theorem dX5_wheelRange_26 : decode cX5_wheelRange 26 = .ok (.iload_n 3, 1) := by decide +kernel
theorem dX5_wheelRange_27 : decode cX5_wheelRange 27 = .ok (.iconst 1, 1) := by decide +kernel
theorem dX5_wheelRange_28 : decode cX5_wheelRange 28 = .ok (.iadd, 1) := by decide +kernel
theorem dX5_wheelRange_29 : decode cX5_wheelRange 29 = .ok (.istore 6, 2) := by decide +kernel
theorem dX5_wheelRange_31 : decode cX5_wheelRange 31 = .ok (.iload 6, 2) := by decide +kernel
theorem dX5_wheelRange_33 : decode cX5_wheelRange 33 = .ok (.iload_n 3, 1) := by decide +kernel
theorem dX5_wheelRange_34 : decode cX5_wheelRange 34 = .ok (.bipush 6, 2) := by decide +kernel
theorem dX5_wheelRange_36 : decode cX5_wheelRange 36 = .ok (.iadd, 1) := by decide +kernel
theorem dX5_wheelRange_37 : decode cX5_wheelRange 37 = .ok (.if_icmp .ge 37, 3) := by decide +kernel
theorem dX5_wheelRange_40 : decode cX5_wheelRange 40 = .ok (.iload 4, 2) := by decide +kernel
theorem dX5_wheelRange_42 : decode cX5_wheelRange 42 = .ok (.aload_n 0, 1) := by decide +kernel
theorem dX5_wheelRange_43 : decode cX5_wheelRange 43 = .ok (.getfield 37, 3) := by decide +kernel
theorem dX5_wheelRange_46 : decode cX5_wheelRange 46 = .ok (.iload 6, 2) := by decide +kernel
theorem dX5_wheelRange_48 : decode cX5_wheelRange 48 = .ok (.iaload, 1) := by decide +kernel
theorem dX5_wheelRange_49 : decode cX5_wheelRange 49 = .ok (.invokestatic 95, 3) := by decide +kernel
theorem dX5_wheelRange_52 : decode cX5_wheelRange 52 = .ok (.istore 4, 2) := by decide +kernel
theorem dX5_wheelRange_54 : decode cX5_wheelRange 54 = .ok (.iload 5, 2) := by decide +kernel
theorem dX5_wheelRange_56 : decode cX5_wheelRange 56 = .ok (.aload_n 0, 1) := by decide +kernel
theorem dX5_wheelRange_57 : decode cX5_wheelRange 57 = .ok (.getfield 37, 3) := by decide +kernel
theorem dX5_wheelRange_60 : decode cX5_wheelRange 60 = .ok (.iload 6, 2) := by decide +kernel
theorem dX5_wheelRange_62 : decode cX5_wheelRange 62 = .ok (.iaload, 1) := by decide +kernel
theorem dX5_wheelRange_63 : decode cX5_wheelRange 63 = .ok (.invokestatic 100, 3) := by decide +kernel
theorem dX5_wheelRange_66 : decode cX5_wheelRange 66 = .ok (.istore 5, 2) := by decide +kernel
theorem dX5_wheelRange_68 : decode cX5_wheelRange 68 = .ok (.iinc 6 1, 3) := by decide +kernel
theorem dX5_wheelRange_71 : decode cX5_wheelRange 71 = .ok (.goto (-40), 3) := by decide +kernel
theorem dX5_wheelRange_74 : decode cX5_wheelRange 74 = .ok (.iload 5, 2) := by decide +kernel
theorem dX5_wheelRange_76 : decode cX5_wheelRange 76 = .ok (.iload 4, 2) := by decide +kernel
theorem dX5_wheelRange_78 : decode cX5_wheelRange 78 = .ok (.isub, 1) := by decide +kernel
theorem dX5_wheelRange_79 : decode cX5_wheelRange 79 = .ok (.ireturn, 1) := by decide +kernel
theorem dX5_leftOf_0 : decode cX5_leftOf 0 = .ok (.iload_n 1, 1) := by decide +kernel
theorem dX5_leftOf_1 : decode cX5_leftOf 1 = .ok (.iload_n 2, 1) := by decide +kernel
theorem dX5_leftOf_2 : decode cX5_leftOf 2 = .ok (.invokestatic 103, 3) := by decide +kernel
theorem dX5_leftOf_5 : decode cX5_leftOf 5 = .ok (.istore_n 3, 1) := by decide +kernel
theorem dX5_leftOf_6 : decode cX5_leftOf 6 = .ok (.iconst 0, 1) := by decide +kernel
theorem dX5_leftOf_7 : decode cX5_leftOf 7 = .ok (.istore 4, 2) := by decide +kernel
theorem dX5_leftOf_9 : decode cX5_leftOf 9 = .ok (.iload_n 3, 1) := by decide +kernel
theorem dX5_leftOf_10 : decode cX5_leftOf 10 = .ok (.istore 5, 2) := by decide +kernel
theorem dX5_leftOf_12 : decode cX5_leftOf 12 = .ok (.iload 5, 2) := by decide +kernel
theorem dX5_leftOf_14 : decode cX5_leftOf 14 = .ok (.iload_n 3, 1) := by decide +kernel
theorem dX5_leftOf_15 : decode cX5_leftOf 15 = .ok (.iconst 4, 1) := by decide +kernel
theorem dX5_leftOf_16 : decode cX5_leftOf 16 = .ok (.iadd, 1) := by decide +kernel
theorem dX5_leftOf_17 : decode cX5_leftOf 17 = .ok (.if_icmp .ge 24, 3) := by decide +kernel
theorem dX5_leftOf_20 : decode cX5_leftOf 20 = .ok (.iload 4, 2) := by decide +kernel
theorem dX5_leftOf_22 : decode cX5_leftOf 22 = .ok (.aload_n 0, 1) := by decide +kernel
theorem dX5_leftOf_23 : decode cX5_leftOf 23 = .ok (.getfield 43, 3) := by decide +kernel
theorem dX5_leftOf_26 : decode cX5_leftOf 26 = .ok (.iload 5, 2) := by decide +kernel
theorem dX5_leftOf_28 : decode cX5_leftOf 28 = .ok (.laload, 1) := by decide +kernel
theorem dX5_leftOf_29 : decode cX5_leftOf 29 = .ok (.invokestatic 106, 3) := by decide +kernel
theorem dX5_leftOf_32 : decode cX5_leftOf 32 = .ok (.iadd, 1) := by decide +kernel
theorem dX5_leftOf_33 : decode cX5_leftOf 33 = .ok (.istore 4, 2) := by decide +kernel
theorem dX5_leftOf_35 : decode cX5_leftOf 35 = .ok (.iinc 5 1, 3) := by decide +kernel
theorem dX5_leftOf_38 : decode cX5_leftOf 38 = .ok (.goto (-26), 3) := by decide +kernel
theorem dX5_leftOf_41 : decode cX5_leftOf 41 = .ok (.iload 4, 2) := by decide +kernel
theorem dX5_leftOf_43 : decode cX5_leftOf 43 = .ok (.ireturn, 1) := by decide +kernel
theorem dX5_leftOfAll_0 : decode cX5_leftOfAll 0 = .ok (.iconst 0, 1) := by decide +kernel
theorem dX5_leftOfAll_1 : decode cX5_leftOfAll 1 = .ok (.istore_n 3, 1) := by decide +kernel
theorem dX5_leftOfAll_2 : decode cX5_leftOfAll 2 = .ok (.iconst 0, 1) := by decide +kernel
theorem dX5_leftOfAll_3 : decode cX5_leftOfAll 3 = .ok (.istore 4, 2) := by decide +kernel
theorem dX5_leftOfAll_5 : decode cX5_leftOfAll 5 = .ok (.iload 4, 2) := by decide +kernel
theorem dX5_leftOfAll_7 : decode cX5_leftOfAll 7 = .ok (.iconst 4, 1) := by decide +kernel
theorem dX5_leftOfAll_8 : decode cX5_leftOfAll 8 = .ok (.if_icmp .ge 81, 3) := by decide +kernel
theorem dX5_leftOfAll_11 : decode cX5_leftOfAll 11 = .ok (.iload 4, 2) := by decide +kernel
theorem dX5_leftOfAll_13 : decode cX5_leftOfAll 13 = .ok (.iconst 3, 1) := by decide +kernel
theorem dX5_leftOfAll_14 : decode cX5_leftOfAll 14 = .ok (.if_icmp .ne 9, 3) := by decide +kernel
theorem dX5_leftOfAll_17 : decode cX5_leftOfAll 17 = .ok (.ldc2_w 47, 3) := by decide +kernel
theorem dX5_leftOfAll_20 : decode cX5_leftOfAll 20 = .ok (.goto 6, 3) := by decide +kernel
theorem dX5_leftOfAll_23 : decode cX5_leftOfAll 23 = .ok (.ldc2_w 49, 3) := by decide +kernel
theorem dX5_leftOfAll_26 : decode cX5_leftOfAll 26 = .ok (.lstore 5, 2) := by decide +kernel
theorem dX5_leftOfAll_28 : decode cX5_leftOfAll 28 = .ok (.iconst 0, 1) := by decide +kernel
theorem dX5_leftOfAll_29 : decode cX5_leftOfAll 29 = .ok (.istore 7, 2) := by decide +kernel
theorem dX5_leftOfAll_31 : decode cX5_leftOfAll 31 = .ok (.iload 7, 2) := by decide +kernel
theorem dX5_leftOfAll_33 : decode cX5_leftOfAll 33 = .ok (.aload_n 0, 1) := by decide +kernel
theorem dX5_leftOfAll_34 : decode cX5_leftOfAll 34 = .ok (.getfield 54, 3) := by decide +kernel
theorem dX5_leftOfAll_37 : decode cX5_leftOfAll 37 = .ok (.if_icmp .ge 38, 3) := by decide +kernel
theorem dX5_leftOfAll_40 : decode cX5_leftOfAll 40 = .ok (.iload_n 1, 1) := by decide +kernel
theorem dX5_leftOfAll_41 : decode cX5_leftOfAll 41 = .ok (.iload 7, 2) := by decide +kernel
theorem dX5_leftOfAll_43 : decode cX5_leftOfAll 43 = .ok (.ishr, 1) := by decide +kernel
theorem dX5_leftOfAll_44 : decode cX5_leftOfAll 44 = .ok (.iconst 1, 1) := by decide +kernel
theorem dX5_leftOfAll_45 : decode cX5_leftOfAll 45 = .ok (.iand, 1) := by decide +kernel
theorem dX5_leftOfAll_46 : decode cX5_leftOfAll 46 = .ok (.iconst 1, 1) := by decide +kernel
theorem dX5_leftOfAll_47 : decode cX5_leftOfAll 47 = .ok (.if_icmp .ne 22, 3) := by decide +kernel
theorem dX5_leftOfAll_50 : decode cX5_leftOfAll 50 = .ok (.lload 5, 2) := by decide +kernel
theorem dX5_leftOfAll_52 : decode cX5_leftOfAll 52 = .ok (.aload_n 0, 1) := by decide +kernel
theorem dX5_leftOfAll_53 : decode cX5_leftOfAll 53 = .ok (.getfield 43, 3) := by decide +kernel
theorem dX5_leftOfAll_56 : decode cX5_leftOfAll 56 = .ok (.iload 7, 2) := by decide +kernel
theorem dX5_leftOfAll_58 : decode cX5_leftOfAll 58 = .ok (.iload_n 2, 1) := by decide +kernel
theorem dX5_leftOfAll_59 : decode cX5_leftOfAll 59 = .ok (.invokestatic 103, 3) := by decide +kernel
theorem dX5_leftOfAll_62 : decode cX5_leftOfAll 62 = .ok (.iload 4, 2) := by decide +kernel
theorem dX5_leftOfAll_64 : decode cX5_leftOfAll 64 = .ok (.iadd, 1) := by decide +kernel
theorem dX5_leftOfAll_65 : decode cX5_leftOfAll 65 = .ok (.laload, 1) := by decide +kernel
theorem dX5_leftOfAll_66 : decode cX5_leftOfAll 66 = .ok (.land, 1) := by decide +kernel
theorem dX5_leftOfAll_67 : decode cX5_leftOfAll 67 = .ok (.lstore 5, 2) := by decide +kernel
theorem dX5_leftOfAll_69 : decode cX5_leftOfAll 69 = .ok (.iinc 7 1, 3) := by decide +kernel
theorem dX5_leftOfAll_72 : decode cX5_leftOfAll 72 = .ok (.goto (-41), 3) := by decide +kernel
theorem dX5_leftOfAll_75 : decode cX5_leftOfAll 75 = .ok (.iload_n 3, 1) := by decide +kernel
theorem dX5_leftOfAll_76 : decode cX5_leftOfAll 76 = .ok (.lload 5, 2) := by decide +kernel
theorem dX5_leftOfAll_78 : decode cX5_leftOfAll 78 = .ok (.invokestatic 106, 3) := by decide +kernel
theorem dX5_leftOfAll_81 : decode cX5_leftOfAll 81 = .ok (.iadd, 1) := by decide +kernel
theorem dX5_leftOfAll_82 : decode cX5_leftOfAll 82 = .ok (.istore_n 3, 1) := by decide +kernel
theorem dX5_leftOfAll_83 : decode cX5_leftOfAll 83 = .ok (.iinc 4 1, 3) := by decide +kernel
theorem dX5_leftOfAll_86 : decode cX5_leftOfAll 86 = .ok (.goto (-81), 3) := by decide +kernel
theorem dX5_leftOfAll_89 : decode cX5_leftOfAll 89 = .ok (.iload_n 3, 1) := by decide +kernel
theorem dX5_leftOfAll_90 : decode cX5_leftOfAll 90 = .ok (.ireturn, 1) := by decide +kernel
theorem dX5_canBe_0 : decode cX5_canBe 0 = .ok (.aload_n 0, 1) := by decide +kernel
theorem dX5_canBe_1 : decode cX5_canBe 1 = .ok (.getfield 43, 3) := by decide +kernel
theorem dX5_canBe_4 : decode cX5_canBe 4 = .ok (.iload_n 1, 1) := by decide +kernel
theorem dX5_canBe_5 : decode cX5_canBe 5 = .ok (.iload_n 2, 1) := by decide +kernel
theorem dX5_canBe_6 : decode cX5_canBe 6 = .ok (.invokestatic 103, 3) := by decide +kernel
theorem dX5_canBe_9 : decode cX5_canBe 9 = .ok (.iload_n 3, 1) := by decide +kernel
theorem dX5_canBe_10 : decode cX5_canBe 10 = .ok (.bipush 64, 2) := by decide +kernel
theorem dX5_canBe_12 : decode cX5_canBe 12 = .ok (.idiv, 1) := by decide +kernel
theorem dX5_canBe_13 : decode cX5_canBe 13 = .ok (.iadd, 1) := by decide +kernel
theorem dX5_canBe_14 : decode cX5_canBe 14 = .ok (.laload, 1) := by decide +kernel
theorem dX5_canBe_15 : decode cX5_canBe 15 = .ok (.iload_n 3, 1) := by decide +kernel
theorem dX5_canBe_16 : decode cX5_canBe 16 = .ok (.bipush 64, 2) := by decide +kernel
theorem dX5_canBe_18 : decode cX5_canBe 18 = .ok (.irem, 1) := by decide +kernel
theorem dX5_canBe_19 : decode cX5_canBe 19 = .ok (.lshr, 1) := by decide +kernel
theorem dX5_canBe_20 : decode cX5_canBe 20 = .ok (.lconst 1, 1) := by decide +kernel
theorem dX5_canBe_21 : decode cX5_canBe 21 = .ok (.land, 1) := by decide +kernel
theorem dX5_canBe_22 : decode cX5_canBe 22 = .ok (.lconst 1, 1) := by decide +kernel
theorem dX5_canBe_23 : decode cX5_canBe 23 = .ok (.lcmp, 1) := by decide +kernel
theorem dX5_canBe_24 : decode cX5_canBe 24 = .ok (.ifCond .ne 7, 3) := by decide +kernel
theorem dX5_canBe_27 : decode cX5_canBe 27 = .ok (.iconst 1, 1) := by decide +kernel
theorem dX5_canBe_28 : decode cX5_canBe 28 = .ok (.goto 4, 3) := by decide +kernel
theorem dX5_canBe_31 : decode cX5_canBe 31 = .ok (.iconst 0, 1) := by decide +kernel
theorem dX5_canBe_32 : decode cX5_canBe 32 = .ok (.ireturn, 1) := by decide +kernel
theorem dX5_know_0 : decode cX5_know 0 = .ok (.iload_n 1, 1) := by decide +kernel
theorem dX5_know_1 : decode cX5_know 1 = .ok (.iload_n 2, 1) := by decide +kernel
theorem dX5_know_2 : decode cX5_know 2 = .ok (.invokestatic 103, 3) := by decide +kernel
theorem dX5_know_5 : decode cX5_know 5 = .ok (.istore 4, 2) := by decide +kernel
theorem dX5_know_7 : decode cX5_know 7 = .ok (.iload 4, 2) := by decide +kernel
theorem dX5_know_9 : decode cX5_know 9 = .ok (.istore 5, 2) := by decide +kernel
theorem dX5_know_11 : decode cX5_know 11 = .ok (.iload 5, 2) := by decide +kernel
theorem dX5_know_13 : decode cX5_know 13 = .ok (.iload 4, 2) := by decide +kernel
theorem dX5_know_15 : decode cX5_know 15 = .ok (.iconst 4, 1) := by decide +kernel
theorem dX5_know_16 : decode cX5_know 16 = .ok (.iadd, 1) := by decide +kernel
theorem dX5_know_17 : decode cX5_know 17 = .ok (.if_icmp .ge 17, 3) := by decide +kernel
theorem dX5_know_20 : decode cX5_know 20 = .ok (.aload_n 0, 1) := by decide +kernel
theorem dX5_know_21 : decode cX5_know 21 = .ok (.getfield 43, 3) := by decide +kernel
theorem dX5_know_24 : decode cX5_know 24 = .ok (.iload 5, 2) := by decide +kernel
theorem dX5_know_26 : decode cX5_know 26 = .ok (.lconst 0, 1) := by decide +kernel
theorem dX5_know_27 : decode cX5_know 27 = .ok (.lastore, 1) := by decide +kernel
theorem dX5_know_28 : decode cX5_know 28 = .ok (.iinc 5 1, 3) := by decide +kernel
theorem dX5_know_31 : decode cX5_know 31 = .ok (.goto (-20), 3) := by decide +kernel
theorem dX5_know_34 : decode cX5_know 34 = .ok (.iconst 0, 1) := by decide +kernel
theorem dX5_know_35 : decode cX5_know 35 = .ok (.istore 5, 2) := by decide +kernel
theorem dX5_know_37 : decode cX5_know 37 = .ok (.iload 5, 2) := by decide +kernel
theorem dX5_know_39 : decode cX5_know 39 = .ok (.aload_n 3, 1) := by decide +kernel
theorem dX5_know_40 : decode cX5_know 40 = .ok (.getfield 112, 3) := by decide +kernel
theorem dX5_know_43 : decode cX5_know 43 = .ok (.if_icmp .ge 41, 3) := by decide +kernel
theorem dX5_know_46 : decode cX5_know 46 = .ok (.aload_n 3, 1) := by decide +kernel
theorem dX5_know_47 : decode cX5_know 47 = .ok (.getfield 117, 3) := by decide +kernel
theorem dX5_know_50 : decode cX5_know 50 = .ok (.iload 5, 2) := by decide +kernel
theorem dX5_know_52 : decode cX5_know 52 = .ok (.iaload, 1) := by decide +kernel
theorem dX5_know_53 : decode cX5_know 53 = .ok (.istore 6, 2) := by decide +kernel
theorem dX5_know_55 : decode cX5_know 55 = .ok (.aload_n 0, 1) := by decide +kernel
theorem dX5_know_56 : decode cX5_know 56 = .ok (.getfield 43, 3) := by decide +kernel
theorem dX5_know_59 : decode cX5_know 59 = .ok (.iload 4, 2) := by decide +kernel
theorem dX5_know_61 : decode cX5_know 61 = .ok (.iload 6, 2) := by decide +kernel
theorem dX5_know_63 : decode cX5_know 63 = .ok (.bipush 64, 2) := by decide +kernel
theorem dX5_know_65 : decode cX5_know 65 = .ok (.idiv, 1) := by decide +kernel
theorem dX5_know_66 : decode cX5_know 66 = .ok (.iadd, 1) := by decide +kernel
theorem dX5_know_67 : decode cX5_know 67 = .ok (.dup2, 1) := by decide +kernel
theorem dX5_know_68 : decode cX5_know 68 = .ok (.laload, 1) := by decide +kernel
theorem dX5_know_69 : decode cX5_know 69 = .ok (.lconst 1, 1) := by decide +kernel
theorem dX5_know_70 : decode cX5_know 70 = .ok (.iload 6, 2) := by decide +kernel
theorem dX5_know_72 : decode cX5_know 72 = .ok (.bipush 64, 2) := by decide +kernel
theorem dX5_know_74 : decode cX5_know 74 = .ok (.irem, 1) := by decide +kernel
theorem dX5_know_75 : decode cX5_know 75 = .ok (.lshl, 1) := by decide +kernel
theorem dX5_know_76 : decode cX5_know 76 = .ok (.lor, 1) := by decide +kernel
theorem dX5_know_77 : decode cX5_know 77 = .ok (.lastore, 1) := by decide +kernel
theorem dX5_know_78 : decode cX5_know 78 = .ok (.iinc 5 1, 3) := by decide +kernel
theorem dX5_know_81 : decode cX5_know 81 = .ok (.goto (-44), 3) := by decide +kernel
theorem dX5_know_84 : decode cX5_know 84 = .ok (.return_, 1) := by decide +kernel
theorem dX5_knowNothing_0 : decode cX5_knowNothing 0 = .ok (.iload_n 1, 1) := by decide +kernel
theorem dX5_knowNothing_1 : decode cX5_knowNothing 1 = .ok (.iload_n 2, 1) := by decide +kernel
theorem dX5_knowNothing_2 : decode cX5_knowNothing 2 = .ok (.invokestatic 103, 3) := by decide +kernel
theorem dX5_knowNothing_5 : decode cX5_knowNothing 5 = .ok (.istore_n 3, 1) := by decide +kernel
theorem dX5_knowNothing_6 : decode cX5_knowNothing 6 = .ok (.iload_n 3, 1) := by decide +kernel
theorem dX5_knowNothing_7 : decode cX5_knowNothing 7 = .ok (.istore 4, 2) := by decide +kernel
theorem dX5_knowNothing_9 : decode cX5_knowNothing 9 = .ok (.iload 4, 2) := by decide +kernel
theorem dX5_knowNothing_11 : decode cX5_knowNothing 11 = .ok (.iload_n 3, 1) := by decide +kernel
theorem dX5_knowNothing_12 : decode cX5_knowNothing 12 = .ok (.iconst 4, 1) := by decide +kernel
theorem dX5_knowNothing_13 : decode cX5_knowNothing 13 = .ok (.iadd, 1) := by decide +kernel
theorem dX5_knowNothing_14 : decode cX5_knowNothing 14 = .ok (.iconst 1, 1) := by decide +kernel
theorem dX5_knowNothing_15 : decode cX5_knowNothing 15 = .ok (.isub, 1) := by decide +kernel
theorem dX5_knowNothing_16 : decode cX5_knowNothing 16 = .ok (.if_icmp .ge 19, 3) := by decide +kernel
theorem dX5_knowNothing_19 : decode cX5_knowNothing 19 = .ok (.aload_n 0, 1) := by decide +kernel
theorem dX5_knowNothing_20 : decode cX5_knowNothing 20 = .ok (.getfield 43, 3) := by decide +kernel
theorem dX5_knowNothing_23 : decode cX5_knowNothing 23 = .ok (.iload 4, 2) := by decide +kernel
theorem dX5_knowNothing_25 : decode cX5_knowNothing 25 = .ok (.ldc2_w 49, 3) := by decide +kernel
theorem dX5_knowNothing_28 : decode cX5_knowNothing 28 = .ok (.lastore, 1) := by decide +kernel
theorem dX5_knowNothing_29 : decode cX5_knowNothing 29 = .ok (.iinc 4 1, 3) := by decide +kernel
theorem dX5_knowNothing_32 : decode cX5_knowNothing 32 = .ok (.goto (-23), 3) := by decide +kernel
theorem dX5_knowNothing_35 : decode cX5_knowNothing 35 = .ok (.aload_n 0, 1) := by decide +kernel
theorem dX5_knowNothing_36 : decode cX5_knowNothing 36 = .ok (.getfield 43, 3) := by decide +kernel
theorem dX5_knowNothing_39 : decode cX5_knowNothing 39 = .ok (.iload_n 3, 1) := by decide +kernel
theorem dX5_knowNothing_40 : decode cX5_knowNothing 40 = .ok (.iconst 4, 1) := by decide +kernel
theorem dX5_knowNothing_41 : decode cX5_knowNothing 41 = .ok (.iadd, 1) := by decide +kernel
theorem dX5_knowNothing_42 : decode cX5_knowNothing 42 = .ok (.iconst 1, 1) := by decide +kernel
theorem dX5_knowNothing_43 : decode cX5_knowNothing 43 = .ok (.isub, 1) := by decide +kernel
theorem dX5_knowNothing_44 : decode cX5_knowNothing 44 = .ok (.ldc2_w 47, 3) := by decide +kernel
theorem dX5_knowNothing_47 : decode cX5_knowNothing 47 = .ok (.lastore, 1) := by decide +kernel
theorem dX5_knowNothing_48 : decode cX5_knowNothing 48 = .ok (.return_, 1) := by decide +kernel
theorem dX5_learnFrom_0 : decode cX5_learnFrom 0 = .ok (.iload_n 1, 1) := by decide +kernel
theorem dX5_learnFrom_1 : decode cX5_learnFrom 1 = .ok (.iload_n 3, 1) := by decide +kernel
theorem dX5_learnFrom_2 : decode cX5_learnFrom 2 = .ok (.invokestatic 103, 3) := by decide +kernel
theorem dX5_learnFrom_5 : decode cX5_learnFrom 5 = .ok (.istore 4, 2) := by decide +kernel
theorem dX5_learnFrom_7 : decode cX5_learnFrom 7 = .ok (.iload_n 2, 1) := by decide +kernel
theorem dX5_learnFrom_8 : decode cX5_learnFrom 8 = .ok (.iload_n 3, 1) := by decide +kernel
theorem dX5_learnFrom_9 : decode cX5_learnFrom 9 = .ok (.invokestatic 103, 3) := by decide +kernel
theorem dX5_learnFrom_12 : decode cX5_learnFrom 12 = .ok (.istore 5, 2) := by decide +kernel
theorem dX5_learnFrom_14 : decode cX5_learnFrom 14 = .ok (.iconst 0, 1) := by decide +kernel
theorem dX5_learnFrom_15 : decode cX5_learnFrom 15 = .ok (.istore 6, 2) := by decide +kernel
theorem dX5_learnFrom_17 : decode cX5_learnFrom 17 = .ok (.iload 6, 2) := by decide +kernel
theorem dX5_learnFrom_19 : decode cX5_learnFrom 19 = .ok (.iconst 4, 1) := by decide +kernel
theorem dX5_learnFrom_20 : decode cX5_learnFrom 20 = .ok (.if_icmp .ge 32, 3) := by decide +kernel
theorem dX5_learnFrom_23 : decode cX5_learnFrom 23 = .ok (.aload_n 0, 1) := by decide +kernel
theorem dX5_learnFrom_24 : decode cX5_learnFrom 24 = .ok (.getfield 43, 3) := by decide +kernel
theorem dX5_learnFrom_27 : decode cX5_learnFrom 27 = .ok (.iload 4, 2) := by decide +kernel
theorem dX5_learnFrom_29 : decode cX5_learnFrom 29 = .ok (.iload 6, 2) := by decide +kernel
theorem dX5_learnFrom_31 : decode cX5_learnFrom 31 = .ok (.iadd, 1) := by decide +kernel
theorem dX5_learnFrom_32 : decode cX5_learnFrom 32 = .ok (.dup2, 1) := by decide +kernel
theorem dX5_learnFrom_33 : decode cX5_learnFrom 33 = .ok (.laload, 1) := by decide +kernel
theorem dX5_learnFrom_34 : decode cX5_learnFrom 34 = .ok (.aload_n 0, 1) := by decide +kernel
theorem dX5_learnFrom_35 : decode cX5_learnFrom 35 = .ok (.getfield 43, 3) := by decide +kernel
theorem dX5_learnFrom_38 : decode cX5_learnFrom 38 = .ok (.iload 5, 2) := by decide +kernel
theorem dX5_learnFrom_40 : decode cX5_learnFrom 40 = .ok (.iload 6, 2) := by decide +kernel
theorem dX5_learnFrom_42 : decode cX5_learnFrom 42 = .ok (.iadd, 1) := by decide +kernel
theorem dX5_learnFrom_43 : decode cX5_learnFrom 43 = .ok (.laload, 1) := by decide +kernel
theorem dX5_learnFrom_44 : decode cX5_learnFrom 44 = .ok (.land, 1) := by decide +kernel
theorem dX5_learnFrom_45 : decode cX5_learnFrom 45 = .ok (.lastore, 1) := by decide +kernel
theorem dX5_learnFrom_46 : decode cX5_learnFrom 46 = .ok (.iinc 6 1, 3) := by decide +kernel
theorem dX5_learnFrom_49 : decode cX5_learnFrom 49 = .ok (.goto (-32), 3) := by decide +kernel
theorem dX5_learnFrom_52 : decode cX5_learnFrom 52 = .ok (.return_, 1) := by decide +kernel
theorem dX5_wordsOf_0 : decode cX5_wordsOf 0 = .ok (.iload_n 0, 1) := by decide +kernel
theorem dX5_wordsOf_1 : decode cX5_wordsOf 1 = .ok (.bipush 6, 2) := by decide +kernel
theorem dX5_wordsOf_3 : decode cX5_wordsOf 3 = .ok (.imul, 1) := by decide +kernel
theorem dX5_wordsOf_4 : decode cX5_wordsOf 4 = .ok (.iload_n 1, 1) := by decide +kernel
theorem dX5_wordsOf_5 : decode cX5_wordsOf 5 = .ok (.iadd, 1) := by decide +kernel
theorem dX5_wordsOf_6 : decode cX5_wordsOf 6 = .ok (.iconst 4, 1) := by decide +kernel
theorem dX5_wordsOf_7 : decode cX5_wordsOf 7 = .ok (.imul, 1) := by decide +kernel
theorem dX5_wordsOf_8 : decode cX5_wordsOf 8 = .ok (.ireturn, 1) := by decide +kernel
theorem dX5_tellAnew_0 : decode cX5_tellAnew 0 = .ok (.aload_n 0, 1) := by decide +kernel
theorem dX5_tellAnew_1 : decode cX5_tellAnew 1 = .ok (.getfield 18, 3) := by decide +kernel
theorem dX5_tellAnew_4 : decode cX5_tellAnew 4 = .ok (.iload_n 1, 1) := by decide +kernel
theorem dX5_tellAnew_5 : decode cX5_tellAnew 5 = .ok (.iload_n 2, 1) := by decide +kernel
theorem dX5_tellAnew_6 : decode cX5_tellAnew 6 = .ok (.iastore, 1) := by decide +kernel
theorem dX5_tellAnew_7 : decode cX5_tellAnew 7 = .ok (.aload_n 0, 1) := by decide +kernel
theorem dX5_tellAnew_8 : decode cX5_tellAnew 8 = .ok (.dup, 1) := by decide +kernel
theorem dX5_tellAnew_9 : decode cX5_tellAnew 9 = .ok (.getfield 72, 3) := by decide +kernel
theorem dX5_tellAnew_12 : decode cX5_tellAnew 12 = .ok (.iconst 1, 1) := by decide +kernel
theorem dX5_tellAnew_13 : decode cX5_tellAnew 13 = .ok (.iload_n 1, 1) := by decide +kernel
theorem dX5_tellAnew_14 : decode cX5_tellAnew 14 = .ok (.ishl, 1) := by decide +kernel
theorem dX5_tellAnew_15 : decode cX5_tellAnew 15 = .ok (.iconst (-1), 1) := by decide +kernel
theorem dX5_tellAnew_16 : decode cX5_tellAnew 16 = .ok (.ixor, 1) := by decide +kernel
theorem dX5_tellAnew_17 : decode cX5_tellAnew 17 = .ok (.iand, 1) := by decide +kernel
theorem dX5_tellAnew_18 : decode cX5_tellAnew 18 = .ok (.putfield 72, 3) := by decide +kernel
theorem dX5_tellAnew_21 : decode cX5_tellAnew 21 = .ok (.iconst 0, 1) := by decide +kernel
theorem dX5_tellAnew_22 : decode cX5_tellAnew 22 = .ok (.istore_n 3, 1) := by decide +kernel
theorem dX5_tellAnew_23 : decode cX5_tellAnew 23 = .ok (.iload_n 3, 1) := by decide +kernel
theorem dX5_tellAnew_24 : decode cX5_tellAnew 24 = .ok (.aload_n 0, 1) := by decide +kernel
theorem dX5_tellAnew_25 : decode cX5_tellAnew 25 = .ok (.getfield 54, 3) := by decide +kernel
theorem dX5_tellAnew_28 : decode cX5_tellAnew 28 = .ok (.if_icmp .ge 15, 3) := by decide +kernel
theorem dX5_tellAnew_31 : decode cX5_tellAnew 31 = .ok (.aload_n 0, 1) := by decide +kernel
theorem dX5_tellAnew_32 : decode cX5_tellAnew 32 = .ok (.iload_n 3, 1) := by decide +kernel
theorem dX5_tellAnew_33 : decode cX5_tellAnew 33 = .ok (.iload_n 1, 1) := by decide +kernel
theorem dX5_tellAnew_34 : decode cX5_tellAnew 34 = .ok (.invokevirtual 87, 3) := by decide +kernel
theorem dX5_tellAnew_37 : decode cX5_tellAnew 37 = .ok (.iinc 3 1, 3) := by decide +kernel
theorem dX5_tellAnew_40 : decode cX5_tellAnew 40 = .ok (.goto (-17), 3) := by decide +kernel
theorem dX5_tellAnew_43 : decode cX5_tellAnew 43 = .ok (.return_, 1) := by decide +kernel
theorem dX5_isGuarded_0 : decode cX5_isGuarded 0 = .ok (.aload_n 0, 1) := by decide +kernel
theorem dX5_isGuarded_1 : decode cX5_isGuarded 1 = .ok (.getfield 22, 3) := by decide +kernel
theorem dX5_isGuarded_4 : decode cX5_isGuarded 4 = .ok (.iload_n 1, 1) := by decide +kernel
theorem dX5_isGuarded_5 : decode cX5_isGuarded 5 = .ok (.iaload, 1) := by decide +kernel
theorem dX5_isGuarded_6 : decode cX5_isGuarded 6 = .ok (.aload_n 0, 1) := by decide +kernel
theorem dX5_isGuarded_7 : decode cX5_isGuarded 7 = .ok (.getfield 63, 3) := by decide +kernel
theorem dX5_isGuarded_10 : decode cX5_isGuarded 10 = .ok (.bipush 7, 2) := by decide +kernel
theorem dX5_isGuarded_12 : decode cX5_isGuarded 12 = .ok (.irem, 1) := by decide +kernel
theorem dX5_isGuarded_13 : decode cX5_isGuarded 13 = .ok (.ishr, 1) := by decide +kernel
theorem dX5_isGuarded_14 : decode cX5_isGuarded 14 = .ok (.iconst 1, 1) := by decide +kernel
theorem dX5_isGuarded_15 : decode cX5_isGuarded 15 = .ok (.iand, 1) := by decide +kernel
theorem dX5_isGuarded_16 : decode cX5_isGuarded 16 = .ok (.iconst 1, 1) := by decide +kernel
theorem dX5_isGuarded_17 : decode cX5_isGuarded 17 = .ok (.if_icmp .ne 7, 3) := by decide +kernel
theorem dX5_isGuarded_20 : decode cX5_isGuarded 20 = .ok (.iconst 1, 1) := by decide +kernel
theorem dX5_isGuarded_21 : decode cX5_isGuarded 21 = .ok (.goto 4, 3) := by decide +kernel
theorem dX5_isGuarded_24 : decode cX5_isGuarded 24 = .ok (.iconst 0, 1) := by decide +kernel
theorem dX5_isGuarded_25 : decode cX5_isGuarded 25 = .ok (.ireturn, 1) := by decide +kernel
theorem dX5_guardedToday_0 : decode cX5_guardedToday 0 = .ok (.iconst 0, 1) := by decide +kernel
theorem dX5_guardedToday_1 : decode cX5_guardedToday 1 = .ok (.istore_n 1, 1) := by decide +kernel
theorem dX5_guardedToday_2 : decode cX5_guardedToday 2 = .ok (.iconst 0, 1) := by decide +kernel
theorem dX5_guardedToday_3 : decode cX5_guardedToday 3 = .ok (.istore_n 2, 1) := by decide +kernel
theorem dX5_guardedToday_4 : decode cX5_guardedToday 4 = .ok (.iload_n 2, 1) := by decide +kernel
theorem dX5_guardedToday_5 : decode cX5_guardedToday 5 = .ok (.aload_n 0, 1) := by decide +kernel
theorem dX5_guardedToday_6 : decode cX5_guardedToday 6 = .ok (.getfield 51, 3) := by decide +kernel
theorem dX5_guardedToday_9 : decode cX5_guardedToday 9 = .ok (.if_icmp .ge 23, 3) := by decide +kernel
theorem dX5_guardedToday_12 : decode cX5_guardedToday 12 = .ok (.aload_n 0, 1) := by decide +kernel
theorem dX5_guardedToday_13 : decode cX5_guardedToday 13 = .ok (.iload_n 2, 1) := by decide +kernel
theorem dX5_guardedToday_14 : decode cX5_guardedToday 14 = .ok (.invokevirtual 120, 3) := by decide +kernel
theorem dX5_guardedToday_17 : decode cX5_guardedToday 17 = .ok (.ifCond .eq 9, 3) := by decide +kernel
theorem dX5_guardedToday_20 : decode cX5_guardedToday 20 = .ok (.iload_n 1, 1) := by decide +kernel
theorem dX5_guardedToday_21 : decode cX5_guardedToday 21 = .ok (.iconst 1, 1) := by decide +kernel
theorem dX5_guardedToday_22 : decode cX5_guardedToday 22 = .ok (.iload_n 2, 1) := by decide +kernel
theorem dX5_guardedToday_23 : decode cX5_guardedToday 23 = .ok (.ishl, 1) := by decide +kernel
theorem dX5_guardedToday_24 : decode cX5_guardedToday 24 = .ok (.ior, 1) := by decide +kernel
theorem dX5_guardedToday_25 : decode cX5_guardedToday 25 = .ok (.istore_n 1, 1) := by decide +kernel
theorem dX5_guardedToday_26 : decode cX5_guardedToday 26 = .ok (.iinc 2 1, 3) := by decide +kernel
theorem dX5_guardedToday_29 : decode cX5_guardedToday 29 = .ok (.goto (-25), 3) := by decide +kernel
theorem dX5_guardedToday_32 : decode cX5_guardedToday 32 = .ok (.iload_n 1, 1) := by decide +kernel
theorem dX5_guardedToday_33 : decode cX5_guardedToday 33 = .ok (.ireturn, 1) := by decide +kernel
theorem dX5_shareOf_0 : decode cX5_shareOf 0 = .ok (.aload_n 0, 1) := by decide +kernel
theorem dX5_shareOf_1 : decode cX5_shareOf 1 = .ok (.iload_n 1, 1) := by decide +kernel
theorem dX5_shareOf_2 : decode cX5_shareOf 2 = .ok (.iload_n 2, 1) := by decide +kernel
theorem dX5_shareOf_3 : decode cX5_shareOf 3 = .ok (.invokevirtual 124, 3) := by decide +kernel
theorem dX5_shareOf_6 : decode cX5_shareOf 6 = .ok (.istore_n 3, 1) := by decide +kernel
theorem dX5_shareOf_7 : decode cX5_shareOf 7 = .ok (.iload_n 3, 1) := by decide +kernel
theorem dX5_shareOf_8 : decode cX5_shareOf 8 = .ok (.ifCond .ne 7, 3) := by decide +kernel
theorem dX5_shareOf_11 : decode cX5_shareOf 11 = .ok (.iconst 0, 1) := by decide +kernel
theorem dX5_shareOf_12 : decode cX5_shareOf 12 = .ok (.goto 11, 3) := by decide +kernel
theorem dX5_shareOf_15 : decode cX5_shareOf 15 = .ok (.aload_n 0, 1) := by decide +kernel
theorem dX5_shareOf_16 : decode cX5_shareOf 16 = .ok (.getfield 25, 3) := by decide +kernel
theorem dX5_shareOf_19 : decode cX5_shareOf 19 = .ok (.iload_n 2, 1) := by decide +kernel
theorem dX5_shareOf_20 : decode cX5_shareOf 20 = .ok (.iaload, 1) := by decide +kernel
theorem dX5_shareOf_21 : decode cX5_shareOf 21 = .ok (.iload_n 3, 1) := by decide +kernel
theorem dX5_shareOf_22 : decode cX5_shareOf 22 = .ok (.idiv, 1) := by decide +kernel
theorem dX5_shareOf_23 : decode cX5_shareOf 23 = .ok (.ireturn, 1) := by decide +kernel
theorem dX5_worthOfAll_0 : decode cX5_worthOfAll 0 = .ok (.iconst 0, 1) := by decide +kernel
theorem dX5_worthOfAll_1 : decode cX5_worthOfAll 1 = .ok (.istore_n 1, 1) := by decide +kernel
theorem dX5_worthOfAll_2 : decode cX5_worthOfAll 2 = .ok (.iconst 0, 1) := by decide +kernel
theorem dX5_worthOfAll_3 : decode cX5_worthOfAll 3 = .ok (.istore_n 2, 1) := by decide +kernel
theorem dX5_worthOfAll_4 : decode cX5_worthOfAll 4 = .ok (.iload_n 2, 1) := by decide +kernel
theorem dX5_worthOfAll_5 : decode cX5_worthOfAll 5 = .ok (.aload_n 0, 1) := by decide +kernel
theorem dX5_worthOfAll_6 : decode cX5_worthOfAll 6 = .ok (.getfield 51, 3) := by decide +kernel
theorem dX5_worthOfAll_9 : decode cX5_worthOfAll 9 = .ok (.if_icmp .ge 18, 3) := by decide +kernel
theorem dX5_worthOfAll_12 : decode cX5_worthOfAll 12 = .ok (.iload_n 1, 1) := by decide +kernel
theorem dX5_worthOfAll_13 : decode cX5_worthOfAll 13 = .ok (.aload_n 0, 1) := by decide +kernel
theorem dX5_worthOfAll_14 : decode cX5_worthOfAll 14 = .ok (.getfield 25, 3) := by decide +kernel
theorem dX5_worthOfAll_17 : decode cX5_worthOfAll 17 = .ok (.iload_n 2, 1) := by decide +kernel
theorem dX5_worthOfAll_18 : decode cX5_worthOfAll 18 = .ok (.iaload, 1) := by decide +kernel
theorem dX5_worthOfAll_19 : decode cX5_worthOfAll 19 = .ok (.iadd, 1) := by decide +kernel
theorem dX5_worthOfAll_20 : decode cX5_worthOfAll 20 = .ok (.istore_n 1, 1) := by decide +kernel
theorem dX5_worthOfAll_21 : decode cX5_worthOfAll 21 = .ok (.iinc 2 1, 3) := by decide +kernel
theorem dX5_worthOfAll_24 : decode cX5_worthOfAll 24 = .ok (.goto (-20), 3) := by decide +kernel
theorem dX5_worthOfAll_27 : decode cX5_worthOfAll 27 = .ok (.iload_n 1, 1) := by decide +kernel
theorem dX5_worthOfAll_28 : decode cX5_worthOfAll 28 = .ok (.ireturn, 1) := by decide +kernel
theorem dX5_write_0 : decode cX5_write 0 = .ok (.aload_n 0, 1) := by decide +kernel
theorem dX5_write_1 : decode cX5_write 1 = .ok (.getfield 78, 3) := by decide +kernel
theorem dX5_write_4 : decode cX5_write 4 = .ok (.bipush 6, 2) := by decide +kernel
theorem dX5_write_6 : decode cX5_write 6 = .ok (.imul, 1) := by decide +kernel
theorem dX5_write_7 : decode cX5_write 7 = .ok (.istore 5, 2) := by decide +kernel
theorem dX5_write_9 : decode cX5_write 9 = .ok (.aload_n 0, 1) := by decide +kernel
theorem dX5_write_10 : decode cX5_write 10 = .ok (.getfield 40, 3) := by decide +kernel
theorem dX5_write_13 : decode cX5_write 13 = .ok (.iload 5, 2) := by decide +kernel
theorem dX5_write_15 : decode cX5_write 15 = .ok (.iconst 0, 1) := by decide +kernel
theorem dX5_write_16 : decode cX5_write 16 = .ok (.iadd, 1) := by decide +kernel
theorem dX5_write_17 : decode cX5_write 17 = .ok (.aload_n 0, 1) := by decide +kernel
theorem dX5_write_18 : decode cX5_write 18 = .ok (.getfield 63, 3) := by decide +kernel
theorem dX5_write_21 : decode cX5_write 21 = .ok (.iastore, 1) := by decide +kernel
theorem dX5_write_22 : decode cX5_write 22 = .ok (.aload_n 0, 1) := by decide +kernel
theorem dX5_write_23 : decode cX5_write 23 = .ok (.getfield 40, 3) := by decide +kernel
theorem dX5_write_26 : decode cX5_write 26 = .ok (.iload 5, 2) := by decide +kernel
theorem dX5_write_28 : decode cX5_write 28 = .ok (.iconst 1, 1) := by decide +kernel
theorem dX5_write_29 : decode cX5_write 29 = .ok (.iadd, 1) := by decide +kernel
theorem dX5_write_30 : decode cX5_write 30 = .ok (.iload_n 1, 1) := by decide +kernel
theorem dX5_write_31 : decode cX5_write 31 = .ok (.iastore, 1) := by decide +kernel
theorem dX5_write_32 : decode cX5_write 32 = .ok (.aload_n 0, 1) := by decide +kernel
theorem dX5_write_33 : decode cX5_write 33 = .ok (.getfield 40, 3) := by decide +kernel
theorem dX5_write_36 : decode cX5_write 36 = .ok (.iload 5, 2) := by decide +kernel
theorem dX5_write_38 : decode cX5_write 38 = .ok (.iconst 2, 1) := by decide +kernel
theorem dX5_write_39 : decode cX5_write 39 = .ok (.iadd, 1) := by decide +kernel
theorem dX5_write_40 : decode cX5_write 40 = .ok (.iload_n 2, 1) := by decide +kernel
theorem dX5_write_41 : decode cX5_write 41 = .ok (.iastore, 1) := by decide +kernel
theorem dX5_write_42 : decode cX5_write 42 = .ok (.aload_n 0, 1) := by decide +kernel
theorem dX5_write_43 : decode cX5_write 43 = .ok (.getfield 40, 3) := by decide +kernel
theorem dX5_write_46 : decode cX5_write 46 = .ok (.iload 5, 2) := by decide +kernel
theorem dX5_write_48 : decode cX5_write 48 = .ok (.iconst 3, 1) := by decide +kernel
theorem dX5_write_49 : decode cX5_write 49 = .ok (.iadd, 1) := by decide +kernel
theorem dX5_write_50 : decode cX5_write 50 = .ok (.iload_n 3, 1) := by decide +kernel
theorem dX5_write_51 : decode cX5_write 51 = .ok (.iastore, 1) := by decide +kernel
theorem dX5_write_52 : decode cX5_write 52 = .ok (.aload_n 0, 1) := by decide +kernel
theorem dX5_write_53 : decode cX5_write 53 = .ok (.getfield 40, 3) := by decide +kernel
theorem dX5_write_56 : decode cX5_write 56 = .ok (.iload 5, 2) := by decide +kernel
theorem dX5_write_58 : decode cX5_write 58 = .ok (.iconst 4, 1) := by decide +kernel
theorem dX5_write_59 : decode cX5_write 59 = .ok (.iadd, 1) := by decide +kernel
theorem dX5_write_60 : decode cX5_write 60 = .ok (.iload 4, 2) := by decide +kernel
theorem dX5_write_62 : decode cX5_write 62 = .ok (.iastore, 1) := by decide +kernel
theorem dX5_write_63 : decode cX5_write 63 = .ok (.aload_n 0, 1) := by decide +kernel
theorem dX5_write_64 : decode cX5_write 64 = .ok (.getfield 40, 3) := by decide +kernel
theorem dX5_write_67 : decode cX5_write 67 = .ok (.iload 5, 2) := by decide +kernel
theorem dX5_write_69 : decode cX5_write 69 = .ok (.iconst 5, 1) := by decide +kernel
theorem dX5_write_70 : decode cX5_write 70 = .ok (.iadd, 1) := by decide +kernel
theorem dX5_write_71 : decode cX5_write 71 = .ok (.iload_n 3, 1) := by decide +kernel
theorem dX5_write_72 : decode cX5_write 72 = .ok (.aload_n 0, 1) := by decide +kernel
theorem dX5_write_73 : decode cX5_write 73 = .ok (.getfield 18, 3) := by decide +kernel
theorem dX5_write_76 : decode cX5_write 76 = .ok (.iload_n 2, 1) := by decide +kernel
theorem dX5_write_77 : decode cX5_write 77 = .ok (.iaload, 1) := by decide +kernel
theorem dX5_write_78 : decode cX5_write 78 = .ok (.if_icmp .ne 7, 3) := by decide +kernel
theorem dX5_write_81 : decode cX5_write 81 = .ok (.iconst 1, 1) := by decide +kernel
theorem dX5_write_82 : decode cX5_write 82 = .ok (.goto 4, 3) := by decide +kernel
theorem dX5_write_85 : decode cX5_write 85 = .ok (.iconst 0, 1) := by decide +kernel
theorem dX5_write_86 : decode cX5_write 86 = .ok (.iastore, 1) := by decide +kernel
theorem dX5_write_87 : decode cX5_write 87 = .ok (.aload_n 0, 1) := by decide +kernel
theorem dX5_write_88 : decode cX5_write 88 = .ok (.aload_n 0, 1) := by decide +kernel
theorem dX5_write_89 : decode cX5_write 89 = .ok (.getfield 78, 3) := by decide +kernel
theorem dX5_write_92 : decode cX5_write 92 = .ok (.iconst 1, 1) := by decide +kernel
theorem dX5_write_93 : decode cX5_write 93 = .ok (.iadd, 1) := by decide +kernel
theorem dX5_write_94 : decode cX5_write 94 = .ok (.bipush 80, 2) := by decide +kernel
theorem dX5_write_96 : decode cX5_write 96 = .ok (.irem, 1) := by decide +kernel
theorem dX5_write_97 : decode cX5_write 97 = .ok (.putfield 78, 3) := by decide +kernel
theorem dX5_write_100 : decode cX5_write 100 = .ok (.aload_n 0, 1) := by decide +kernel
theorem dX5_write_101 : decode cX5_write 101 = .ok (.bipush 80, 2) := by decide +kernel
theorem dX5_write_103 : decode cX5_write 103 = .ok (.aload_n 0, 1) := by decide +kernel
theorem dX5_write_104 : decode cX5_write 104 = .ok (.getfield 75, 3) := by decide +kernel
theorem dX5_write_107 : decode cX5_write 107 = .ok (.iconst 1, 1) := by decide +kernel
theorem dX5_write_108 : decode cX5_write 108 = .ok (.iadd, 1) := by decide +kernel
theorem dX5_write_109 : decode cX5_write 109 = .ok (.invokestatic 95, 3) := by decide +kernel
theorem dX5_write_112 : decode cX5_write 112 = .ok (.putfield 75, 3) := by decide +kernel
theorem dX5_write_115 : decode cX5_write 115 = .ok (.return_, 1) := by decide +kernel
theorem dX5_rowCell_0 : decode cX5_rowCell 0 = .ok (.aload_n 0, 1) := by decide +kernel
theorem dX5_rowCell_1 : decode cX5_rowCell 1 = .ok (.getfield 40, 3) := by decide +kernel
theorem dX5_rowCell_4 : decode cX5_rowCell 4 = .ok (.aload_n 0, 1) := by decide +kernel
theorem dX5_rowCell_5 : decode cX5_rowCell 5 = .ok (.getfield 78, 3) := by decide +kernel
theorem dX5_rowCell_8 : decode cX5_rowCell 8 = .ok (.bipush 80, 2) := by decide +kernel
theorem dX5_rowCell_10 : decode cX5_rowCell 10 = .ok (.iadd, 1) := by decide +kernel
theorem dX5_rowCell_11 : decode cX5_rowCell 11 = .ok (.iconst 1, 1) := by decide +kernel
theorem dX5_rowCell_12 : decode cX5_rowCell 12 = .ok (.isub, 1) := by decide +kernel
theorem dX5_rowCell_13 : decode cX5_rowCell 13 = .ok (.iload_n 1, 1) := by decide +kernel
theorem dX5_rowCell_14 : decode cX5_rowCell 14 = .ok (.isub, 1) := by decide +kernel
theorem dX5_rowCell_15 : decode cX5_rowCell 15 = .ok (.bipush 80, 2) := by decide +kernel
theorem dX5_rowCell_17 : decode cX5_rowCell 17 = .ok (.irem, 1) := by decide +kernel
theorem dX5_rowCell_18 : decode cX5_rowCell 18 = .ok (.bipush 6, 2) := by decide +kernel
theorem dX5_rowCell_20 : decode cX5_rowCell 20 = .ok (.imul, 1) := by decide +kernel
theorem dX5_rowCell_21 : decode cX5_rowCell 21 = .ok (.iload_n 2, 1) := by decide +kernel
theorem dX5_rowCell_22 : decode cX5_rowCell 22 = .ok (.iadd, 1) := by decide +kernel
theorem dX5_rowCell_23 : decode cX5_rowCell 23 = .ok (.iaload, 1) := by decide +kernel
theorem dX5_rowCell_24 : decode cX5_rowCell 24 = .ok (.ireturn, 1) := by decide +kernel
theorem dX5_isOpenContract_0 : decode cX5_isOpenContract 0 = .ok (.aload_n 0, 1) := by decide +kernel
theorem dX5_isOpenContract_1 : decode cX5_isOpenContract 1 = .ok (.getfield 34, 3) := by decide +kernel
theorem dX5_isOpenContract_4 : decode cX5_isOpenContract 4 = .ok (.iload_n 1, 1) := by decide +kernel
theorem dX5_isOpenContract_5 : decode cX5_isOpenContract 5 = .ok (.iaload, 1) := by decide +kernel
theorem dX5_isOpenContract_6 : decode cX5_isOpenContract 6 = .ok (.iconst (-1), 1) := by decide +kernel
theorem dX5_isOpenContract_7 : decode cX5_isOpenContract 7 = .ok (.if_icmp .eq 7, 3) := by decide +kernel
theorem dX5_isOpenContract_10 : decode cX5_isOpenContract 10 = .ok (.iconst 1, 1) := by decide +kernel
theorem dX5_isOpenContract_11 : decode cX5_isOpenContract 11 = .ok (.goto 4, 3) := by decide +kernel
theorem dX5_isOpenContract_14 : decode cX5_isOpenContract 14 = .ok (.iconst 0, 1) := by decide +kernel
theorem dX5_isOpenContract_15 : decode cX5_isOpenContract 15 = .ok (.ireturn, 1) := by decide +kernel
theorem dX5_isBroken_0 : decode cX5_isBroken 0 = .ok (.aload_n 0, 1) := by decide +kernel
theorem dX5_isBroken_1 : decode cX5_isBroken 1 = .ok (.iload_n 1, 1) := by decide +kernel
theorem dX5_isBroken_2 : decode cX5_isBroken 2 = .ok (.invokevirtual 127, 3) := by decide +kernel
theorem dX5_isBroken_5 : decode cX5_isBroken 5 = .ok (.istore_n 2, 1) := by decide +kernel
theorem dX5_isBroken_6 : decode cX5_isBroken 6 = .ok (.iload_n 2, 1) := by decide +kernel
theorem dX5_isBroken_7 : decode cX5_isBroken 7 = .ok (.ifCond .eq 18, 3) := by decide +kernel
theorem dX5_isBroken_10 : decode cX5_isBroken 10 = .ok (.aload_n 0, 1) := by decide +kernel
theorem dX5_isBroken_11 : decode cX5_isBroken 11 = .ok (.getfield 63, 3) := by decide +kernel
theorem dX5_isBroken_14 : decode cX5_isBroken 14 = .ok (.aload_n 0, 1) := by decide +kernel
theorem dX5_isBroken_15 : decode cX5_isBroken 15 = .ok (.getfield 34, 3) := by decide +kernel
theorem dX5_isBroken_18 : decode cX5_isBroken 18 = .ok (.iload_n 1, 1) := by decide +kernel
theorem dX5_isBroken_19 : decode cX5_isBroken 19 = .ok (.iaload, 1) := by decide +kernel
theorem dX5_isBroken_20 : decode cX5_isBroken 20 = .ok (.if_icmp .gt 5, 3) := by decide +kernel
theorem dX5_isBroken_23 : decode cX5_isBroken 23 = .ok (.iconst 0, 1) := by decide +kernel
theorem dX5_isBroken_24 : decode cX5_isBroken 24 = .ok (.ireturn, 1) := by decide +kernel
theorem dX5_isBroken_25 : decode cX5_isBroken 25 = .ok (.iconst 0, 1) := by decide +kernel
theorem dX5_isBroken_26 : decode cX5_isBroken 26 = .ok (.istore_n 3, 1) := by decide +kernel
theorem dX5_isBroken_27 : decode cX5_isBroken 27 = .ok (.iload_n 3, 1) := by decide +kernel
theorem dX5_isBroken_28 : decode cX5_isBroken 28 = .ok (.aload_n 0, 1) := by decide +kernel
theorem dX5_isBroken_29 : decode cX5_isBroken 29 = .ok (.getfield 75, 3) := by decide +kernel
theorem dX5_isBroken_32 : decode cX5_isBroken 32 = .ok (.if_icmp .ge 102, 3) := by decide +kernel
theorem dX5_isBroken_35 : decode cX5_isBroken 35 = .ok (.aload_n 0, 1) := by decide +kernel
theorem dX5_isBroken_36 : decode cX5_isBroken 36 = .ok (.iload_n 3, 1) := by decide +kernel
theorem dX5_isBroken_37 : decode cX5_isBroken 37 = .ok (.iconst 1, 1) := by decide +kernel
theorem dX5_isBroken_38 : decode cX5_isBroken 38 = .ok (.invokevirtual 130, 3) := by decide +kernel
theorem dX5_isBroken_41 : decode cX5_isBroken 41 = .ok (.aload_n 0, 1) := by decide +kernel
theorem dX5_isBroken_42 : decode cX5_isBroken 42 = .ok (.getfield 28, 3) := by decide +kernel
theorem dX5_isBroken_45 : decode cX5_isBroken 45 = .ok (.iload_n 1, 1) := by decide +kernel
theorem dX5_isBroken_46 : decode cX5_isBroken 46 = .ok (.iaload, 1) := by decide +kernel
theorem dX5_isBroken_47 : decode cX5_isBroken 47 = .ok (.if_icmp .ne 22, 3) := by decide +kernel
theorem dX5_isBroken_50 : decode cX5_isBroken 50 = .ok (.aload_n 0, 1) := by decide +kernel
theorem dX5_isBroken_51 : decode cX5_isBroken 51 = .ok (.iload_n 3, 1) := by decide +kernel
theorem dX5_isBroken_52 : decode cX5_isBroken 52 = .ok (.iconst 2, 1) := by decide +kernel
theorem dX5_isBroken_53 : decode cX5_isBroken 53 = .ok (.invokevirtual 130, 3) := by decide +kernel
theorem dX5_isBroken_56 : decode cX5_isBroken 56 = .ok (.aload_n 0, 1) := by decide +kernel
theorem dX5_isBroken_57 : decode cX5_isBroken 57 = .ok (.getfield 31, 3) := by decide +kernel
theorem dX5_isBroken_60 : decode cX5_isBroken 60 = .ok (.iload_n 1, 1) := by decide +kernel
theorem dX5_isBroken_61 : decode cX5_isBroken 61 = .ok (.iaload, 1) := by decide +kernel
theorem dX5_isBroken_62 : decode cX5_isBroken 62 = .ok (.if_icmp .ne 7, 3) := by decide +kernel
theorem dX5_isBroken_65 : decode cX5_isBroken 65 = .ok (.iconst 1, 1) := by decide +kernel
theorem dX5_isBroken_66 : decode cX5_isBroken 66 = .ok (.goto 4, 3) := by decide +kernel
theorem dX5_isBroken_69 : decode cX5_isBroken 69 = .ok (.iconst 0, 1) := by decide +kernel
theorem dX5_isBroken_70 : decode cX5_isBroken 70 = .ok (.istore 4, 2) := by decide +kernel
theorem dX5_isBroken_72 : decode cX5_isBroken 72 = .ok (.aload_n 0, 1) := by decide +kernel
theorem dX5_isBroken_73 : decode cX5_isBroken 73 = .ok (.iload_n 3, 1) := by decide +kernel
theorem dX5_isBroken_74 : decode cX5_isBroken 74 = .ok (.iconst 5, 1) := by decide +kernel
theorem dX5_isBroken_75 : decode cX5_isBroken 75 = .ok (.invokevirtual 130, 3) := by decide +kernel
theorem dX5_isBroken_78 : decode cX5_isBroken 78 = .ok (.iconst 1, 1) := by decide +kernel
theorem dX5_isBroken_79 : decode cX5_isBroken 79 = .ok (.if_icmp .ne 22, 3) := by decide +kernel
theorem dX5_isBroken_82 : decode cX5_isBroken 82 = .ok (.aload_n 0, 1) := by decide +kernel
theorem dX5_isBroken_83 : decode cX5_isBroken 83 = .ok (.iload_n 3, 1) := by decide +kernel
theorem dX5_isBroken_84 : decode cX5_isBroken 84 = .ok (.iconst 0, 1) := by decide +kernel
theorem dX5_isBroken_85 : decode cX5_isBroken 85 = .ok (.invokevirtual 130, 3) := by decide +kernel
theorem dX5_isBroken_88 : decode cX5_isBroken 88 = .ok (.aload_n 0, 1) := by decide +kernel
theorem dX5_isBroken_89 : decode cX5_isBroken 89 = .ok (.getfield 34, 3) := by decide +kernel
theorem dX5_isBroken_92 : decode cX5_isBroken 92 = .ok (.iload_n 1, 1) := by decide +kernel
theorem dX5_isBroken_93 : decode cX5_isBroken 93 = .ok (.iaload, 1) := by decide +kernel
theorem dX5_isBroken_94 : decode cX5_isBroken 94 = .ok (.if_icmp .gt 7, 3) := by decide +kernel
theorem dX5_isBroken_97 : decode cX5_isBroken 97 = .ok (.iconst 1, 1) := by decide +kernel
theorem dX5_isBroken_98 : decode cX5_isBroken 98 = .ok (.goto 4, 3) := by decide +kernel
theorem dX5_isBroken_101 : decode cX5_isBroken 101 = .ok (.iconst 0, 1) := by decide +kernel
theorem dX5_isBroken_102 : decode cX5_isBroken 102 = .ok (.istore 5, 2) := by decide +kernel
theorem dX5_isBroken_104 : decode cX5_isBroken 104 = .ok (.iload 4, 2) := by decide +kernel
theorem dX5_isBroken_106 : decode cX5_isBroken 106 = .ok (.ifCond .eq 22, 3) := by decide +kernel
theorem dX5_isBroken_109 : decode cX5_isBroken 109 = .ok (.iload_n 2, 1) := by decide +kernel
theorem dX5_isBroken_110 : decode cX5_isBroken 110 = .ok (.ifCond .eq 8, 3) := by decide +kernel
theorem dX5_isBroken_113 : decode cX5_isBroken 113 = .ok (.iload 5, 2) := by decide +kernel
theorem dX5_isBroken_115 : decode cX5_isBroken 115 = .ok (.ifCond .eq 13, 3) := by decide +kernel
theorem dX5_isBroken_118 : decode cX5_isBroken 118 = .ok (.iload_n 2, 1) := by decide +kernel
theorem dX5_isBroken_119 : decode cX5_isBroken 119 = .ok (.ifCond .ne 7, 3) := by decide +kernel
theorem dX5_isBroken_122 : decode cX5_isBroken 122 = .ok (.iconst 1, 1) := by decide +kernel
theorem dX5_isBroken_123 : decode cX5_isBroken 123 = .ok (.goto 4, 3) := by decide +kernel
theorem dX5_isBroken_126 : decode cX5_isBroken 126 = .ok (.iconst 0, 1) := by decide +kernel
theorem dX5_isBroken_127 : decode cX5_isBroken 127 = .ok (.ireturn, 1) := by decide +kernel
theorem dX5_isBroken_128 : decode cX5_isBroken 128 = .ok (.iinc 3 1, 3) := by decide +kernel
theorem dX5_isBroken_131 : decode cX5_isBroken 131 = .ok (.goto (-104), 3) := by decide +kernel
theorem dX5_isBroken_134 : decode cX5_isBroken 134 = .ok (.iload_n 2, 1) := by decide +kernel
theorem dX5_isBroken_135 : decode cX5_isBroken 135 = .ok (.ireturn, 1) := by decide +kernel
theorem dX5_quarrelsOf_0 : decode cX5_quarrelsOf 0 = .ok (.iconst 0, 1) := by decide +kernel
theorem dX5_quarrelsOf_1 : decode cX5_quarrelsOf 1 = .ok (.istore_n 2, 1) := by decide +kernel
theorem dX5_quarrelsOf_2 : decode cX5_quarrelsOf 2 = .ok (.iconst 0, 1) := by decide +kernel
theorem dX5_quarrelsOf_3 : decode cX5_quarrelsOf 3 = .ok (.istore_n 3, 1) := by decide +kernel
theorem dX5_quarrelsOf_4 : decode cX5_quarrelsOf 4 = .ok (.iload_n 3, 1) := by decide +kernel
theorem dX5_quarrelsOf_5 : decode cX5_quarrelsOf 5 = .ok (.aload_n 0, 1) := by decide +kernel
theorem dX5_quarrelsOf_6 : decode cX5_quarrelsOf 6 = .ok (.getfield 57, 3) := by decide +kernel
theorem dX5_quarrelsOf_9 : decode cX5_quarrelsOf 9 = .ok (.if_icmp .ge 58, 3) := by decide +kernel
theorem dX5_quarrelsOf_12 : decode cX5_quarrelsOf 12 = .ok (.aload_n 0, 1) := by decide +kernel
theorem dX5_quarrelsOf_13 : decode cX5_quarrelsOf 13 = .ok (.getfield 28, 3) := by decide +kernel
theorem dX5_quarrelsOf_16 : decode cX5_quarrelsOf 16 = .ok (.iload_n 3, 1) := by decide +kernel
theorem dX5_quarrelsOf_17 : decode cX5_quarrelsOf 17 = .ok (.iaload, 1) := by decide +kernel
theorem dX5_quarrelsOf_18 : decode cX5_quarrelsOf 18 = .ok (.aload_n 0, 1) := by decide +kernel
theorem dX5_quarrelsOf_19 : decode cX5_quarrelsOf 19 = .ok (.getfield 28, 3) := by decide +kernel
theorem dX5_quarrelsOf_22 : decode cX5_quarrelsOf 22 = .ok (.iload_n 1, 1) := by decide +kernel
theorem dX5_quarrelsOf_23 : decode cX5_quarrelsOf 23 = .ok (.iaload, 1) := by decide +kernel
theorem dX5_quarrelsOf_24 : decode cX5_quarrelsOf 24 = .ok (.if_icmp .ne 37, 3) := by decide +kernel
theorem dX5_quarrelsOf_27 : decode cX5_quarrelsOf 27 = .ok (.aload_n 0, 1) := by decide +kernel
theorem dX5_quarrelsOf_28 : decode cX5_quarrelsOf 28 = .ok (.getfield 31, 3) := by decide +kernel
theorem dX5_quarrelsOf_31 : decode cX5_quarrelsOf 31 = .ok (.iload_n 3, 1) := by decide +kernel
theorem dX5_quarrelsOf_32 : decode cX5_quarrelsOf 32 = .ok (.iaload, 1) := by decide +kernel
theorem dX5_quarrelsOf_33 : decode cX5_quarrelsOf 33 = .ok (.aload_n 0, 1) := by decide +kernel
theorem dX5_quarrelsOf_34 : decode cX5_quarrelsOf 34 = .ok (.getfield 31, 3) := by decide +kernel
theorem dX5_quarrelsOf_37 : decode cX5_quarrelsOf 37 = .ok (.iload_n 1, 1) := by decide +kernel
theorem dX5_quarrelsOf_38 : decode cX5_quarrelsOf 38 = .ok (.iaload, 1) := by decide +kernel
theorem dX5_quarrelsOf_39 : decode cX5_quarrelsOf 39 = .ok (.if_icmp .ne 22, 3) := by decide +kernel
theorem dX5_quarrelsOf_42 : decode cX5_quarrelsOf 42 = .ok (.aload_n 0, 1) := by decide +kernel
theorem dX5_quarrelsOf_43 : decode cX5_quarrelsOf 43 = .ok (.iload_n 3, 1) := by decide +kernel
theorem dX5_quarrelsOf_44 : decode cX5_quarrelsOf 44 = .ok (.invokevirtual 127, 3) := by decide +kernel
theorem dX5_quarrelsOf_47 : decode cX5_quarrelsOf 47 = .ok (.aload_n 0, 1) := by decide +kernel
theorem dX5_quarrelsOf_48 : decode cX5_quarrelsOf 48 = .ok (.iload_n 1, 1) := by decide +kernel
theorem dX5_quarrelsOf_49 : decode cX5_quarrelsOf 49 = .ok (.invokevirtual 127, 3) := by decide +kernel
theorem dX5_quarrelsOf_52 : decode cX5_quarrelsOf 52 = .ok (.if_icmp .eq 9, 3) := by decide +kernel
theorem dX5_quarrelsOf_55 : decode cX5_quarrelsOf 55 = .ok (.iload_n 2, 1) := by decide +kernel
theorem dX5_quarrelsOf_56 : decode cX5_quarrelsOf 56 = .ok (.iconst 1, 1) := by decide +kernel
theorem dX5_quarrelsOf_57 : decode cX5_quarrelsOf 57 = .ok (.iload_n 3, 1) := by decide +kernel
theorem dX5_quarrelsOf_58 : decode cX5_quarrelsOf 58 = .ok (.ishl, 1) := by decide +kernel
theorem dX5_quarrelsOf_59 : decode cX5_quarrelsOf 59 = .ok (.ior, 1) := by decide +kernel
theorem dX5_quarrelsOf_60 : decode cX5_quarrelsOf 60 = .ok (.istore_n 2, 1) := by decide +kernel
theorem dX5_quarrelsOf_61 : decode cX5_quarrelsOf 61 = .ok (.iinc 3 1, 3) := by decide +kernel
theorem dX5_quarrelsOf_64 : decode cX5_quarrelsOf 64 = .ok (.goto (-60), 3) := by decide +kernel
theorem dX5_quarrelsOf_67 : decode cX5_quarrelsOf 67 = .ok (.iload_n 2, 1) := by decide +kernel
theorem dX5_quarrelsOf_68 : decode cX5_quarrelsOf 68 = .ok (.ireturn, 1) := by decide +kernel
