theorem dX5_init_0 : decode cX5_init 0 = .ok (.aload_n 0, 1) := by decide +kernel
theorem dX5_init_1 : decode cX5_init 1 = .ok (.invokespecial 1, 3) := by decide +kernel
theorem dX5_init_4 : decode cX5_init 4 = .ok (.aload_n 0, 1) := by decide +kernel
theorem dX5_init_5 : decode cX5_init 5 = .ok (.iconst 4, 1) := by decide +kernel
theorem dX5_init_6 : decode cX5_init 6 = .ok (.newarray .int, 2) := by decide +kernel
theorem dX5_init_8 : decode cX5_init 8 = .ok (.putfield 7, 3) := by decide +kernel
theorem dX5_init_11 : decode cX5_init 11 = .ok (.aload_n 0, 1) := by decide +kernel
theorem dX5_init_12 : decode cX5_init 12 = .ok (.bipush 32, 2) := by decide +kernel
theorem dX5_init_14 : decode cX5_init 14 = .ok (.newarray .int, 2) := by decide +kernel
theorem dX5_init_16 : decode cX5_init 16 = .ok (.putfield 13, 3) := by decide +kernel
theorem dX5_init_19 : decode cX5_init 19 = .ok (.aload_n 0, 1) := by decide +kernel
theorem dX5_init_20 : decode cX5_init 20 = .ok (.bipush 32, 2) := by decide +kernel
theorem dX5_init_22 : decode cX5_init 22 = .ok (.newarray .int, 2) := by decide +kernel
theorem dX5_init_24 : decode cX5_init 24 = .ok (.putfield 16, 3) := by decide +kernel
theorem dX5_init_27 : decode cX5_init 27 = .ok (.aload_n 0, 1) := by decide +kernel
theorem dX5_init_28 : decode cX5_init 28 = .ok (.bipush 32, 2) := by decide +kernel
theorem dX5_init_30 : decode cX5_init 30 = .ok (.newarray .int, 2) := by decide +kernel
theorem dX5_init_32 : decode cX5_init 32 = .ok (.putfield 19, 3) := by decide +kernel
theorem dX5_init_35 : decode cX5_init 35 = .ok (.aload_n 0, 1) := by decide +kernel
theorem dX5_init_36 : decode cX5_init 36 = .ok (.bipush 20, 2) := by decide +kernel
theorem dX5_init_38 : decode cX5_init 38 = .ok (.newarray .int, 2) := by decide +kernel
theorem dX5_init_40 : decode cX5_init 40 = .ok (.putfield 22, 3) := by decide +kernel
theorem dX5_init_43 : decode cX5_init 43 = .ok (.aload_n 0, 1) := by decide +kernel
theorem dX5_init_44 : decode cX5_init 44 = .ok (.sipush 160, 3) := by decide +kernel
theorem dX5_init_47 : decode cX5_init 47 = .ok (.newarray .int, 2) := by decide +kernel
theorem dX5_init_49 : decode cX5_init 49 = .ok (.putfield 25, 3) := by decide +kernel
theorem dX5_init_52 : decode cX5_init 52 = .ok (.aload_n 0, 1) := by decide +kernel
theorem dX5_init_53 : decode cX5_init 53 = .ok (.bipush 24, 2) := by decide +kernel
theorem dX5_init_55 : decode cX5_init 55 = .ok (.newarray .int, 2) := by decide +kernel
theorem dX5_init_57 : decode cX5_init 57 = .ok (.putfield 28, 3) := by decide +kernel
theorem dX5_init_60 : decode cX5_init 60 = .ok (.aload_n 0, 1) := by decide +kernel
theorem dX5_init_61 : decode cX5_init 61 = .ok (.bipush 24, 2) := by decide +kernel
theorem dX5_init_63 : decode cX5_init 63 = .ok (.newarray .int, 2) := by decide +kernel
theorem dX5_init_65 : decode cX5_init 65 = .ok (.putfield 31, 3) := by decide +kernel
theorem dX5_init_68 : decode cX5_init 68 = .ok (.aload_n 0, 1) := by decide +kernel
theorem dX5_init_69 : decode cX5_init 69 = .ok (.sipush 192, 3) := by decide +kernel
theorem dX5_init_72 : decode cX5_init 72 = .ok (.newarray .int, 2) := by decide +kernel
theorem dX5_init_74 : decode cX5_init 74 = .ok (.putfield 34, 3) := by decide +kernel
theorem dX5_init_77 : decode cX5_init 77 = .ok (.aload_n 0, 1) := by decide +kernel
theorem dX5_init_78 : decode cX5_init 78 = .ok (.sipush 192, 3) := by decide +kernel
theorem dX5_init_81 : decode cX5_init 81 = .ok (.newarray .int, 2) := by decide +kernel
theorem dX5_init_83 : decode cX5_init 83 = .ok (.putfield 37, 3) := by decide +kernel
theorem dX5_init_86 : decode cX5_init 86 = .ok (.aload_n 0, 1) := by decide +kernel
theorem dX5_init_87 : decode cX5_init 87 = .ok (.sipush 192, 3) := by decide +kernel
theorem dX5_init_90 : decode cX5_init 90 = .ok (.newarray .int, 2) := by decide +kernel
theorem dX5_init_92 : decode cX5_init 92 = .ok (.putfield 40, 3) := by decide +kernel
theorem dX5_init_95 : decode cX5_init 95 = .ok (.aload_n 0, 1) := by decide +kernel
theorem dX5_init_96 : decode cX5_init 96 = .ok (.bipush 120, 2) := by decide +kernel
theorem dX5_init_98 : decode cX5_init 98 = .ok (.newarray .int, 2) := by decide +kernel
theorem dX5_init_100 : decode cX5_init 100 = .ok (.putfield 43, 3) := by decide +kernel
theorem dX5_init_103 : decode cX5_init 103 = .ok (.aload_n 0, 1) := by decide +kernel
theorem dX5_init_104 : decode cX5_init 104 = .ok (.sipush 960, 3) := by decide +kernel
theorem dX5_init_107 : decode cX5_init 107 = .ok (.newarray .int, 2) := by decide +kernel
theorem dX5_init_109 : decode cX5_init 109 = .ok (.putfield 46, 3) := by decide +kernel
theorem dX5_init_112 : decode cX5_init 112 = .ok (.aload_n 0, 1) := by decide +kernel
theorem dX5_init_113 : decode cX5_init 113 = .ok (.bipush 24, 2) := by decide +kernel
theorem dX5_init_115 : decode cX5_init 115 = .ok (.newarray .boolean, 2) := by decide +kernel
theorem dX5_init_117 : decode cX5_init 117 = .ok (.putfield 49, 3) := by decide +kernel
theorem dX5_init_120 : decode cX5_init 120 = .ok (.aload_n 0, 1) := by decide +kernel
theorem dX5_init_121 : decode cX5_init 121 = .ok (.bipush 24, 2) := by decide +kernel
theorem dX5_init_123 : decode cX5_init 123 = .ok (.newarray .boolean, 2) := by decide +kernel
theorem dX5_init_125 : decode cX5_init 125 = .ok (.putfield 53, 3) := by decide +kernel
theorem dX5_init_128 : decode cX5_init 128 = .ok (.aload_n 0, 1) := by decide +kernel
theorem dX5_init_129 : decode cX5_init 129 = .ok (.bipush 24, 2) := by decide +kernel
theorem dX5_init_131 : decode cX5_init 131 = .ok (.newarray .int, 2) := by decide +kernel
theorem dX5_init_133 : decode cX5_init 133 = .ok (.putfield 56, 3) := by decide +kernel
theorem dX5_init_136 : decode cX5_init 136 = .ok (.aload_n 0, 1) := by decide +kernel
theorem dX5_init_137 : decode cX5_init 137 = .ok (.iconst 5, 1) := by decide +kernel
theorem dX5_init_138 : decode cX5_init 138 = .ok (.newarray .int, 2) := by decide +kernel
theorem dX5_init_140 : decode cX5_init 140 = .ok (.dup, 1) := by decide +kernel
theorem dX5_init_141 : decode cX5_init 141 = .ok (.iconst 0, 1) := by decide +kernel
theorem dX5_init_142 : decode cX5_init 142 = .ok (.sipush (-30000), 3) := by decide +kernel
theorem dX5_init_145 : decode cX5_init 145 = .ok (.iastore, 1) := by decide +kernel
theorem dX5_init_146 : decode cX5_init 146 = .ok (.dup, 1) := by decide +kernel
theorem dX5_init_147 : decode cX5_init 147 = .ok (.iconst 1, 1) := by decide +kernel
theorem dX5_init_148 : decode cX5_init 148 = .ok (.sipush (-30000), 3) := by decide +kernel
theorem dX5_init_151 : decode cX5_init 151 = .ok (.iastore, 1) := by decide +kernel
theorem dX5_init_152 : decode cX5_init 152 = .ok (.dup, 1) := by decide +kernel
theorem dX5_init_153 : decode cX5_init 153 = .ok (.iconst 2, 1) := by decide +kernel
theorem dX5_init_154 : decode cX5_init 154 = .ok (.sipush (-30000), 3) := by decide +kernel
theorem dX5_init_157 : decode cX5_init 157 = .ok (.iastore, 1) := by decide +kernel
theorem dX5_init_158 : decode cX5_init 158 = .ok (.dup, 1) := by decide +kernel
theorem dX5_init_159 : decode cX5_init 159 = .ok (.iconst 3, 1) := by decide +kernel
theorem dX5_init_160 : decode cX5_init 160 = .ok (.sipush (-30000), 3) := by decide +kernel
theorem dX5_init_163 : decode cX5_init 163 = .ok (.iastore, 1) := by decide +kernel
theorem dX5_init_164 : decode cX5_init 164 = .ok (.dup, 1) := by decide +kernel
theorem dX5_init_165 : decode cX5_init 165 = .ok (.iconst 4, 1) := by decide +kernel
theorem dX5_init_166 : decode cX5_init 166 = .ok (.sipush (-30000), 3) := by decide +kernel
theorem dX5_init_169 : decode cX5_init 169 = .ok (.iastore, 1) := by decide +kernel
theorem dX5_init_170 : decode cX5_init 170 = .ok (.putfield 59, 3) := by decide +kernel
theorem dX5_init_173 : decode cX5_init 173 = .ok (.aload_n 0, 1) := by decide +kernel
theorem dX5_init_174 : decode cX5_init 174 = .ok (.iconst 5, 1) := by decide +kernel
theorem dX5_init_175 : decode cX5_init 175 = .ok (.newarray .int, 2) := by decide +kernel
theorem dX5_init_177 : decode cX5_init 177 = .ok (.dup, 1) := by decide +kernel
theorem dX5_init_178 : decode cX5_init 178 = .ok (.iconst 0, 1) := by decide +kernel
theorem dX5_init_179 : decode cX5_init 179 = .ok (.sipush 30000, 3) := by decide +kernel
theorem dX5_init_182 : decode cX5_init 182 = .ok (.iastore, 1) := by decide +kernel
theorem dX5_init_183 : decode cX5_init 183 = .ok (.dup, 1) := by decide +kernel
theorem dX5_init_184 : decode cX5_init 184 = .ok (.iconst 1, 1) := by decide +kernel
theorem dX5_init_185 : decode cX5_init 185 = .ok (.sipush 30000, 3) := by decide +kernel
theorem dX5_init_188 : decode cX5_init 188 = .ok (.iastore, 1) := by decide +kernel
theorem dX5_init_189 : decode cX5_init 189 = .ok (.dup, 1) := by decide +kernel
theorem dX5_init_190 : decode cX5_init 190 = .ok (.iconst 2, 1) := by decide +kernel
theorem dX5_init_191 : decode cX5_init 191 = .ok (.sipush 30000, 3) := by decide +kernel
theorem dX5_init_194 : decode cX5_init 194 = .ok (.iastore, 1) := by decide +kernel
theorem dX5_init_195 : decode cX5_init 195 = .ok (.dup, 1) := by decide +kernel
theorem dX5_init_196 : decode cX5_init 196 = .ok (.iconst 3, 1) := by decide +kernel
theorem dX5_init_197 : decode cX5_init 197 = .ok (.sipush 30000, 3) := by decide +kernel
theorem dX5_init_200 : decode cX5_init 200 = .ok (.iastore, 1) := by decide +kernel
theorem dX5_init_201 : decode cX5_init 201 = .ok (.dup, 1) := by decide +kernel
theorem dX5_init_202 : decode cX5_init 202 = .ok (.iconst 4, 1) := by decide +kernel
theorem dX5_init_203 : decode cX5_init 203 = .ok (.sipush 30000, 3) := by decide +kernel
theorem dX5_init_206 : decode cX5_init 206 = .ok (.iastore, 1) := by decide +kernel
theorem dX5_init_207 : decode cX5_init 207 = .ok (.putfield 62, 3) := by decide +kernel
theorem dX5_init_210 : decode cX5_init 210 = .ok (.aload_n 0, 1) := by decide +kernel
theorem dX5_init_211 : decode cX5_init 211 = .ok (.bipush 8, 2) := by decide +kernel
theorem dX5_init_213 : decode cX5_init 213 = .ok (.newarray .int, 2) := by decide +kernel
theorem dX5_init_215 : decode cX5_init 215 = .ok (.putfield 65, 3) := by decide +kernel
theorem dX5_init_218 : decode cX5_init 218 = .ok (.aload_n 0, 1) := by decide +kernel
theorem dX5_init_219 : decode cX5_init 219 = .ok (.iconst 5, 1) := by decide +kernel
theorem dX5_init_220 : decode cX5_init 220 = .ok (.newarray .int, 2) := by decide +kernel
theorem dX5_init_222 : decode cX5_init 222 = .ok (.putfield 68, 3) := by decide +kernel
theorem dX5_init_225 : decode cX5_init 225 = .ok (.aload_n 0, 1) := by decide +kernel
theorem dX5_init_226 : decode cX5_init 226 = .ok (.bipush 8, 2) := by decide +kernel
theorem dX5_init_228 : decode cX5_init 228 = .ok (.newarray .int, 2) := by decide +kernel
theorem dX5_init_230 : decode cX5_init 230 = .ok (.putfield 71, 3) := by decide +kernel
theorem dX5_init_233 : decode cX5_init 233 = .ok (.aload_n 0, 1) := by decide +kernel
theorem dX5_init_234 : decode cX5_init 234 = .ok (.bipush 8, 2) := by decide +kernel
theorem dX5_init_236 : decode cX5_init 236 = .ok (.newarray .int, 2) := by decide +kernel
theorem dX5_init_238 : decode cX5_init 238 = .ok (.putfield 74, 3) := by decide +kernel
theorem dX5_init_241 : decode cX5_init 241 = .ok (.aload_n 0, 1) := by decide +kernel
theorem dX5_init_242 : decode cX5_init 242 = .ok (.bipush 24, 2) := by decide +kernel
theorem dX5_init_244 : decode cX5_init 244 = .ok (.newarray .int, 2) := by decide +kernel
theorem dX5_init_246 : decode cX5_init 246 = .ok (.putfield 77, 3) := by decide +kernel
theorem dX5_init_249 : decode cX5_init 249 = .ok (.aload_n 0, 1) := by decide +kernel
theorem dX5_init_250 : decode cX5_init 250 = .ok (.bipush 24, 2) := by decide +kernel
theorem dX5_init_252 : decode cX5_init 252 = .ok (.newarray .int, 2) := by decide +kernel
theorem dX5_init_254 : decode cX5_init 254 = .ok (.putfield 80, 3) := by decide +kernel
theorem dX5_init_257 : decode cX5_init 257 = .ok (.aload_n 0, 1) := by decide +kernel
theorem dX5_init_258 : decode cX5_init 258 = .ok (.sipush 256, 3) := by decide +kernel
theorem dX5_init_261 : decode cX5_init 261 = .ok (.newarray .int, 2) := by decide +kernel
theorem dX5_init_263 : decode cX5_init 263 = .ok (.putfield 83, 3) := by decide +kernel
theorem dX5_init_266 : decode cX5_init 266 = .ok (.return_, 1) := by decide +kernel
theorem dX5_in_0 : decode cX5_in 0 = .ok (.iload_n 0, 1) := by decide +kernel
theorem dX5_in_1 : decode cX5_in 1 = .ok (.iload_n 1, 1) := by decide +kernel
theorem dX5_in_2 : decode cX5_in 2 = .ok (.if_icmp .lt 12, 3) := by decide +kernel
theorem dX5_in_5 : decode cX5_in 5 = .ok (.iload_n 0, 1) := by decide +kernel
theorem dX5_in_6 : decode cX5_in 6 = .ok (.iload_n 2, 1) := by decide +kernel
theorem dX5_in_7 : decode cX5_in 7 = .ok (.if_icmp .gt 7, 3) := by decide +kernel
theorem dX5_in_10 : decode cX5_in 10 = .ok (.iconst 1, 1) := by decide +kernel
theorem dX5_in_11 : decode cX5_in 11 = .ok (.goto 4, 3) := by decide +kernel
theorem dX5_in_14 : decode cX5_in 14 = .ok (.iconst 0, 1) := by decide +kernel
theorem dX5_in_15 : decode cX5_in 15 = .ok (.ireturn, 1) := by decide +kernel
theorem dX5_isBell_0 : decode cX5_isBell 0 = .ok (.iload_n 1, 1) := by decide +kernel
theorem dX5_isBell_1 : decode cX5_isBell 1 = .ok (.iconst 0, 1) := by decide +kernel
theorem dX5_isBell_2 : decode cX5_isBell 2 = .ok (.aload_n 0, 1) := by decide +kernel
theorem dX5_isBell_3 : decode cX5_isBell 3 = .ok (.getfield 86, 3) := by decide +kernel
theorem dX5_isBell_6 : decode cX5_isBell 6 = .ok (.iconst 1, 1) := by decide +kernel
theorem dX5_isBell_7 : decode cX5_isBell 7 = .ok (.isub, 1) := by decide +kernel
theorem dX5_isBell_8 : decode cX5_isBell 8 = .ok (.invokestatic 90, 3) := by decide +kernel
theorem dX5_isBell_11 : decode cX5_isBell 11 = .ok (.ireturn, 1) := by decide +kernel
theorem dX5_profile_0 : decode cX5_profile 0 = .ok (.iload_n 1, 1) := by decide +kernel
theorem dX5_profile_1 : decode cX5_profile 1 = .ok (.iconst 0, 1) := by decide +kernel
theorem dX5_profile_2 : decode cX5_profile 2 = .ok (.sipush 5000, 3) := by decide +kernel
theorem dX5_profile_5 : decode cX5_profile 5 = .ok (.invokestatic 90, 3) := by decide +kernel
theorem dX5_profile_8 : decode cX5_profile 8 = .ok (.ifCond .eq 11, 3) := by decide +kernel
theorem dX5_profile_11 : decode cX5_profile 11 = .ok (.aload_n 0, 1) := by decide +kernel
theorem dX5_profile_12 : decode cX5_profile 12 = .ok (.getfield 94, 3) := by decide +kernel
theorem dX5_profile_15 : decode cX5_profile 15 = .ok (.iconst 4, 1) := by decide +kernel
theorem dX5_profile_16 : decode cX5_profile 16 = .ok (.if_icmp .ne 5, 3) := by decide +kernel
theorem dX5_profile_19 : decode cX5_profile 19 = .ok (.iconst (-1), 1) := by decide +kernel
theorem dX5_profile_20 : decode cX5_profile 20 = .ok (.ireturn, 1) := by decide +kernel
theorem dX5_profile_21 : decode cX5_profile 21 = .ok (.aload_n 0, 1) := by decide +kernel
theorem dX5_profile_22 : decode cX5_profile 22 = .ok (.getfield 7, 3) := by decide +kernel
theorem dX5_profile_25 : decode cX5_profile 25 = .ok (.aload_n 0, 1) := by decide +kernel
theorem dX5_profile_26 : decode cX5_profile 26 = .ok (.getfield 94, 3) := by decide +kernel
theorem dX5_profile_29 : decode cX5_profile 29 = .ok (.iload_n 1, 1) := by decide +kernel
theorem dX5_profile_30 : decode cX5_profile 30 = .ok (.iastore, 1) := by decide +kernel
theorem dX5_profile_31 : decode cX5_profile 31 = .ok (.iconst 0, 1) := by decide +kernel
theorem dX5_profile_32 : decode cX5_profile 32 = .ok (.istore_n 2, 1) := by decide +kernel
theorem dX5_profile_33 : decode cX5_profile 33 = .ok (.iload_n 2, 1) := by decide +kernel
theorem dX5_profile_34 : decode cX5_profile 34 = .ok (.bipush 8, 2) := by decide +kernel
theorem dX5_profile_36 : decode cX5_profile 36 = .ok (.if_icmp .ge 24, 3) := by decide +kernel
theorem dX5_profile_39 : decode cX5_profile 39 = .ok (.aload_n 0, 1) := by decide +kernel
theorem dX5_profile_40 : decode cX5_profile 40 = .ok (.getfield 19, 3) := by decide +kernel
theorem dX5_profile_43 : decode cX5_profile 43 = .ok (.bipush 8, 2) := by decide +kernel
theorem dX5_profile_45 : decode cX5_profile 45 = .ok (.aload_n 0, 1) := by decide +kernel
theorem dX5_profile_46 : decode cX5_profile 46 = .ok (.getfield 94, 3) := by decide +kernel
theorem dX5_profile_49 : decode cX5_profile 49 = .ok (.imul, 1) := by decide +kernel
theorem dX5_profile_50 : decode cX5_profile 50 = .ok (.iload_n 2, 1) := by decide +kernel
theorem dX5_profile_51 : decode cX5_profile 51 = .ok (.iadd, 1) := by decide +kernel
theorem dX5_profile_52 : decode cX5_profile 52 = .ok (.iconst 1, 1) := by decide +kernel
theorem dX5_profile_53 : decode cX5_profile 53 = .ok (.iastore, 1) := by decide +kernel
theorem dX5_profile_54 : decode cX5_profile 54 = .ok (.iinc 2 1, 3) := by decide +kernel
theorem dX5_profile_57 : decode cX5_profile 57 = .ok (.goto (-24), 3) := by decide +kernel
theorem dX5_profile_60 : decode cX5_profile 60 = .ok (.aload_n 0, 1) := by decide +kernel
theorem dX5_profile_61 : decode cX5_profile 61 = .ok (.dup, 1) := by decide +kernel
theorem dX5_profile_62 : decode cX5_profile 62 = .ok (.getfield 94, 3) := by decide +kernel
theorem dX5_profile_65 : decode cX5_profile 65 = .ok (.iconst 1, 1) := by decide +kernel
theorem dX5_profile_66 : decode cX5_profile 66 = .ok (.iadd, 1) := by decide +kernel
theorem dX5_profile_67 : decode cX5_profile 67 = .ok (.putfield 94, 3) := by decide +kernel
theorem dX5_profile_70 : decode cX5_profile 70 = .ok (.aload_n 0, 1) := by decide +kernel
theorem dX5_profile_71 : decode cX5_profile 71 = .ok (.getfield 94, 3) := by decide +kernel
theorem dX5_profile_74 : decode cX5_profile 74 = .ok (.iconst 1, 1) := by decide +kernel
theorem dX5_profile_75 : decode cX5_profile 75 = .ok (.isub, 1) := by decide +kernel
theorem dX5_profile_76 : decode cX5_profile 76 = .ok (.ireturn, 1) := by decide +kernel
theorem dX5_shape_0 : decode cX5_shape 0 = .ok (.iload_n 1, 1) := by decide +kernel
theorem dX5_shape_1 : decode cX5_shape 1 = .ok (.iconst 0, 1) := by decide +kernel
theorem dX5_shape_2 : decode cX5_shape 2 = .ok (.aload_n 0, 1) := by decide +kernel
theorem dX5_shape_3 : decode cX5_shape 3 = .ok (.getfield 94, 3) := by decide +kernel
theorem dX5_shape_6 : decode cX5_shape 6 = .ok (.iconst 1, 1) := by decide +kernel
theorem dX5_shape_7 : decode cX5_shape 7 = .ok (.isub, 1) := by decide +kernel
theorem dX5_shape_8 : decode cX5_shape 8 = .ok (.invokestatic 90, 3) := by decide +kernel
theorem dX5_shape_11 : decode cX5_shape 11 = .ok (.ifCond .eq 23, 3) := by decide +kernel
theorem dX5_shape_14 : decode cX5_shape 14 = .ok (.iload_n 2, 1) := by decide +kernel
theorem dX5_shape_15 : decode cX5_shape 15 = .ok (.iconst 0, 1) := by decide +kernel
theorem dX5_shape_16 : decode cX5_shape 16 = .ok (.bipush 7, 2) := by decide +kernel
theorem dX5_shape_18 : decode cX5_shape 18 = .ok (.invokestatic 90, 3) := by decide +kernel
theorem dX5_shape_21 : decode cX5_shape 21 = .ok (.ifCond .eq 13, 3) := by decide +kernel
theorem dX5_shape_24 : decode cX5_shape 24 = .ok (.iload_n 3, 1) := by decide +kernel
theorem dX5_shape_25 : decode cX5_shape 25 = .ok (.iconst 0, 1) := by decide +kernel
theorem dX5_shape_26 : decode cX5_shape 26 = .ok (.bipush 7, 2) := by decide +kernel
theorem dX5_shape_28 : decode cX5_shape 28 = .ok (.invokestatic 90, 3) := by decide +kernel
theorem dX5_shape_31 : decode cX5_shape 31 = .ok (.ifCond .ne 5, 3) := by decide +kernel
theorem dX5_shape_34 : decode cX5_shape 34 = .ok (.iconst 0, 1) := by decide +kernel
theorem dX5_shape_35 : decode cX5_shape 35 = .ok (.ireturn, 1) := by decide +kernel
theorem dX5_shape_36 : decode cX5_shape 36 = .ok (.bipush 8, 2) := by decide +kernel
theorem dX5_shape_38 : decode cX5_shape 38 = .ok (.iload_n 1, 1) := by decide +kernel
theorem dX5_shape_39 : decode cX5_shape 39 = .ok (.imul, 1) := by decide +kernel
theorem dX5_shape_40 : decode cX5_shape 40 = .ok (.iload_n 3, 1) := by decide +kernel
theorem dX5_shape_41 : decode cX5_shape 41 = .ok (.iadd, 1) := by decide +kernel
theorem dX5_shape_42 : decode cX5_shape 42 = .ok (.istore 5, 2) := by decide +kernel
theorem dX5_shape_44 : decode cX5_shape 44 = .ok (.iload_n 2, 1) := by decide +kernel
theorem dX5_shape_45 : decode cX5_shape 45 = .ok (.iconst 5, 1) := by decide +kernel
theorem dX5_shape_46 : decode cX5_shape 46 = .ok (.if_icmp .ge 15, 3) := by decide +kernel
theorem dX5_shape_49 : decode cX5_shape 49 = .ok (.iload 4, 2) := by decide +kernel
theorem dX5_shape_51 : decode cX5_shape 51 = .ok (.bipush (-50), 2) := by decide +kernel
theorem dX5_shape_53 : decode cX5_shape 53 = .ok (.bipush 50, 2) := by decide +kernel
theorem dX5_shape_55 : decode cX5_shape 55 = .ok (.invokestatic 90, 3) := by decide +kernel
theorem dX5_shape_58 : decode cX5_shape 58 = .ok (.goto 55, 3) := by decide +kernel
theorem dX5_shape_61 : decode cX5_shape 61 = .ok (.iload_n 2, 1) := by decide +kernel
theorem dX5_shape_62 : decode cX5_shape 62 = .ok (.iconst 5, 1) := by decide +kernel
theorem dX5_shape_63 : decode cX5_shape 63 = .ok (.if_icmp .ne 14, 3) := by decide +kernel
theorem dX5_shape_66 : decode cX5_shape 66 = .ok (.iload 4, 2) := by decide +kernel
theorem dX5_shape_68 : decode cX5_shape 68 = .ok (.iconst 1, 1) := by decide +kernel
theorem dX5_shape_69 : decode cX5_shape 69 = .ok (.bipush 50, 2) := by decide +kernel
theorem dX5_shape_71 : decode cX5_shape 71 = .ok (.invokestatic 90, 3) := by decide +kernel
theorem dX5_shape_74 : decode cX5_shape 74 = .ok (.goto 39, 3) := by decide +kernel
theorem dX5_shape_77 : decode cX5_shape 77 = .ok (.iload_n 2, 1) := by decide +kernel
theorem dX5_shape_78 : decode cX5_shape 78 = .ok (.bipush 6, 2) := by decide +kernel
theorem dX5_shape_80 : decode cX5_shape 80 = .ok (.if_icmp .ne 19, 3) := by decide +kernel
theorem dX5_shape_83 : decode cX5_shape 83 = .ok (.iload 4, 2) := by decide +kernel
theorem dX5_shape_85 : decode cX5_shape 85 = .ok (.iconst 0, 1) := by decide +kernel
theorem dX5_shape_86 : decode cX5_shape 86 = .ok (.aload_n 0, 1) := by decide +kernel
theorem dX5_shape_87 : decode cX5_shape 87 = .ok (.getfield 13, 3) := by decide +kernel
theorem dX5_shape_90 : decode cX5_shape 90 = .ok (.iload 5, 2) := by decide +kernel
theorem dX5_shape_92 : decode cX5_shape 92 = .ok (.iaload, 1) := by decide +kernel
theorem dX5_shape_93 : decode cX5_shape 93 = .ok (.invokestatic 90, 3) := by decide +kernel
theorem dX5_shape_96 : decode cX5_shape 96 = .ok (.goto 17, 3) := by decide +kernel
theorem dX5_shape_99 : decode cX5_shape 99 = .ok (.iload 4, 2) := by decide +kernel
theorem dX5_shape_101 : decode cX5_shape 101 = .ok (.aload_n 0, 1) := by decide +kernel
theorem dX5_shape_102 : decode cX5_shape 102 = .ok (.getfield 16, 3) := by decide +kernel
theorem dX5_shape_105 : decode cX5_shape 105 = .ok (.iload 5, 2) := by decide +kernel
theorem dX5_shape_107 : decode cX5_shape 107 = .ok (.iaload, 1) := by decide +kernel
theorem dX5_shape_108 : decode cX5_shape 108 = .ok (.bipush 99, 2) := by decide +kernel
theorem dX5_shape_110 : decode cX5_shape 110 = .ok (.invokestatic 90, 3) := by decide +kernel
theorem dX5_shape_113 : decode cX5_shape 113 = .ok (.istore 6, 2) := by decide +kernel
theorem dX5_shape_115 : decode cX5_shape 115 = .ok (.iload 6, 2) := by decide +kernel
theorem dX5_shape_117 : decode cX5_shape 117 = .ok (.ifCond .ne 5, 3) := by decide +kernel
theorem dX5_shape_120 : decode cX5_shape 120 = .ok (.iconst 0, 1) := by decide +kernel
theorem dX5_shape_121 : decode cX5_shape 121 = .ok (.ireturn, 1) := by decide +kernel
theorem dX5_shape_122 : decode cX5_shape 122 = .ok (.iload_n 2, 1) := by decide +kernel
theorem dX5_shape_123 : decode cX5_shape 123 = .ok (.iconst 5, 1) := by decide +kernel
theorem dX5_shape_124 : decode cX5_shape 124 = .ok (.if_icmp .ge 24, 3) := by decide +kernel
theorem dX5_shape_127 : decode cX5_shape 127 = .ok (.aload_n 0, 1) := by decide +kernel
theorem dX5_shape_128 : decode cX5_shape 128 = .ok (.getfield 25, 3) := by decide +kernel
theorem dX5_shape_131 : decode cX5_shape 131 = .ok (.bipush 40, 2) := by decide +kernel
theorem dX5_shape_133 : decode cX5_shape 133 = .ok (.iload_n 1, 1) := by decide +kernel
theorem dX5_shape_134 : decode cX5_shape 134 = .ok (.imul, 1) := by decide +kernel
theorem dX5_shape_135 : decode cX5_shape 135 = .ok (.bipush 8, 2) := by decide +kernel
theorem dX5_shape_137 : decode cX5_shape 137 = .ok (.iload_n 2, 1) := by decide +kernel
theorem dX5_shape_138 : decode cX5_shape 138 = .ok (.imul, 1) := by decide +kernel
theorem dX5_shape_139 : decode cX5_shape 139 = .ok (.iadd, 1) := by decide +kernel
theorem dX5_shape_140 : decode cX5_shape 140 = .ok (.iload_n 3, 1) := by decide +kernel
theorem dX5_shape_141 : decode cX5_shape 141 = .ok (.iadd, 1) := by decide +kernel
theorem dX5_shape_142 : decode cX5_shape 142 = .ok (.iload 4, 2) := by decide +kernel
theorem dX5_shape_144 : decode cX5_shape 144 = .ok (.iastore, 1) := by decide +kernel
theorem dX5_shape_145 : decode cX5_shape 145 = .ok (.goto 47, 3) := by decide +kernel
theorem dX5_shape_148 : decode cX5_shape 148 = .ok (.iload_n 2, 1) := by decide +kernel
theorem dX5_shape_149 : decode cX5_shape 149 = .ok (.iconst 5, 1) := by decide +kernel
theorem dX5_shape_150 : decode cX5_shape 150 = .ok (.if_icmp .ne 15, 3) := by decide +kernel
theorem dX5_shape_153 : decode cX5_shape 153 = .ok (.aload_n 0, 1) := by decide +kernel
theorem dX5_shape_154 : decode cX5_shape 154 = .ok (.getfield 19, 3) := by decide +kernel
theorem dX5_shape_157 : decode cX5_shape 157 = .ok (.iload 5, 2) := by decide +kernel
theorem dX5_shape_159 : decode cX5_shape 159 = .ok (.iload 4, 2) := by decide +kernel
theorem dX5_shape_161 : decode cX5_shape 161 = .ok (.iastore, 1) := by decide +kernel
theorem dX5_shape_162 : decode cX5_shape 162 = .ok (.goto 30, 3) := by decide +kernel
theorem dX5_shape_165 : decode cX5_shape 165 = .ok (.iload_n 2, 1) := by decide +kernel
theorem dX5_shape_166 : decode cX5_shape 166 = .ok (.bipush 6, 2) := by decide +kernel
theorem dX5_shape_168 : decode cX5_shape 168 = .ok (.if_icmp .ne 15, 3) := by decide +kernel
theorem dX5_shape_171 : decode cX5_shape 171 = .ok (.aload_n 0, 1) := by decide +kernel
theorem dX5_shape_172 : decode cX5_shape 172 = .ok (.getfield 16, 3) := by decide +kernel
theorem dX5_shape_175 : decode cX5_shape 175 = .ok (.iload 5, 2) := by decide +kernel
theorem dX5_shape_177 : decode cX5_shape 177 = .ok (.iload 4, 2) := by decide +kernel
theorem dX5_shape_179 : decode cX5_shape 179 = .ok (.iastore, 1) := by decide +kernel
theorem dX5_shape_180 : decode cX5_shape 180 = .ok (.goto 12, 3) := by decide +kernel
theorem dX5_shape_183 : decode cX5_shape 183 = .ok (.aload_n 0, 1) := by decide +kernel
theorem dX5_shape_184 : decode cX5_shape 184 = .ok (.getfield 13, 3) := by decide +kernel
theorem dX5_shape_187 : decode cX5_shape 187 = .ok (.iload 5, 2) := by decide +kernel
theorem dX5_shape_189 : decode cX5_shape 189 = .ok (.iload 4, 2) := by decide +kernel
theorem dX5_shape_191 : decode cX5_shape 191 = .ok (.iastore, 1) := by decide +kernel
theorem dX5_shape_192 : decode cX5_shape 192 = .ok (.iconst 1, 1) := by decide +kernel
theorem dX5_shape_193 : decode cX5_shape 193 = .ok (.ireturn, 1) := by decide +kernel
theorem dX5_base_0 : decode cX5_base 0 = .ok (.iload_n 1, 1) := by decide +kernel
theorem dX5_base_1 : decode cX5_base 1 = .ok (.iconst 0, 1) := by decide +kernel
theorem dX5_base_2 : decode cX5_base 2 = .ok (.aload_n 0, 1) := by decide +kernel
theorem dX5_base_3 : decode cX5_base 3 = .ok (.getfield 94, 3) := by decide +kernel
theorem dX5_base_6 : decode cX5_base 6 = .ok (.iconst 1, 1) := by decide +kernel
theorem dX5_base_7 : decode cX5_base 7 = .ok (.isub, 1) := by decide +kernel
theorem dX5_base_8 : decode cX5_base 8 = .ok (.invokestatic 90, 3) := by decide +kernel
theorem dX5_base_11 : decode cX5_base 11 = .ok (.ifCond .eq 25, 3) := by decide +kernel
theorem dX5_base_14 : decode cX5_base 14 = .ok (.iload_n 2, 1) := by decide +kernel
theorem dX5_base_15 : decode cX5_base 15 = .ok (.iconst 0, 1) := by decide +kernel
theorem dX5_base_16 : decode cX5_base 16 = .ok (.iconst 4, 1) := by decide +kernel
theorem dX5_base_17 : decode cX5_base 17 = .ok (.invokestatic 90, 3) := by decide +kernel
theorem dX5_base_20 : decode cX5_base 20 = .ok (.ifCond .eq 16, 3) := by decide +kernel
theorem dX5_base_23 : decode cX5_base 23 = .ok (.iload_n 3, 1) := by decide +kernel
theorem dX5_base_24 : decode cX5_base 24 = .ok (.sipush (-20000), 3) := by decide +kernel
theorem dX5_base_27 : decode cX5_base 27 = .ok (.sipush 20000, 3) := by decide +kernel
theorem dX5_base_30 : decode cX5_base 30 = .ok (.invokestatic 90, 3) := by decide +kernel
theorem dX5_base_33 : decode cX5_base 33 = .ok (.ifCond .ne 5, 3) := by decide +kernel
theorem dX5_base_36 : decode cX5_base 36 = .ok (.iconst 0, 1) := by decide +kernel
theorem dX5_base_37 : decode cX5_base 37 = .ok (.ireturn, 1) := by decide +kernel
theorem dX5_base_38 : decode cX5_base 38 = .ok (.aload_n 0, 1) := by decide +kernel
theorem dX5_base_39 : decode cX5_base 39 = .ok (.getfield 22, 3) := by decide +kernel
theorem dX5_base_42 : decode cX5_base 42 = .ok (.iconst 5, 1) := by decide +kernel
theorem dX5_base_43 : decode cX5_base 43 = .ok (.iload_n 1, 1) := by decide +kernel
theorem dX5_base_44 : decode cX5_base 44 = .ok (.imul, 1) := by decide +kernel
theorem dX5_base_45 : decode cX5_base 45 = .ok (.iload_n 2, 1) := by decide +kernel
theorem dX5_base_46 : decode cX5_base 46 = .ok (.iadd, 1) := by decide +kernel
theorem dX5_base_47 : decode cX5_base 47 = .ok (.iload_n 3, 1) := by decide +kernel
theorem dX5_base_48 : decode cX5_base 48 = .ok (.iastore, 1) := by decide +kernel
theorem dX5_base_49 : decode cX5_base 49 = .ok (.iconst 1, 1) := by decide +kernel
theorem dX5_base_50 : decode cX5_base 50 = .ok (.ireturn, 1) := by decide +kernel
theorem dX5_buy_0 : decode cX5_buy 0 = .ok (.iload_n 1, 1) := by decide +kernel
theorem dX5_buy_1 : decode cX5_buy 1 = .ok (.iconst 0, 1) := by decide +kernel
theorem dX5_buy_2 : decode cX5_buy 2 = .ok (.ldc 97, 2) := by decide +kernel
theorem dX5_buy_4 : decode cX5_buy 4 = .ok (.invokestatic 90, 3) := by decide +kernel
theorem dX5_buy_7 : decode cX5_buy 7 = .ok (.ifCond .eq 35, 3) := by decide +kernel
theorem dX5_buy_10 : decode cX5_buy 10 = .ok (.iload_n 2, 1) := by decide +kernel
theorem dX5_buy_11 : decode cX5_buy 11 = .ok (.iconst 0, 1) := by decide +kernel
theorem dX5_buy_12 : decode cX5_buy 12 = .ok (.ldc 97, 2) := by decide +kernel
theorem dX5_buy_14 : decode cX5_buy 14 = .ok (.invokestatic 90, 3) := by decide +kernel
theorem dX5_buy_17 : decode cX5_buy 17 = .ok (.ifCond .eq 25, 3) := by decide +kernel
theorem dX5_buy_20 : decode cX5_buy 20 = .ok (.aload_n 0, 1) := by decide +kernel
theorem dX5_buy_21 : decode cX5_buy 21 = .ok (.getfield 98, 3) := by decide +kernel
theorem dX5_buy_24 : decode cX5_buy 24 = .ok (.iload_n 1, 1) := by decide +kernel
theorem dX5_buy_25 : decode cX5_buy 25 = .ok (.iadd, 1) := by decide +kernel
theorem dX5_buy_26 : decode cX5_buy 26 = .ok (.ldc 101, 2) := by decide +kernel
theorem dX5_buy_28 : decode cX5_buy 28 = .ok (.if_icmp .gt 14, 3) := by decide +kernel
theorem dX5_buy_31 : decode cX5_buy 31 = .ok (.aload_n 0, 1) := by decide +kernel
theorem dX5_buy_32 : decode cX5_buy 32 = .ok (.getfield 102, 3) := by decide +kernel
theorem dX5_buy_35 : decode cX5_buy 35 = .ok (.iload_n 2, 1) := by decide +kernel
theorem dX5_buy_36 : decode cX5_buy 36 = .ok (.iadd, 1) := by decide +kernel
theorem dX5_buy_37 : decode cX5_buy 37 = .ok (.ldc 101, 2) := by decide +kernel
theorem dX5_buy_39 : decode cX5_buy 39 = .ok (.if_icmp .le 5, 3) := by decide +kernel
theorem dX5_buy_42 : decode cX5_buy 42 = .ok (.iconst 0, 1) := by decide +kernel
theorem dX5_buy_43 : decode cX5_buy 43 = .ok (.ireturn, 1) := by decide +kernel
theorem dX5_buy_44 : decode cX5_buy 44 = .ok (.aload_n 0, 1) := by decide +kernel
theorem dX5_buy_45 : decode cX5_buy 45 = .ok (.dup, 1) := by decide +kernel
theorem dX5_buy_46 : decode cX5_buy 46 = .ok (.getfield 98, 3) := by decide +kernel
theorem dX5_buy_49 : decode cX5_buy 49 = .ok (.iload_n 1, 1) := by decide +kernel
theorem dX5_buy_50 : decode cX5_buy 50 = .ok (.iadd, 1) := by decide +kernel
theorem dX5_buy_51 : decode cX5_buy 51 = .ok (.putfield 98, 3) := by decide +kernel
theorem dX5_buy_54 : decode cX5_buy 54 = .ok (.aload_n 0, 1) := by decide +kernel
theorem dX5_buy_55 : decode cX5_buy 55 = .ok (.dup, 1) := by decide +kernel
theorem dX5_buy_56 : decode cX5_buy 56 = .ok (.getfield 102, 3) := by decide +kernel
theorem dX5_buy_59 : decode cX5_buy 59 = .ok (.iload_n 2, 1) := by decide +kernel
theorem dX5_buy_60 : decode cX5_buy 60 = .ok (.iadd, 1) := by decide +kernel
theorem dX5_buy_61 : decode cX5_buy 61 = .ok (.putfield 102, 3) := by decide +kernel
theorem dX5_buy_64 : decode cX5_buy 64 = .ok (.iconst 1, 1) := by decide +kernel
theorem dX5_buy_65 : decode cX5_buy 65 = .ok (.ireturn, 1) := by decide +kernel
theorem dX5_weightOf_0 : decode cX5_weightOf 0 = .ok (.aload_n 0, 1) := by decide +kernel
theorem dX5_weightOf_1 : decode cX5_weightOf 1 = .ok (.getfield 31, 3) := by decide +kernel
theorem dX5_weightOf_4 : decode cX5_weightOf 4 = .ok (.iload_n 1, 1) := by decide +kernel
theorem dX5_weightOf_5 : decode cX5_weightOf 5 = .ok (.iaload, 1) := by decide +kernel
theorem dX5_weightOf_6 : decode cX5_weightOf 6 = .ok (.istore_n 2, 1) := by decide +kernel
theorem dX5_weightOf_7 : decode cX5_weightOf 7 = .ok (.bipush 8, 2) := by decide +kernel
theorem dX5_weightOf_9 : decode cX5_weightOf 9 = .ok (.iload_n 1, 1) := by decide +kernel
theorem dX5_weightOf_10 : decode cX5_weightOf 10 = .ok (.imul, 1) := by decide +kernel
theorem dX5_weightOf_11 : decode cX5_weightOf 11 = .ok (.istore_n 3, 1) := by decide +kernel
theorem dX5_weightOf_12 : decode cX5_weightOf 12 = .ok (.iload_n 3, 1) := by decide +kernel
theorem dX5_weightOf_13 : decode cX5_weightOf 13 = .ok (.bipush 8, 2) := by decide +kernel
theorem dX5_weightOf_15 : decode cX5_weightOf 15 = .ok (.iload_n 1, 1) := by decide +kernel
theorem dX5_weightOf_16 : decode cX5_weightOf 16 = .ok (.imul, 1) := by decide +kernel
theorem dX5_weightOf_17 : decode cX5_weightOf 17 = .ok (.bipush 8, 2) := by decide +kernel
theorem dX5_weightOf_19 : decode cX5_weightOf 19 = .ok (.iadd, 1) := by decide +kernel
theorem dX5_weightOf_20 : decode cX5_weightOf 20 = .ok (.if_icmp .ge 25, 3) := by decide +kernel
theorem dX5_weightOf_23 : decode cX5_weightOf 23 = .ok (.iload_n 2, 1) := by decide +kernel
theorem dX5_weightOf_24 : decode cX5_weightOf 24 = .ok (.aload_n 0, 1) := by decide +kernel
theorem dX5_weightOf_25 : decode cX5_weightOf 25 = .ok (.getfield 40, 3) := by decide +kernel
theorem dX5_weightOf_28 : decode cX5_weightOf 28 = .ok (.iload_n 3, 1) := by decide +kernel
theorem dX5_weightOf_29 : decode cX5_weightOf 29 = .ok (.iaload, 1) := by decide +kernel
theorem dX5_weightOf_30 : decode cX5_weightOf 30 = .ok (.aload_n 0, 1) := by decide +kernel
theorem dX5_weightOf_31 : decode cX5_weightOf 31 = .ok (.getfield 34, 3) := by decide +kernel
theorem dX5_weightOf_34 : decode cX5_weightOf 34 = .ok (.iload_n 3, 1) := by decide +kernel
theorem dX5_weightOf_35 : decode cX5_weightOf 35 = .ok (.iaload, 1) := by decide +kernel
theorem dX5_weightOf_36 : decode cX5_weightOf 36 = .ok (.imul, 1) := by decide +kernel
theorem dX5_weightOf_37 : decode cX5_weightOf 37 = .ok (.iadd, 1) := by decide +kernel
theorem dX5_weightOf_38 : decode cX5_weightOf 38 = .ok (.istore_n 2, 1) := by decide +kernel
theorem dX5_weightOf_39 : decode cX5_weightOf 39 = .ok (.iinc 3 1, 3) := by decide +kernel
theorem dX5_weightOf_42 : decode cX5_weightOf 42 = .ok (.goto (-30), 3) := by decide +kernel
theorem dX5_weightOf_45 : decode cX5_weightOf 45 = .ok (.iload_n 2, 1) := by decide +kernel
theorem dX5_weightOf_46 : decode cX5_weightOf 46 = .ok (.ireturn, 1) := by decide +kernel
theorem dX5_partOf_0 : decode cX5_partOf 0 = .ok (.aload_n 0, 1) := by decide +kernel
theorem dX5_partOf_1 : decode cX5_partOf 1 = .ok (.getfield 43, 3) := by decide +kernel
theorem dX5_partOf_4 : decode cX5_partOf 4 = .ok (.iconst 5, 1) := by decide +kernel
theorem dX5_partOf_5 : decode cX5_partOf 5 = .ok (.iload_n 1, 1) := by decide +kernel
theorem dX5_partOf_6 : decode cX5_partOf 6 = .ok (.imul, 1) := by decide +kernel
theorem dX5_partOf_7 : decode cX5_partOf 7 = .ok (.iload_n 2, 1) := by decide +kernel
theorem dX5_partOf_8 : decode cX5_partOf 8 = .ok (.iadd, 1) := by decide +kernel
theorem dX5_partOf_9 : decode cX5_partOf 9 = .ok (.iaload, 1) := by decide +kernel
theorem dX5_partOf_10 : decode cX5_partOf 10 = .ok (.istore_n 3, 1) := by decide +kernel
theorem dX5_partOf_11 : decode cX5_partOf 11 = .ok (.iconst 0, 1) := by decide +kernel
theorem dX5_partOf_12 : decode cX5_partOf 12 = .ok (.istore 4, 2) := by decide +kernel
theorem dX5_partOf_14 : decode cX5_partOf 14 = .ok (.iload 4, 2) := by decide +kernel
theorem dX5_partOf_16 : decode cX5_partOf 16 = .ok (.bipush 8, 2) := by decide +kernel
theorem dX5_partOf_18 : decode cX5_partOf 18 = .ok (.if_icmp .ge 42, 3) := by decide +kernel
theorem dX5_partOf_21 : decode cX5_partOf 21 = .ok (.iload_n 3, 1) := by decide +kernel
theorem dX5_partOf_22 : decode cX5_partOf 22 = .ok (.aload_n 0, 1) := by decide +kernel
theorem dX5_partOf_23 : decode cX5_partOf 23 = .ok (.getfield 46, 3) := by decide +kernel
theorem dX5_partOf_26 : decode cX5_partOf 26 = .ok (.bipush 40, 2) := by decide +kernel
theorem dX5_partOf_28 : decode cX5_partOf 28 = .ok (.iload_n 1, 1) := by decide +kernel
theorem dX5_partOf_29 : decode cX5_partOf 29 = .ok (.imul, 1) := by decide +kernel
theorem dX5_partOf_30 : decode cX5_partOf 30 = .ok (.bipush 8, 2) := by decide +kernel
theorem dX5_partOf_32 : decode cX5_partOf 32 = .ok (.iload_n 2, 1) := by decide +kernel
theorem dX5_partOf_33 : decode cX5_partOf 33 = .ok (.imul, 1) := by decide +kernel
theorem dX5_partOf_34 : decode cX5_partOf 34 = .ok (.iadd, 1) := by decide +kernel
theorem dX5_partOf_35 : decode cX5_partOf 35 = .ok (.iload 4, 2) := by decide +kernel
theorem dX5_partOf_37 : decode cX5_partOf 37 = .ok (.iadd, 1) := by decide +kernel
theorem dX5_partOf_38 : decode cX5_partOf 38 = .ok (.iaload, 1) := by decide +kernel
theorem dX5_partOf_39 : decode cX5_partOf 39 = .ok (.aload_n 0, 1) := by decide +kernel
theorem dX5_partOf_40 : decode cX5_partOf 40 = .ok (.getfield 34, 3) := by decide +kernel
theorem dX5_partOf_43 : decode cX5_partOf 43 = .ok (.bipush 8, 2) := by decide +kernel
theorem dX5_partOf_45 : decode cX5_partOf 45 = .ok (.iload_n 1, 1) := by decide +kernel
theorem dX5_partOf_46 : decode cX5_partOf 46 = .ok (.imul, 1) := by decide +kernel
theorem dX5_partOf_47 : decode cX5_partOf 47 = .ok (.iload 4, 2) := by decide +kernel
theorem dX5_partOf_49 : decode cX5_partOf 49 = .ok (.iadd, 1) := by decide +kernel
theorem dX5_partOf_50 : decode cX5_partOf 50 = .ok (.iaload, 1) := by decide +kernel
theorem dX5_partOf_51 : decode cX5_partOf 51 = .ok (.imul, 1) := by decide +kernel
theorem dX5_partOf_52 : decode cX5_partOf 52 = .ok (.iadd, 1) := by decide +kernel
theorem dX5_partOf_53 : decode cX5_partOf 53 = .ok (.istore_n 3, 1) := by decide +kernel
theorem dX5_partOf_54 : decode cX5_partOf 54 = .ok (.iinc 4 1, 3) := by decide +kernel
theorem dX5_partOf_57 : decode cX5_partOf 57 = .ok (.goto (-43), 3) := by decide +kernel
theorem dX5_partOf_60 : decode cX5_partOf 60 = .ok (.iload_n 3, 1) := by decide +kernel
theorem dX5_partOf_61 : decode cX5_partOf 61 = .ok (.ireturn, 1) := by decide +kernel
theorem dX5_cast_0 : decode cX5_cast 0 = .ok (.iload_n 1, 1) := by decide +kernel
theorem dX5_cast_1 : decode cX5_cast 1 = .ok (.iconst 0, 1) := by decide +kernel
theorem dX5_cast_2 : decode cX5_cast 2 = .ok (.aload_n 0, 1) := by decide +kernel
theorem dX5_cast_3 : decode cX5_cast 3 = .ok (.getfield 94, 3) := by decide +kernel
theorem dX5_cast_6 : decode cX5_cast 6 = .ok (.iconst 1, 1) := by decide +kernel
theorem dX5_cast_7 : decode cX5_cast 7 = .ok (.isub, 1) := by decide +kernel
theorem dX5_cast_8 : decode cX5_cast 8 = .ok (.invokestatic 90, 3) := by decide +kernel
theorem dX5_cast_11 : decode cX5_cast 11 = .ok (.ifCond .eq 12, 3) := by decide +kernel
theorem dX5_cast_14 : decode cX5_cast 14 = .ok (.aload_n 0, 1) := by decide +kernel
theorem dX5_cast_15 : decode cX5_cast 15 = .ok (.getfield 86, 3) := by decide +kernel
theorem dX5_cast_18 : decode cX5_cast 18 = .ok (.bipush 24, 2) := by decide +kernel
theorem dX5_cast_20 : decode cX5_cast 20 = .ok (.if_icmp .ne 5, 3) := by decide +kernel
theorem dX5_cast_23 : decode cX5_cast 23 = .ok (.iconst (-1), 1) := by decide +kernel
theorem dX5_cast_24 : decode cX5_cast 24 = .ok (.ireturn, 1) := by decide +kernel
theorem dX5_cast_25 : decode cX5_cast 25 = .ok (.aload_n 0, 1) := by decide +kernel
theorem dX5_cast_26 : decode cX5_cast 26 = .ok (.getfield 7, 3) := by decide +kernel
theorem dX5_cast_29 : decode cX5_cast 29 = .ok (.iload_n 1, 1) := by decide +kernel
theorem dX5_cast_30 : decode cX5_cast 30 = .ok (.iaload, 1) := by decide +kernel
theorem dX5_cast_31 : decode cX5_cast 31 = .ok (.istore_n 2, 1) := by decide +kernel
theorem dX5_cast_32 : decode cX5_cast 32 = .ok (.bipush 8, 2) := by decide +kernel
theorem dX5_cast_34 : decode cX5_cast 34 = .ok (.iload_n 1, 1) := by decide +kernel
theorem dX5_cast_35 : decode cX5_cast 35 = .ok (.imul, 1) := by decide +kernel
theorem dX5_cast_36 : decode cX5_cast 36 = .ok (.istore_n 3, 1) := by decide +kernel
theorem dX5_cast_37 : decode cX5_cast 37 = .ok (.iload_n 3, 1) := by decide +kernel
theorem dX5_cast_38 : decode cX5_cast 38 = .ok (.bipush 8, 2) := by decide +kernel
theorem dX5_cast_40 : decode cX5_cast 40 = .ok (.iload_n 1, 1) := by decide +kernel
theorem dX5_cast_41 : decode cX5_cast 41 = .ok (.imul, 1) := by decide +kernel
theorem dX5_cast_42 : decode cX5_cast 42 = .ok (.bipush 8, 2) := by decide +kernel
theorem dX5_cast_44 : decode cX5_cast 44 = .ok (.iadd, 1) := by decide +kernel
theorem dX5_cast_45 : decode cX5_cast 45 = .ok (.if_icmp .ge 25, 3) := by decide +kernel
theorem dX5_cast_48 : decode cX5_cast 48 = .ok (.iload_n 2, 1) := by decide +kernel
theorem dX5_cast_49 : decode cX5_cast 49 = .ok (.aload_n 0, 1) := by decide +kernel
theorem dX5_cast_50 : decode cX5_cast 50 = .ok (.getfield 19, 3) := by decide +kernel
theorem dX5_cast_53 : decode cX5_cast 53 = .ok (.iload_n 3, 1) := by decide +kernel
theorem dX5_cast_54 : decode cX5_cast 54 = .ok (.iaload, 1) := by decide +kernel
theorem dX5_cast_55 : decode cX5_cast 55 = .ok (.aload_n 0, 1) := by decide +kernel
theorem dX5_cast_56 : decode cX5_cast 56 = .ok (.getfield 13, 3) := by decide +kernel
theorem dX5_cast_59 : decode cX5_cast 59 = .ok (.iload_n 3, 1) := by decide +kernel
theorem dX5_cast_60 : decode cX5_cast 60 = .ok (.iaload, 1) := by decide +kernel
theorem dX5_cast_61 : decode cX5_cast 61 = .ok (.imul, 1) := by decide +kernel
theorem dX5_cast_62 : decode cX5_cast 62 = .ok (.iadd, 1) := by decide +kernel
theorem dX5_cast_63 : decode cX5_cast 63 = .ok (.istore_n 2, 1) := by decide +kernel
theorem dX5_cast_64 : decode cX5_cast 64 = .ok (.iinc 3 1, 3) := by decide +kernel
theorem dX5_cast_67 : decode cX5_cast 67 = .ok (.goto (-30), 3) := by decide +kernel
theorem dX5_cast_70 : decode cX5_cast 70 = .ok (.iload_n 2, 1) := by decide +kernel
theorem dX5_cast_71 : decode cX5_cast 71 = .ok (.aload_n 0, 1) := by decide +kernel
theorem dX5_cast_72 : decode cX5_cast 72 = .ok (.getfield 105, 3) := by decide +kernel
theorem dX5_cast_75 : decode cX5_cast 75 = .ok (.if_icmp .ge 7, 3) := by decide +kernel
theorem dX5_cast_78 : decode cX5_cast 78 = .ok (.iload_n 2, 1) := by decide +kernel
theorem dX5_cast_79 : decode cX5_cast 79 = .ok (.goto 7, 3) := by decide +kernel
theorem dX5_cast_82 : decode cX5_cast 82 = .ok (.aload_n 0, 1) := by decide +kernel
theorem dX5_cast_83 : decode cX5_cast 83 = .ok (.getfield 105, 3) := by decide +kernel
theorem dX5_cast_86 : decode cX5_cast 86 = .ok (.istore_n 3, 1) := by decide +kernel
theorem dX5_cast_87 : decode cX5_cast 87 = .ok (.iload_n 2, 1) := by decide +kernel
theorem dX5_cast_88 : decode cX5_cast 88 = .ok (.iload_n 3, 1) := by decide +kernel
theorem dX5_cast_89 : decode cX5_cast 89 = .ok (.isub, 1) := by decide +kernel
theorem dX5_cast_90 : decode cX5_cast 90 = .ok (.istore 4, 2) := by decide +kernel
theorem dX5_cast_92 : decode cX5_cast 92 = .ok (.bipush 77, 2) := by decide +kernel
theorem dX5_cast_94 : decode cX5_cast 94 = .ok (.iload 4, 2) := by decide +kernel
theorem dX5_cast_96 : decode cX5_cast 96 = .ok (.imul, 1) := by decide +kernel
theorem dX5_cast_97 : decode cX5_cast 97 = .ok (.bipush 99, 2) := by decide +kernel
theorem dX5_cast_99 : decode cX5_cast 99 = .ok (.iadd, 1) := by decide +kernel
theorem dX5_cast_100 : decode cX5_cast 100 = .ok (.bipush 100, 2) := by decide +kernel
theorem dX5_cast_102 : decode cX5_cast 102 = .ok (.idiv, 1) := by decide +kernel
theorem dX5_cast_103 : decode cX5_cast 103 = .ok (.istore 5, 2) := by decide +kernel
theorem dX5_cast_105 : decode cX5_cast 105 = .ok (.iload 5, 2) := by decide +kernel
theorem dX5_cast_107 : decode cX5_cast 107 = .ok (.aload_n 0, 1) := by decide +kernel
theorem dX5_cast_108 : decode cX5_cast 108 = .ok (.getfield 98, 3) := by decide +kernel
theorem dX5_cast_111 : decode cX5_cast 111 = .ok (.if_icmp .gt 15, 3) := by decide +kernel
theorem dX5_cast_114 : decode cX5_cast 114 = .ok (.iload 4, 2) := by decide +kernel
theorem dX5_cast_116 : decode cX5_cast 116 = .ok (.iload 5, 2) := by decide +kernel
theorem dX5_cast_118 : decode cX5_cast 118 = .ok (.isub, 1) := by decide +kernel
theorem dX5_cast_119 : decode cX5_cast 119 = .ok (.aload_n 0, 1) := by decide +kernel
theorem dX5_cast_120 : decode cX5_cast 120 = .ok (.getfield 102, 3) := by decide +kernel
theorem dX5_cast_123 : decode cX5_cast 123 = .ok (.if_icmp .le 5, 3) := by decide +kernel
theorem dX5_cast_126 : decode cX5_cast 126 = .ok (.iconst (-1), 1) := by decide +kernel
theorem dX5_cast_127 : decode cX5_cast 127 = .ok (.ireturn, 1) := by decide +kernel
theorem dX5_cast_128 : decode cX5_cast 128 = .ok (.aload_n 0, 1) := by decide +kernel
theorem dX5_cast_129 : decode cX5_cast 129 = .ok (.dup, 1) := by decide +kernel
theorem dX5_cast_130 : decode cX5_cast 130 = .ok (.getfield 105, 3) := by decide +kernel
theorem dX5_cast_133 : decode cX5_cast 133 = .ok (.iload_n 3, 1) := by decide +kernel
theorem dX5_cast_134 : decode cX5_cast 134 = .ok (.isub, 1) := by decide +kernel
theorem dX5_cast_135 : decode cX5_cast 135 = .ok (.putfield 105, 3) := by decide +kernel
theorem dX5_cast_138 : decode cX5_cast 138 = .ok (.aload_n 0, 1) := by decide +kernel
theorem dX5_cast_139 : decode cX5_cast 139 = .ok (.dup, 1) := by decide +kernel
theorem dX5_cast_140 : decode cX5_cast 140 = .ok (.getfield 98, 3) := by decide +kernel
theorem dX5_cast_143 : decode cX5_cast 143 = .ok (.iload 5, 2) := by decide +kernel
theorem dX5_cast_145 : decode cX5_cast 145 = .ok (.isub, 1) := by decide +kernel
theorem dX5_cast_146 : decode cX5_cast 146 = .ok (.putfield 98, 3) := by decide +kernel
theorem dX5_cast_149 : decode cX5_cast 149 = .ok (.aload_n 0, 1) := by decide +kernel
theorem dX5_cast_150 : decode cX5_cast 150 = .ok (.dup, 1) := by decide +kernel
theorem dX5_cast_151 : decode cX5_cast 151 = .ok (.getfield 102, 3) := by decide +kernel
theorem dX5_cast_154 : decode cX5_cast 154 = .ok (.iload 4, 2) := by decide +kernel
theorem dX5_cast_156 : decode cX5_cast 156 = .ok (.iload 5, 2) := by decide +kernel
theorem dX5_cast_158 : decode cX5_cast 158 = .ok (.isub, 1) := by decide +kernel
theorem dX5_cast_159 : decode cX5_cast 159 = .ok (.isub, 1) := by decide +kernel
theorem dX5_cast_160 : decode cX5_cast 160 = .ok (.putfield 102, 3) := by decide +kernel
theorem dX5_cast_163 : decode cX5_cast 163 = .ok (.aload_n 0, 1) := by decide +kernel
theorem dX5_cast_164 : decode cX5_cast 164 = .ok (.getfield 86, 3) := by decide +kernel
theorem dX5_cast_167 : decode cX5_cast 167 = .ok (.istore 6, 2) := by decide +kernel
theorem dX5_cast_169 : decode cX5_cast 169 = .ok (.aload_n 0, 1) := by decide +kernel
theorem dX5_cast_170 : decode cX5_cast 170 = .ok (.dup, 1) := by decide +kernel
theorem dX5_cast_171 : decode cX5_cast 171 = .ok (.getfield 86, 3) := by decide +kernel
theorem dX5_cast_174 : decode cX5_cast 174 = .ok (.iconst 1, 1) := by decide +kernel
theorem dX5_cast_175 : decode cX5_cast 175 = .ok (.iadd, 1) := by decide +kernel
theorem dX5_cast_176 : decode cX5_cast 176 = .ok (.putfield 86, 3) := by decide +kernel
theorem dX5_cast_179 : decode cX5_cast 179 = .ok (.aload_n 0, 1) := by decide +kernel
theorem dX5_cast_180 : decode cX5_cast 180 = .ok (.getfield 28, 3) := by decide +kernel
theorem dX5_cast_183 : decode cX5_cast 183 = .ok (.iload 6, 2) := by decide +kernel
theorem dX5_cast_185 : decode cX5_cast 185 = .ok (.iload_n 1, 1) := by decide +kernel
theorem dX5_cast_186 : decode cX5_cast 186 = .ok (.iastore, 1) := by decide +kernel
theorem dX5_cast_187 : decode cX5_cast 187 = .ok (.aload_n 0, 1) := by decide +kernel
theorem dX5_cast_188 : decode cX5_cast 188 = .ok (.getfield 31, 3) := by decide +kernel
theorem dX5_cast_191 : decode cX5_cast 191 = .ok (.iload 6, 2) := by decide +kernel
theorem dX5_cast_193 : decode cX5_cast 193 = .ok (.aload_n 0, 1) := by decide +kernel
theorem dX5_cast_194 : decode cX5_cast 194 = .ok (.getfield 7, 3) := by decide +kernel
theorem dX5_cast_197 : decode cX5_cast 197 = .ok (.iload_n 1, 1) := by decide +kernel
theorem dX5_cast_198 : decode cX5_cast 198 = .ok (.iaload, 1) := by decide +kernel
theorem dX5_cast_199 : decode cX5_cast 199 = .ok (.iastore, 1) := by decide +kernel
theorem dX5_cast_200 : decode cX5_cast 200 = .ok (.iconst 0, 1) := by decide +kernel
theorem dX5_cast_201 : decode cX5_cast 201 = .ok (.istore 7, 2) := by decide +kernel
theorem dX5_cast_203 : decode cX5_cast 203 = .ok (.iload 7, 2) := by decide +kernel
theorem dX5_cast_205 : decode cX5_cast 205 = .ok (.bipush 8, 2) := by decide +kernel
theorem dX5_cast_207 : decode cX5_cast 207 = .ok (.if_icmp .ge 84, 3) := by decide +kernel
theorem dX5_cast_210 : decode cX5_cast 210 = .ok (.aload_n 0, 1) := by decide +kernel
theorem dX5_cast_211 : decode cX5_cast 211 = .ok (.getfield 34, 3) := by decide +kernel
theorem dX5_cast_214 : decode cX5_cast 214 = .ok (.bipush 8, 2) := by decide +kernel
theorem dX5_cast_216 : decode cX5_cast 216 = .ok (.iload 6, 2) := by decide +kernel
theorem dX5_cast_218 : decode cX5_cast 218 = .ok (.imul, 1) := by decide +kernel
theorem dX5_cast_219 : decode cX5_cast 219 = .ok (.iload 7, 2) := by decide +kernel
theorem dX5_cast_221 : decode cX5_cast 221 = .ok (.iadd, 1) := by decide +kernel
theorem dX5_cast_222 : decode cX5_cast 222 = .ok (.aload_n 0, 1) := by decide +kernel
theorem dX5_cast_223 : decode cX5_cast 223 = .ok (.getfield 13, 3) := by decide +kernel
theorem dX5_cast_226 : decode cX5_cast 226 = .ok (.bipush 8, 2) := by decide +kernel
theorem dX5_cast_228 : decode cX5_cast 228 = .ok (.iload_n 1, 1) := by decide +kernel
theorem dX5_cast_229 : decode cX5_cast 229 = .ok (.imul, 1) := by decide +kernel
theorem dX5_cast_230 : decode cX5_cast 230 = .ok (.iload 7, 2) := by decide +kernel
theorem dX5_cast_232 : decode cX5_cast 232 = .ok (.iadd, 1) := by decide +kernel
theorem dX5_cast_233 : decode cX5_cast 233 = .ok (.iaload, 1) := by decide +kernel
theorem dX5_cast_234 : decode cX5_cast 234 = .ok (.iastore, 1) := by decide +kernel
theorem dX5_cast_235 : decode cX5_cast 235 = .ok (.aload_n 0, 1) := by decide +kernel
theorem dX5_cast_236 : decode cX5_cast 236 = .ok (.getfield 37, 3) := by decide +kernel
theorem dX5_cast_239 : decode cX5_cast 239 = .ok (.bipush 8, 2) := by decide +kernel
theorem dX5_cast_241 : decode cX5_cast 241 = .ok (.iload 6, 2) := by decide +kernel
theorem dX5_cast_243 : decode cX5_cast 243 = .ok (.imul, 1) := by decide +kernel
theorem dX5_cast_244 : decode cX5_cast 244 = .ok (.iload 7, 2) := by decide +kernel
theorem dX5_cast_246 : decode cX5_cast 246 = .ok (.iadd, 1) := by decide +kernel
theorem dX5_cast_247 : decode cX5_cast 247 = .ok (.aload_n 0, 1) := by decide +kernel
theorem dX5_cast_248 : decode cX5_cast 248 = .ok (.getfield 16, 3) := by decide +kernel
theorem dX5_cast_251 : decode cX5_cast 251 = .ok (.bipush 8, 2) := by decide +kernel
theorem dX5_cast_253 : decode cX5_cast 253 = .ok (.iload_n 1, 1) := by decide +kernel
theorem dX5_cast_254 : decode cX5_cast 254 = .ok (.imul, 1) := by decide +kernel
theorem dX5_cast_255 : decode cX5_cast 255 = .ok (.iload 7, 2) := by decide +kernel
theorem dX5_cast_257 : decode cX5_cast 257 = .ok (.iadd, 1) := by decide +kernel
theorem dX5_cast_258 : decode cX5_cast 258 = .ok (.iaload, 1) := by decide +kernel
theorem dX5_cast_259 : decode cX5_cast 259 = .ok (.iastore, 1) := by decide +kernel
theorem dX5_cast_260 : decode cX5_cast 260 = .ok (.aload_n 0, 1) := by decide +kernel
theorem dX5_cast_261 : decode cX5_cast 261 = .ok (.getfield 40, 3) := by decide +kernel
theorem dX5_cast_264 : decode cX5_cast 264 = .ok (.bipush 8, 2) := by decide +kernel
theorem dX5_cast_266 : decode cX5_cast 266 = .ok (.iload 6, 2) := by decide +kernel
theorem dX5_cast_268 : decode cX5_cast 268 = .ok (.imul, 1) := by decide +kernel
theorem dX5_cast_269 : decode cX5_cast 269 = .ok (.iload 7, 2) := by decide +kernel
theorem dX5_cast_271 : decode cX5_cast 271 = .ok (.iadd, 1) := by decide +kernel
theorem dX5_cast_272 : decode cX5_cast 272 = .ok (.aload_n 0, 1) := by decide +kernel
theorem dX5_cast_273 : decode cX5_cast 273 = .ok (.getfield 19, 3) := by decide +kernel
theorem dX5_cast_276 : decode cX5_cast 276 = .ok (.bipush 8, 2) := by decide +kernel
theorem dX5_cast_278 : decode cX5_cast 278 = .ok (.iload_n 1, 1) := by decide +kernel
theorem dX5_cast_279 : decode cX5_cast 279 = .ok (.imul, 1) := by decide +kernel
theorem dX5_cast_280 : decode cX5_cast 280 = .ok (.iload 7, 2) := by decide +kernel
theorem dX5_cast_282 : decode cX5_cast 282 = .ok (.iadd, 1) := by decide +kernel
theorem dX5_cast_283 : decode cX5_cast 283 = .ok (.iaload, 1) := by decide +kernel
theorem dX5_cast_284 : decode cX5_cast 284 = .ok (.iastore, 1) := by decide +kernel
theorem dX5_cast_285 : decode cX5_cast 285 = .ok (.iinc 7 1, 3) := by decide +kernel
theorem dX5_cast_288 : decode cX5_cast 288 = .ok (.goto (-85), 3) := by decide +kernel
theorem dX5_cast_291 : decode cX5_cast 291 = .ok (.iconst 0, 1) := by decide +kernel
theorem dX5_cast_292 : decode cX5_cast 292 = .ok (.istore 7, 2) := by decide +kernel
theorem dX5_cast_294 : decode cX5_cast 294 = .ok (.iload 7, 2) := by decide +kernel
theorem dX5_cast_296 : decode cX5_cast 296 = .ok (.iconst 5, 1) := by decide +kernel
theorem dX5_cast_297 : decode cX5_cast 297 = .ok (.if_icmp .ge 32, 3) := by decide +kernel
theorem dX5_cast_300 : decode cX5_cast 300 = .ok (.aload_n 0, 1) := by decide +kernel
theorem dX5_cast_301 : decode cX5_cast 301 = .ok (.getfield 43, 3) := by decide +kernel
theorem dX5_cast_304 : decode cX5_cast 304 = .ok (.iconst 5, 1) := by decide +kernel
theorem dX5_cast_305 : decode cX5_cast 305 = .ok (.iload 6, 2) := by decide +kernel
theorem dX5_cast_307 : decode cX5_cast 307 = .ok (.imul, 1) := by decide +kernel
theorem dX5_cast_308 : decode cX5_cast 308 = .ok (.iload 7, 2) := by decide +kernel
theorem dX5_cast_310 : decode cX5_cast 310 = .ok (.iadd, 1) := by decide +kernel
theorem dX5_cast_311 : decode cX5_cast 311 = .ok (.aload_n 0, 1) := by decide +kernel
theorem dX5_cast_312 : decode cX5_cast 312 = .ok (.getfield 22, 3) := by decide +kernel
theorem dX5_cast_315 : decode cX5_cast 315 = .ok (.iconst 5, 1) := by decide +kernel
theorem dX5_cast_316 : decode cX5_cast 316 = .ok (.iload_n 1, 1) := by decide +kernel
theorem dX5_cast_317 : decode cX5_cast 317 = .ok (.imul, 1) := by decide +kernel
theorem dX5_cast_318 : decode cX5_cast 318 = .ok (.iload 7, 2) := by decide +kernel
theorem dX5_cast_320 : decode cX5_cast 320 = .ok (.iadd, 1) := by decide +kernel
theorem dX5_cast_321 : decode cX5_cast 321 = .ok (.iaload, 1) := by decide +kernel
theorem dX5_cast_322 : decode cX5_cast 322 = .ok (.iastore, 1) := by decide +kernel
theorem dX5_cast_323 : decode cX5_cast 323 = .ok (.iinc 7 1, 3) := by decide +kernel
theorem dX5_cast_326 : decode cX5_cast 326 = .ok (.goto (-32), 3) := by decide +kernel
theorem dX5_cast_329 : decode cX5_cast 329 = .ok (.iconst 0, 1) := by decide +kernel
theorem dX5_cast_330 : decode cX5_cast 330 = .ok (.istore 7, 2) := by decide +kernel
theorem dX5_cast_332 : decode cX5_cast 332 = .ok (.iload 7, 2) := by decide +kernel
theorem dX5_cast_334 : decode cX5_cast 334 = .ok (.bipush 40, 2) := by decide +kernel
theorem dX5_cast_336 : decode cX5_cast 336 = .ok (.if_icmp .ge 34, 3) := by decide +kernel
theorem dX5_cast_339 : decode cX5_cast 339 = .ok (.aload_n 0, 1) := by decide +kernel
theorem dX5_cast_340 : decode cX5_cast 340 = .ok (.getfield 46, 3) := by decide +kernel
theorem dX5_cast_343 : decode cX5_cast 343 = .ok (.bipush 40, 2) := by decide +kernel
theorem dX5_cast_345 : decode cX5_cast 345 = .ok (.iload 6, 2) := by decide +kernel
theorem dX5_cast_347 : decode cX5_cast 347 = .ok (.imul, 1) := by decide +kernel
theorem dX5_cast_348 : decode cX5_cast 348 = .ok (.iload 7, 2) := by decide +kernel
theorem dX5_cast_350 : decode cX5_cast 350 = .ok (.iadd, 1) := by decide +kernel
theorem dX5_cast_351 : decode cX5_cast 351 = .ok (.aload_n 0, 1) := by decide +kernel
theorem dX5_cast_352 : decode cX5_cast 352 = .ok (.getfield 25, 3) := by decide +kernel
theorem dX5_cast_355 : decode cX5_cast 355 = .ok (.bipush 40, 2) := by decide +kernel
theorem dX5_cast_357 : decode cX5_cast 357 = .ok (.iload_n 1, 1) := by decide +kernel
theorem dX5_cast_358 : decode cX5_cast 358 = .ok (.imul, 1) := by decide +kernel
theorem dX5_cast_359 : decode cX5_cast 359 = .ok (.iload 7, 2) := by decide +kernel
theorem dX5_cast_361 : decode cX5_cast 361 = .ok (.iadd, 1) := by decide +kernel
theorem dX5_cast_362 : decode cX5_cast 362 = .ok (.iaload, 1) := by decide +kernel
theorem dX5_cast_363 : decode cX5_cast 363 = .ok (.iastore, 1) := by decide +kernel
theorem dX5_cast_364 : decode cX5_cast 364 = .ok (.iinc 7 1, 3) := by decide +kernel
theorem dX5_cast_367 : decode cX5_cast 367 = .ok (.goto (-35), 3) := by decide +kernel
theorem dX5_cast_370 : decode cX5_cast 370 = .ok (.aload_n 0, 1) := by decide +kernel
theorem dX5_cast_371 : decode cX5_cast 371 = .ok (.getfield 56, 3) := by decide +kernel
theorem dX5_cast_374 : decode cX5_cast 374 = .ok (.iload 6, 2) := by decide +kernel
theorem dX5_cast_376 : decode cX5_cast 376 = .ok (.iconst (-1), 1) := by decide +kernel
theorem dX5_cast_377 : decode cX5_cast 377 = .ok (.iastore, 1) := by decide +kernel
theorem dX5_cast_378 : decode cX5_cast 378 = .ok (.iload 6, 2) := by decide +kernel
theorem dX5_cast_380 : decode cX5_cast 380 = .ok (.ireturn, 1) := by decide +kernel
theorem dX5_canCut_0 : decode cX5_canCut 0 = .ok (.aload_n 0, 1) := by decide +kernel
theorem dX5_canCut_1 : decode cX5_canCut 1 = .ok (.iload_n 1, 1) := by decide +kernel
theorem dX5_canCut_2 : decode cX5_canCut 2 = .ok (.invokevirtual 108, 3) := by decide +kernel
theorem dX5_canCut_5 : decode cX5_canCut 5 = .ok (.ifCond .eq 25, 3) := by decide +kernel
theorem dX5_canCut_8 : decode cX5_canCut 8 = .ok (.aload_n 0, 1) := by decide +kernel
theorem dX5_canCut_9 : decode cX5_canCut 9 = .ok (.getfield 49, 3) := by decide +kernel
theorem dX5_canCut_12 : decode cX5_canCut 12 = .ok (.iload_n 1, 1) := by decide +kernel
theorem dX5_canCut_13 : decode cX5_canCut 13 = .ok (.baload, 1) := by decide +kernel
theorem dX5_canCut_14 : decode cX5_canCut 14 = .ok (.ifCond .ne 16, 3) := by decide +kernel
theorem dX5_canCut_17 : decode cX5_canCut 17 = .ok (.aload_n 0, 1) := by decide +kernel
theorem dX5_canCut_18 : decode cX5_canCut 18 = .ok (.getfield 53, 3) := by decide +kernel
theorem dX5_canCut_21 : decode cX5_canCut 21 = .ok (.iload_n 1, 1) := by decide +kernel
theorem dX5_canCut_22 : decode cX5_canCut 22 = .ok (.baload, 1) := by decide +kernel
theorem dX5_canCut_23 : decode cX5_canCut 23 = .ok (.ifCond .ne 7, 3) := by decide +kernel
theorem dX5_canCut_26 : decode cX5_canCut 26 = .ok (.iconst 1, 1) := by decide +kernel
theorem dX5_canCut_27 : decode cX5_canCut 27 = .ok (.goto 4, 3) := by decide +kernel
theorem dX5_canCut_30 : decode cX5_canCut 30 = .ok (.iconst 0, 1) := by decide +kernel
theorem dX5_canCut_31 : decode cX5_canCut 31 = .ok (.ireturn, 1) := by decide +kernel
theorem dX5_cut_0 : decode cX5_cut 0 = .ok (.aload_n 0, 1) := by decide +kernel
theorem dX5_cut_1 : decode cX5_cut 1 = .ok (.iload_n 1, 1) := by decide +kernel
theorem dX5_cut_2 : decode cX5_cut 2 = .ok (.invokevirtual 112, 3) := by decide +kernel
theorem dX5_cut_5 : decode cX5_cut 5 = .ok (.ifCond .eq 38, 3) := by decide +kernel
theorem dX5_cut_8 : decode cX5_cut 8 = .ok (.iload_n 2, 1) := by decide +kernel
theorem dX5_cut_9 : decode cX5_cut 9 = .ok (.iconst 0, 1) := by decide +kernel
theorem dX5_cut_10 : decode cX5_cut 10 = .ok (.bipush 7, 2) := by decide +kernel
theorem dX5_cut_12 : decode cX5_cut 12 = .ok (.invokestatic 90, 3) := by decide +kernel
theorem dX5_cut_15 : decode cX5_cut 15 = .ok (.ifCond .eq 28, 3) := by decide +kernel
theorem dX5_cut_18 : decode cX5_cut 18 = .ok (.aload_n 0, 1) := by decide +kernel
theorem dX5_cut_19 : decode cX5_cut 19 = .ok (.getfield 34, 3) := by decide +kernel
theorem dX5_cut_22 : decode cX5_cut 22 = .ok (.bipush 8, 2) := by decide +kernel
theorem dX5_cut_24 : decode cX5_cut 24 = .ok (.iload_n 1, 1) := by decide +kernel
theorem dX5_cut_25 : decode cX5_cut 25 = .ok (.imul, 1) := by decide +kernel
theorem dX5_cut_26 : decode cX5_cut 26 = .ok (.iload_n 2, 1) := by decide +kernel
theorem dX5_cut_27 : decode cX5_cut 27 = .ok (.iadd, 1) := by decide +kernel
theorem dX5_cut_28 : decode cX5_cut 28 = .ok (.iaload, 1) := by decide +kernel
theorem dX5_cut_29 : decode cX5_cut 29 = .ok (.aload_n 0, 1) := by decide +kernel
theorem dX5_cut_30 : decode cX5_cut 30 = .ok (.getfield 37, 3) := by decide +kernel
theorem dX5_cut_33 : decode cX5_cut 33 = .ok (.bipush 8, 2) := by decide +kernel
theorem dX5_cut_35 : decode cX5_cut 35 = .ok (.iload_n 1, 1) := by decide +kernel
theorem dX5_cut_36 : decode cX5_cut 36 = .ok (.imul, 1) := by decide +kernel
theorem dX5_cut_37 : decode cX5_cut 37 = .ok (.iload_n 2, 1) := by decide +kernel
theorem dX5_cut_38 : decode cX5_cut 38 = .ok (.iadd, 1) := by decide +kernel
theorem dX5_cut_39 : decode cX5_cut 39 = .ok (.iaload, 1) := by decide +kernel
theorem dX5_cut_40 : decode cX5_cut 40 = .ok (.if_icmp .ne 5, 3) := by decide +kernel
theorem dX5_cut_43 : decode cX5_cut 43 = .ok (.iconst (-1), 1) := by decide +kernel
theorem dX5_cut_44 : decode cX5_cut 44 = .ok (.ireturn, 1) := by decide +kernel
theorem dX5_cut_45 : decode cX5_cut 45 = .ok (.aload_n 0, 1) := by decide +kernel
theorem dX5_cut_46 : decode cX5_cut 46 = .ok (.getfield 34, 3) := by decide +kernel
theorem dX5_cut_49 : decode cX5_cut 49 = .ok (.bipush 8, 2) := by decide +kernel
theorem dX5_cut_51 : decode cX5_cut 51 = .ok (.iload_n 1, 1) := by decide +kernel
theorem dX5_cut_52 : decode cX5_cut 52 = .ok (.imul, 1) := by decide +kernel
theorem dX5_cut_53 : decode cX5_cut 53 = .ok (.iload_n 2, 1) := by decide +kernel
theorem dX5_cut_54 : decode cX5_cut 54 = .ok (.iadd, 1) := by decide +kernel
theorem dX5_cut_55 : decode cX5_cut 55 = .ok (.dup2, 1) := by decide +kernel
theorem dX5_cut_56 : decode cX5_cut 56 = .ok (.iaload, 1) := by decide +kernel
theorem dX5_cut_57 : decode cX5_cut 57 = .ok (.iconst 1, 1) := by decide +kernel
theorem dX5_cut_58 : decode cX5_cut 58 = .ok (.isub, 1) := by decide +kernel
theorem dX5_cut_59 : decode cX5_cut 59 = .ok (.iastore, 1) := by decide +kernel
theorem dX5_cut_60 : decode cX5_cut 60 = .ok (.aload_n 0, 1) := by decide +kernel
theorem dX5_cut_61 : decode cX5_cut 61 = .ok (.dup, 1) := by decide +kernel
theorem dX5_cut_62 : decode cX5_cut 62 = .ok (.getfield 105, 3) := by decide +kernel
theorem dX5_cut_65 : decode cX5_cut 65 = .ok (.aload_n 0, 1) := by decide +kernel
theorem dX5_cut_66 : decode cX5_cut 66 = .ok (.getfield 40, 3) := by decide +kernel
theorem dX5_cut_69 : decode cX5_cut 69 = .ok (.bipush 8, 2) := by decide +kernel
theorem dX5_cut_71 : decode cX5_cut 71 = .ok (.iload_n 1, 1) := by decide +kernel
theorem dX5_cut_72 : decode cX5_cut 72 = .ok (.imul, 1) := by decide +kernel
theorem dX5_cut_73 : decode cX5_cut 73 = .ok (.iload_n 2, 1) := by decide +kernel
theorem dX5_cut_74 : decode cX5_cut 74 = .ok (.iadd, 1) := by decide +kernel
theorem dX5_cut_75 : decode cX5_cut 75 = .ok (.iaload, 1) := by decide +kernel
theorem dX5_cut_76 : decode cX5_cut 76 = .ok (.iadd, 1) := by decide +kernel
theorem dX5_cut_77 : decode cX5_cut 77 = .ok (.putfield 105, 3) := by decide +kernel
theorem dX5_cut_80 : decode cX5_cut 80 = .ok (.aload_n 0, 1) := by decide +kernel
theorem dX5_cut_81 : decode cX5_cut 81 = .ok (.getfield 34, 3) := by decide +kernel
theorem dX5_cut_84 : decode cX5_cut 84 = .ok (.bipush 8, 2) := by decide +kernel
theorem dX5_cut_86 : decode cX5_cut 86 = .ok (.iload_n 1, 1) := by decide +kernel
theorem dX5_cut_87 : decode cX5_cut 87 = .ok (.imul, 1) := by decide +kernel
theorem dX5_cut_88 : decode cX5_cut 88 = .ok (.iload_n 2, 1) := by decide +kernel
theorem dX5_cut_89 : decode cX5_cut 89 = .ok (.iadd, 1) := by decide +kernel
theorem dX5_cut_90 : decode cX5_cut 90 = .ok (.iaload, 1) := by decide +kernel
theorem dX5_cut_91 : decode cX5_cut 91 = .ok (.ireturn, 1) := by decide +kernel
theorem dX5_old_0 : decode cX5_old 0 = .ok (.aload_n 0, 1) := by decide +kernel
theorem dX5_old_1 : decode cX5_old 1 = .ok (.iload_n 1, 1) := by decide +kernel
theorem dX5_old_2 : decode cX5_old 2 = .ok (.invokevirtual 108, 3) := by decide +kernel
theorem dX5_old_5 : decode cX5_old 5 = .ok (.ifCond .ne 5, 3) := by decide +kernel
theorem dX5_old_8 : decode cX5_old 8 = .ok (.iconst 0, 1) := by decide +kernel
theorem dX5_old_9 : decode cX5_old 9 = .ok (.ireturn, 1) := by decide +kernel
theorem dX5_old_10 : decode cX5_old 10 = .ok (.aload_n 0, 1) := by decide +kernel
theorem dX5_old_11 : decode cX5_old 11 = .ok (.getfield 49, 3) := by decide +kernel
theorem dX5_old_14 : decode cX5_old 14 = .ok (.iload_n 1, 1) := by decide +kernel
theorem dX5_old_15 : decode cX5_old 15 = .ok (.iconst 1, 1) := by decide +kernel
theorem dX5_old_16 : decode cX5_old 16 = .ok (.bastore, 1) := by decide +kernel
theorem dX5_old_17 : decode cX5_old 17 = .ok (.iconst 1, 1) := by decide +kernel
theorem dX5_old_18 : decode cX5_old 18 = .ok (.ireturn, 1) := by decide +kernel
theorem dX5_crack_0 : decode cX5_crack 0 = .ok (.aload_n 0, 1) := by decide +kernel
theorem dX5_crack_1 : decode cX5_crack 1 = .ok (.iload_n 1, 1) := by decide +kernel
theorem dX5_crack_2 : decode cX5_crack 2 = .ok (.invokevirtual 108, 3) := by decide +kernel
theorem dX5_crack_5 : decode cX5_crack 5 = .ok (.ifCond .eq 12, 3) := by decide +kernel
theorem dX5_crack_8 : decode cX5_crack 8 = .ok (.aload_n 0, 1) := by decide +kernel
theorem dX5_crack_9 : decode cX5_crack 9 = .ok (.getfield 53, 3) := by decide +kernel
theorem dX5_crack_12 : decode cX5_crack 12 = .ok (.iload_n 1, 1) := by decide +kernel
theorem dX5_crack_13 : decode cX5_crack 13 = .ok (.baload, 1) := by decide +kernel
theorem dX5_crack_14 : decode cX5_crack 14 = .ok (.ifCond .eq 5, 3) := by decide +kernel
theorem dX5_crack_17 : decode cX5_crack 17 = .ok (.iconst 0, 1) := by decide +kernel
theorem dX5_crack_18 : decode cX5_crack 18 = .ok (.ireturn, 1) := by decide +kernel
theorem dX5_crack_19 : decode cX5_crack 19 = .ok (.aload_n 0, 1) := by decide +kernel
theorem dX5_crack_20 : decode cX5_crack 20 = .ok (.getfield 53, 3) := by decide +kernel
theorem dX5_crack_23 : decode cX5_crack 23 = .ok (.iload_n 1, 1) := by decide +kernel
theorem dX5_crack_24 : decode cX5_crack 24 = .ok (.iconst 1, 1) := by decide +kernel
theorem dX5_crack_25 : decode cX5_crack 25 = .ok (.bastore, 1) := by decide +kernel
theorem dX5_crack_26 : decode cX5_crack 26 = .ok (.aload_n 0, 1) := by decide +kernel
theorem dX5_crack_27 : decode cX5_crack 27 = .ok (.getfield 56, 3) := by decide +kernel
theorem dX5_crack_30 : decode cX5_crack 30 = .ok (.iload_n 1, 1) := by decide +kernel
theorem dX5_crack_31 : decode cX5_crack 31 = .ok (.iconst (-1), 1) := by decide +kernel
theorem dX5_crack_32 : decode cX5_crack 32 = .ok (.iastore, 1) := by decide +kernel
theorem dX5_crack_33 : decode cX5_crack 33 = .ok (.aload_n 0, 1) := by decide +kernel
theorem dX5_crack_34 : decode cX5_crack 34 = .ok (.dup, 1) := by decide +kernel
theorem dX5_crack_35 : decode cX5_crack 35 = .ok (.getfield 105, 3) := by decide +kernel
theorem dX5_crack_38 : decode cX5_crack 38 = .ok (.aload_n 0, 1) := by decide +kernel
theorem dX5_crack_39 : decode cX5_crack 39 = .ok (.iload_n 1, 1) := by decide +kernel
theorem dX5_crack_40 : decode cX5_crack 40 = .ok (.invokevirtual 115, 3) := by decide +kernel
theorem dX5_crack_43 : decode cX5_crack 43 = .ok (.iadd, 1) := by decide +kernel
theorem dX5_crack_44 : decode cX5_crack 44 = .ok (.putfield 105, 3) := by decide +kernel
theorem dX5_crack_47 : decode cX5_crack 47 = .ok (.iconst 1, 1) := by decide +kernel
theorem dX5_crack_48 : decode cX5_crack 48 = .ok (.ireturn, 1) := by decide +kernel
theorem dX5_pull_0 : decode cX5_pull 0 = .ok (.iload_n 2, 1) := by decide +kernel
theorem dX5_pull_1 : decode cX5_pull 1 = .ok (.ifCond .ge 7, 3) := by decide +kernel
theorem dX5_pull_4 : decode cX5_pull 4 = .ok (.iconst 0, 1) := by decide +kernel
theorem dX5_pull_5 : decode cX5_pull 5 = .ok (.goto 18, 3) := by decide +kernel
theorem dX5_pull_8 : decode cX5_pull 8 = .ok (.aload_n 0, 1) := by decide +kernel
theorem dX5_pull_9 : decode cX5_pull 9 = .ok (.iload_n 1, 1) := by decide +kernel
theorem dX5_pull_10 : decode cX5_pull 10 = .ok (.invokevirtual 115, 3) := by decide +kernel
theorem dX5_pull_13 : decode cX5_pull 13 = .ok (.aload_n 0, 1) := by decide +kernel
theorem dX5_pull_14 : decode cX5_pull 14 = .ok (.getfield 68, 3) := by decide +kernel
theorem dX5_pull_17 : decode cX5_pull 17 = .ok (.iload_n 2, 1) := by decide +kernel
theorem dX5_pull_18 : decode cX5_pull 18 = .ok (.iaload, 1) := by decide +kernel
theorem dX5_pull_19 : decode cX5_pull 19 = .ok (.imul, 1) := by decide +kernel
theorem dX5_pull_20 : decode cX5_pull 20 = .ok (.bipush 100, 2) := by decide +kernel
theorem dX5_pull_22 : decode cX5_pull 22 = .ok (.idiv, 1) := by decide +kernel
theorem dX5_pull_23 : decode cX5_pull 23 = .ok (.ireturn, 1) := by decide +kernel
theorem dX5_bellOf_0 : decode cX5_bellOf 0 = .ok (.aload_n 0, 1) := by decide +kernel
theorem dX5_bellOf_1 : decode cX5_bellOf 1 = .ok (.iload_n 1, 1) := by decide +kernel
theorem dX5_bellOf_2 : decode cX5_bellOf 2 = .ok (.invokevirtual 108, 3) := by decide +kernel
theorem dX5_bellOf_5 : decode cX5_bellOf 5 = .ok (.ifCond .ne 6, 3) := by decide +kernel
theorem dX5_bellOf_8 : decode cX5_bellOf 8 = .ok (.ldc 119, 2) := by decide +kernel
theorem dX5_bellOf_10 : decode cX5_bellOf 10 = .ok (.ireturn, 1) := by decide +kernel
theorem dX5_bellOf_11 : decode cX5_bellOf 11 = .ok (.iload_n 2, 1) := by decide +kernel
theorem dX5_bellOf_12 : decode cX5_bellOf 12 = .ok (.iconst 0, 1) := by decide +kernel
theorem dX5_bellOf_13 : decode cX5_bellOf 13 = .ok (.iconst 4, 1) := by decide +kernel
theorem dX5_bellOf_14 : decode cX5_bellOf 14 = .ok (.invokestatic 90, 3) := by decide +kernel
theorem dX5_bellOf_17 : decode cX5_bellOf 17 = .ok (.ifCond .eq 10, 3) := by decide +kernel
theorem dX5_bellOf_20 : decode cX5_bellOf 20 = .ok (.aload_n 0, 1) := by decide +kernel
theorem dX5_bellOf_21 : decode cX5_bellOf 21 = .ok (.iload_n 1, 1) := by decide +kernel
theorem dX5_bellOf_22 : decode cX5_bellOf 22 = .ok (.iload_n 2, 1) := by decide +kernel
theorem dX5_bellOf_23 : decode cX5_bellOf 23 = .ok (.invokevirtual 120, 3) := by decide +kernel
theorem dX5_bellOf_26 : decode cX5_bellOf 26 = .ok (.ireturn, 1) := by decide +kernel
theorem dX5_bellOf_27 : decode cX5_bellOf 27 = .ok (.iload_n 2, 1) := by decide +kernel
theorem dX5_bellOf_28 : decode cX5_bellOf 28 = .ok (.bipush 10, 2) := by decide +kernel
theorem dX5_bellOf_30 : decode cX5_bellOf 30 = .ok (.bipush 17, 2) := by decide +kernel
theorem dX5_bellOf_32 : decode cX5_bellOf 32 = .ok (.invokestatic 90, 3) := by decide +kernel
theorem dX5_bellOf_35 : decode cX5_bellOf 35 = .ok (.ifCond .eq 18, 3) := by decide +kernel
theorem dX5_bellOf_38 : decode cX5_bellOf 38 = .ok (.aload_n 0, 1) := by decide +kernel
theorem dX5_bellOf_39 : decode cX5_bellOf 39 = .ok (.getfield 34, 3) := by decide +kernel
theorem dX5_bellOf_42 : decode cX5_bellOf 42 = .ok (.bipush 8, 2) := by decide +kernel
theorem dX5_bellOf_44 : decode cX5_bellOf 44 = .ok (.iload_n 1, 1) := by decide +kernel
theorem dX5_bellOf_45 : decode cX5_bellOf 45 = .ok (.imul, 1) := by decide +kernel
theorem dX5_bellOf_46 : decode cX5_bellOf 46 = .ok (.iload_n 2, 1) := by decide +kernel
theorem dX5_bellOf_47 : decode cX5_bellOf 47 = .ok (.iadd, 1) := by decide +kernel
theorem dX5_bellOf_48 : decode cX5_bellOf 48 = .ok (.bipush 10, 2) := by decide +kernel
theorem dX5_bellOf_50 : decode cX5_bellOf 50 = .ok (.isub, 1) := by decide +kernel
theorem dX5_bellOf_51 : decode cX5_bellOf 51 = .ok (.iaload, 1) := by decide +kernel
theorem dX5_bellOf_52 : decode cX5_bellOf 52 = .ok (.ireturn, 1) := by decide +kernel
theorem dX5_bellOf_53 : decode cX5_bellOf 53 = .ok (.iload_n 2, 1) := by decide +kernel
theorem dX5_bellOf_54 : decode cX5_bellOf 54 = .ok (.tableswitch 132 5 18 #[70, 76, 91, 106, 113, 132, 132, 132, 132, 132, 132, 132, 132, 125], 70) := by decide +kernel
theorem dX5_bellOf_124 : decode cX5_bellOf 124 = .ok (.aload_n 0, 1) := by decide +kernel
theorem dX5_bellOf_125 : decode cX5_bellOf 125 = .ok (.iload_n 1, 1) := by decide +kernel
theorem dX5_bellOf_126 : decode cX5_bellOf 126 = .ok (.invokevirtual 115, 3) := by decide +kernel
theorem dX5_bellOf_129 : decode cX5_bellOf 129 = .ok (.ireturn, 1) := by decide +kernel
theorem dX5_bellOf_130 : decode cX5_bellOf 130 = .ok (.aload_n 0, 1) := by decide +kernel
theorem dX5_bellOf_131 : decode cX5_bellOf 131 = .ok (.getfield 49, 3) := by decide +kernel
theorem dX5_bellOf_134 : decode cX5_bellOf 134 = .ok (.iload_n 1, 1) := by decide +kernel
theorem dX5_bellOf_135 : decode cX5_bellOf 135 = .ok (.baload, 1) := by decide +kernel
theorem dX5_bellOf_136 : decode cX5_bellOf 136 = .ok (.ifCond .eq 7, 3) := by decide +kernel
theorem dX5_bellOf_139 : decode cX5_bellOf 139 = .ok (.iconst 1, 1) := by decide +kernel
theorem dX5_bellOf_140 : decode cX5_bellOf 140 = .ok (.goto 4, 3) := by decide +kernel
theorem dX5_bellOf_143 : decode cX5_bellOf 143 = .ok (.iconst 0, 1) := by decide +kernel
theorem dX5_bellOf_144 : decode cX5_bellOf 144 = .ok (.ireturn, 1) := by decide +kernel
theorem dX5_bellOf_145 : decode cX5_bellOf 145 = .ok (.aload_n 0, 1) := by decide +kernel
theorem dX5_bellOf_146 : decode cX5_bellOf 146 = .ok (.getfield 53, 3) := by decide +kernel
theorem dX5_bellOf_149 : decode cX5_bellOf 149 = .ok (.iload_n 1, 1) := by decide +kernel
theorem dX5_bellOf_150 : decode cX5_bellOf 150 = .ok (.baload, 1) := by decide +kernel
theorem dX5_bellOf_151 : decode cX5_bellOf 151 = .ok (.ifCond .eq 7, 3) := by decide +kernel
theorem dX5_bellOf_154 : decode cX5_bellOf 154 = .ok (.iconst 1, 1) := by decide +kernel
theorem dX5_bellOf_155 : decode cX5_bellOf 155 = .ok (.goto 4, 3) := by decide +kernel
theorem dX5_bellOf_158 : decode cX5_bellOf 158 = .ok (.iconst 0, 1) := by decide +kernel
theorem dX5_bellOf_159 : decode cX5_bellOf 159 = .ok (.ireturn, 1) := by decide +kernel
theorem dX5_bellOf_160 : decode cX5_bellOf 160 = .ok (.aload_n 0, 1) := by decide +kernel
theorem dX5_bellOf_161 : decode cX5_bellOf 161 = .ok (.getfield 56, 3) := by decide +kernel
theorem dX5_bellOf_164 : decode cX5_bellOf 164 = .ok (.iload_n 1, 1) := by decide +kernel
theorem dX5_bellOf_165 : decode cX5_bellOf 165 = .ok (.iaload, 1) := by decide +kernel
theorem dX5_bellOf_166 : decode cX5_bellOf 166 = .ok (.ireturn, 1) := by decide +kernel
theorem dX5_bellOf_167 : decode cX5_bellOf 167 = .ok (.aload_n 0, 1) := by decide +kernel
theorem dX5_bellOf_168 : decode cX5_bellOf 168 = .ok (.iload_n 1, 1) := by decide +kernel
theorem dX5_bellOf_169 : decode cX5_bellOf 169 = .ok (.aload_n 0, 1) := by decide +kernel
theorem dX5_bellOf_170 : decode cX5_bellOf 170 = .ok (.getfield 56, 3) := by decide +kernel
theorem dX5_bellOf_173 : decode cX5_bellOf 173 = .ok (.iload_n 1, 1) := by decide +kernel
theorem dX5_bellOf_174 : decode cX5_bellOf 174 = .ok (.iaload, 1) := by decide +kernel
theorem dX5_bellOf_175 : decode cX5_bellOf 175 = .ok (.invokevirtual 124, 3) := by decide +kernel
theorem dX5_bellOf_178 : decode cX5_bellOf 178 = .ok (.ireturn, 1) := by decide +kernel
theorem dX5_bellOf_179 : decode cX5_bellOf 179 = .ok (.aload_n 0, 1) := by decide +kernel
theorem dX5_bellOf_180 : decode cX5_bellOf 180 = .ok (.getfield 28, 3) := by decide +kernel
theorem dX5_bellOf_183 : decode cX5_bellOf 183 = .ok (.iload_n 1, 1) := by decide +kernel
theorem dX5_bellOf_184 : decode cX5_bellOf 184 = .ok (.iaload, 1) := by decide +kernel
theorem dX5_bellOf_185 : decode cX5_bellOf 185 = .ok (.ireturn, 1) := by decide +kernel
theorem dX5_bellOf_186 : decode cX5_bellOf 186 = .ok (.ldc 119, 2) := by decide +kernel
theorem dX5_bellOf_188 : decode cX5_bellOf 188 = .ok (.ireturn, 1) := by decide +kernel
theorem dX5_span_0 : decode cX5_span 0 = .ok (.iload_n 1, 1) := by decide +kernel
theorem dX5_span_1 : decode cX5_span 1 = .ok (.iconst 0, 1) := by decide +kernel
theorem dX5_span_2 : decode cX5_span 2 = .ok (.iconst 4, 1) := by decide +kernel
theorem dX5_span_3 : decode cX5_span 3 = .ok (.invokestatic 90, 3) := by decide +kernel
theorem dX5_span_6 : decode cX5_span 6 = .ok (.ifCond .eq 27, 3) := by decide +kernel
theorem dX5_span_9 : decode cX5_span 9 = .ok (.iload_n 2, 1) := by decide +kernel
theorem dX5_span_10 : decode cX5_span 10 = .ok (.sipush (-30000), 3) := by decide +kernel
theorem dX5_span_13 : decode cX5_span 13 = .ok (.sipush 30000, 3) := by decide +kernel
theorem dX5_span_16 : decode cX5_span 16 = .ok (.invokestatic 90, 3) := by decide +kernel
theorem dX5_span_19 : decode cX5_span 19 = .ok (.ifCond .eq 14, 3) := by decide +kernel
theorem dX5_span_22 : decode cX5_span 22 = .ok (.iload_n 3, 1) := by decide +kernel
theorem dX5_span_23 : decode cX5_span 23 = .ok (.iload_n 2, 1) := by decide +kernel
theorem dX5_span_24 : decode cX5_span 24 = .ok (.sipush 30000, 3) := by decide +kernel
theorem dX5_span_27 : decode cX5_span 27 = .ok (.invokestatic 90, 3) := by decide +kernel
theorem dX5_span_30 : decode cX5_span 30 = .ok (.ifCond .ne 5, 3) := by decide +kernel
theorem dX5_span_33 : decode cX5_span 33 = .ok (.iconst 0, 1) := by decide +kernel
theorem dX5_span_34 : decode cX5_span 34 = .ok (.ireturn, 1) := by decide +kernel
theorem dX5_span_35 : decode cX5_span 35 = .ok (.aload_n 0, 1) := by decide +kernel
theorem dX5_span_36 : decode cX5_span 36 = .ok (.getfield 59, 3) := by decide +kernel
theorem dX5_span_39 : decode cX5_span 39 = .ok (.iload_n 1, 1) := by decide +kernel
theorem dX5_span_40 : decode cX5_span 40 = .ok (.iload_n 2, 1) := by decide +kernel
theorem dX5_span_41 : decode cX5_span 41 = .ok (.iastore, 1) := by decide +kernel
theorem dX5_span_42 : decode cX5_span 42 = .ok (.aload_n 0, 1) := by decide +kernel
theorem dX5_span_43 : decode cX5_span 43 = .ok (.getfield 62, 3) := by decide +kernel
theorem dX5_span_46 : decode cX5_span 46 = .ok (.iload_n 1, 1) := by decide +kernel
theorem dX5_span_47 : decode cX5_span 47 = .ok (.iload_n 3, 1) := by decide +kernel
theorem dX5_span_48 : decode cX5_span 48 = .ok (.iastore, 1) := by decide +kernel
theorem dX5_span_49 : decode cX5_span 49 = .ok (.iconst 1, 1) := by decide +kernel
theorem dX5_span_50 : decode cX5_span 50 = .ok (.ireturn, 1) := by decide +kernel
theorem dX5_isTuned_0 : decode cX5_isTuned 0 = .ok (.iconst 0, 1) := by decide +kernel
theorem dX5_isTuned_1 : decode cX5_isTuned 1 = .ok (.istore_n 2, 1) := by decide +kernel
theorem dX5_isTuned_2 : decode cX5_isTuned 2 = .ok (.iload_n 2, 1) := by decide +kernel
theorem dX5_isTuned_3 : decode cX5_isTuned 3 = .ok (.bipush 8, 2) := by decide +kernel
theorem dX5_isTuned_5 : decode cX5_isTuned 5 = .ok (.if_icmp .ge 43, 3) := by decide +kernel
theorem dX5_isTuned_8 : decode cX5_isTuned 8 = .ok (.aload_n 0, 1) := by decide +kernel
theorem dX5_isTuned_9 : decode cX5_isTuned 9 = .ok (.getfield 34, 3) := by decide +kernel
theorem dX5_isTuned_12 : decode cX5_isTuned 12 = .ok (.bipush 8, 2) := by decide +kernel
theorem dX5_isTuned_14 : decode cX5_isTuned 14 = .ok (.iload_n 1, 1) := by decide +kernel
theorem dX5_isTuned_15 : decode cX5_isTuned 15 = .ok (.imul, 1) := by decide +kernel
theorem dX5_isTuned_16 : decode cX5_isTuned 16 = .ok (.iload_n 2, 1) := by decide +kernel
theorem dX5_isTuned_17 : decode cX5_isTuned 17 = .ok (.iadd, 1) := by decide +kernel
theorem dX5_isTuned_18 : decode cX5_isTuned 18 = .ok (.iaload, 1) := by decide +kernel
theorem dX5_isTuned_19 : decode cX5_isTuned 19 = .ok (.aload_n 0, 1) := by decide +kernel
theorem dX5_isTuned_20 : decode cX5_isTuned 20 = .ok (.getfield 71, 3) := by decide +kernel
theorem dX5_isTuned_23 : decode cX5_isTuned 23 = .ok (.iload_n 2, 1) := by decide +kernel
theorem dX5_isTuned_24 : decode cX5_isTuned 24 = .ok (.iaload, 1) := by decide +kernel
theorem dX5_isTuned_25 : decode cX5_isTuned 25 = .ok (.isub, 1) := by decide +kernel
theorem dX5_isTuned_26 : decode cX5_isTuned 26 = .ok (.aload_n 0, 1) := by decide +kernel
theorem dX5_isTuned_27 : decode cX5_isTuned 27 = .ok (.getfield 37, 3) := by decide +kernel
theorem dX5_isTuned_30 : decode cX5_isTuned 30 = .ok (.bipush 8, 2) := by decide +kernel
theorem dX5_isTuned_32 : decode cX5_isTuned 32 = .ok (.iload_n 1, 1) := by decide +kernel
theorem dX5_isTuned_33 : decode cX5_isTuned 33 = .ok (.imul, 1) := by decide +kernel
theorem dX5_isTuned_34 : decode cX5_isTuned 34 = .ok (.iload_n 2, 1) := by decide +kernel
theorem dX5_isTuned_35 : decode cX5_isTuned 35 = .ok (.iadd, 1) := by decide +kernel
theorem dX5_isTuned_36 : decode cX5_isTuned 36 = .ok (.iaload, 1) := by decide +kernel
theorem dX5_isTuned_37 : decode cX5_isTuned 37 = .ok (.if_icmp .ge 5, 3) := by decide +kernel
theorem dX5_isTuned_40 : decode cX5_isTuned 40 = .ok (.iconst 0, 1) := by decide +kernel
theorem dX5_isTuned_41 : decode cX5_isTuned 41 = .ok (.ireturn, 1) := by decide +kernel
theorem dX5_isTuned_42 : decode cX5_isTuned 42 = .ok (.iinc 2 1, 3) := by decide +kernel
theorem dX5_isTuned_45 : decode cX5_isTuned 45 = .ok (.goto (-43), 3) := by decide +kernel
theorem dX5_isTuned_48 : decode cX5_isTuned 48 = .ok (.iconst 0, 1) := by decide +kernel
theorem dX5_isTuned_49 : decode cX5_isTuned 49 = .ok (.istore_n 2, 1) := by decide +kernel
theorem dX5_isTuned_50 : decode cX5_isTuned 50 = .ok (.iload_n 2, 1) := by decide +kernel
theorem dX5_isTuned_51 : decode cX5_isTuned 51 = .ok (.iconst 5, 1) := by decide +kernel
theorem dX5_isTuned_52 : decode cX5_isTuned 52 = .ok (.if_icmp .ge 81, 3) := by decide +kernel
theorem dX5_isTuned_55 : decode cX5_isTuned 55 = .ok (.aload_n 0, 1) := by decide +kernel
theorem dX5_isTuned_56 : decode cX5_isTuned 56 = .ok (.iload_n 1, 1) := by decide +kernel
theorem dX5_isTuned_57 : decode cX5_isTuned 57 = .ok (.iload_n 2, 1) := by decide +kernel
theorem dX5_isTuned_58 : decode cX5_isTuned 58 = .ok (.invokevirtual 120, 3) := by decide +kernel
theorem dX5_isTuned_61 : decode cX5_isTuned 61 = .ok (.istore_n 3, 1) := by decide +kernel
theorem dX5_isTuned_62 : decode cX5_isTuned 62 = .ok (.iconst 0, 1) := by decide +kernel
theorem dX5_isTuned_63 : decode cX5_isTuned 63 = .ok (.istore 4, 2) := by decide +kernel
theorem dX5_isTuned_65 : decode cX5_isTuned 65 = .ok (.iload 4, 2) := by decide +kernel
theorem dX5_isTuned_67 : decode cX5_isTuned 67 = .ok (.bipush 8, 2) := by decide +kernel
theorem dX5_isTuned_69 : decode cX5_isTuned 69 = .ok (.if_icmp .ge 37, 3) := by decide +kernel
theorem dX5_isTuned_72 : decode cX5_isTuned 72 = .ok (.iload_n 3, 1) := by decide +kernel
theorem dX5_isTuned_73 : decode cX5_isTuned 73 = .ok (.aload_n 0, 1) := by decide +kernel
theorem dX5_isTuned_74 : decode cX5_isTuned 74 = .ok (.getfield 46, 3) := by decide +kernel
theorem dX5_isTuned_77 : decode cX5_isTuned 77 = .ok (.bipush 40, 2) := by decide +kernel
theorem dX5_isTuned_79 : decode cX5_isTuned 79 = .ok (.iload_n 1, 1) := by decide +kernel
theorem dX5_isTuned_80 : decode cX5_isTuned 80 = .ok (.imul, 1) := by decide +kernel
theorem dX5_isTuned_81 : decode cX5_isTuned 81 = .ok (.bipush 8, 2) := by decide +kernel
theorem dX5_isTuned_83 : decode cX5_isTuned 83 = .ok (.iload_n 2, 1) := by decide +kernel
theorem dX5_isTuned_84 : decode cX5_isTuned 84 = .ok (.imul, 1) := by decide +kernel
theorem dX5_isTuned_85 : decode cX5_isTuned 85 = .ok (.iadd, 1) := by decide +kernel
theorem dX5_isTuned_86 : decode cX5_isTuned 86 = .ok (.iload 4, 2) := by decide +kernel
theorem dX5_isTuned_88 : decode cX5_isTuned 88 = .ok (.iadd, 1) := by decide +kernel
theorem dX5_isTuned_89 : decode cX5_isTuned 89 = .ok (.iaload, 1) := by decide +kernel
theorem dX5_isTuned_90 : decode cX5_isTuned 90 = .ok (.aload_n 0, 1) := by decide +kernel
theorem dX5_isTuned_91 : decode cX5_isTuned 91 = .ok (.getfield 71, 3) := by decide +kernel
theorem dX5_isTuned_94 : decode cX5_isTuned 94 = .ok (.iload 4, 2) := by decide +kernel
theorem dX5_isTuned_96 : decode cX5_isTuned 96 = .ok (.iaload, 1) := by decide +kernel
theorem dX5_isTuned_97 : decode cX5_isTuned 97 = .ok (.imul, 1) := by decide +kernel
theorem dX5_isTuned_98 : decode cX5_isTuned 98 = .ok (.isub, 1) := by decide +kernel
theorem dX5_isTuned_99 : decode cX5_isTuned 99 = .ok (.istore_n 3, 1) := by decide +kernel
theorem dX5_isTuned_100 : decode cX5_isTuned 100 = .ok (.iinc 4 1, 3) := by decide +kernel
theorem dX5_isTuned_103 : decode cX5_isTuned 103 = .ok (.goto (-38), 3) := by decide +kernel
theorem dX5_isTuned_106 : decode cX5_isTuned 106 = .ok (.iload_n 3, 1) := by decide +kernel
theorem dX5_isTuned_107 : decode cX5_isTuned 107 = .ok (.aload_n 0, 1) := by decide +kernel
theorem dX5_isTuned_108 : decode cX5_isTuned 108 = .ok (.getfield 59, 3) := by decide +kernel
theorem dX5_isTuned_111 : decode cX5_isTuned 111 = .ok (.iload_n 2, 1) := by decide +kernel
theorem dX5_isTuned_112 : decode cX5_isTuned 112 = .ok (.iaload, 1) := by decide +kernel
theorem dX5_isTuned_113 : decode cX5_isTuned 113 = .ok (.aload_n 0, 1) := by decide +kernel
theorem dX5_isTuned_114 : decode cX5_isTuned 114 = .ok (.getfield 62, 3) := by decide +kernel
theorem dX5_isTuned_117 : decode cX5_isTuned 117 = .ok (.iload_n 2, 1) := by decide +kernel
theorem dX5_isTuned_118 : decode cX5_isTuned 118 = .ok (.iaload, 1) := by decide +kernel
theorem dX5_isTuned_119 : decode cX5_isTuned 119 = .ok (.invokestatic 90, 3) := by decide +kernel
theorem dX5_isTuned_122 : decode cX5_isTuned 122 = .ok (.ifCond .ne 5, 3) := by decide +kernel
theorem dX5_isTuned_125 : decode cX5_isTuned 125 = .ok (.iconst 0, 1) := by decide +kernel
theorem dX5_isTuned_126 : decode cX5_isTuned 126 = .ok (.ireturn, 1) := by decide +kernel
theorem dX5_isTuned_127 : decode cX5_isTuned 127 = .ok (.iinc 2 1, 3) := by decide +kernel
theorem dX5_isTuned_130 : decode cX5_isTuned 130 = .ok (.goto (-80), 3) := by decide +kernel
theorem dX5_isTuned_133 : decode cX5_isTuned 133 = .ok (.iconst 1, 1) := by decide +kernel
theorem dX5_isTuned_134 : decode cX5_isTuned 134 = .ok (.ireturn, 1) := by decide +kernel
theorem dX5_nextCuts_0 : decode cX5_nextCuts 0 = .ok (.aload_n 0, 1) := by decide +kernel
theorem dX5_nextCuts_1 : decode cX5_nextCuts 1 = .ok (.getfield 71, 3) := by decide +kernel
theorem dX5_nextCuts_4 : decode cX5_nextCuts 4 = .ok (.bipush 7, 2) := by decide +kernel
theorem dX5_nextCuts_6 : decode cX5_nextCuts 6 = .ok (.iaload, 1) := by decide +kernel
theorem dX5_nextCuts_7 : decode cX5_nextCuts 7 = .ok (.istore_n 1, 1) := by decide +kernel
theorem dX5_nextCuts_8 : decode cX5_nextCuts 8 = .ok (.bipush 6, 2) := by decide +kernel
theorem dX5_nextCuts_10 : decode cX5_nextCuts 10 = .ok (.istore_n 2, 1) := by decide +kernel
theorem dX5_nextCuts_11 : decode cX5_nextCuts 11 = .ok (.iload_n 2, 1) := by decide +kernel
theorem dX5_nextCuts_12 : decode cX5_nextCuts 12 = .ok (.ifCond .lt 67, 3) := by decide +kernel
theorem dX5_nextCuts_15 : decode cX5_nextCuts 15 = .ok (.iload_n 1, 1) := by decide +kernel
theorem dX5_nextCuts_16 : decode cX5_nextCuts 16 = .ok (.ifCond .le 48, 3) := by decide +kernel
theorem dX5_nextCuts_19 : decode cX5_nextCuts 19 = .ok (.aload_n 0, 1) := by decide +kernel
theorem dX5_nextCuts_20 : decode cX5_nextCuts 20 = .ok (.getfield 71, 3) := by decide +kernel
theorem dX5_nextCuts_23 : decode cX5_nextCuts 23 = .ok (.iload_n 2, 1) := by decide +kernel
theorem dX5_nextCuts_24 : decode cX5_nextCuts 24 = .ok (.dup2, 1) := by decide +kernel
theorem dX5_nextCuts_25 : decode cX5_nextCuts 25 = .ok (.iaload, 1) := by decide +kernel
theorem dX5_nextCuts_26 : decode cX5_nextCuts 26 = .ok (.iconst 1, 1) := by decide +kernel
theorem dX5_nextCuts_27 : decode cX5_nextCuts 27 = .ok (.iadd, 1) := by decide +kernel
theorem dX5_nextCuts_28 : decode cX5_nextCuts 28 = .ok (.iastore, 1) := by decide +kernel
theorem dX5_nextCuts_29 : decode cX5_nextCuts 29 = .ok (.iload_n 2, 1) := by decide +kernel
theorem dX5_nextCuts_30 : decode cX5_nextCuts 30 = .ok (.iconst 1, 1) := by decide +kernel
theorem dX5_nextCuts_31 : decode cX5_nextCuts 31 = .ok (.iadd, 1) := by decide +kernel
theorem dX5_nextCuts_32 : decode cX5_nextCuts 32 = .ok (.istore_n 3, 1) := by decide +kernel
theorem dX5_nextCuts_33 : decode cX5_nextCuts 33 = .ok (.iload_n 3, 1) := by decide +kernel
theorem dX5_nextCuts_34 : decode cX5_nextCuts 34 = .ok (.bipush 7, 2) := by decide +kernel
theorem dX5_nextCuts_36 : decode cX5_nextCuts 36 = .ok (.if_icmp .ge 16, 3) := by decide +kernel
theorem dX5_nextCuts_39 : decode cX5_nextCuts 39 = .ok (.aload_n 0, 1) := by decide +kernel
theorem dX5_nextCuts_40 : decode cX5_nextCuts 40 = .ok (.getfield 71, 3) := by decide +kernel
theorem dX5_nextCuts_43 : decode cX5_nextCuts 43 = .ok (.iload_n 3, 1) := by decide +kernel
theorem dX5_nextCuts_44 : decode cX5_nextCuts 44 = .ok (.iconst 0, 1) := by decide +kernel
theorem dX5_nextCuts_45 : decode cX5_nextCuts 45 = .ok (.iastore, 1) := by decide +kernel
theorem dX5_nextCuts_46 : decode cX5_nextCuts 46 = .ok (.iinc 3 1, 3) := by decide +kernel
theorem dX5_nextCuts_49 : decode cX5_nextCuts 49 = .ok (.goto (-16), 3) := by decide +kernel
theorem dX5_nextCuts_52 : decode cX5_nextCuts 52 = .ok (.aload_n 0, 1) := by decide +kernel
theorem dX5_nextCuts_53 : decode cX5_nextCuts 53 = .ok (.getfield 71, 3) := by decide +kernel
theorem dX5_nextCuts_56 : decode cX5_nextCuts 56 = .ok (.bipush 7, 2) := by decide +kernel
theorem dX5_nextCuts_58 : decode cX5_nextCuts 58 = .ok (.iload_n 1, 1) := by decide +kernel
theorem dX5_nextCuts_59 : decode cX5_nextCuts 59 = .ok (.iconst 1, 1) := by decide +kernel
theorem dX5_nextCuts_60 : decode cX5_nextCuts 60 = .ok (.isub, 1) := by decide +kernel
theorem dX5_nextCuts_61 : decode cX5_nextCuts 61 = .ok (.iastore, 1) := by decide +kernel
theorem dX5_nextCuts_62 : decode cX5_nextCuts 62 = .ok (.iconst 1, 1) := by decide +kernel
theorem dX5_nextCuts_63 : decode cX5_nextCuts 63 = .ok (.ireturn, 1) := by decide +kernel
theorem dX5_nextCuts_64 : decode cX5_nextCuts 64 = .ok (.iload_n 1, 1) := by decide +kernel
theorem dX5_nextCuts_65 : decode cX5_nextCuts 65 = .ok (.aload_n 0, 1) := by decide +kernel
theorem dX5_nextCuts_66 : decode cX5_nextCuts 66 = .ok (.getfield 71, 3) := by decide +kernel
theorem dX5_nextCuts_69 : decode cX5_nextCuts 69 = .ok (.iload_n 2, 1) := by decide +kernel
theorem dX5_nextCuts_70 : decode cX5_nextCuts 70 = .ok (.iaload, 1) := by decide +kernel
theorem dX5_nextCuts_71 : decode cX5_nextCuts 71 = .ok (.iadd, 1) := by decide +kernel
theorem dX5_nextCuts_72 : decode cX5_nextCuts 72 = .ok (.istore_n 1, 1) := by decide +kernel
theorem dX5_nextCuts_73 : decode cX5_nextCuts 73 = .ok (.iinc 2 (-1), 3) := by decide +kernel
theorem dX5_nextCuts_76 : decode cX5_nextCuts 76 = .ok (.goto (-65), 3) := by decide +kernel
theorem dX5_nextCuts_79 : decode cX5_nextCuts 79 = .ok (.iconst 0, 1) := by decide +kernel
theorem dX5_nextCuts_80 : decode cX5_nextCuts 80 = .ok (.ireturn, 1) := by decide +kernel
theorem dX5_seeks_0 : decode cX5_seeks 0 = .ok (.iconst 0, 1) := by decide +kernel
theorem dX5_seeks_1 : decode cX5_seeks 1 = .ok (.istore_n 2, 1) := by decide +kernel
theorem dX5_seeks_2 : decode cX5_seeks 2 = .ok (.iload_n 2, 1) := by decide +kernel
theorem dX5_seeks_3 : decode cX5_seeks 3 = .ok (.bipush 12, 2) := by decide +kernel
theorem dX5_seeks_5 : decode cX5_seeks 5 = .ok (.if_icmp .gt 62, 3) := by decide +kernel
theorem dX5_seeks_8 : decode cX5_seeks 8 = .ok (.iconst 0, 1) := by decide +kernel
theorem dX5_seeks_9 : decode cX5_seeks 9 = .ok (.istore_n 3, 1) := by decide +kernel
theorem dX5_seeks_10 : decode cX5_seeks 10 = .ok (.iload_n 3, 1) := by decide +kernel
theorem dX5_seeks_11 : decode cX5_seeks 11 = .ok (.bipush 7, 2) := by decide +kernel
theorem dX5_seeks_13 : decode cX5_seeks 13 = .ok (.if_icmp .ge 16, 3) := by decide +kernel
theorem dX5_seeks_16 : decode cX5_seeks 16 = .ok (.aload_n 0, 1) := by decide +kernel
theorem dX5_seeks_17 : decode cX5_seeks 17 = .ok (.getfield 71, 3) := by decide +kernel
theorem dX5_seeks_20 : decode cX5_seeks 20 = .ok (.iload_n 3, 1) := by decide +kernel
theorem dX5_seeks_21 : decode cX5_seeks 21 = .ok (.iconst 0, 1) := by decide +kernel
theorem dX5_seeks_22 : decode cX5_seeks 22 = .ok (.iastore, 1) := by decide +kernel
theorem dX5_seeks_23 : decode cX5_seeks 23 = .ok (.iinc 3 1, 3) := by decide +kernel
theorem dX5_seeks_26 : decode cX5_seeks 26 = .ok (.goto (-16), 3) := by decide +kernel
theorem dX5_seeks_29 : decode cX5_seeks 29 = .ok (.aload_n 0, 1) := by decide +kernel
theorem dX5_seeks_30 : decode cX5_seeks 30 = .ok (.getfield 71, 3) := by decide +kernel
theorem dX5_seeks_33 : decode cX5_seeks 33 = .ok (.bipush 7, 2) := by decide +kernel
theorem dX5_seeks_35 : decode cX5_seeks 35 = .ok (.iload_n 2, 1) := by decide +kernel
theorem dX5_seeks_36 : decode cX5_seeks 36 = .ok (.iastore, 1) := by decide +kernel
theorem dX5_seeks_37 : decode cX5_seeks 37 = .ok (.iconst 1, 1) := by decide +kernel
theorem dX5_seeks_38 : decode cX5_seeks 38 = .ok (.istore_n 3, 1) := by decide +kernel
theorem dX5_seeks_39 : decode cX5_seeks 39 = .ok (.iload_n 3, 1) := by decide +kernel
theorem dX5_seeks_40 : decode cX5_seeks 40 = .ok (.ifCond .eq 21, 3) := by decide +kernel
theorem dX5_seeks_43 : decode cX5_seeks 43 = .ok (.aload_n 0, 1) := by decide +kernel
theorem dX5_seeks_44 : decode cX5_seeks 44 = .ok (.iload_n 1, 1) := by decide +kernel
theorem dX5_seeks_45 : decode cX5_seeks 45 = .ok (.invokevirtual 127, 3) := by decide +kernel
theorem dX5_seeks_48 : decode cX5_seeks 48 = .ok (.ifCond .eq 5, 3) := by decide +kernel
theorem dX5_seeks_51 : decode cX5_seeks 51 = .ok (.iload_n 2, 1) := by decide +kernel
theorem dX5_seeks_52 : decode cX5_seeks 52 = .ok (.ireturn, 1) := by decide +kernel
theorem dX5_seeks_53 : decode cX5_seeks 53 = .ok (.aload_n 0, 1) := by decide +kernel
theorem dX5_seeks_54 : decode cX5_seeks 54 = .ok (.invokevirtual 130, 3) := by decide +kernel
theorem dX5_seeks_57 : decode cX5_seeks 57 = .ok (.istore_n 3, 1) := by decide +kernel
theorem dX5_seeks_58 : decode cX5_seeks 58 = .ok (.goto (-19), 3) := by decide +kernel
theorem dX5_seeks_61 : decode cX5_seeks 61 = .ok (.iinc 2 1, 3) := by decide +kernel
theorem dX5_seeks_64 : decode cX5_seeks 64 = .ok (.goto (-62), 3) := by decide +kernel
theorem dX5_seeks_67 : decode cX5_seeks 67 = .ok (.iconst (-1), 1) := by decide +kernel
theorem dX5_seeks_68 : decode cX5_seeks 68 = .ok (.ireturn, 1) := by decide +kernel
theorem dX5_tuning_0 : decode cX5_tuning 0 = .ok (.aload_n 0, 1) := by decide +kernel
theorem dX5_tuning_1 : decode cX5_tuning 1 = .ok (.iload_n 1, 1) := by decide +kernel
theorem dX5_tuning_2 : decode cX5_tuning 2 = .ok (.invokevirtual 112, 3) := by decide +kernel
theorem dX5_tuning_5 : decode cX5_tuning 5 = .ok (.ifCond .eq 11, 3) := by decide +kernel
theorem dX5_tuning_8 : decode cX5_tuning 8 = .ok (.aload_n 0, 1) := by decide +kernel
theorem dX5_tuning_9 : decode cX5_tuning 9 = .ok (.iload_n 1, 1) := by decide +kernel
theorem dX5_tuning_10 : decode cX5_tuning 10 = .ok (.invokevirtual 134, 3) := by decide +kernel
theorem dX5_tuning_13 : decode cX5_tuning 13 = .ok (.goto 4, 3) := by decide +kernel
theorem dX5_tuning_16 : decode cX5_tuning 16 = .ok (.iconst (-1), 1) := by decide +kernel
theorem dX5_tuning_17 : decode cX5_tuning 17 = .ok (.ireturn, 1) := by decide +kernel
theorem dX5_tune_0 : decode cX5_tune 0 = .ok (.aload_n 0, 1) := by decide +kernel
theorem dX5_tune_1 : decode cX5_tune 1 = .ok (.iload_n 1, 1) := by decide +kernel
theorem dX5_tune_2 : decode cX5_tune 2 = .ok (.invokevirtual 137, 3) := by decide +kernel
theorem dX5_tune_5 : decode cX5_tune 5 = .ok (.istore_n 2, 1) := by decide +kernel
theorem dX5_tune_6 : decode cX5_tune 6 = .ok (.iconst 0, 1) := by decide +kernel
theorem dX5_tune_7 : decode cX5_tune 7 = .ok (.istore_n 3, 1) := by decide +kernel
theorem dX5_tune_8 : decode cX5_tune 8 = .ok (.iload_n 3, 1) := by decide +kernel
theorem dX5_tune_9 : decode cX5_tune 9 = .ok (.bipush 8, 2) := by decide +kernel
theorem dX5_tune_11 : decode cX5_tune 11 = .ok (.if_icmp .ge 60, 3) := by decide +kernel
theorem dX5_tune_14 : decode cX5_tune 14 = .ok (.iload_n 2, 1) := by decide +kernel
theorem dX5_tune_15 : decode cX5_tune 15 = .ok (.ifCond .lt 56, 3) := by decide +kernel
theorem dX5_tune_18 : decode cX5_tune 18 = .ok (.aload_n 0, 1) := by decide +kernel
theorem dX5_tune_19 : decode cX5_tune 19 = .ok (.getfield 34, 3) := by decide +kernel
theorem dX5_tune_22 : decode cX5_tune 22 = .ok (.bipush 8, 2) := by decide +kernel
theorem dX5_tune_24 : decode cX5_tune 24 = .ok (.iload_n 1, 1) := by decide +kernel
theorem dX5_tune_25 : decode cX5_tune 25 = .ok (.imul, 1) := by decide +kernel
theorem dX5_tune_26 : decode cX5_tune 26 = .ok (.iload_n 3, 1) := by decide +kernel
theorem dX5_tune_27 : decode cX5_tune 27 = .ok (.iadd, 1) := by decide +kernel
theorem dX5_tune_28 : decode cX5_tune 28 = .ok (.dup2, 1) := by decide +kernel
theorem dX5_tune_29 : decode cX5_tune 29 = .ok (.iaload, 1) := by decide +kernel
theorem dX5_tune_30 : decode cX5_tune 30 = .ok (.aload_n 0, 1) := by decide +kernel
theorem dX5_tune_31 : decode cX5_tune 31 = .ok (.getfield 71, 3) := by decide +kernel
theorem dX5_tune_34 : decode cX5_tune 34 = .ok (.iload_n 3, 1) := by decide +kernel
theorem dX5_tune_35 : decode cX5_tune 35 = .ok (.iaload, 1) := by decide +kernel
theorem dX5_tune_36 : decode cX5_tune 36 = .ok (.isub, 1) := by decide +kernel
theorem dX5_tune_37 : decode cX5_tune 37 = .ok (.iastore, 1) := by decide +kernel
theorem dX5_tune_38 : decode cX5_tune 38 = .ok (.aload_n 0, 1) := by decide +kernel
theorem dX5_tune_39 : decode cX5_tune 39 = .ok (.dup, 1) := by decide +kernel
theorem dX5_tune_40 : decode cX5_tune 40 = .ok (.getfield 105, 3) := by decide +kernel
theorem dX5_tune_43 : decode cX5_tune 43 = .ok (.aload_n 0, 1) := by decide +kernel
theorem dX5_tune_44 : decode cX5_tune 44 = .ok (.getfield 40, 3) := by decide +kernel
theorem dX5_tune_47 : decode cX5_tune 47 = .ok (.bipush 8, 2) := by decide +kernel
theorem dX5_tune_49 : decode cX5_tune 49 = .ok (.iload_n 1, 1) := by decide +kernel
theorem dX5_tune_50 : decode cX5_tune 50 = .ok (.imul, 1) := by decide +kernel
theorem dX5_tune_51 : decode cX5_tune 51 = .ok (.iload_n 3, 1) := by decide +kernel
theorem dX5_tune_52 : decode cX5_tune 52 = .ok (.iadd, 1) := by decide +kernel
theorem dX5_tune_53 : decode cX5_tune 53 = .ok (.iaload, 1) := by decide +kernel
theorem dX5_tune_54 : decode cX5_tune 54 = .ok (.aload_n 0, 1) := by decide +kernel
theorem dX5_tune_55 : decode cX5_tune 55 = .ok (.getfield 71, 3) := by decide +kernel
theorem dX5_tune_58 : decode cX5_tune 58 = .ok (.iload_n 3, 1) := by decide +kernel
theorem dX5_tune_59 : decode cX5_tune 59 = .ok (.iaload, 1) := by decide +kernel
theorem dX5_tune_60 : decode cX5_tune 60 = .ok (.imul, 1) := by decide +kernel
theorem dX5_tune_61 : decode cX5_tune 61 = .ok (.iadd, 1) := by decide +kernel
theorem dX5_tune_62 : decode cX5_tune 62 = .ok (.putfield 105, 3) := by decide +kernel
theorem dX5_tune_65 : decode cX5_tune 65 = .ok (.iinc 3 1, 3) := by decide +kernel
theorem dX5_tune_68 : decode cX5_tune 68 = .ok (.goto (-60), 3) := by decide +kernel
theorem dX5_tune_71 : decode cX5_tune 71 = .ok (.iload_n 2, 1) := by decide +kernel
theorem dX5_tune_72 : decode cX5_tune 72 = .ok (.ireturn, 1) := by decide +kernel
theorem dX5_tuningAt_0 : decode cX5_tuningAt 0 = .ok (.iload_n 2, 1) := by decide +kernel
theorem dX5_tuningAt_1 : decode cX5_tuningAt 1 = .ok (.iconst 0, 1) := by decide +kernel
theorem dX5_tuningAt_2 : decode cX5_tuningAt 2 = .ok (.bipush 7, 2) := by decide +kernel
theorem dX5_tuningAt_4 : decode cX5_tuningAt 4 = .ok (.invokestatic 90, 3) := by decide +kernel
theorem dX5_tuningAt_7 : decode cX5_tuningAt 7 = .ok (.ifCond .eq 20, 3) := by decide +kernel
theorem dX5_tuningAt_10 : decode cX5_tuningAt 10 = .ok (.aload_n 0, 1) := by decide +kernel
theorem dX5_tuningAt_11 : decode cX5_tuningAt 11 = .ok (.iload_n 1, 1) := by decide +kernel
theorem dX5_tuningAt_12 : decode cX5_tuningAt 12 = .ok (.invokevirtual 137, 3) := by decide +kernel
theorem dX5_tuningAt_15 : decode cX5_tuningAt 15 = .ok (.ifCond .lt 12, 3) := by decide +kernel
theorem dX5_tuningAt_18 : decode cX5_tuningAt 18 = .ok (.aload_n 0, 1) := by decide +kernel
theorem dX5_tuningAt_19 : decode cX5_tuningAt 19 = .ok (.getfield 71, 3) := by decide +kernel
theorem dX5_tuningAt_22 : decode cX5_tuningAt 22 = .ok (.iload_n 2, 1) := by decide +kernel
theorem dX5_tuningAt_23 : decode cX5_tuningAt 23 = .ok (.iaload, 1) := by decide +kernel
theorem dX5_tuningAt_24 : decode cX5_tuningAt 24 = .ok (.goto 4, 3) := by decide +kernel
theorem dX5_tuningAt_27 : decode cX5_tuningAt 27 = .ok (.iconst (-1), 1) := by decide +kernel
theorem dX5_tuningAt_28 : decode cX5_tuningAt 28 = .ok (.ireturn, 1) := by decide +kernel
theorem dX5_note_0 : decode cX5_note 0 = .ok (.iload_n 1, 1) := by decide +kernel
theorem dX5_note_1 : decode cX5_note 1 = .ok (.sipush (-5000), 3) := by decide +kernel
theorem dX5_note_4 : decode cX5_note 4 = .ok (.sipush 5000, 3) := by decide +kernel
theorem dX5_note_7 : decode cX5_note 7 = .ok (.invokestatic 90, 3) := by decide +kernel
theorem dX5_note_10 : decode cX5_note 10 = .ok (.ifCond .eq 12, 3) := by decide +kernel
theorem dX5_note_13 : decode cX5_note 13 = .ok (.aload_n 0, 1) := by decide +kernel
theorem dX5_note_14 : decode cX5_note 14 = .ok (.getfield 140, 3) := by decide +kernel
theorem dX5_note_17 : decode cX5_note 17 = .ok (.bipush 8, 2) := by decide +kernel
theorem dX5_note_19 : decode cX5_note 19 = .ok (.if_icmp .ne 5, 3) := by decide +kernel
theorem dX5_note_22 : decode cX5_note 22 = .ok (.iconst (-1), 1) := by decide +kernel
theorem dX5_note_23 : decode cX5_note 23 = .ok (.ireturn, 1) := by decide +kernel
theorem dX5_note_24 : decode cX5_note 24 = .ok (.aload_n 0, 1) := by decide +kernel
theorem dX5_note_25 : decode cX5_note 25 = .ok (.getfield 65, 3) := by decide +kernel
theorem dX5_note_28 : decode cX5_note 28 = .ok (.aload_n 0, 1) := by decide +kernel
theorem dX5_note_29 : decode cX5_note 29 = .ok (.getfield 140, 3) := by decide +kernel
theorem dX5_note_32 : decode cX5_note 32 = .ok (.iload_n 1, 1) := by decide +kernel
theorem dX5_note_33 : decode cX5_note 33 = .ok (.iastore, 1) := by decide +kernel
theorem dX5_note_34 : decode cX5_note 34 = .ok (.aload_n 0, 1) := by decide +kernel
theorem dX5_note_35 : decode cX5_note 35 = .ok (.dup, 1) := by decide +kernel
theorem dX5_note_36 : decode cX5_note 36 = .ok (.getfield 140, 3) := by decide +kernel
theorem dX5_note_39 : decode cX5_note 39 = .ok (.iconst 1, 1) := by decide +kernel
theorem dX5_note_40 : decode cX5_note 40 = .ok (.iadd, 1) := by decide +kernel
theorem dX5_note_41 : decode cX5_note 41 = .ok (.putfield 140, 3) := by decide +kernel
theorem dX5_note_44 : decode cX5_note 44 = .ok (.aload_n 0, 1) := by decide +kernel
theorem dX5_note_45 : decode cX5_note 45 = .ok (.getfield 140, 3) := by decide +kernel
theorem dX5_note_48 : decode cX5_note 48 = .ok (.ireturn, 1) := by decide +kernel
theorem dX5_ring_0 : decode cX5_ring 0 = .ok (.iload_n 1, 1) := by decide +kernel
theorem dX5_ring_1 : decode cX5_ring 1 = .ok (.iconst 0, 1) := by decide +kernel
theorem dX5_ring_2 : decode cX5_ring 2 = .ok (.sipush 200, 3) := by decide +kernel
theorem dX5_ring_5 : decode cX5_ring 5 = .ok (.invokestatic 90, 3) := by decide +kernel
theorem dX5_ring_8 : decode cX5_ring 8 = .ok (.ifCond .ne 5, 3) := by decide +kernel
theorem dX5_ring_11 : decode cX5_ring 11 = .ok (.iconst 0, 1) := by decide +kernel
theorem dX5_ring_12 : decode cX5_ring 12 = .ok (.ireturn, 1) := by decide +kernel
theorem dX5_ring_13 : decode cX5_ring 13 = .ok (.aload_n 0, 1) := by decide +kernel
theorem dX5_ring_14 : decode cX5_ring 14 = .ok (.iload_n 1, 1) := by decide +kernel
theorem dX5_ring_15 : decode cX5_ring 15 = .ok (.putfield 143, 3) := by decide +kernel
theorem dX5_ring_18 : decode cX5_ring 18 = .ok (.aload_n 0, 1) := by decide +kernel
theorem dX5_ring_19 : decode cX5_ring 19 = .ok (.iconst 0, 1) := by decide +kernel
theorem dX5_ring_20 : decode cX5_ring 20 = .ok (.putfield 140, 3) := by decide +kernel
theorem dX5_ring_23 : decode cX5_ring 23 = .ok (.iconst 1, 1) := by decide +kernel
theorem dX5_ring_24 : decode cX5_ring 24 = .ok (.ireturn, 1) := by decide +kernel
theorem dX5_agrees_0 : decode cX5_agrees 0 = .ok (.aload_n 0, 1) := by decide +kernel
theorem dX5_agrees_1 : decode cX5_agrees 1 = .ok (.getfield 80, 3) := by decide +kernel
theorem dX5_agrees_4 : decode cX5_agrees 4 = .ok (.iload_n 3, 1) := by decide +kernel
theorem dX5_agrees_5 : decode cX5_agrees 5 = .ok (.iaload, 1) := by decide +kernel
theorem dX5_agrees_6 : decode cX5_agrees 6 = .ok (.aload_n 0, 1) := by decide +kernel
theorem dX5_agrees_7 : decode cX5_agrees 7 = .ok (.getfield 80, 3) := by decide +kernel
theorem dX5_agrees_10 : decode cX5_agrees 10 = .ok (.iload_n 1, 1) := by decide +kernel
theorem dX5_agrees_11 : decode cX5_agrees 11 = .ok (.iaload, 1) := by decide +kernel
theorem dX5_agrees_12 : decode cX5_agrees 12 = .ok (.isub, 1) := by decide +kernel
theorem dX5_agrees_13 : decode cX5_agrees 13 = .ok (.aload_n 0, 1) := by decide +kernel
theorem dX5_agrees_14 : decode cX5_agrees 14 = .ok (.getfield 65, 3) := by decide +kernel
theorem dX5_agrees_17 : decode cX5_agrees 17 = .ok (.iload_n 2, 1) := by decide +kernel
theorem dX5_agrees_18 : decode cX5_agrees 18 = .ok (.iaload, 1) := by decide +kernel
theorem dX5_agrees_19 : decode cX5_agrees 19 = .ok (.isub, 1) := by decide +kernel
theorem dX5_agrees_20 : decode cX5_agrees 20 = .ok (.istore 4, 2) := by decide +kernel
theorem dX5_agrees_22 : decode cX5_agrees 22 = .ok (.iload 4, 2) := by decide +kernel
theorem dX5_agrees_24 : decode cX5_agrees 24 = .ok (.aload_n 0, 1) := by decide +kernel
theorem dX5_agrees_25 : decode cX5_agrees 25 = .ok (.getfield 143, 3) := by decide +kernel
theorem dX5_agrees_28 : decode cX5_agrees 28 = .ok (.ineg, 1) := by decide +kernel
theorem dX5_agrees_29 : decode cX5_agrees 29 = .ok (.if_icmp .lt 16, 3) := by decide +kernel
theorem dX5_agrees_32 : decode cX5_agrees 32 = .ok (.iload 4, 2) := by decide +kernel
theorem dX5_agrees_34 : decode cX5_agrees 34 = .ok (.aload_n 0, 1) := by decide +kernel
theorem dX5_agrees_35 : decode cX5_agrees 35 = .ok (.getfield 143, 3) := by decide +kernel
theorem dX5_agrees_38 : decode cX5_agrees 38 = .ok (.if_icmp .gt 7, 3) := by decide +kernel
theorem dX5_agrees_41 : decode cX5_agrees 41 = .ok (.iconst 1, 1) := by decide +kernel
theorem dX5_agrees_42 : decode cX5_agrees 42 = .ok (.goto 4, 3) := by decide +kernel
theorem dX5_agrees_45 : decode cX5_agrees 45 = .ok (.iconst 0, 1) := by decide +kernel
theorem dX5_agrees_46 : decode cX5_agrees 46 = .ok (.ireturn, 1) := by decide +kernel
theorem dX5_lightest_0 : decode cX5_lightest 0 = .ok (.iconst 1, 1) := by decide +kernel
theorem dX5_lightest_1 : decode cX5_lightest 1 = .ok (.aload_n 0, 1) := by decide +kernel
theorem dX5_lightest_2 : decode cX5_lightest 2 = .ok (.getfield 140, 3) := by decide +kernel
theorem dX5_lightest_5 : decode cX5_lightest 5 = .ok (.ishl, 1) := by decide +kernel
theorem dX5_lightest_6 : decode cX5_lightest 6 = .ok (.istore 4, 2) := by decide +kernel
theorem dX5_lightest_8 : decode cX5_lightest 8 = .ok (.iconst 0, 1) := by decide +kernel
theorem dX5_lightest_9 : decode cX5_lightest 9 = .ok (.istore 5, 2) := by decide +kernel
theorem dX5_lightest_11 : decode cX5_lightest 11 = .ok (.iload 5, 2) := by decide +kernel
theorem dX5_lightest_13 : decode cX5_lightest 13 = .ok (.iload 4, 2) := by decide +kernel
theorem dX5_lightest_15 : decode cX5_lightest 15 = .ok (.if_icmp .ge 17, 3) := by decide +kernel
theorem dX5_lightest_18 : decode cX5_lightest 18 = .ok (.aload_n 0, 1) := by decide +kernel
theorem dX5_lightest_19 : decode cX5_lightest 19 = .ok (.getfield 83, 3) := by decide +kernel
theorem dX5_lightest_22 : decode cX5_lightest 22 = .ok (.iload 5, 2) := by decide +kernel
theorem dX5_lightest_24 : decode cX5_lightest 24 = .ok (.iconst (-1), 1) := by decide +kernel
theorem dX5_lightest_25 : decode cX5_lightest 25 = .ok (.iastore, 1) := by decide +kernel
theorem dX5_lightest_26 : decode cX5_lightest 26 = .ok (.iinc 5 1, 3) := by decide +kernel
theorem dX5_lightest_29 : decode cX5_lightest 29 = .ok (.goto (-18), 3) := by decide +kernel
theorem dX5_lightest_32 : decode cX5_lightest 32 = .ok (.aload_n 0, 1) := by decide +kernel
theorem dX5_lightest_33 : decode cX5_lightest 33 = .ok (.getfield 83, 3) := by decide +kernel
theorem dX5_lightest_36 : decode cX5_lightest 36 = .ok (.iconst 1, 1) := by decide +kernel
theorem dX5_lightest_37 : decode cX5_lightest 37 = .ok (.iload_n 2, 1) := by decide +kernel
theorem dX5_lightest_38 : decode cX5_lightest 38 = .ok (.ishl, 1) := by decide +kernel
theorem dX5_lightest_39 : decode cX5_lightest 39 = .ok (.iconst 1, 1) := by decide +kernel
theorem dX5_lightest_40 : decode cX5_lightest 40 = .ok (.isub, 1) := by decide +kernel
theorem dX5_lightest_41 : decode cX5_lightest 41 = .ok (.iconst 0, 1) := by decide +kernel
theorem dX5_lightest_42 : decode cX5_lightest 42 = .ok (.iastore, 1) := by decide +kernel
theorem dX5_lightest_43 : decode cX5_lightest 43 = .ok (.iconst 0, 1) := by decide +kernel
theorem dX5_lightest_44 : decode cX5_lightest 44 = .ok (.istore 5, 2) := by decide +kernel
theorem dX5_lightest_46 : decode cX5_lightest 46 = .ok (.iload 5, 2) := by decide +kernel
theorem dX5_lightest_48 : decode cX5_lightest 48 = .ok (.aload_n 0, 1) := by decide +kernel
theorem dX5_lightest_49 : decode cX5_lightest 49 = .ok (.getfield 86, 3) := by decide +kernel
theorem dX5_lightest_52 : decode cX5_lightest 52 = .ok (.if_icmp .ge 169, 3) := by decide +kernel
theorem dX5_lightest_55 : decode cX5_lightest 55 = .ok (.aload_n 0, 1) := by decide +kernel
theorem dX5_lightest_56 : decode cX5_lightest 56 = .ok (.getfield 53, 3) := by decide +kernel
theorem dX5_lightest_59 : decode cX5_lightest 59 = .ok (.iload 5, 2) := by decide +kernel
theorem dX5_lightest_61 : decode cX5_lightest 61 = .ok (.baload, 1) := by decide +kernel
theorem dX5_lightest_62 : decode cX5_lightest 62 = .ok (.ifCond .ne 153, 3) := by decide +kernel
theorem dX5_lightest_65 : decode cX5_lightest 65 = .ok (.iload_n 3, 1) := by decide +kernel
theorem dX5_lightest_66 : decode cX5_lightest 66 = .ok (.iload 5, 2) := by decide +kernel
theorem dX5_lightest_68 : decode cX5_lightest 68 = .ok (.ishr, 1) := by decide +kernel
theorem dX5_lightest_69 : decode cX5_lightest 69 = .ok (.iconst 1, 1) := by decide +kernel
theorem dX5_lightest_70 : decode cX5_lightest 70 = .ok (.iand, 1) := by decide +kernel
theorem dX5_lightest_71 : decode cX5_lightest 71 = .ok (.iconst 1, 1) := by decide +kernel
theorem dX5_lightest_72 : decode cX5_lightest 72 = .ok (.if_icmp .ne 6, 3) := by decide +kernel
theorem dX5_lightest_75 : decode cX5_lightest 75 = .ok (.goto 140, 3) := by decide +kernel
theorem dX5_lightest_78 : decode cX5_lightest 78 = .ok (.iload 4, 2) := by decide +kernel
theorem dX5_lightest_80 : decode cX5_lightest 80 = .ok (.iconst 1, 1) := by decide +kernel
theorem dX5_lightest_81 : decode cX5_lightest 81 = .ok (.isub, 1) := by decide +kernel
theorem dX5_lightest_82 : decode cX5_lightest 82 = .ok (.istore 6, 2) := by decide +kernel
theorem dX5_lightest_84 : decode cX5_lightest 84 = .ok (.iload 6, 2) := by decide +kernel
theorem dX5_lightest_86 : decode cX5_lightest 86 = .ok (.ifCond .lt 129, 3) := by decide +kernel
theorem dX5_lightest_89 : decode cX5_lightest 89 = .ok (.aload_n 0, 1) := by decide +kernel
theorem dX5_lightest_90 : decode cX5_lightest 90 = .ok (.getfield 83, 3) := by decide +kernel
theorem dX5_lightest_93 : decode cX5_lightest 93 = .ok (.iload 6, 2) := by decide +kernel
theorem dX5_lightest_95 : decode cX5_lightest 95 = .ok (.iaload, 1) := by decide +kernel
theorem dX5_lightest_96 : decode cX5_lightest 96 = .ok (.ifCond .ge 6, 3) := by decide +kernel
theorem dX5_lightest_99 : decode cX5_lightest 99 = .ok (.goto 110, 3) := by decide +kernel
theorem dX5_lightest_102 : decode cX5_lightest 102 = .ok (.iload_n 2, 1) := by decide +kernel
theorem dX5_lightest_103 : decode cX5_lightest 103 = .ok (.istore 7, 2) := by decide +kernel
theorem dX5_lightest_105 : decode cX5_lightest 105 = .ok (.iload 7, 2) := by decide +kernel
theorem dX5_lightest_107 : decode cX5_lightest 107 = .ok (.aload_n 0, 1) := by decide +kernel
theorem dX5_lightest_108 : decode cX5_lightest 108 = .ok (.getfield 140, 3) := by decide +kernel
theorem dX5_lightest_111 : decode cX5_lightest 111 = .ok (.if_icmp .ge 98, 3) := by decide +kernel
theorem dX5_lightest_114 : decode cX5_lightest 114 = .ok (.iload 6, 2) := by decide +kernel
theorem dX5_lightest_116 : decode cX5_lightest 116 = .ok (.iload 7, 2) := by decide +kernel
theorem dX5_lightest_118 : decode cX5_lightest 118 = .ok (.ishr, 1) := by decide +kernel
theorem dX5_lightest_119 : decode cX5_lightest 119 = .ok (.iconst 1, 1) := by decide +kernel
theorem dX5_lightest_120 : decode cX5_lightest 120 = .ok (.iand, 1) := by decide +kernel
theorem dX5_lightest_121 : decode cX5_lightest 121 = .ok (.ifCond .ne 82, 3) := by decide +kernel
theorem dX5_lightest_124 : decode cX5_lightest 124 = .ok (.aload_n 0, 1) := by decide +kernel
theorem dX5_lightest_125 : decode cX5_lightest 125 = .ok (.iload_n 1, 1) := by decide +kernel
theorem dX5_lightest_126 : decode cX5_lightest 126 = .ok (.iload 7, 2) := by decide +kernel
theorem dX5_lightest_128 : decode cX5_lightest 128 = .ok (.iload 5, 2) := by decide +kernel
theorem dX5_lightest_130 : decode cX5_lightest 130 = .ok (.invokevirtual 146, 3) := by decide +kernel
theorem dX5_lightest_133 : decode cX5_lightest 133 = .ok (.ifCond .eq 70, 3) := by decide +kernel
theorem dX5_lightest_136 : decode cX5_lightest 136 = .ok (.iload 6, 2) := by decide +kernel
theorem dX5_lightest_138 : decode cX5_lightest 138 = .ok (.iconst 1, 1) := by decide +kernel
theorem dX5_lightest_139 : decode cX5_lightest 139 = .ok (.iload 7, 2) := by decide +kernel
theorem dX5_lightest_141 : decode cX5_lightest 141 = .ok (.ishl, 1) := by decide +kernel
theorem dX5_lightest_142 : decode cX5_lightest 142 = .ok (.ior, 1) := by decide +kernel
theorem dX5_lightest_143 : decode cX5_lightest 143 = .ok (.istore 8, 2) := by decide +kernel
theorem dX5_lightest_145 : decode cX5_lightest 145 = .ok (.aload_n 0, 1) := by decide +kernel
theorem dX5_lightest_146 : decode cX5_lightest 146 = .ok (.getfield 83, 3) := by decide +kernel
theorem dX5_lightest_149 : decode cX5_lightest 149 = .ok (.iload 6, 2) := by decide +kernel
theorem dX5_lightest_151 : decode cX5_lightest 151 = .ok (.iaload, 1) := by decide +kernel
theorem dX5_lightest_152 : decode cX5_lightest 152 = .ok (.aload_n 0, 1) := by decide +kernel
theorem dX5_lightest_153 : decode cX5_lightest 153 = .ok (.getfield 77, 3) := by decide +kernel
theorem dX5_lightest_156 : decode cX5_lightest 156 = .ok (.iload 5, 2) := by decide +kernel
theorem dX5_lightest_158 : decode cX5_lightest 158 = .ok (.iaload, 1) := by decide +kernel
theorem dX5_lightest_159 : decode cX5_lightest 159 = .ok (.iadd, 1) := by decide +kernel
theorem dX5_lightest_160 : decode cX5_lightest 160 = .ok (.istore 9, 2) := by decide +kernel
theorem dX5_lightest_162 : decode cX5_lightest 162 = .ok (.aload_n 0, 1) := by decide +kernel
theorem dX5_lightest_163 : decode cX5_lightest 163 = .ok (.getfield 83, 3) := by decide +kernel
theorem dX5_lightest_166 : decode cX5_lightest 166 = .ok (.iload 8, 2) := by decide +kernel
theorem dX5_lightest_168 : decode cX5_lightest 168 = .ok (.aload_n 0, 1) := by decide +kernel
theorem dX5_lightest_169 : decode cX5_lightest 169 = .ok (.getfield 83, 3) := by decide +kernel
theorem dX5_lightest_172 : decode cX5_lightest 172 = .ok (.iload 8, 2) := by decide +kernel
theorem dX5_lightest_174 : decode cX5_lightest 174 = .ok (.iaload, 1) := by decide +kernel
theorem dX5_lightest_175 : decode cX5_lightest 175 = .ok (.ifCond .lt 15, 3) := by decide +kernel
theorem dX5_lightest_178 : decode cX5_lightest 178 = .ok (.iload 9, 2) := by decide +kernel
theorem dX5_lightest_180 : decode cX5_lightest 180 = .ok (.aload_n 0, 1) := by decide +kernel
theorem dX5_lightest_181 : decode cX5_lightest 181 = .ok (.getfield 83, 3) := by decide +kernel
theorem dX5_lightest_184 : decode cX5_lightest 184 = .ok (.iload 8, 2) := by decide +kernel
theorem dX5_lightest_186 : decode cX5_lightest 186 = .ok (.iaload, 1) := by decide +kernel
theorem dX5_lightest_187 : decode cX5_lightest 187 = .ok (.if_icmp .ge 8, 3) := by decide +kernel
theorem dX5_lightest_190 : decode cX5_lightest 190 = .ok (.iload 9, 2) := by decide +kernel
theorem dX5_lightest_192 : decode cX5_lightest 192 = .ok (.goto 10, 3) := by decide +kernel
theorem dX5_lightest_195 : decode cX5_lightest 195 = .ok (.aload_n 0, 1) := by decide +kernel
theorem dX5_lightest_196 : decode cX5_lightest 196 = .ok (.getfield 83, 3) := by decide +kernel
theorem dX5_lightest_199 : decode cX5_lightest 199 = .ok (.iload 8, 2) := by decide +kernel
theorem dX5_lightest_201 : decode cX5_lightest 201 = .ok (.iaload, 1) := by decide +kernel
theorem dX5_lightest_202 : decode cX5_lightest 202 = .ok (.iastore, 1) := by decide +kernel
theorem dX5_lightest_203 : decode cX5_lightest 203 = .ok (.iinc 7 1, 3) := by decide +kernel
theorem dX5_lightest_206 : decode cX5_lightest 206 = .ok (.goto (-101), 3) := by decide +kernel
theorem dX5_lightest_209 : decode cX5_lightest 209 = .ok (.iinc 6 (-1), 3) := by decide +kernel
theorem dX5_lightest_212 : decode cX5_lightest 212 = .ok (.goto (-128), 3) := by decide +kernel
theorem dX5_lightest_215 : decode cX5_lightest 215 = .ok (.iinc 5 1, 3) := by decide +kernel
theorem dX5_lightest_218 : decode cX5_lightest 218 = .ok (.goto (-172), 3) := by decide +kernel
theorem dX5_lightest_221 : decode cX5_lightest 221 = .ok (.aload_n 0, 1) := by decide +kernel
theorem dX5_lightest_222 : decode cX5_lightest 222 = .ok (.getfield 83, 3) := by decide +kernel
theorem dX5_lightest_225 : decode cX5_lightest 225 = .ok (.iload 4, 2) := by decide +kernel
theorem dX5_lightest_227 : decode cX5_lightest 227 = .ok (.iconst 1, 1) := by decide +kernel
theorem dX5_lightest_228 : decode cX5_lightest 228 = .ok (.isub, 1) := by decide +kernel
theorem dX5_lightest_229 : decode cX5_lightest 229 = .ok (.iaload, 1) := by decide +kernel
theorem dX5_lightest_230 : decode cX5_lightest 230 = .ok (.ireturn, 1) := by decide +kernel
theorem dX5_rings_0 : decode cX5_rings 0 = .ok (.iconst 0, 1) := by decide +kernel
theorem dX5_rings_1 : decode cX5_rings 1 = .ok (.istore_n 1, 1) := by decide +kernel
theorem dX5_rings_2 : decode cX5_rings 2 = .ok (.iload_n 1, 1) := by decide +kernel
theorem dX5_rings_3 : decode cX5_rings 3 = .ok (.aload_n 0, 1) := by decide +kernel
theorem dX5_rings_4 : decode cX5_rings 4 = .ok (.getfield 86, 3) := by decide +kernel
theorem dX5_rings_7 : decode cX5_rings 7 = .ok (.if_icmp .ge 32, 3) := by decide +kernel
theorem dX5_rings_10 : decode cX5_rings 10 = .ok (.aload_n 0, 1) := by decide +kernel
theorem dX5_rings_11 : decode cX5_rings 11 = .ok (.getfield 77, 3) := by decide +kernel
theorem dX5_rings_14 : decode cX5_rings 14 = .ok (.iload_n 1, 1) := by decide +kernel
theorem dX5_rings_15 : decode cX5_rings 15 = .ok (.aload_n 0, 1) := by decide +kernel
theorem dX5_rings_16 : decode cX5_rings 16 = .ok (.iload_n 1, 1) := by decide +kernel
theorem dX5_rings_17 : decode cX5_rings 17 = .ok (.invokevirtual 115, 3) := by decide +kernel
theorem dX5_rings_20 : decode cX5_rings 20 = .ok (.iastore, 1) := by decide +kernel
theorem dX5_rings_21 : decode cX5_rings 21 = .ok (.aload_n 0, 1) := by decide +kernel
theorem dX5_rings_22 : decode cX5_rings 22 = .ok (.getfield 80, 3) := by decide +kernel
theorem dX5_rings_25 : decode cX5_rings 25 = .ok (.iload_n 1, 1) := by decide +kernel
theorem dX5_rings_26 : decode cX5_rings 26 = .ok (.aload_n 0, 1) := by decide +kernel
theorem dX5_rings_27 : decode cX5_rings 27 = .ok (.iload_n 1, 1) := by decide +kernel
theorem dX5_rings_28 : decode cX5_rings 28 = .ok (.iconst 0, 1) := by decide +kernel
theorem dX5_rings_29 : decode cX5_rings 29 = .ok (.invokevirtual 120, 3) := by decide +kernel
theorem dX5_rings_32 : decode cX5_rings 32 = .ok (.iastore, 1) := by decide +kernel
theorem dX5_rings_33 : decode cX5_rings 33 = .ok (.iinc 1 1, 3) := by decide +kernel
theorem dX5_rings_36 : decode cX5_rings 36 = .ok (.goto (-34), 3) := by decide +kernel
theorem dX5_rings_39 : decode cX5_rings 39 = .ok (.iconst (-1), 1) := by decide +kernel
theorem dX5_rings_40 : decode cX5_rings 40 = .ok (.istore_n 1, 1) := by decide +kernel
theorem dX5_rings_41 : decode cX5_rings 41 = .ok (.iconst (-1), 1) := by decide +kernel
theorem dX5_rings_42 : decode cX5_rings 42 = .ok (.istore_n 2, 1) := by decide +kernel
theorem dX5_rings_43 : decode cX5_rings 43 = .ok (.iconst 0, 1) := by decide +kernel
theorem dX5_rings_44 : decode cX5_rings 44 = .ok (.istore_n 3, 1) := by decide +kernel
theorem dX5_rings_45 : decode cX5_rings 45 = .ok (.iload_n 3, 1) := by decide +kernel
theorem dX5_rings_46 : decode cX5_rings 46 = .ok (.aload_n 0, 1) := by decide +kernel
theorem dX5_rings_47 : decode cX5_rings 47 = .ok (.getfield 86, 3) := by decide +kernel
theorem dX5_rings_50 : decode cX5_rings 50 = .ok (.if_icmp .ge 74, 3) := by decide +kernel
theorem dX5_rings_53 : decode cX5_rings 53 = .ok (.aload_n 0, 1) := by decide +kernel
theorem dX5_rings_54 : decode cX5_rings 54 = .ok (.getfield 140, 3) := by decide +kernel
theorem dX5_rings_57 : decode cX5_rings 57 = .ok (.ifCond .le 67, 3) := by decide +kernel
theorem dX5_rings_60 : decode cX5_rings 60 = .ok (.aload_n 0, 1) := by decide +kernel
theorem dX5_rings_61 : decode cX5_rings 61 = .ok (.getfield 53, 3) := by decide +kernel
theorem dX5_rings_64 : decode cX5_rings 64 = .ok (.iload_n 3, 1) := by decide +kernel
theorem dX5_rings_65 : decode cX5_rings 65 = .ok (.baload, 1) := by decide +kernel
theorem dX5_rings_66 : decode cX5_rings 66 = .ok (.ifCond .eq 7, 3) := by decide +kernel
theorem dX5_rings_69 : decode cX5_rings 69 = .ok (.iconst (-1), 1) := by decide +kernel
theorem dX5_rings_70 : decode cX5_rings 70 = .ok (.goto 12, 3) := by decide +kernel
theorem dX5_rings_73 : decode cX5_rings 73 = .ok (.aload_n 0, 1) := by decide +kernel
theorem dX5_rings_74 : decode cX5_rings 74 = .ok (.iload_n 3, 1) := by decide +kernel
theorem dX5_rings_75 : decode cX5_rings 75 = .ok (.iconst 1, 1) := by decide +kernel
theorem dX5_rings_76 : decode cX5_rings 76 = .ok (.iconst 1, 1) := by decide +kernel
theorem dX5_rings_77 : decode cX5_rings 77 = .ok (.iload_n 3, 1) := by decide +kernel
theorem dX5_rings_78 : decode cX5_rings 78 = .ok (.ishl, 1) := by decide +kernel
theorem dX5_rings_79 : decode cX5_rings 79 = .ok (.invokevirtual 149, 3) := by decide +kernel
theorem dX5_rings_82 : decode cX5_rings 82 = .ok (.istore 4, 2) := by decide +kernel
theorem dX5_rings_84 : decode cX5_rings 84 = .ok (.iload 4, 2) := by decide +kernel
theorem dX5_rings_86 : decode cX5_rings 86 = .ok (.ifCond .lt 32, 3) := by decide +kernel
theorem dX5_rings_89 : decode cX5_rings 89 = .ok (.iload_n 1, 1) := by decide +kernel
theorem dX5_rings_90 : decode cX5_rings 90 = .ok (.ifCond .lt 16, 3) := by decide +kernel
theorem dX5_rings_93 : decode cX5_rings 93 = .ok (.iload 4, 2) := by decide +kernel
theorem dX5_rings_95 : decode cX5_rings 95 = .ok (.aload_n 0, 1) := by decide +kernel
theorem dX5_rings_96 : decode cX5_rings 96 = .ok (.getfield 77, 3) := by decide +kernel
theorem dX5_rings_99 : decode cX5_rings 99 = .ok (.iload_n 3, 1) := by decide +kernel
theorem dX5_rings_100 : decode cX5_rings 100 = .ok (.iaload, 1) := by decide +kernel
theorem dX5_rings_101 : decode cX5_rings 101 = .ok (.iadd, 1) := by decide +kernel
theorem dX5_rings_102 : decode cX5_rings 102 = .ok (.iload_n 1, 1) := by decide +kernel
theorem dX5_rings_103 : decode cX5_rings 103 = .ok (.if_icmp .ge 15, 3) := by decide +kernel
theorem dX5_rings_106 : decode cX5_rings 106 = .ok (.iload 4, 2) := by decide +kernel
theorem dX5_rings_108 : decode cX5_rings 108 = .ok (.aload_n 0, 1) := by decide +kernel
theorem dX5_rings_109 : decode cX5_rings 109 = .ok (.getfield 77, 3) := by decide +kernel
theorem dX5_rings_112 : decode cX5_rings 112 = .ok (.iload_n 3, 1) := by decide +kernel
theorem dX5_rings_113 : decode cX5_rings 113 = .ok (.iaload, 1) := by decide +kernel
theorem dX5_rings_114 : decode cX5_rings 114 = .ok (.iadd, 1) := by decide +kernel
theorem dX5_rings_115 : decode cX5_rings 115 = .ok (.istore_n 1, 1) := by decide +kernel
theorem dX5_rings_116 : decode cX5_rings 116 = .ok (.iload_n 3, 1) := by decide +kernel
theorem dX5_rings_117 : decode cX5_rings 117 = .ok (.istore_n 2, 1) := by decide +kernel
theorem dX5_rings_118 : decode cX5_rings 118 = .ok (.iinc 3 1, 3) := by decide +kernel
theorem dX5_rings_121 : decode cX5_rings 121 = .ok (.goto (-76), 3) := by decide +kernel
theorem dX5_rings_124 : decode cX5_rings 124 = .ok (.iload_n 1, 1) := by decide +kernel
theorem dX5_rings_125 : decode cX5_rings 125 = .ok (.ifCond .ge 5, 3) := by decide +kernel
theorem dX5_rings_128 : decode cX5_rings 128 = .ok (.iconst (-1), 1) := by decide +kernel
theorem dX5_rings_129 : decode cX5_rings 129 = .ok (.ireturn, 1) := by decide +kernel
theorem dX5_rings_130 : decode cX5_rings 130 = .ok (.aload_n 0, 1) := by decide +kernel
theorem dX5_rings_131 : decode cX5_rings 131 = .ok (.getfield 74, 3) := by decide +kernel
theorem dX5_rings_134 : decode cX5_rings 134 = .ok (.iconst 0, 1) := by decide +kernel
theorem dX5_rings_135 : decode cX5_rings 135 = .ok (.iload_n 2, 1) := by decide +kernel
theorem dX5_rings_136 : decode cX5_rings 136 = .ok (.iastore, 1) := by decide +kernel
theorem dX5_rings_137 : decode cX5_rings 137 = .ok (.iconst 1, 1) := by decide +kernel
theorem dX5_rings_138 : decode cX5_rings 138 = .ok (.iload_n 2, 1) := by decide +kernel
theorem dX5_rings_139 : decode cX5_rings 139 = .ok (.ishl, 1) := by decide +kernel
theorem dX5_rings_140 : decode cX5_rings 140 = .ok (.istore_n 3, 1) := by decide +kernel
theorem dX5_rings_141 : decode cX5_rings 141 = .ok (.iload_n 1, 1) := by decide +kernel
theorem dX5_rings_142 : decode cX5_rings 142 = .ok (.aload_n 0, 1) := by decide +kernel
theorem dX5_rings_143 : decode cX5_rings 143 = .ok (.getfield 77, 3) := by decide +kernel
theorem dX5_rings_146 : decode cX5_rings 146 = .ok (.iload_n 2, 1) := by decide +kernel
theorem dX5_rings_147 : decode cX5_rings 147 = .ok (.iaload, 1) := by decide +kernel
theorem dX5_rings_148 : decode cX5_rings 148 = .ok (.isub, 1) := by decide +kernel
theorem dX5_rings_149 : decode cX5_rings 149 = .ok (.istore 4, 2) := by decide +kernel
theorem dX5_rings_151 : decode cX5_rings 151 = .ok (.iconst 1, 1) := by decide +kernel
theorem dX5_rings_152 : decode cX5_rings 152 = .ok (.istore 5, 2) := by decide +kernel
theorem dX5_rings_154 : decode cX5_rings 154 = .ok (.iload 5, 2) := by decide +kernel
theorem dX5_rings_156 : decode cX5_rings 156 = .ok (.aload_n 0, 1) := by decide +kernel
theorem dX5_rings_157 : decode cX5_rings 157 = .ok (.getfield 140, 3) := by decide +kernel
theorem dX5_rings_160 : decode cX5_rings 160 = .ok (.if_icmp .ge 61, 3) := by decide +kernel
theorem dX5_rings_163 : decode cX5_rings 163 = .ok (.iconst 0, 1) := by decide +kernel
theorem dX5_rings_164 : decode cX5_rings 164 = .ok (.istore 6, 2) := by decide +kernel
theorem dX5_rings_166 : decode cX5_rings 166 = .ok (.aload_n 0, 1) := by decide +kernel
theorem dX5_rings_167 : decode cX5_rings 167 = .ok (.iload_n 2, 1) := by decide +kernel
theorem dX5_rings_168 : decode cX5_rings 168 = .ok (.iload 5, 2) := by decide +kernel
theorem dX5_rings_170 : decode cX5_rings 170 = .ok (.iload 6, 2) := by decide +kernel
theorem dX5_rings_172 : decode cX5_rings 172 = .ok (.iload_n 3, 1) := by decide +kernel
theorem dX5_rings_173 : decode cX5_rings 173 = .ok (.iload 4, 2) := by decide +kernel
theorem dX5_rings_175 : decode cX5_rings 175 = .ok (.invokevirtual 153, 3) := by decide +kernel
theorem dX5_rings_178 : decode cX5_rings 178 = .ok (.ifCond .ne 9, 3) := by decide +kernel
theorem dX5_rings_181 : decode cX5_rings 181 = .ok (.iinc 6 1, 3) := by decide +kernel
theorem dX5_rings_184 : decode cX5_rings 184 = .ok (.goto (-18), 3) := by decide +kernel
theorem dX5_rings_187 : decode cX5_rings 187 = .ok (.aload_n 0, 1) := by decide +kernel
theorem dX5_rings_188 : decode cX5_rings 188 = .ok (.getfield 74, 3) := by decide +kernel
theorem dX5_rings_191 : decode cX5_rings 191 = .ok (.iload 5, 2) := by decide +kernel
theorem dX5_rings_193 : decode cX5_rings 193 = .ok (.iload 6, 2) := by decide +kernel
theorem dX5_rings_195 : decode cX5_rings 195 = .ok (.iastore, 1) := by decide +kernel
theorem dX5_rings_196 : decode cX5_rings 196 = .ok (.iload_n 3, 1) := by decide +kernel
theorem dX5_rings_197 : decode cX5_rings 197 = .ok (.iconst 1, 1) := by decide +kernel
theorem dX5_rings_198 : decode cX5_rings 198 = .ok (.iload 6, 2) := by decide +kernel
theorem dX5_rings_200 : decode cX5_rings 200 = .ok (.ishl, 1) := by decide +kernel
theorem dX5_rings_201 : decode cX5_rings 201 = .ok (.ior, 1) := by decide +kernel
theorem dX5_rings_202 : decode cX5_rings 202 = .ok (.istore_n 3, 1) := by decide +kernel
theorem dX5_rings_203 : decode cX5_rings 203 = .ok (.iload 4, 2) := by decide +kernel
theorem dX5_rings_205 : decode cX5_rings 205 = .ok (.aload_n 0, 1) := by decide +kernel
theorem dX5_rings_206 : decode cX5_rings 206 = .ok (.getfield 77, 3) := by decide +kernel
theorem dX5_rings_209 : decode cX5_rings 209 = .ok (.iload 6, 2) := by decide +kernel
theorem dX5_rings_211 : decode cX5_rings 211 = .ok (.iaload, 1) := by decide +kernel
theorem dX5_rings_212 : decode cX5_rings 212 = .ok (.isub, 1) := by decide +kernel
theorem dX5_rings_213 : decode cX5_rings 213 = .ok (.istore 4, 2) := by decide +kernel
theorem dX5_rings_215 : decode cX5_rings 215 = .ok (.iinc 5 1, 3) := by decide +kernel
theorem dX5_rings_218 : decode cX5_rings 218 = .ok (.goto (-64), 3) := by decide +kernel
theorem dX5_rings_221 : decode cX5_rings 221 = .ok (.iload_n 1, 1) := by decide +kernel
theorem dX5_rings_222 : decode cX5_rings 222 = .ok (.ireturn, 1) := by decide +kernel
theorem dX5_fits_0 : decode cX5_fits 0 = .ok (.aload_n 0, 1) := by decide +kernel
theorem dX5_fits_1 : decode cX5_fits 1 = .ok (.getfield 53, 3) := by decide +kernel
theorem dX5_fits_4 : decode cX5_fits 4 = .ok (.iload_n 3, 1) := by decide +kernel
theorem dX5_fits_5 : decode cX5_fits 5 = .ok (.baload, 1) := by decide +kernel
theorem dX5_fits_6 : decode cX5_fits 6 = .ok (.ifCond .ne 23, 3) := by decide +kernel
theorem dX5_fits_9 : decode cX5_fits 9 = .ok (.iload 4, 2) := by decide +kernel
theorem dX5_fits_11 : decode cX5_fits 11 = .ok (.iload_n 3, 1) := by decide +kernel
theorem dX5_fits_12 : decode cX5_fits 12 = .ok (.ishr, 1) := by decide +kernel
theorem dX5_fits_13 : decode cX5_fits 13 = .ok (.iconst 1, 1) := by decide +kernel
theorem dX5_fits_14 : decode cX5_fits 14 = .ok (.iand, 1) := by decide +kernel
theorem dX5_fits_15 : decode cX5_fits 15 = .ok (.iconst 1, 1) := by decide +kernel
theorem dX5_fits_16 : decode cX5_fits 16 = .ok (.if_icmp .eq 13, 3) := by decide +kernel
theorem dX5_fits_19 : decode cX5_fits 19 = .ok (.aload_n 0, 1) := by decide +kernel
theorem dX5_fits_20 : decode cX5_fits 20 = .ok (.iload_n 1, 1) := by decide +kernel
theorem dX5_fits_21 : decode cX5_fits 21 = .ok (.iload_n 2, 1) := by decide +kernel
theorem dX5_fits_22 : decode cX5_fits 22 = .ok (.iload_n 3, 1) := by decide +kernel
theorem dX5_fits_23 : decode cX5_fits 23 = .ok (.invokevirtual 146, 3) := by decide +kernel
theorem dX5_fits_26 : decode cX5_fits 26 = .ok (.ifCond .ne 5, 3) := by decide +kernel
theorem dX5_fits_29 : decode cX5_fits 29 = .ok (.iconst 0, 1) := by decide +kernel
theorem dX5_fits_30 : decode cX5_fits 30 = .ok (.ireturn, 1) := by decide +kernel
theorem dX5_fits_31 : decode cX5_fits 31 = .ok (.aload_n 0, 1) := by decide +kernel
theorem dX5_fits_32 : decode cX5_fits 32 = .ok (.iload_n 1, 1) := by decide +kernel
theorem dX5_fits_33 : decode cX5_fits 33 = .ok (.iload_n 2, 1) := by decide +kernel
theorem dX5_fits_34 : decode cX5_fits 34 = .ok (.iconst 1, 1) := by decide +kernel
theorem dX5_fits_35 : decode cX5_fits 35 = .ok (.iadd, 1) := by decide +kernel
theorem dX5_fits_36 : decode cX5_fits 36 = .ok (.iload 4, 2) := by decide +kernel
theorem dX5_fits_38 : decode cX5_fits 38 = .ok (.iconst 1, 1) := by decide +kernel
theorem dX5_fits_39 : decode cX5_fits 39 = .ok (.iload_n 3, 1) := by decide +kernel
theorem dX5_fits_40 : decode cX5_fits 40 = .ok (.ishl, 1) := by decide +kernel
theorem dX5_fits_41 : decode cX5_fits 41 = .ok (.ior, 1) := by decide +kernel
theorem dX5_fits_42 : decode cX5_fits 42 = .ok (.invokevirtual 149, 3) := by decide +kernel
theorem dX5_fits_45 : decode cX5_fits 45 = .ok (.istore 6, 2) := by decide +kernel
theorem dX5_fits_47 : decode cX5_fits 47 = .ok (.iload 6, 2) := by decide +kernel
theorem dX5_fits_49 : decode cX5_fits 49 = .ok (.ifCond .lt 21, 3) := by decide +kernel
theorem dX5_fits_52 : decode cX5_fits 52 = .ok (.iload 6, 2) := by decide +kernel
theorem dX5_fits_54 : decode cX5_fits 54 = .ok (.aload_n 0, 1) := by decide +kernel
theorem dX5_fits_55 : decode cX5_fits 55 = .ok (.getfield 77, 3) := by decide +kernel
theorem dX5_fits_58 : decode cX5_fits 58 = .ok (.iload_n 3, 1) := by decide +kernel
theorem dX5_fits_59 : decode cX5_fits 59 = .ok (.iaload, 1) := by decide +kernel
theorem dX5_fits_60 : decode cX5_fits 60 = .ok (.iadd, 1) := by decide +kernel
theorem dX5_fits_61 : decode cX5_fits 61 = .ok (.iload 5, 2) := by decide +kernel
theorem dX5_fits_63 : decode cX5_fits 63 = .ok (.if_icmp .ne 7, 3) := by decide +kernel
theorem dX5_fits_66 : decode cX5_fits 66 = .ok (.iconst 1, 1) := by decide +kernel
theorem dX5_fits_67 : decode cX5_fits 67 = .ok (.goto 4, 3) := by decide +kernel
theorem dX5_fits_70 : decode cX5_fits 70 = .ok (.iconst 0, 1) := by decide +kernel
theorem dX5_fits_71 : decode cX5_fits 71 = .ok (.ireturn, 1) := by decide +kernel
theorem dX5_ringWeight_0 : decode cX5_ringWeight 0 = .ok (.aload_n 0, 1) := by decide +kernel
theorem dX5_ringWeight_1 : decode cX5_ringWeight 1 = .ok (.invokevirtual 157, 3) := by decide +kernel
theorem dX5_ringWeight_4 : decode cX5_ringWeight 4 = .ok (.ireturn, 1) := by decide +kernel
theorem dX5_ringBell_0 : decode cX5_ringBell 0 = .ok (.iload_n 1, 1) := by decide +kernel
theorem dX5_ringBell_1 : decode cX5_ringBell 1 = .ok (.iconst 0, 1) := by decide +kernel
theorem dX5_ringBell_2 : decode cX5_ringBell 2 = .ok (.aload_n 0, 1) := by decide +kernel
theorem dX5_ringBell_3 : decode cX5_ringBell 3 = .ok (.getfield 140, 3) := by decide +kernel
theorem dX5_ringBell_6 : decode cX5_ringBell 6 = .ok (.iconst 1, 1) := by decide +kernel
theorem dX5_ringBell_7 : decode cX5_ringBell 7 = .ok (.isub, 1) := by decide +kernel
theorem dX5_ringBell_8 : decode cX5_ringBell 8 = .ok (.invokestatic 90, 3) := by decide +kernel
theorem dX5_ringBell_11 : decode cX5_ringBell 11 = .ok (.ifCond .eq 19, 3) := by decide +kernel
theorem dX5_ringBell_14 : decode cX5_ringBell 14 = .ok (.aload_n 0, 1) := by decide +kernel
theorem dX5_ringBell_15 : decode cX5_ringBell 15 = .ok (.invokevirtual 157, 3) := by decide +kernel
theorem dX5_ringBell_18 : decode cX5_ringBell 18 = .ok (.ifCond .lt 12, 3) := by decide +kernel
theorem dX5_ringBell_21 : decode cX5_ringBell 21 = .ok (.aload_n 0, 1) := by decide +kernel
theorem dX5_ringBell_22 : decode cX5_ringBell 22 = .ok (.getfield 74, 3) := by decide +kernel
theorem dX5_ringBell_25 : decode cX5_ringBell 25 = .ok (.iload_n 1, 1) := by decide +kernel
theorem dX5_ringBell_26 : decode cX5_ringBell 26 = .ok (.iaload, 1) := by decide +kernel
theorem dX5_ringBell_27 : decode cX5_ringBell 27 = .ok (.goto 4, 3) := by decide +kernel
theorem dX5_ringBell_30 : decode cX5_ringBell 30 = .ok (.iconst (-1), 1) := by decide +kernel
theorem dX5_ringBell_31 : decode cX5_ringBell 31 = .ok (.ireturn, 1) := by decide +kernel
theorem dX5_pulls_0 : decode cX5_pulls 0 = .ok (.iconst 0, 1) := by decide +kernel
theorem dX5_pulls_1 : decode cX5_pulls 1 = .ok (.istore_n 1, 1) := by decide +kernel
theorem dX5_pulls_2 : decode cX5_pulls 2 = .ok (.iconst 0, 1) := by decide +kernel
theorem dX5_pulls_3 : decode cX5_pulls 3 = .ok (.istore_n 2, 1) := by decide +kernel
theorem dX5_pulls_4 : decode cX5_pulls 4 = .ok (.iload_n 2, 1) := by decide +kernel
theorem dX5_pulls_5 : decode cX5_pulls 5 = .ok (.aload_n 0, 1) := by decide +kernel
theorem dX5_pulls_6 : decode cX5_pulls 6 = .ok (.getfield 86, 3) := by decide +kernel
theorem dX5_pulls_9 : decode cX5_pulls 9 = .ok (.if_icmp .ge 23, 3) := by decide +kernel
theorem dX5_pulls_12 : decode cX5_pulls 12 = .ok (.iload_n 1, 1) := by decide +kernel
theorem dX5_pulls_13 : decode cX5_pulls 13 = .ok (.aload_n 0, 1) := by decide +kernel
theorem dX5_pulls_14 : decode cX5_pulls 14 = .ok (.iload_n 2, 1) := by decide +kernel
theorem dX5_pulls_15 : decode cX5_pulls 15 = .ok (.aload_n 0, 1) := by decide +kernel
theorem dX5_pulls_16 : decode cX5_pulls 16 = .ok (.getfield 56, 3) := by decide +kernel
theorem dX5_pulls_19 : decode cX5_pulls 19 = .ok (.iload_n 2, 1) := by decide +kernel
theorem dX5_pulls_20 : decode cX5_pulls 20 = .ok (.iaload, 1) := by decide +kernel
theorem dX5_pulls_21 : decode cX5_pulls 21 = .ok (.invokevirtual 124, 3) := by decide +kernel
theorem dX5_pulls_24 : decode cX5_pulls 24 = .ok (.iadd, 1) := by decide +kernel
theorem dX5_pulls_25 : decode cX5_pulls 25 = .ok (.istore_n 1, 1) := by decide +kernel
theorem dX5_pulls_26 : decode cX5_pulls 26 = .ok (.iinc 2 1, 3) := by decide +kernel
theorem dX5_pulls_29 : decode cX5_pulls 29 = .ok (.goto (-25), 3) := by decide +kernel
theorem dX5_pulls_32 : decode cX5_pulls 32 = .ok (.iload_n 1, 1) := by decide +kernel
theorem dX5_pulls_33 : decode cX5_pulls 33 = .ok (.ireturn, 1) := by decide +kernel
theorem dX5_tower_0 : decode cX5_tower 0 = .ok (.iload_n 1, 1) := by decide +kernel
theorem dX5_tower_1 : decode cX5_tower 1 = .ok (.iconst (-1), 1) := by decide +kernel
theorem dX5_tower_2 : decode cX5_tower 2 = .ok (.iconst 4, 1) := by decide +kernel
theorem dX5_tower_3 : decode cX5_tower 3 = .ok (.invokestatic 90, 3) := by decide +kernel
theorem dX5_tower_6 : decode cX5_tower 6 = .ok (.ifCond .eq 28, 3) := by decide +kernel
theorem dX5_tower_9 : decode cX5_tower 9 = .ok (.iload_n 1, 1) := by decide +kernel
theorem dX5_tower_10 : decode cX5_tower 10 = .ok (.ifCond .lt 14, 3) := by decide +kernel
theorem dX5_tower_13 : decode cX5_tower 13 = .ok (.iload_n 2, 1) := by decide +kernel
theorem dX5_tower_14 : decode cX5_tower 14 = .ok (.iconst 0, 1) := by decide +kernel
theorem dX5_tower_15 : decode cX5_tower 15 = .ok (.sipush 300, 3) := by decide +kernel
theorem dX5_tower_18 : decode cX5_tower 18 = .ok (.invokestatic 90, 3) := by decide +kernel
theorem dX5_tower_21 : decode cX5_tower 21 = .ok (.ifCond .eq 13, 3) := by decide +kernel
theorem dX5_tower_24 : decode cX5_tower 24 = .ok (.iload_n 3, 1) := by decide +kernel
theorem dX5_tower_25 : decode cX5_tower 25 = .ok (.iconst 0, 1) := by decide +kernel
theorem dX5_tower_26 : decode cX5_tower 26 = .ok (.ldc 97, 2) := by decide +kernel
theorem dX5_tower_28 : decode cX5_tower 28 = .ok (.invokestatic 90, 3) := by decide +kernel
theorem dX5_tower_31 : decode cX5_tower 31 = .ok (.ifCond .ne 5, 3) := by decide +kernel
theorem dX5_tower_34 : decode cX5_tower 34 = .ok (.iconst 0, 1) := by decide +kernel
theorem dX5_tower_35 : decode cX5_tower 35 = .ok (.ireturn, 1) := by decide +kernel
theorem dX5_tower_36 : decode cX5_tower 36 = .ok (.iload_n 1, 1) := by decide +kernel
theorem dX5_tower_37 : decode cX5_tower 37 = .ok (.ifCond .ge 7, 3) := by decide +kernel
theorem dX5_tower_40 : decode cX5_tower 40 = .ok (.iconst 0, 1) := by decide +kernel
theorem dX5_tower_41 : decode cX5_tower 41 = .ok (.goto 9, 3) := by decide +kernel
theorem dX5_tower_44 : decode cX5_tower 44 = .ok (.aload_n 0, 1) := by decide +kernel
theorem dX5_tower_45 : decode cX5_tower 45 = .ok (.getfield 68, 3) := by decide +kernel
theorem dX5_tower_48 : decode cX5_tower 48 = .ok (.iload_n 1, 1) := by decide +kernel
theorem dX5_tower_49 : decode cX5_tower 49 = .ok (.iaload, 1) := by decide +kernel
theorem dX5_tower_50 : decode cX5_tower 50 = .ok (.istore 4, 2) := by decide +kernel
theorem dX5_tower_52 : decode cX5_tower 52 = .ok (.iload_n 1, 1) := by decide +kernel
theorem dX5_tower_53 : decode cX5_tower 53 = .ok (.ifCond .lt 10, 3) := by decide +kernel
theorem dX5_tower_56 : decode cX5_tower 56 = .ok (.aload_n 0, 1) := by decide +kernel
theorem dX5_tower_57 : decode cX5_tower 57 = .ok (.getfield 68, 3) := by decide +kernel
theorem dX5_tower_60 : decode cX5_tower 60 = .ok (.iload_n 1, 1) := by decide +kernel
theorem dX5_tower_61 : decode cX5_tower 61 = .ok (.iload_n 2, 1) := by decide +kernel
theorem dX5_tower_62 : decode cX5_tower 62 = .ok (.iastore, 1) := by decide +kernel
theorem dX5_tower_63 : decode cX5_tower 63 = .ok (.aload_n 0, 1) := by decide +kernel
theorem dX5_tower_64 : decode cX5_tower 64 = .ok (.invokevirtual 161, 3) := by decide +kernel
theorem dX5_tower_67 : decode cX5_tower 67 = .ok (.iload_n 3, 1) := by decide +kernel
theorem dX5_tower_68 : decode cX5_tower 68 = .ok (.if_icmp .le 17, 3) := by decide +kernel
theorem dX5_tower_71 : decode cX5_tower 71 = .ok (.iload_n 1, 1) := by decide +kernel
theorem dX5_tower_72 : decode cX5_tower 72 = .ok (.ifCond .lt 11, 3) := by decide +kernel
theorem dX5_tower_75 : decode cX5_tower 75 = .ok (.aload_n 0, 1) := by decide +kernel
theorem dX5_tower_76 : decode cX5_tower 76 = .ok (.getfield 68, 3) := by decide +kernel
theorem dX5_tower_79 : decode cX5_tower 79 = .ok (.iload_n 1, 1) := by decide +kernel
theorem dX5_tower_80 : decode cX5_tower 80 = .ok (.iload 4, 2) := by decide +kernel
theorem dX5_tower_82 : decode cX5_tower 82 = .ok (.iastore, 1) := by decide +kernel
theorem dX5_tower_83 : decode cX5_tower 83 = .ok (.iconst 0, 1) := by decide +kernel
theorem dX5_tower_84 : decode cX5_tower 84 = .ok (.ireturn, 1) := by decide +kernel
theorem dX5_tower_85 : decode cX5_tower 85 = .ok (.aload_n 0, 1) := by decide +kernel
theorem dX5_tower_86 : decode cX5_tower 86 = .ok (.iload_n 3, 1) := by decide +kernel
theorem dX5_tower_87 : decode cX5_tower 87 = .ok (.putfield 164, 3) := by decide +kernel
theorem dX5_tower_90 : decode cX5_tower 90 = .ok (.iconst 1, 1) := by decide +kernel
theorem dX5_tower_91 : decode cX5_tower 91 = .ok (.ireturn, 1) := by decide +kernel
theorem dX5_hang_0 : decode cX5_hang 0 = .ok (.aload_n 0, 1) := by decide +kernel
theorem dX5_hang_1 : decode cX5_hang 1 = .ok (.iload_n 1, 1) := by decide +kernel
theorem dX5_hang_2 : decode cX5_hang 2 = .ok (.invokevirtual 108, 3) := by decide +kernel
theorem dX5_hang_5 : decode cX5_hang 5 = .ok (.ifCond .eq 21, 3) := by decide +kernel
theorem dX5_hang_8 : decode cX5_hang 8 = .ok (.aload_n 0, 1) := by decide +kernel
theorem dX5_hang_9 : decode cX5_hang 9 = .ok (.getfield 53, 3) := by decide +kernel
theorem dX5_hang_12 : decode cX5_hang 12 = .ok (.iload_n 1, 1) := by decide +kernel
theorem dX5_hang_13 : decode cX5_hang 13 = .ok (.baload, 1) := by decide +kernel
theorem dX5_hang_14 : decode cX5_hang 14 = .ok (.ifCond .ne 12, 3) := by decide +kernel
theorem dX5_hang_17 : decode cX5_hang 17 = .ok (.iload_n 2, 1) := by decide +kernel
theorem dX5_hang_18 : decode cX5_hang 18 = .ok (.iconst (-1), 1) := by decide +kernel
theorem dX5_hang_19 : decode cX5_hang 19 = .ok (.iconst 4, 1) := by decide +kernel
theorem dX5_hang_20 : decode cX5_hang 20 = .ok (.invokestatic 90, 3) := by decide +kernel
theorem dX5_hang_23 : decode cX5_hang 23 = .ok (.ifCond .ne 5, 3) := by decide +kernel
theorem dX5_hang_26 : decode cX5_hang 26 = .ok (.iconst 0, 1) := by decide +kernel
theorem dX5_hang_27 : decode cX5_hang 27 = .ok (.ireturn, 1) := by decide +kernel
theorem dX5_hang_28 : decode cX5_hang 28 = .ok (.aload_n 0, 1) := by decide +kernel
theorem dX5_hang_29 : decode cX5_hang 29 = .ok (.getfield 56, 3) := by decide +kernel
theorem dX5_hang_32 : decode cX5_hang 32 = .ok (.iload_n 1, 1) := by decide +kernel
theorem dX5_hang_33 : decode cX5_hang 33 = .ok (.iaload, 1) := by decide +kernel
theorem dX5_hang_34 : decode cX5_hang 34 = .ok (.istore_n 3, 1) := by decide +kernel
theorem dX5_hang_35 : decode cX5_hang 35 = .ok (.aload_n 0, 1) := by decide +kernel
theorem dX5_hang_36 : decode cX5_hang 36 = .ok (.getfield 56, 3) := by decide +kernel
theorem dX5_hang_39 : decode cX5_hang 39 = .ok (.iload_n 1, 1) := by decide +kernel
theorem dX5_hang_40 : decode cX5_hang 40 = .ok (.iload_n 2, 1) := by decide +kernel
theorem dX5_hang_41 : decode cX5_hang 41 = .ok (.iastore, 1) := by decide +kernel
theorem dX5_hang_42 : decode cX5_hang 42 = .ok (.aload_n 0, 1) := by decide +kernel
theorem dX5_hang_43 : decode cX5_hang 43 = .ok (.invokevirtual 161, 3) := by decide +kernel
theorem dX5_hang_46 : decode cX5_hang 46 = .ok (.aload_n 0, 1) := by decide +kernel
theorem dX5_hang_47 : decode cX5_hang 47 = .ok (.getfield 164, 3) := by decide +kernel
theorem dX5_hang_50 : decode cX5_hang 50 = .ok (.if_icmp .le 12, 3) := by decide +kernel
theorem dX5_hang_53 : decode cX5_hang 53 = .ok (.aload_n 0, 1) := by decide +kernel
theorem dX5_hang_54 : decode cX5_hang 54 = .ok (.getfield 56, 3) := by decide +kernel
theorem dX5_hang_57 : decode cX5_hang 57 = .ok (.iload_n 1, 1) := by decide +kernel
theorem dX5_hang_58 : decode cX5_hang 58 = .ok (.iload_n 3, 1) := by decide +kernel
theorem dX5_hang_59 : decode cX5_hang 59 = .ok (.iastore, 1) := by decide +kernel
theorem dX5_hang_60 : decode cX5_hang 60 = .ok (.iconst 0, 1) := by decide +kernel
theorem dX5_hang_61 : decode cX5_hang 61 = .ok (.ireturn, 1) := by decide +kernel
theorem dX5_hang_62 : decode cX5_hang 62 = .ok (.iconst 1, 1) := by decide +kernel
theorem dX5_hang_63 : decode cX5_hang 63 = .ok (.ireturn, 1) := by decide +kernel
theorem dX5_about_0 : decode cX5_about 0 = .ok (.iconst 0, 1) := by decide +kernel
theorem dX5_about_1 : decode cX5_about 1 = .ok (.istore_n 2, 1) := by decide +kernel
theorem dX5_about_2 : decode cX5_about 2 = .ok (.iconst 0, 1) := by decide +kernel
theorem dX5_about_3 : decode cX5_about 3 = .ok (.istore_n 3, 1) := by decide +kernel
theorem dX5_about_4 : decode cX5_about 4 = .ok (.iload_n 3, 1) := by decide +kernel
theorem dX5_about_5 : decode cX5_about 5 = .ok (.aload_n 0, 1) := by decide +kernel
theorem dX5_about_6 : decode cX5_about 6 = .ok (.getfield 86, 3) := by decide +kernel
theorem dX5_about_9 : decode cX5_about 9 = .ok (.if_icmp .ge 30, 3) := by decide +kernel
theorem dX5_about_12 : decode cX5_about 12 = .ok (.iload_n 2, 1) := by decide +kernel
theorem dX5_about_13 : decode cX5_about 13 = .ok (.aload_n 0, 1) := by decide +kernel
theorem dX5_about_14 : decode cX5_about 14 = .ok (.getfield 53, 3) := by decide +kernel
theorem dX5_about_17 : decode cX5_about 17 = .ok (.iload_n 3, 1) := by decide +kernel
theorem dX5_about_18 : decode cX5_about 18 = .ok (.baload, 1) := by decide +kernel
theorem dX5_about_19 : decode cX5_about 19 = .ok (.ifCond .eq 7, 3) := by decide +kernel
theorem dX5_about_22 : decode cX5_about 22 = .ok (.iconst 0, 1) := by decide +kernel
theorem dX5_about_23 : decode cX5_about 23 = .ok (.goto 8, 3) := by decide +kernel
theorem dX5_about_26 : decode cX5_about 26 = .ok (.aload_n 0, 1) := by decide +kernel
theorem dX5_about_27 : decode cX5_about 27 = .ok (.iload_n 3, 1) := by decide +kernel
theorem dX5_about_28 : decode cX5_about 28 = .ok (.invokevirtual 115, 3) := by decide +kernel
theorem dX5_about_31 : decode cX5_about 31 = .ok (.iadd, 1) := by decide +kernel
theorem dX5_about_32 : decode cX5_about 32 = .ok (.istore_n 2, 1) := by decide +kernel
theorem dX5_about_33 : decode cX5_about 33 = .ok (.iinc 3 1, 3) := by decide +kernel
theorem dX5_about_36 : decode cX5_about 36 = .ok (.goto (-32), 3) := by decide +kernel
theorem dX5_about_39 : decode cX5_about 39 = .ok (.iload_n 1, 1) := by decide +kernel
theorem dX5_about_40 : decode cX5_about 40 = .ok (.tableswitch 103 0 9 #[56, 61, 66, 71, 76, 81, 83, 88, 93, 98], 56) := by decide +kernel
theorem dX5_about_96 : decode cX5_about 96 = .ok (.aload_n 0, 1) := by decide +kernel
theorem dX5_about_97 : decode cX5_about 97 = .ok (.getfield 94, 3) := by decide +kernel
theorem dX5_about_100 : decode cX5_about 100 = .ok (.ireturn, 1) := by decide +kernel
theorem dX5_about_101 : decode cX5_about 101 = .ok (.aload_n 0, 1) := by decide +kernel
theorem dX5_about_102 : decode cX5_about 102 = .ok (.getfield 86, 3) := by decide +kernel
theorem dX5_about_105 : decode cX5_about 105 = .ok (.ireturn, 1) := by decide +kernel
theorem dX5_about_106 : decode cX5_about 106 = .ok (.aload_n 0, 1) := by decide +kernel
theorem dX5_about_107 : decode cX5_about 107 = .ok (.getfield 98, 3) := by decide +kernel
theorem dX5_about_110 : decode cX5_about 110 = .ok (.ireturn, 1) := by decide +kernel
theorem dX5_about_111 : decode cX5_about 111 = .ok (.aload_n 0, 1) := by decide +kernel
theorem dX5_about_112 : decode cX5_about 112 = .ok (.getfield 102, 3) := by decide +kernel
theorem dX5_about_115 : decode cX5_about 115 = .ok (.ireturn, 1) := by decide +kernel
theorem dX5_about_116 : decode cX5_about 116 = .ok (.aload_n 0, 1) := by decide +kernel
theorem dX5_about_117 : decode cX5_about 117 = .ok (.getfield 105, 3) := by decide +kernel
theorem dX5_about_120 : decode cX5_about 120 = .ok (.ireturn, 1) := by decide +kernel
theorem dX5_about_121 : decode cX5_about 121 = .ok (.iload_n 2, 1) := by decide +kernel
theorem dX5_about_122 : decode cX5_about 122 = .ok (.ireturn, 1) := by decide +kernel
theorem dX5_about_123 : decode cX5_about 123 = .ok (.aload_n 0, 1) := by decide +kernel
theorem dX5_about_124 : decode cX5_about 124 = .ok (.getfield 140, 3) := by decide +kernel
theorem dX5_about_127 : decode cX5_about 127 = .ok (.ireturn, 1) := by decide +kernel
theorem dX5_about_128 : decode cX5_about 128 = .ok (.aload_n 0, 1) := by decide +kernel
theorem dX5_about_129 : decode cX5_about 129 = .ok (.getfield 143, 3) := by decide +kernel
theorem dX5_about_132 : decode cX5_about 132 = .ok (.ireturn, 1) := by decide +kernel
theorem dX5_about_133 : decode cX5_about 133 = .ok (.aload_n 0, 1) := by decide +kernel
theorem dX5_about_134 : decode cX5_about 134 = .ok (.invokevirtual 161, 3) := by decide +kernel
theorem dX5_about_137 : decode cX5_about 137 = .ok (.ireturn, 1) := by decide +kernel
theorem dX5_about_138 : decode cX5_about 138 = .ok (.aload_n 0, 1) := by decide +kernel
theorem dX5_about_139 : decode cX5_about 139 = .ok (.getfield 164, 3) := by decide +kernel
theorem dX5_about_142 : decode cX5_about 142 = .ok (.ireturn, 1) := by decide +kernel
theorem dX5_about_143 : decode cX5_about 143 = .ok (.iload_n 1, 1) := by decide +kernel
theorem dX5_about_144 : decode cX5_about 144 = .ok (.bipush 10, 2) := by decide +kernel
theorem dX5_about_146 : decode cX5_about 146 = .ok (.bipush 14, 2) := by decide +kernel
theorem dX5_about_148 : decode cX5_about 148 = .ok (.invokestatic 90, 3) := by decide +kernel
theorem dX5_about_151 : decode cX5_about 151 = .ok (.ifCond .eq 15, 3) := by decide +kernel
theorem dX5_about_154 : decode cX5_about 154 = .ok (.aload_n 0, 1) := by decide +kernel
theorem dX5_about_155 : decode cX5_about 155 = .ok (.getfield 68, 3) := by decide +kernel
theorem dX5_about_158 : decode cX5_about 158 = .ok (.iload_n 1, 1) := by decide +kernel
theorem dX5_about_159 : decode cX5_about 159 = .ok (.bipush 10, 2) := by decide +kernel
theorem dX5_about_161 : decode cX5_about 161 = .ok (.isub, 1) := by decide +kernel
theorem dX5_about_162 : decode cX5_about 162 = .ok (.iaload, 1) := by decide +kernel
theorem dX5_about_163 : decode cX5_about 163 = .ok (.goto 4, 3) := by decide +kernel
theorem dX5_about_166 : decode cX5_about 166 = .ok (.iconst (-1), 1) := by decide +kernel
theorem dX5_about_167 : decode cX5_about 167 = .ok (.ireturn, 1) := by decide +kernel
