theorem dX9_init_0 : decode cX9_init 0 = .ok (.aload_n 0, 1) := by decide +kernel
theorem dX9_init_1 : decode cX9_init 1 = .ok (.invokespecial 1, 3) := by decide +kernel
theorem dX9_init_4 : decode cX9_init 4 = .ok (.aload_n 0, 1) := by decide +kernel
theorem dX9_init_5 : decode cX9_init 5 = .ok (.bipush 36, 2) := by decide +kernel
theorem dX9_init_7 : decode cX9_init 7 = .ok (.newarray .int, 2) := by decide +kernel
theorem dX9_init_9 : decode cX9_init 9 = .ok (.putfield 7, 3) := by decide +kernel
theorem dX9_init_12 : decode cX9_init 12 = .ok (.aload_n 0, 1) := by decide +kernel
theorem dX9_init_13 : decode cX9_init 13 = .ok (.iconst 4, 1) := by decide +kernel
theorem dX9_init_14 : decode cX9_init 14 = .ok (.newarray .int, 2) := by decide +kernel
theorem dX9_init_16 : decode cX9_init 16 = .ok (.putfield 13, 3) := by decide +kernel
theorem dX9_init_19 : decode cX9_init 19 = .ok (.aload_n 0, 1) := by decide +kernel
theorem dX9_init_20 : decode cX9_init 20 = .ok (.sipush 170, 3) := by decide +kernel
theorem dX9_init_23 : decode cX9_init 23 = .ok (.newarray .int, 2) := by decide +kernel
theorem dX9_init_25 : decode cX9_init 25 = .ok (.putfield 16, 3) := by decide +kernel
theorem dX9_init_28 : decode cX9_init 28 = .ok (.aload_n 0, 1) := by decide +kernel
theorem dX9_init_29 : decode cX9_init 29 = .ok (.sipush 170, 3) := by decide +kernel
theorem dX9_init_32 : decode cX9_init 32 = .ok (.newarray .int, 2) := by decide +kernel
theorem dX9_init_34 : decode cX9_init 34 = .ok (.putfield 19, 3) := by decide +kernel
theorem dX9_init_37 : decode cX9_init 37 = .ok (.aload_n 0, 1) := by decide +kernel
theorem dX9_init_38 : decode cX9_init 38 = .ok (.sipush 1360, 3) := by decide +kernel
theorem dX9_init_41 : decode cX9_init 41 = .ok (.newarray .int, 2) := by decide +kernel
theorem dX9_init_43 : decode cX9_init 43 = .ok (.putfield 22, 3) := by decide +kernel
theorem dX9_init_46 : decode cX9_init 46 = .ok (.aload_n 0, 1) := by decide +kernel
theorem dX9_init_47 : decode cX9_init 47 = .ok (.sipush 340, 3) := by decide +kernel
theorem dX9_init_50 : decode cX9_init 50 = .ok (.newarray .int, 2) := by decide +kernel
theorem dX9_init_52 : decode cX9_init 52 = .ok (.putfield 25, 3) := by decide +kernel
theorem dX9_init_55 : decode cX9_init 55 = .ok (.aload_n 0, 1) := by decide +kernel
theorem dX9_init_56 : decode cX9_init 56 = .ok (.bipush 16, 2) := by decide +kernel
theorem dX9_init_58 : decode cX9_init 58 = .ok (.newarray .int, 2) := by decide +kernel
theorem dX9_init_60 : decode cX9_init 60 = .ok (.putfield 28, 3) := by decide +kernel
theorem dX9_init_63 : decode cX9_init 63 = .ok (.aload_n 0, 1) := by decide +kernel
theorem dX9_init_64 : decode cX9_init 64 = .ok (.sipush 200, 3) := by decide +kernel
theorem dX9_init_67 : decode cX9_init 67 = .ok (.newarray .int, 2) := by decide +kernel
theorem dX9_init_69 : decode cX9_init 69 = .ok (.putfield 31, 3) := by decide +kernel
theorem dX9_init_72 : decode cX9_init 72 = .ok (.aload_n 0, 1) := by decide +kernel
theorem dX9_init_73 : decode cX9_init 73 = .ok (.bipush 36, 2) := by decide +kernel
theorem dX9_init_75 : decode cX9_init 75 = .ok (.newarray .int, 2) := by decide +kernel
theorem dX9_init_77 : decode cX9_init 77 = .ok (.putfield 34, 3) := by decide +kernel
theorem dX9_init_80 : decode cX9_init 80 = .ok (.aload_n 0, 1) := by decide +kernel
theorem dX9_init_81 : decode cX9_init 81 = .ok (.iconst 4, 1) := by decide +kernel
theorem dX9_init_82 : decode cX9_init 82 = .ok (.newarray .int, 2) := by decide +kernel
theorem dX9_init_84 : decode cX9_init 84 = .ok (.putfield 37, 3) := by decide +kernel
theorem dX9_init_87 : decode cX9_init 87 = .ok (.aload_n 0, 1) := by decide +kernel
theorem dX9_init_88 : decode cX9_init 88 = .ok (.sipush 144, 3) := by decide +kernel
theorem dX9_init_91 : decode cX9_init 91 = .ok (.newarray .int, 2) := by decide +kernel
theorem dX9_init_93 : decode cX9_init 93 = .ok (.putfield 40, 3) := by decide +kernel
theorem dX9_init_96 : decode cX9_init 96 = .ok (.aload_n 0, 1) := by decide +kernel
theorem dX9_init_97 : decode cX9_init 97 = .ok (.iconst 4, 1) := by decide +kernel
theorem dX9_init_98 : decode cX9_init 98 = .ok (.newarray .int, 2) := by decide +kernel
theorem dX9_init_100 : decode cX9_init 100 = .ok (.putfield 43, 3) := by decide +kernel
theorem dX9_init_103 : decode cX9_init 103 = .ok (.aload_n 0, 1) := by decide +kernel
theorem dX9_init_104 : decode cX9_init 104 = .ok (.iconst 4, 1) := by decide +kernel
theorem dX9_init_105 : decode cX9_init 105 = .ok (.newarray .int, 2) := by decide +kernel
theorem dX9_init_107 : decode cX9_init 107 = .ok (.putfield 46, 3) := by decide +kernel
theorem dX9_init_110 : decode cX9_init 110 = .ok (.aload_n 0, 1) := by decide +kernel
theorem dX9_init_111 : decode cX9_init 111 = .ok (.iconst 4, 1) := by decide +kernel
theorem dX9_init_112 : decode cX9_init 112 = .ok (.newarray .int, 2) := by decide +kernel
theorem dX9_init_114 : decode cX9_init 114 = .ok (.putfield 49, 3) := by decide +kernel
theorem dX9_init_117 : decode cX9_init 117 = .ok (.aload_n 0, 1) := by decide +kernel
theorem dX9_init_118 : decode cX9_init 118 = .ok (.bipush 36, 2) := by decide +kernel
theorem dX9_init_120 : decode cX9_init 120 = .ok (.newarray .int, 2) := by decide +kernel
theorem dX9_init_122 : decode cX9_init 122 = .ok (.putfield 52, 3) := by decide +kernel
theorem dX9_init_125 : decode cX9_init 125 = .ok (.aload_n 0, 1) := by decide +kernel
theorem dX9_init_126 : decode cX9_init 126 = .ok (.invokevirtual 55, 3) := by decide +kernel
theorem dX9_init_129 : decode cX9_init 129 = .ok (.aload_n 0, 1) := by decide +kernel
theorem dX9_init_130 : decode cX9_init 130 = .ok (.bipush 123, 2) := by decide +kernel
theorem dX9_init_132 : decode cX9_init 132 = .ok (.iconst 5, 1) := by decide +kernel
theorem dX9_init_133 : decode cX9_init 133 = .ok (.invokevirtual 58, 3) := by decide +kernel
theorem dX9_init_136 : decode cX9_init 136 = .ok (.aload_n 0, 1) := by decide +kernel
theorem dX9_init_137 : decode cX9_init 137 = .ok (.sipush 1110, 3) := by decide +kernel
theorem dX9_init_140 : decode cX9_init 140 = .ok (.iconst 5, 1) := by decide +kernel
theorem dX9_init_141 : decode cX9_init 141 = .ok (.invokevirtual 58, 3) := by decide +kernel
theorem dX9_init_144 : decode cX9_init 144 = .ok (.aload_n 0, 1) := by decide +kernel
theorem dX9_init_145 : decode cX9_init 145 = .ok (.sipush 32010, 3) := by decide +kernel
theorem dX9_init_148 : decode cX9_init 148 = .ok (.iconst 5, 1) := by decide +kernel
theorem dX9_init_149 : decode cX9_init 149 = .ok (.invokevirtual 58, 3) := by decide +kernel
theorem dX9_init_152 : decode cX9_init 152 = .ok (.aload_n 0, 1) := by decide +kernel
theorem dX9_init_153 : decode cX9_init 153 = .ok (.sipush 130, 3) := by decide +kernel
theorem dX9_init_156 : decode cX9_init 156 = .ok (.iconst 5, 1) := by decide +kernel
theorem dX9_init_157 : decode cX9_init 157 = .ok (.invokevirtual 58, 3) := by decide +kernel
theorem dX9_init_160 : decode cX9_init 160 = .ok (.iconst 0, 1) := by decide +kernel
theorem dX9_init_161 : decode cX9_init 161 = .ok (.istore_n 1, 1) := by decide +kernel
theorem dX9_init_162 : decode cX9_init 162 = .ok (.iload_n 1, 1) := by decide +kernel
theorem dX9_init_163 : decode cX9_init 163 = .ok (.iconst 4, 1) := by decide +kernel
theorem dX9_init_164 : decode cX9_init 164 = .ok (.if_icmp .ge 16, 3) := by decide +kernel
theorem dX9_init_167 : decode cX9_init 167 = .ok (.aload_n 0, 1) := by decide +kernel
theorem dX9_init_168 : decode cX9_init 168 = .ok (.getfield 37, 3) := by decide +kernel
theorem dX9_init_171 : decode cX9_init 171 = .ok (.iload_n 1, 1) := by decide +kernel
theorem dX9_init_172 : decode cX9_init 172 = .ok (.iload_n 1, 1) := by decide +kernel
theorem dX9_init_173 : decode cX9_init 173 = .ok (.iastore, 1) := by decide +kernel
theorem dX9_init_174 : decode cX9_init 174 = .ok (.iinc 1 1, 3) := by decide +kernel
theorem dX9_init_177 : decode cX9_init 177 = .ok (.goto (-15), 3) := by decide +kernel
theorem dX9_init_180 : decode cX9_init 180 = .ok (.aload_n 0, 1) := by decide +kernel
theorem dX9_init_181 : decode cX9_init 181 = .ok (.iconst 4, 1) := by decide +kernel
theorem dX9_init_182 : decode cX9_init 182 = .ok (.putfield 62, 3) := by decide +kernel
theorem dX9_init_185 : decode cX9_init 185 = .ok (.aload_n 0, 1) := by decide +kernel
theorem dX9_init_186 : decode cX9_init 186 = .ok (.getfield 40, 3) := by decide +kernel
theorem dX9_init_189 : decode cX9_init 189 = .ok (.bipush 7, 2) := by decide +kernel
theorem dX9_init_191 : decode cX9_init 191 = .ok (.iconst 0, 1) := by decide +kernel
theorem dX9_init_192 : decode cX9_init 192 = .ok (.iastore, 1) := by decide +kernel
theorem dX9_init_193 : decode cX9_init 193 = .ok (.aload_n 0, 1) := by decide +kernel
theorem dX9_init_194 : decode cX9_init 194 = .ok (.getfield 40, 3) := by decide +kernel
theorem dX9_init_197 : decode cX9_init 197 = .ok (.bipush 13, 2) := by decide +kernel
theorem dX9_init_199 : decode cX9_init 199 = .ok (.iconst 3, 1) := by decide +kernel
theorem dX9_init_200 : decode cX9_init 200 = .ok (.iastore, 1) := by decide +kernel
theorem dX9_init_201 : decode cX9_init 201 = .ok (.aload_n 0, 1) := by decide +kernel
theorem dX9_init_202 : decode cX9_init 202 = .ok (.getfield 40, 3) := by decide +kernel
theorem dX9_init_205 : decode cX9_init 205 = .ok (.bipush 37, 2) := by decide +kernel
theorem dX9_init_207 : decode cX9_init 207 = .ok (.iconst 2, 1) := by decide +kernel
theorem dX9_init_208 : decode cX9_init 208 = .ok (.iastore, 1) := by decide +kernel
theorem dX9_init_209 : decode cX9_init 209 = .ok (.aload_n 0, 1) := by decide +kernel
theorem dX9_init_210 : decode cX9_init 210 = .ok (.getfield 40, 3) := by decide +kernel
theorem dX9_init_213 : decode cX9_init 213 = .ok (.bipush 83, 2) := by decide +kernel
theorem dX9_init_215 : decode cX9_init 215 = .ok (.iconst 0, 1) := by decide +kernel
theorem dX9_init_216 : decode cX9_init 216 = .ok (.iastore, 1) := by decide +kernel
theorem dX9_init_217 : decode cX9_init 217 = .ok (.aload_n 0, 1) := by decide +kernel
theorem dX9_init_218 : decode cX9_init 218 = .ok (.getfield 40, 3) := by decide +kernel
theorem dX9_init_221 : decode cX9_init 221 = .ok (.bipush 126, 2) := by decide +kernel
theorem dX9_init_223 : decode cX9_init 223 = .ok (.iconst 0, 1) := by decide +kernel
theorem dX9_init_224 : decode cX9_init 224 = .ok (.iastore, 1) := by decide +kernel
theorem dX9_init_225 : decode cX9_init 225 = .ok (.aload_n 0, 1) := by decide +kernel
theorem dX9_init_226 : decode cX9_init 226 = .ok (.iconst 0, 1) := by decide +kernel
theorem dX9_init_227 : decode cX9_init 227 = .ok (.bipush 19, 2) := by decide +kernel
theorem dX9_init_229 : decode cX9_init 229 = .ok (.iconst 0, 1) := by decide +kernel
theorem dX9_init_230 : decode cX9_init 230 = .ok (.invokevirtual 66, 3) := by decide +kernel
theorem dX9_init_233 : decode cX9_init 233 = .ok (.aload_n 0, 1) := by decide +kernel
theorem dX9_init_234 : decode cX9_init 234 = .ok (.iconst 4, 1) := by decide +kernel
theorem dX9_init_235 : decode cX9_init 235 = .ok (.bipush 15, 2) := by decide +kernel
theorem dX9_init_237 : decode cX9_init 237 = .ok (.iconst 1, 1) := by decide +kernel
theorem dX9_init_238 : decode cX9_init 238 = .ok (.invokevirtual 66, 3) := by decide +kernel
theorem dX9_init_241 : decode cX9_init 241 = .ok (.aload_n 0, 1) := by decide +kernel
theorem dX9_init_242 : decode cX9_init 242 = .ok (.bipush 15, 2) := by decide +kernel
theorem dX9_init_244 : decode cX9_init 244 = .ok (.iconst 4, 1) := by decide +kernel
theorem dX9_init_245 : decode cX9_init 245 = .ok (.iconst 2, 1) := by decide +kernel
theorem dX9_init_246 : decode cX9_init 246 = .ok (.invokevirtual 66, 3) := by decide +kernel
theorem dX9_init_249 : decode cX9_init 249 = .ok (.aload_n 0, 1) := by decide +kernel
theorem dX9_init_250 : decode cX9_init 250 = .ok (.bipush 10, 2) := by decide +kernel
theorem dX9_init_252 : decode cX9_init 252 = .ok (.bipush 9, 2) := by decide +kernel
theorem dX9_init_254 : decode cX9_init 254 = .ok (.iconst 3, 1) := by decide +kernel
theorem dX9_init_255 : decode cX9_init 255 = .ok (.invokevirtual 66, 3) := by decide +kernel
theorem dX9_init_258 : decode cX9_init 258 = .ok (.aload_n 0, 1) := by decide +kernel
theorem dX9_init_259 : decode cX9_init 259 = .ok (.iconst 1, 1) := by decide +kernel
theorem dX9_init_260 : decode cX9_init 260 = .ok (.putfield 70, 3) := by decide +kernel
theorem dX9_init_263 : decode cX9_init 263 = .ok (.aload_n 0, 1) := by decide +kernel
theorem dX9_init_264 : decode cX9_init 264 = .ok (.invokevirtual 73, 3) := by decide +kernel
theorem dX9_init_267 : decode cX9_init 267 = .ok (.return_, 1) := by decide +kernel
theorem dX9_in_0 : decode cX9_in 0 = .ok (.lload_n 0, 1) := by decide +kernel
theorem dX9_in_1 : decode cX9_in 1 = .ok (.lload_n 2, 1) := by decide +kernel
theorem dX9_in_2 : decode cX9_in 2 = .ok (.lcmp, 1) := by decide +kernel
theorem dX9_in_3 : decode cX9_in 3 = .ok (.ifCond .lt 14, 3) := by decide +kernel
theorem dX9_in_6 : decode cX9_in 6 = .ok (.lload_n 0, 1) := by decide +kernel
theorem dX9_in_7 : decode cX9_in 7 = .ok (.lload 4, 2) := by decide +kernel
theorem dX9_in_9 : decode cX9_in 9 = .ok (.lcmp, 1) := by decide +kernel
theorem dX9_in_10 : decode cX9_in 10 = .ok (.ifCond .gt 7, 3) := by decide +kernel
theorem dX9_in_13 : decode cX9_in 13 = .ok (.iconst 1, 1) := by decide +kernel
theorem dX9_in_14 : decode cX9_in 14 = .ok (.goto 4, 3) := by decide +kernel
theorem dX9_in_17 : decode cX9_in 17 = .ok (.iconst 0, 1) := by decide +kernel
theorem dX9_in_18 : decode cX9_in 18 = .ok (.ireturn, 1) := by decide +kernel
theorem dX9_has_0 : decode cX9_has 0 = .ok (.iload_n 0, 1) := by decide +kernel
theorem dX9_has_1 : decode cX9_has 1 = .ok (.iload_n 1, 1) := by decide +kernel
theorem dX9_has_2 : decode cX9_has 2 = .ok (.ishr, 1) := by decide +kernel
theorem dX9_has_3 : decode cX9_has 3 = .ok (.iconst 1, 1) := by decide +kernel
theorem dX9_has_4 : decode cX9_has 4 = .ok (.iand, 1) := by decide +kernel
theorem dX9_has_5 : decode cX9_has 5 = .ok (.iconst 1, 1) := by decide +kernel
theorem dX9_has_6 : decode cX9_has 6 = .ok (.if_icmp .ne 7, 3) := by decide +kernel
theorem dX9_has_9 : decode cX9_has 9 = .ok (.iconst 1, 1) := by decide +kernel
theorem dX9_has_10 : decode cX9_has 10 = .ok (.goto 4, 3) := by decide +kernel
theorem dX9_has_13 : decode cX9_has 13 = .ok (.iconst 0, 1) := by decide +kernel
theorem dX9_has_14 : decode cX9_has 14 = .ok (.ireturn, 1) := by decide +kernel
theorem dX9_copies_0 : decode cX9_copies 0 = .ok (.iconst 0, 1) := by decide +kernel
theorem dX9_copies_1 : decode cX9_copies 1 = .ok (.istore 5, 2) := by decide +kernel
theorem dX9_copies_3 : decode cX9_copies 3 = .ok (.iload 5, 2) := by decide +kernel
theorem dX9_copies_5 : decode cX9_copies 5 = .ok (.iload 4, 2) := by decide +kernel
theorem dX9_copies_7 : decode cX9_copies 7 = .ok (.if_icmp .ge 21, 3) := by decide +kernel
theorem dX9_copies_10 : decode cX9_copies 10 = .ok (.aload_n 2, 1) := by decide +kernel
theorem dX9_copies_11 : decode cX9_copies 11 = .ok (.iload_n 3, 1) := by decide +kernel
theorem dX9_copies_12 : decode cX9_copies 12 = .ok (.iload 5, 2) := by decide +kernel
theorem dX9_copies_14 : decode cX9_copies 14 = .ok (.iadd, 1) := by decide +kernel
theorem dX9_copies_15 : decode cX9_copies 15 = .ok (.aload_n 0, 1) := by decide +kernel
theorem dX9_copies_16 : decode cX9_copies 16 = .ok (.iload_n 1, 1) := by decide +kernel
theorem dX9_copies_17 : decode cX9_copies 17 = .ok (.iload 5, 2) := by decide +kernel
theorem dX9_copies_19 : decode cX9_copies 19 = .ok (.iadd, 1) := by decide +kernel
theorem dX9_copies_20 : decode cX9_copies 20 = .ok (.iaload, 1) := by decide +kernel
theorem dX9_copies_21 : decode cX9_copies 21 = .ok (.iastore, 1) := by decide +kernel
theorem dX9_copies_22 : decode cX9_copies 22 = .ok (.iinc 5 1, 3) := by decide +kernel
theorem dX9_copies_25 : decode cX9_copies 25 = .ok (.goto (-22), 3) := by decide +kernel
theorem dX9_copies_28 : decode cX9_copies 28 = .ok (.return_, 1) := by decide +kernel
theorem dX9_forgetsRead_0 : decode cX9_forgetsRead 0 = .ok (.aload_n 0, 1) := by decide +kernel
theorem dX9_forgetsRead_1 : decode cX9_forgetsRead 1 = .ok (.iconst 0, 1) := by decide +kernel
theorem dX9_forgetsRead_2 : decode cX9_forgetsRead 2 = .ok (.putfield 76, 3) := by decide +kernel
theorem dX9_forgetsRead_5 : decode cX9_forgetsRead 5 = .ok (.aload_n 0, 1) := by decide +kernel
theorem dX9_forgetsRead_6 : decode cX9_forgetsRead 6 = .ok (.iconst 0, 1) := by decide +kernel
theorem dX9_forgetsRead_7 : decode cX9_forgetsRead 7 = .ok (.putfield 79, 3) := by decide +kernel
theorem dX9_forgetsRead_10 : decode cX9_forgetsRead 10 = .ok (.aload_n 0, 1) := by decide +kernel
theorem dX9_forgetsRead_11 : decode cX9_forgetsRead 11 = .ok (.iconst 0, 1) := by decide +kernel
theorem dX9_forgetsRead_12 : decode cX9_forgetsRead 12 = .ok (.putfield 62, 3) := by decide +kernel
theorem dX9_forgetsRead_15 : decode cX9_forgetsRead 15 = .ok (.aload_n 0, 1) := by decide +kernel
theorem dX9_forgetsRead_16 : decode cX9_forgetsRead 16 = .ok (.iconst 0, 1) := by decide +kernel
theorem dX9_forgetsRead_17 : decode cX9_forgetsRead 17 = .ok (.putfield 82, 3) := by decide +kernel
theorem dX9_forgetsRead_20 : decode cX9_forgetsRead 20 = .ok (.aload_n 0, 1) := by decide +kernel
theorem dX9_forgetsRead_21 : decode cX9_forgetsRead 21 = .ok (.iconst 0, 1) := by decide +kernel
theorem dX9_forgetsRead_22 : decode cX9_forgetsRead 22 = .ok (.putfield 70, 3) := by decide +kernel
theorem dX9_forgetsRead_25 : decode cX9_forgetsRead 25 = .ok (.iconst 0, 1) := by decide +kernel
theorem dX9_forgetsRead_26 : decode cX9_forgetsRead 26 = .ok (.istore_n 1, 1) := by decide +kernel
theorem dX9_forgetsRead_27 : decode cX9_forgetsRead 27 = .ok (.iload_n 1, 1) := by decide +kernel
theorem dX9_forgetsRead_28 : decode cX9_forgetsRead 28 = .ok (.sipush 144, 3) := by decide +kernel
theorem dX9_forgetsRead_31 : decode cX9_forgetsRead 31 = .ok (.if_icmp .ge 17, 3) := by decide +kernel
theorem dX9_forgetsRead_34 : decode cX9_forgetsRead 34 = .ok (.aload_n 0, 1) := by decide +kernel
theorem dX9_forgetsRead_35 : decode cX9_forgetsRead 35 = .ok (.getfield 40, 3) := by decide +kernel
theorem dX9_forgetsRead_38 : decode cX9_forgetsRead 38 = .ok (.iload_n 1, 1) := by decide +kernel
theorem dX9_forgetsRead_39 : decode cX9_forgetsRead 39 = .ok (.bipush (-4), 2) := by decide +kernel
theorem dX9_forgetsRead_41 : decode cX9_forgetsRead 41 = .ok (.iastore, 1) := by decide +kernel
theorem dX9_forgetsRead_42 : decode cX9_forgetsRead 42 = .ok (.iinc 1 1, 3) := by decide +kernel
theorem dX9_forgetsRead_45 : decode cX9_forgetsRead 45 = .ok (.goto (-18), 3) := by decide +kernel
theorem dX9_forgetsRead_48 : decode cX9_forgetsRead 48 = .ok (.return_, 1) := by decide +kernel
theorem dX9_laysRow_0 : decode cX9_laysRow 0 = .ok (.iload_n 1, 1) := by decide +kernel
theorem dX9_laysRow_1 : decode cX9_laysRow 1 = .ok (.istore_n 3, 1) := by decide +kernel
theorem dX9_laysRow_2 : decode cX9_laysRow 2 = .ok (.iload_n 2, 1) := by decide +kernel
theorem dX9_laysRow_3 : decode cX9_laysRow 3 = .ok (.iconst 1, 1) := by decide +kernel
theorem dX9_laysRow_4 : decode cX9_laysRow 4 = .ok (.isub, 1) := by decide +kernel
theorem dX9_laysRow_5 : decode cX9_laysRow 5 = .ok (.istore 4, 2) := by decide +kernel
theorem dX9_laysRow_7 : decode cX9_laysRow 7 = .ok (.iload 4, 2) := by decide +kernel
theorem dX9_laysRow_9 : decode cX9_laysRow 9 = .ok (.ifCond .lt 32, 3) := by decide +kernel
theorem dX9_laysRow_12 : decode cX9_laysRow 12 = .ok (.aload_n 0, 1) := by decide +kernel
theorem dX9_laysRow_13 : decode cX9_laysRow 13 = .ok (.getfield 34, 3) := by decide +kernel
theorem dX9_laysRow_16 : decode cX9_laysRow 16 = .ok (.iload_n 2, 1) := by decide +kernel
theorem dX9_laysRow_17 : decode cX9_laysRow 17 = .ok (.aload_n 0, 1) := by decide +kernel
theorem dX9_laysRow_18 : decode cX9_laysRow 18 = .ok (.getfield 76, 3) := by decide +kernel
theorem dX9_laysRow_21 : decode cX9_laysRow 21 = .ok (.imul, 1) := by decide +kernel
theorem dX9_laysRow_22 : decode cX9_laysRow 22 = .ok (.iload 4, 2) := by decide +kernel
theorem dX9_laysRow_24 : decode cX9_laysRow 24 = .ok (.iadd, 1) := by decide +kernel
theorem dX9_laysRow_25 : decode cX9_laysRow 25 = .ok (.iload_n 3, 1) := by decide +kernel
theorem dX9_laysRow_26 : decode cX9_laysRow 26 = .ok (.bipush 10, 2) := by decide +kernel
theorem dX9_laysRow_28 : decode cX9_laysRow 28 = .ok (.irem, 1) := by decide +kernel
theorem dX9_laysRow_29 : decode cX9_laysRow 29 = .ok (.iastore, 1) := by decide +kernel
theorem dX9_laysRow_30 : decode cX9_laysRow 30 = .ok (.iload_n 3, 1) := by decide +kernel
theorem dX9_laysRow_31 : decode cX9_laysRow 31 = .ok (.bipush 10, 2) := by decide +kernel
theorem dX9_laysRow_33 : decode cX9_laysRow 33 = .ok (.idiv, 1) := by decide +kernel
theorem dX9_laysRow_34 : decode cX9_laysRow 34 = .ok (.istore_n 3, 1) := by decide +kernel
theorem dX9_laysRow_35 : decode cX9_laysRow 35 = .ok (.iinc 4 (-1), 3) := by decide +kernel
theorem dX9_laysRow_38 : decode cX9_laysRow 38 = .ok (.goto (-31), 3) := by decide +kernel
theorem dX9_laysRow_41 : decode cX9_laysRow 41 = .ok (.aload_n 0, 1) := by decide +kernel
theorem dX9_laysRow_42 : decode cX9_laysRow 42 = .ok (.iload_n 2, 1) := by decide +kernel
theorem dX9_laysRow_43 : decode cX9_laysRow 43 = .ok (.putfield 79, 3) := by decide +kernel
theorem dX9_laysRow_46 : decode cX9_laysRow 46 = .ok (.aload_n 0, 1) := by decide +kernel
theorem dX9_laysRow_47 : decode cX9_laysRow 47 = .ok (.dup, 1) := by decide +kernel
theorem dX9_laysRow_48 : decode cX9_laysRow 48 = .ok (.getfield 76, 3) := by decide +kernel
theorem dX9_laysRow_51 : decode cX9_laysRow 51 = .ok (.iconst 1, 1) := by decide +kernel
theorem dX9_laysRow_52 : decode cX9_laysRow 52 = .ok (.iadd, 1) := by decide +kernel
theorem dX9_laysRow_53 : decode cX9_laysRow 53 = .ok (.putfield 76, 3) := by decide +kernel
theorem dX9_laysRow_56 : decode cX9_laysRow 56 = .ok (.return_, 1) := by decide +kernel
theorem dX9_laysTraveller_0 : decode cX9_laysTraveller 0 = .ok (.aload_n 0, 1) := by decide +kernel
theorem dX9_laysTraveller_1 : decode cX9_laysTraveller 1 = .ok (.getfield 43, 3) := by decide +kernel
theorem dX9_laysTraveller_4 : decode cX9_laysTraveller 4 = .ok (.aload_n 0, 1) := by decide +kernel
theorem dX9_laysTraveller_5 : decode cX9_laysTraveller 5 = .ok (.getfield 82, 3) := by decide +kernel
theorem dX9_laysTraveller_8 : decode cX9_laysTraveller 8 = .ok (.iload_n 1, 1) := by decide +kernel
theorem dX9_laysTraveller_9 : decode cX9_laysTraveller 9 = .ok (.iastore, 1) := by decide +kernel
theorem dX9_laysTraveller_10 : decode cX9_laysTraveller 10 = .ok (.aload_n 0, 1) := by decide +kernel
theorem dX9_laysTraveller_11 : decode cX9_laysTraveller 11 = .ok (.getfield 46, 3) := by decide +kernel
theorem dX9_laysTraveller_14 : decode cX9_laysTraveller 14 = .ok (.aload_n 0, 1) := by decide +kernel
theorem dX9_laysTraveller_15 : decode cX9_laysTraveller 15 = .ok (.getfield 82, 3) := by decide +kernel
theorem dX9_laysTraveller_18 : decode cX9_laysTraveller 18 = .ok (.iload_n 2, 1) := by decide +kernel
theorem dX9_laysTraveller_19 : decode cX9_laysTraveller 19 = .ok (.iastore, 1) := by decide +kernel
theorem dX9_laysTraveller_20 : decode cX9_laysTraveller 20 = .ok (.aload_n 0, 1) := by decide +kernel
theorem dX9_laysTraveller_21 : decode cX9_laysTraveller 21 = .ok (.getfield 49, 3) := by decide +kernel
theorem dX9_laysTraveller_24 : decode cX9_laysTraveller 24 = .ok (.aload_n 0, 1) := by decide +kernel
theorem dX9_laysTraveller_25 : decode cX9_laysTraveller 25 = .ok (.getfield 82, 3) := by decide +kernel
theorem dX9_laysTraveller_28 : decode cX9_laysTraveller 28 = .ok (.iload_n 3, 1) := by decide +kernel
theorem dX9_laysTraveller_29 : decode cX9_laysTraveller 29 = .ok (.iastore, 1) := by decide +kernel
theorem dX9_laysTraveller_30 : decode cX9_laysTraveller 30 = .ok (.aload_n 0, 1) := by decide +kernel
theorem dX9_laysTraveller_31 : decode cX9_laysTraveller 31 = .ok (.dup, 1) := by decide +kernel
theorem dX9_laysTraveller_32 : decode cX9_laysTraveller 32 = .ok (.getfield 82, 3) := by decide +kernel
theorem dX9_laysTraveller_35 : decode cX9_laysTraveller 35 = .ok (.iconst 1, 1) := by decide +kernel
theorem dX9_laysTraveller_36 : decode cX9_laysTraveller 36 = .ok (.iadd, 1) := by decide +kernel
theorem dX9_laysTraveller_37 : decode cX9_laysTraveller 37 = .ok (.putfield 82, 3) := by decide +kernel
theorem dX9_laysTraveller_40 : decode cX9_laysTraveller 40 = .ok (.return_, 1) := by decide +kernel
theorem dX9_begins_0 : decode cX9_begins 0 = .ok (.aload_n 0, 1) := by decide +kernel
theorem dX9_begins_1 : decode cX9_begins 1 = .ok (.aload_n 0, 1) := by decide +kernel
theorem dX9_begins_2 : decode cX9_begins 2 = .ok (.getfield 76, 3) := by decide +kernel
theorem dX9_begins_5 : decode cX9_begins 5 = .ok (.putfield 85, 3) := by decide +kernel
theorem dX9_begins_8 : decode cX9_begins 8 = .ok (.aload_n 0, 1) := by decide +kernel
theorem dX9_begins_9 : decode cX9_begins 9 = .ok (.aload_n 0, 1) := by decide +kernel
theorem dX9_begins_10 : decode cX9_begins 10 = .ok (.getfield 79, 3) := by decide +kernel
theorem dX9_begins_13 : decode cX9_begins 13 = .ok (.putfield 88, 3) := by decide +kernel
theorem dX9_begins_16 : decode cX9_begins 16 = .ok (.aload_n 0, 1) := by decide +kernel
theorem dX9_begins_17 : decode cX9_begins 17 = .ok (.aload_n 0, 1) := by decide +kernel
theorem dX9_begins_18 : decode cX9_begins 18 = .ok (.getfield 62, 3) := by decide +kernel
theorem dX9_begins_21 : decode cX9_begins 21 = .ok (.putfield 91, 3) := by decide +kernel
theorem dX9_begins_24 : decode cX9_begins 24 = .ok (.aload_n 0, 1) := by decide +kernel
theorem dX9_begins_25 : decode cX9_begins 25 = .ok (.aload_n 0, 1) := by decide +kernel
theorem dX9_begins_26 : decode cX9_begins 26 = .ok (.getfield 82, 3) := by decide +kernel
theorem dX9_begins_29 : decode cX9_begins 29 = .ok (.putfield 94, 3) := by decide +kernel
theorem dX9_begins_32 : decode cX9_begins 32 = .ok (.aload_n 0, 1) := by decide +kernel
theorem dX9_begins_33 : decode cX9_begins 33 = .ok (.getfield 34, 3) := by decide +kernel
theorem dX9_begins_36 : decode cX9_begins 36 = .ok (.iconst 0, 1) := by decide +kernel
theorem dX9_begins_37 : decode cX9_begins 37 = .ok (.aload_n 0, 1) := by decide +kernel
theorem dX9_begins_38 : decode cX9_begins 38 = .ok (.getfield 7, 3) := by decide +kernel
theorem dX9_begins_41 : decode cX9_begins 41 = .ok (.iconst 0, 1) := by decide +kernel
theorem dX9_begins_42 : decode cX9_begins 42 = .ok (.bipush 36, 2) := by decide +kernel
theorem dX9_begins_44 : decode cX9_begins 44 = .ok (.invokestatic 97, 3) := by decide +kernel
theorem dX9_begins_47 : decode cX9_begins 47 = .ok (.aload_n 0, 1) := by decide +kernel
theorem dX9_begins_48 : decode cX9_begins 48 = .ok (.getfield 37, 3) := by decide +kernel
theorem dX9_begins_51 : decode cX9_begins 51 = .ok (.iconst 0, 1) := by decide +kernel
theorem dX9_begins_52 : decode cX9_begins 52 = .ok (.aload_n 0, 1) := by decide +kernel
theorem dX9_begins_53 : decode cX9_begins 53 = .ok (.getfield 13, 3) := by decide +kernel
theorem dX9_begins_56 : decode cX9_begins 56 = .ok (.iconst 0, 1) := by decide +kernel
theorem dX9_begins_57 : decode cX9_begins 57 = .ok (.iconst 4, 1) := by decide +kernel
theorem dX9_begins_58 : decode cX9_begins 58 = .ok (.invokestatic 97, 3) := by decide +kernel
theorem dX9_begins_61 : decode cX9_begins 61 = .ok (.iconst 0, 1) := by decide +kernel
theorem dX9_begins_62 : decode cX9_begins 62 = .ok (.istore_n 1, 1) := by decide +kernel
theorem dX9_begins_63 : decode cX9_begins 63 = .ok (.iload_n 1, 1) := by decide +kernel
theorem dX9_begins_64 : decode cX9_begins 64 = .ok (.sipush 170, 3) := by decide +kernel
theorem dX9_begins_67 : decode cX9_begins 67 = .ok (.if_icmp .ge 16, 3) := by decide +kernel
theorem dX9_begins_70 : decode cX9_begins 70 = .ok (.aload_n 0, 1) := by decide +kernel
theorem dX9_begins_71 : decode cX9_begins 71 = .ok (.getfield 16, 3) := by decide +kernel
theorem dX9_begins_74 : decode cX9_begins 74 = .ok (.iload_n 1, 1) := by decide +kernel
theorem dX9_begins_75 : decode cX9_begins 75 = .ok (.iconst 0, 1) := by decide +kernel
theorem dX9_begins_76 : decode cX9_begins 76 = .ok (.iastore, 1) := by decide +kernel
theorem dX9_begins_77 : decode cX9_begins 77 = .ok (.iinc 1 1, 3) := by decide +kernel
theorem dX9_begins_80 : decode cX9_begins 80 = .ok (.goto (-17), 3) := by decide +kernel
theorem dX9_begins_83 : decode cX9_begins 83 = .ok (.aload_n 0, 1) := by decide +kernel
theorem dX9_begins_84 : decode cX9_begins 84 = .ok (.getfield 16, 3) := by decide +kernel
theorem dX9_begins_87 : decode cX9_begins 87 = .ok (.iconst 0, 1) := by decide +kernel
theorem dX9_begins_88 : decode cX9_begins 88 = .ok (.aload_n 0, 1) := by decide +kernel
theorem dX9_begins_89 : decode cX9_begins 89 = .ok (.getfield 70, 3) := by decide +kernel
theorem dX9_begins_92 : decode cX9_begins 92 = .ok (.iastore, 1) := by decide +kernel
theorem dX9_begins_93 : decode cX9_begins 93 = .ok (.iconst 0, 1) := by decide +kernel
theorem dX9_begins_94 : decode cX9_begins 94 = .ok (.istore_n 1, 1) := by decide +kernel
theorem dX9_begins_95 : decode cX9_begins 95 = .ok (.iload_n 1, 1) := by decide +kernel
theorem dX9_begins_96 : decode cX9_begins 96 = .ok (.aload_n 0, 1) := by decide +kernel
theorem dX9_begins_97 : decode cX9_begins 97 = .ok (.getfield 91, 3) := by decide +kernel
theorem dX9_begins_100 : decode cX9_begins 100 = .ok (.if_icmp .ge 71, 3) := by decide +kernel
theorem dX9_begins_103 : decode cX9_begins 103 = .ok (.iconst 0, 1) := by decide +kernel
theorem dX9_begins_104 : decode cX9_begins 104 = .ok (.istore_n 2, 1) := by decide +kernel
theorem dX9_begins_105 : decode cX9_begins 105 = .ok (.iload_n 2, 1) := by decide +kernel
theorem dX9_begins_106 : decode cX9_begins 106 = .ok (.aload_n 0, 1) := by decide +kernel
theorem dX9_begins_107 : decode cX9_begins 107 = .ok (.getfield 85, 3) := by decide +kernel
theorem dX9_begins_110 : decode cX9_begins 110 = .ok (.aload_n 0, 1) := by decide +kernel
theorem dX9_begins_111 : decode cX9_begins 111 = .ok (.getfield 88, 3) := by decide +kernel
theorem dX9_begins_114 : decode cX9_begins 114 = .ok (.imul, 1) := by decide +kernel
theorem dX9_begins_115 : decode cX9_begins 115 = .ok (.if_icmp .ge 50, 3) := by decide +kernel
theorem dX9_begins_118 : decode cX9_begins 118 = .ok (.aload_n 0, 1) := by decide +kernel
theorem dX9_begins_119 : decode cX9_begins 119 = .ok (.getfield 40, 3) := by decide +kernel
theorem dX9_begins_122 : decode cX9_begins 122 = .ok (.bipush 36, 2) := by decide +kernel
theorem dX9_begins_124 : decode cX9_begins 124 = .ok (.iload_n 1, 1) := by decide +kernel
theorem dX9_begins_125 : decode cX9_begins 125 = .ok (.imul, 1) := by decide +kernel
theorem dX9_begins_126 : decode cX9_begins 126 = .ok (.iload_n 2, 1) := by decide +kernel
theorem dX9_begins_127 : decode cX9_begins 127 = .ok (.iadd, 1) := by decide +kernel
theorem dX9_begins_128 : decode cX9_begins 128 = .ok (.iaload, 1) := by decide +kernel
theorem dX9_begins_129 : decode cX9_begins 129 = .ok (.istore_n 3, 1) := by decide +kernel
theorem dX9_begins_130 : decode cX9_begins 130 = .ok (.aload_n 0, 1) := by decide +kernel
theorem dX9_begins_131 : decode cX9_begins 131 = .ok (.getfield 16, 3) := by decide +kernel
theorem dX9_begins_134 : decode cX9_begins 134 = .ok (.iconst 2, 1) := by decide +kernel
theorem dX9_begins_135 : decode cX9_begins 135 = .ok (.bipush 36, 2) := by decide +kernel
theorem dX9_begins_137 : decode cX9_begins 137 = .ok (.iload_n 1, 1) := by decide +kernel
theorem dX9_begins_138 : decode cX9_begins 138 = .ok (.imul, 1) := by decide +kernel
theorem dX9_begins_139 : decode cX9_begins 139 = .ok (.iadd, 1) := by decide +kernel
theorem dX9_begins_140 : decode cX9_begins 140 = .ok (.iload_n 2, 1) := by decide +kernel
theorem dX9_begins_141 : decode cX9_begins 141 = .ok (.iadd, 1) := by decide +kernel
theorem dX9_begins_142 : decode cX9_begins 142 = .ok (.iload_n 3, 1) := by decide +kernel
theorem dX9_begins_143 : decode cX9_begins 143 = .ok (.bipush (-4), 2) := by decide +kernel
theorem dX9_begins_145 : decode cX9_begins 145 = .ok (.if_icmp .ne 12, 3) := by decide +kernel
theorem dX9_begins_148 : decode cX9_begins 148 = .ok (.aload_n 0, 1) := by decide +kernel
theorem dX9_begins_149 : decode cX9_begins 149 = .ok (.getfield 7, 3) := by decide +kernel
theorem dX9_begins_152 : decode cX9_begins 152 = .ok (.iload_n 2, 1) := by decide +kernel
theorem dX9_begins_153 : decode cX9_begins 153 = .ok (.iaload, 1) := by decide +kernel
theorem dX9_begins_154 : decode cX9_begins 154 = .ok (.goto 4, 3) := by decide +kernel
theorem dX9_begins_157 : decode cX9_begins 157 = .ok (.iload_n 3, 1) := by decide +kernel
theorem dX9_begins_158 : decode cX9_begins 158 = .ok (.iastore, 1) := by decide +kernel
theorem dX9_begins_159 : decode cX9_begins 159 = .ok (.iinc 2 1, 3) := by decide +kernel
theorem dX9_begins_162 : decode cX9_begins 162 = .ok (.goto (-57), 3) := by decide +kernel
theorem dX9_begins_165 : decode cX9_begins 165 = .ok (.iinc 1 1, 3) := by decide +kernel
theorem dX9_begins_168 : decode cX9_begins 168 = .ok (.goto (-73), 3) := by decide +kernel
theorem dX9_begins_171 : decode cX9_begins 171 = .ok (.iconst 0, 1) := by decide +kernel
theorem dX9_begins_172 : decode cX9_begins 172 = .ok (.istore_n 1, 1) := by decide +kernel
theorem dX9_begins_173 : decode cX9_begins 173 = .ok (.iload_n 1, 1) := by decide +kernel
theorem dX9_begins_174 : decode cX9_begins 174 = .ok (.aload_n 0, 1) := by decide +kernel
theorem dX9_begins_175 : decode cX9_begins 175 = .ok (.getfield 94, 3) := by decide +kernel
theorem dX9_begins_178 : decode cX9_begins 178 = .ok (.if_icmp .ge 99, 3) := by decide +kernel
theorem dX9_begins_181 : decode cX9_begins 181 = .ok (.aload_n 0, 1) := by decide +kernel
theorem dX9_begins_182 : decode cX9_begins 182 = .ok (.getfield 16, 3) := by decide +kernel
theorem dX9_begins_185 : decode cX9_begins 185 = .ok (.sipush 146, 3) := by decide +kernel
theorem dX9_begins_188 : decode cX9_begins 188 = .ok (.iload_n 1, 1) := by decide +kernel
theorem dX9_begins_189 : decode cX9_begins 189 = .ok (.iadd, 1) := by decide +kernel
theorem dX9_begins_190 : decode cX9_begins 190 = .ok (.aload_n 0, 1) := by decide +kernel
theorem dX9_begins_191 : decode cX9_begins 191 = .ok (.getfield 43, 3) := by decide +kernel
theorem dX9_begins_194 : decode cX9_begins 194 = .ok (.iload_n 1, 1) := by decide +kernel
theorem dX9_begins_195 : decode cX9_begins 195 = .ok (.iaload, 1) := by decide +kernel
theorem dX9_begins_196 : decode cX9_begins 196 = .ok (.iastore, 1) := by decide +kernel
theorem dX9_begins_197 : decode cX9_begins 197 = .ok (.aload_n 0, 1) := by decide +kernel
theorem dX9_begins_198 : decode cX9_begins 198 = .ok (.getfield 16, 3) := by decide +kernel
theorem dX9_begins_201 : decode cX9_begins 201 = .ok (.sipush 150, 3) := by decide +kernel
theorem dX9_begins_204 : decode cX9_begins 204 = .ok (.iload_n 1, 1) := by decide +kernel
theorem dX9_begins_205 : decode cX9_begins 205 = .ok (.iadd, 1) := by decide +kernel
theorem dX9_begins_206 : decode cX9_begins 206 = .ok (.aload_n 0, 1) := by decide +kernel
theorem dX9_begins_207 : decode cX9_begins 207 = .ok (.getfield 46, 3) := by decide +kernel
theorem dX9_begins_210 : decode cX9_begins 210 = .ok (.iload_n 1, 1) := by decide +kernel
theorem dX9_begins_211 : decode cX9_begins 211 = .ok (.iaload, 1) := by decide +kernel
theorem dX9_begins_212 : decode cX9_begins 212 = .ok (.iastore, 1) := by decide +kernel
theorem dX9_begins_213 : decode cX9_begins 213 = .ok (.aload_n 0, 1) := by decide +kernel
theorem dX9_begins_214 : decode cX9_begins 214 = .ok (.getfield 16, 3) := by decide +kernel
theorem dX9_begins_217 : decode cX9_begins 217 = .ok (.sipush 154, 3) := by decide +kernel
theorem dX9_begins_220 : decode cX9_begins 220 = .ok (.iload_n 1, 1) := by decide +kernel
theorem dX9_begins_221 : decode cX9_begins 221 = .ok (.iadd, 1) := by decide +kernel
theorem dX9_begins_222 : decode cX9_begins 222 = .ok (.aload_n 0, 1) := by decide +kernel
theorem dX9_begins_223 : decode cX9_begins 223 = .ok (.getfield 49, 3) := by decide +kernel
theorem dX9_begins_226 : decode cX9_begins 226 = .ok (.iload_n 1, 1) := by decide +kernel
theorem dX9_begins_227 : decode cX9_begins 227 = .ok (.iaload, 1) := by decide +kernel
theorem dX9_begins_228 : decode cX9_begins 228 = .ok (.iastore, 1) := by decide +kernel
theorem dX9_begins_229 : decode cX9_begins 229 = .ok (.aload_n 0, 1) := by decide +kernel
theorem dX9_begins_230 : decode cX9_begins 230 = .ok (.getfield 16, 3) := by decide +kernel
theorem dX9_begins_233 : decode cX9_begins 233 = .ok (.sipush 158, 3) := by decide +kernel
theorem dX9_begins_236 : decode cX9_begins 236 = .ok (.iload_n 1, 1) := by decide +kernel
theorem dX9_begins_237 : decode cX9_begins 237 = .ok (.iadd, 1) := by decide +kernel
theorem dX9_begins_238 : decode cX9_begins 238 = .ok (.aload_n 0, 1) := by decide +kernel
theorem dX9_begins_239 : decode cX9_begins 239 = .ok (.getfield 43, 3) := by decide +kernel
theorem dX9_begins_242 : decode cX9_begins 242 = .ok (.iload_n 1, 1) := by decide +kernel
theorem dX9_begins_243 : decode cX9_begins 243 = .ok (.iaload, 1) := by decide +kernel
theorem dX9_begins_244 : decode cX9_begins 244 = .ok (.aload_n 0, 1) := by decide +kernel
theorem dX9_begins_245 : decode cX9_begins 245 = .ok (.getfield 46, 3) := by decide +kernel
theorem dX9_begins_248 : decode cX9_begins 248 = .ok (.iload_n 1, 1) := by decide +kernel
theorem dX9_begins_249 : decode cX9_begins 249 = .ok (.iaload, 1) := by decide +kernel
theorem dX9_begins_250 : decode cX9_begins 250 = .ok (.if_icmp .ne 7, 3) := by decide +kernel
theorem dX9_begins_253 : decode cX9_begins 253 = .ok (.iconst 1, 1) := by decide +kernel
theorem dX9_begins_254 : decode cX9_begins 254 = .ok (.goto 4, 3) := by decide +kernel
theorem dX9_begins_257 : decode cX9_begins 257 = .ok (.iconst 0, 1) := by decide +kernel
theorem dX9_begins_258 : decode cX9_begins 258 = .ok (.iastore, 1) := by decide +kernel
theorem dX9_begins_259 : decode cX9_begins 259 = .ok (.aload_n 0, 1) := by decide +kernel
theorem dX9_begins_260 : decode cX9_begins 260 = .ok (.getfield 16, 3) := by decide +kernel
theorem dX9_begins_263 : decode cX9_begins 263 = .ok (.sipush 162, 3) := by decide +kernel
theorem dX9_begins_266 : decode cX9_begins 266 = .ok (.iload_n 1, 1) := by decide +kernel
theorem dX9_begins_267 : decode cX9_begins 267 = .ok (.iadd, 1) := by decide +kernel
theorem dX9_begins_268 : decode cX9_begins 268 = .ok (.bipush (-4), 2) := by decide +kernel
theorem dX9_begins_270 : decode cX9_begins 270 = .ok (.iastore, 1) := by decide +kernel
theorem dX9_begins_271 : decode cX9_begins 271 = .ok (.iinc 1 1, 3) := by decide +kernel
theorem dX9_begins_274 : decode cX9_begins 274 = .ok (.goto (-101), 3) := by decide +kernel
theorem dX9_begins_277 : decode cX9_begins 277 = .ok (.aload_n 0, 1) := by decide +kernel
theorem dX9_begins_278 : decode cX9_begins 278 = .ok (.iconst 0, 1) := by decide +kernel
theorem dX9_begins_279 : decode cX9_begins 279 = .ok (.putfield 101, 3) := by decide +kernel
theorem dX9_begins_282 : decode cX9_begins 282 = .ok (.aload_n 0, 1) := by decide +kernel
theorem dX9_begins_283 : decode cX9_begins 283 = .ok (.iconst 0, 1) := by decide +kernel
theorem dX9_begins_284 : decode cX9_begins 284 = .ok (.putfield 104, 3) := by decide +kernel
theorem dX9_begins_287 : decode cX9_begins 287 = .ok (.aload_n 0, 1) := by decide +kernel
theorem dX9_begins_288 : decode cX9_begins 288 = .ok (.iconst 0, 1) := by decide +kernel
theorem dX9_begins_289 : decode cX9_begins 289 = .ok (.putfield 107, 3) := by decide +kernel
theorem dX9_begins_292 : decode cX9_begins 292 = .ok (.return_, 1) := by decide +kernel
theorem dX9_write_0 : decode cX9_write 0 = .ok (.iload_n 1, 1) := by decide +kernel
theorem dX9_write_1 : decode cX9_write 1 = .ok (.i2l, 1) := by decide +kernel
theorem dX9_write_2 : decode cX9_write 2 = .ok (.ldc2_w 110, 3) := by decide +kernel
theorem dX9_write_5 : decode cX9_write 5 = .ok (.ldc2_w 112, 3) := by decide +kernel
theorem dX9_write_8 : decode cX9_write 8 = .ok (.invokestatic 114, 3) := by decide +kernel
theorem dX9_write_11 : decode cX9_write 11 = .ok (.ifCond .ne 5, 3) := by decide +kernel
theorem dX9_write_14 : decode cX9_write 14 = .ok (.iconst (-1), 1) := by decide +kernel
theorem dX9_write_15 : decode cX9_write 15 = .ok (.ireturn, 1) := by decide +kernel
theorem dX9_write_16 : decode cX9_write 16 = .ok (.aload_n 0, 1) := by decide +kernel
theorem dX9_write_17 : decode cX9_write 17 = .ok (.getfield 118, 3) := by decide +kernel
theorem dX9_write_20 : decode cX9_write 20 = .ok (.sipush 200, 3) := by decide +kernel
theorem dX9_write_23 : decode cX9_write 23 = .ok (.if_icmp .ne 6, 3) := by decide +kernel
theorem dX9_write_26 : decode cX9_write 26 = .ok (.bipush (-3), 2) := by decide +kernel
theorem dX9_write_28 : decode cX9_write 28 = .ok (.ireturn, 1) := by decide +kernel
theorem dX9_write_29 : decode cX9_write 29 = .ok (.aload_n 0, 1) := by decide +kernel
theorem dX9_write_30 : decode cX9_write 30 = .ok (.getfield 31, 3) := by decide +kernel
theorem dX9_write_33 : decode cX9_write 33 = .ok (.aload_n 0, 1) := by decide +kernel
theorem dX9_write_34 : decode cX9_write 34 = .ok (.getfield 118, 3) := by decide +kernel
theorem dX9_write_37 : decode cX9_write 37 = .ok (.iload_n 1, 1) := by decide +kernel
theorem dX9_write_38 : decode cX9_write 38 = .ok (.iastore, 1) := by decide +kernel
theorem dX9_write_39 : decode cX9_write 39 = .ok (.aload_n 0, 1) := by decide +kernel
theorem dX9_write_40 : decode cX9_write 40 = .ok (.dup, 1) := by decide +kernel
theorem dX9_write_41 : decode cX9_write 41 = .ok (.getfield 118, 3) := by decide +kernel
theorem dX9_write_44 : decode cX9_write 44 = .ok (.iconst 1, 1) := by decide +kernel
theorem dX9_write_45 : decode cX9_write 45 = .ok (.iadd, 1) := by decide +kernel
theorem dX9_write_46 : decode cX9_write 46 = .ok (.putfield 118, 3) := by decide +kernel
theorem dX9_write_49 : decode cX9_write 49 = .ok (.aload_n 0, 1) := by decide +kernel
theorem dX9_write_50 : decode cX9_write 50 = .ok (.getfield 118, 3) := by decide +kernel
theorem dX9_write_53 : decode cX9_write 53 = .ok (.ireturn, 1) := by decide +kernel
theorem dX9_wipe_0 : decode cX9_wipe 0 = .ok (.aload_n 0, 1) := by decide +kernel
theorem dX9_wipe_1 : decode cX9_wipe 1 = .ok (.getfield 118, 3) := by decide +kernel
theorem dX9_wipe_4 : decode cX9_wipe 4 = .ok (.istore_n 1, 1) := by decide +kernel
theorem dX9_wipe_5 : decode cX9_wipe 5 = .ok (.aload_n 0, 1) := by decide +kernel
theorem dX9_wipe_6 : decode cX9_wipe 6 = .ok (.iconst 0, 1) := by decide +kernel
theorem dX9_wipe_7 : decode cX9_wipe 7 = .ok (.putfield 118, 3) := by decide +kernel
theorem dX9_wipe_10 : decode cX9_wipe 10 = .ok (.iload_n 1, 1) := by decide +kernel
theorem dX9_wipe_11 : decode cX9_wipe 11 = .ok (.ireturn, 1) := by decide +kernel
theorem dX9_here_0 : decode cX9_here 0 = .ok (.aload_n 0, 1) := by decide +kernel
theorem dX9_here_1 : decode cX9_here 1 = .ok (.getfield 121, 3) := by decide +kernel
theorem dX9_here_4 : decode cX9_here 4 = .ok (.aload_n 0, 1) := by decide +kernel
theorem dX9_here_5 : decode cX9_here 5 = .ok (.getfield 118, 3) := by decide +kernel
theorem dX9_here_8 : decode cX9_here 8 = .ok (.if_icmp .ge 15, 3) := by decide +kernel
theorem dX9_here_11 : decode cX9_here 11 = .ok (.aload_n 0, 1) := by decide +kernel
theorem dX9_here_12 : decode cX9_here 12 = .ok (.getfield 31, 3) := by decide +kernel
theorem dX9_here_15 : decode cX9_here 15 = .ok (.aload_n 0, 1) := by decide +kernel
theorem dX9_here_16 : decode cX9_here 16 = .ok (.getfield 121, 3) := by decide +kernel
theorem dX9_here_19 : decode cX9_here 19 = .ok (.iaload, 1) := by decide +kernel
theorem dX9_here_20 : decode cX9_here 20 = .ok (.goto 4, 3) := by decide +kernel
theorem dX9_here_23 : decode cX9_here 23 = .ok (.iconst (-1), 1) := by decide +kernel
theorem dX9_here_24 : decode cX9_here 24 = .ok (.ireturn, 1) := by decide +kernel
theorem dX9_takes_0 : decode cX9_takes 0 = .ok (.aload_n 0, 1) := by decide +kernel
theorem dX9_takes_1 : decode cX9_takes 1 = .ok (.invokevirtual 124, 3) := by decide +kernel
theorem dX9_takes_4 : decode cX9_takes 4 = .ok (.iload_n 1, 1) := by decide +kernel
theorem dX9_takes_5 : decode cX9_takes 5 = .ok (.if_icmp .ne 7, 3) := by decide +kernel
theorem dX9_takes_8 : decode cX9_takes 8 = .ok (.iconst 1, 1) := by decide +kernel
theorem dX9_takes_9 : decode cX9_takes 9 = .ok (.goto 4, 3) := by decide +kernel
theorem dX9_takes_12 : decode cX9_takes 12 = .ok (.iconst 0, 1) := by decide +kernel
theorem dX9_takes_13 : decode cX9_takes 13 = .ok (.istore_n 2, 1) := by decide +kernel
theorem dX9_takes_14 : decode cX9_takes 14 = .ok (.aload_n 0, 1) := by decide +kernel
theorem dX9_takes_15 : decode cX9_takes 15 = .ok (.dup, 1) := by decide +kernel
theorem dX9_takes_16 : decode cX9_takes 16 = .ok (.getfield 121, 3) := by decide +kernel
theorem dX9_takes_19 : decode cX9_takes 19 = .ok (.iload_n 2, 1) := by decide +kernel
theorem dX9_takes_20 : decode cX9_takes 20 = .ok (.ifCond .eq 7, 3) := by decide +kernel
theorem dX9_takes_23 : decode cX9_takes 23 = .ok (.iconst 1, 1) := by decide +kernel
theorem dX9_takes_24 : decode cX9_takes 24 = .ok (.goto 4, 3) := by decide +kernel
theorem dX9_takes_27 : decode cX9_takes 27 = .ok (.iconst 0, 1) := by decide +kernel
theorem dX9_takes_28 : decode cX9_takes 28 = .ok (.iadd, 1) := by decide +kernel
theorem dX9_takes_29 : decode cX9_takes 29 = .ok (.putfield 121, 3) := by decide +kernel
theorem dX9_takes_32 : decode cX9_takes 32 = .ok (.iload_n 2, 1) := by decide +kernel
theorem dX9_takes_33 : decode cX9_takes 33 = .ok (.ireturn, 1) := by decide +kernel
theorem dX9_isFigure_0 : decode cX9_isFigure 0 = .ok (.iload_n 0, 1) := by decide +kernel
theorem dX9_isFigure_1 : decode cX9_isFigure 1 = .ok (.i2l, 1) := by decide +kernel
theorem dX9_isFigure_2 : decode cX9_isFigure 2 = .ok (.ldc2_w 128, 3) := by decide +kernel
theorem dX9_isFigure_5 : decode cX9_isFigure 5 = .ok (.ldc2_w 130, 3) := by decide +kernel
theorem dX9_isFigure_8 : decode cX9_isFigure 8 = .ok (.invokestatic 114, 3) := by decide +kernel
theorem dX9_isFigure_11 : decode cX9_isFigure 11 = .ok (.ireturn, 1) := by decide +kernel
theorem dX9_number_0 : decode cX9_number 0 = .ok (.aload_n 0, 1) := by decide +kernel
theorem dX9_number_1 : decode cX9_number 1 = .ok (.invokevirtual 124, 3) := by decide +kernel
theorem dX9_number_4 : decode cX9_number 4 = .ok (.invokestatic 132, 3) := by decide +kernel
theorem dX9_number_7 : decode cX9_number 7 = .ok (.ifCond .ne 5, 3) := by decide +kernel
theorem dX9_number_10 : decode cX9_number 10 = .ok (.iconst 0, 1) := by decide +kernel
theorem dX9_number_11 : decode cX9_number 11 = .ok (.ireturn, 1) := by decide +kernel
theorem dX9_number_12 : decode cX9_number 12 = .ok (.aload_n 0, 1) := by decide +kernel
theorem dX9_number_13 : decode cX9_number 13 = .ok (.aload_n 0, 1) := by decide +kernel
theorem dX9_number_14 : decode cX9_number 14 = .ok (.invokevirtual 124, 3) := by decide +kernel
theorem dX9_number_17 : decode cX9_number 17 = .ok (.bipush 48, 2) := by decide +kernel
theorem dX9_number_19 : decode cX9_number 19 = .ok (.isub, 1) := by decide +kernel
theorem dX9_number_20 : decode cX9_number 20 = .ok (.putfield 136, 3) := by decide +kernel
theorem dX9_number_23 : decode cX9_number 23 = .ok (.aload_n 0, 1) := by decide +kernel
theorem dX9_number_24 : decode cX9_number 24 = .ok (.dup, 1) := by decide +kernel
theorem dX9_number_25 : decode cX9_number 25 = .ok (.getfield 121, 3) := by decide +kernel
theorem dX9_number_28 : decode cX9_number 28 = .ok (.iconst 1, 1) := by decide +kernel
theorem dX9_number_29 : decode cX9_number 29 = .ok (.iadd, 1) := by decide +kernel
theorem dX9_number_30 : decode cX9_number 30 = .ok (.putfield 121, 3) := by decide +kernel
theorem dX9_number_33 : decode cX9_number 33 = .ok (.aload_n 0, 1) := by decide +kernel
theorem dX9_number_34 : decode cX9_number 34 = .ok (.invokevirtual 124, 3) := by decide +kernel
theorem dX9_number_37 : decode cX9_number 37 = .ok (.invokestatic 132, 3) := by decide +kernel
theorem dX9_number_40 : decode cX9_number 40 = .ok (.ifCond .eq 32, 3) := by decide +kernel
theorem dX9_number_43 : decode cX9_number 43 = .ok (.aload_n 0, 1) := by decide +kernel
theorem dX9_number_44 : decode cX9_number 44 = .ok (.bipush 10, 2) := by decide +kernel
theorem dX9_number_46 : decode cX9_number 46 = .ok (.aload_n 0, 1) := by decide +kernel
theorem dX9_number_47 : decode cX9_number 47 = .ok (.getfield 136, 3) := by decide +kernel
theorem dX9_number_50 : decode cX9_number 50 = .ok (.imul, 1) := by decide +kernel
theorem dX9_number_51 : decode cX9_number 51 = .ok (.aload_n 0, 1) := by decide +kernel
theorem dX9_number_52 : decode cX9_number 52 = .ok (.invokevirtual 124, 3) := by decide +kernel
theorem dX9_number_55 : decode cX9_number 55 = .ok (.iadd, 1) := by decide +kernel
theorem dX9_number_56 : decode cX9_number 56 = .ok (.bipush 48, 2) := by decide +kernel
theorem dX9_number_58 : decode cX9_number 58 = .ok (.isub, 1) := by decide +kernel
theorem dX9_number_59 : decode cX9_number 59 = .ok (.putfield 136, 3) := by decide +kernel
theorem dX9_number_62 : decode cX9_number 62 = .ok (.aload_n 0, 1) := by decide +kernel
theorem dX9_number_63 : decode cX9_number 63 = .ok (.dup, 1) := by decide +kernel
theorem dX9_number_64 : decode cX9_number 64 = .ok (.getfield 121, 3) := by decide +kernel
theorem dX9_number_67 : decode cX9_number 67 = .ok (.iconst 1, 1) := by decide +kernel
theorem dX9_number_68 : decode cX9_number 68 = .ok (.iadd, 1) := by decide +kernel
theorem dX9_number_69 : decode cX9_number 69 = .ok (.putfield 121, 3) := by decide +kernel
theorem dX9_number_72 : decode cX9_number 72 = .ok (.aload_n 0, 1) := by decide +kernel
theorem dX9_number_73 : decode cX9_number 73 = .ok (.getfield 136, 3) := by decide +kernel
theorem dX9_number_76 : decode cX9_number 76 = .ok (.i2l, 1) := by decide +kernel
theorem dX9_number_77 : decode cX9_number 77 = .ok (.iload_n 1, 1) := by decide +kernel
theorem dX9_number_78 : decode cX9_number 78 = .ok (.i2l, 1) := by decide +kernel
theorem dX9_number_79 : decode cX9_number 79 = .ok (.iload_n 2, 1) := by decide +kernel
theorem dX9_number_80 : decode cX9_number 80 = .ok (.i2l, 1) := by decide +kernel
theorem dX9_number_81 : decode cX9_number 81 = .ok (.invokestatic 114, 3) := by decide +kernel
theorem dX9_number_84 : decode cX9_number 84 = .ok (.ireturn, 1) := by decide +kernel
theorem dX9_readsRow_0 : decode cX9_readsRow 0 = .ok (.iconst 0, 1) := by decide +kernel
theorem dX9_readsRow_1 : decode cX9_readsRow 1 = .ok (.istore_n 1, 1) := by decide +kernel
theorem dX9_readsRow_2 : decode cX9_readsRow 2 = .ok (.iconst 0, 1) := by decide +kernel
theorem dX9_readsRow_3 : decode cX9_readsRow 3 = .ok (.istore_n 2, 1) := by decide +kernel
theorem dX9_readsRow_4 : decode cX9_readsRow 4 = .ok (.aload_n 0, 1) := by decide +kernel
theorem dX9_readsRow_5 : decode cX9_readsRow 5 = .ok (.invokevirtual 124, 3) := by decide +kernel
theorem dX9_readsRow_8 : decode cX9_readsRow 8 = .ok (.i2l, 1) := by decide +kernel
theorem dX9_readsRow_9 : decode cX9_readsRow 9 = .ok (.ldc2_w 128, 3) := by decide +kernel
theorem dX9_readsRow_12 : decode cX9_readsRow 12 = .ok (.ldc2_w 139, 3) := by decide +kernel
theorem dX9_readsRow_15 : decode cX9_readsRow 15 = .ok (.invokestatic 114, 3) := by decide +kernel
theorem dX9_readsRow_18 : decode cX9_readsRow 18 = .ok (.ifCond .eq 38, 3) := by decide +kernel
theorem dX9_readsRow_21 : decode cX9_readsRow 21 = .ok (.iload_n 2, 1) := by decide +kernel
theorem dX9_readsRow_22 : decode cX9_readsRow 22 = .ok (.bipush 7, 2) := by decide +kernel
theorem dX9_readsRow_24 : decode cX9_readsRow 24 = .ok (.if_icmp .ge 32, 3) := by decide +kernel
theorem dX9_readsRow_27 : decode cX9_readsRow 27 = .ok (.bipush 10, 2) := by decide +kernel
theorem dX9_readsRow_29 : decode cX9_readsRow 29 = .ok (.iload_n 1, 1) := by decide +kernel
theorem dX9_readsRow_30 : decode cX9_readsRow 30 = .ok (.imul, 1) := by decide +kernel
theorem dX9_readsRow_31 : decode cX9_readsRow 31 = .ok (.aload_n 0, 1) := by decide +kernel
theorem dX9_readsRow_32 : decode cX9_readsRow 32 = .ok (.invokevirtual 124, 3) := by decide +kernel
theorem dX9_readsRow_35 : decode cX9_readsRow 35 = .ok (.iadd, 1) := by decide +kernel
theorem dX9_readsRow_36 : decode cX9_readsRow 36 = .ok (.bipush 48, 2) := by decide +kernel
theorem dX9_readsRow_38 : decode cX9_readsRow 38 = .ok (.isub, 1) := by decide +kernel
theorem dX9_readsRow_39 : decode cX9_readsRow 39 = .ok (.istore_n 1, 1) := by decide +kernel
theorem dX9_readsRow_40 : decode cX9_readsRow 40 = .ok (.iinc 2 1, 3) := by decide +kernel
theorem dX9_readsRow_43 : decode cX9_readsRow 43 = .ok (.aload_n 0, 1) := by decide +kernel
theorem dX9_readsRow_44 : decode cX9_readsRow 44 = .ok (.dup, 1) := by decide +kernel
theorem dX9_readsRow_45 : decode cX9_readsRow 45 = .ok (.getfield 121, 3) := by decide +kernel
theorem dX9_readsRow_48 : decode cX9_readsRow 48 = .ok (.iconst 1, 1) := by decide +kernel
theorem dX9_readsRow_49 : decode cX9_readsRow 49 = .ok (.iadd, 1) := by decide +kernel
theorem dX9_readsRow_50 : decode cX9_readsRow 50 = .ok (.putfield 121, 3) := by decide +kernel
theorem dX9_readsRow_53 : decode cX9_readsRow 53 = .ok (.goto (-49), 3) := by decide +kernel
theorem dX9_readsRow_56 : decode cX9_readsRow 56 = .ok (.iload_n 2, 1) := by decide +kernel
theorem dX9_readsRow_57 : decode cX9_readsRow 57 = .ok (.i2l, 1) := by decide +kernel
theorem dX9_readsRow_58 : decode cX9_readsRow 58 = .ok (.lconst 1, 1) := by decide +kernel
theorem dX9_readsRow_59 : decode cX9_readsRow 59 = .ok (.ldc2_w 141, 3) := by decide +kernel
theorem dX9_readsRow_62 : decode cX9_readsRow 62 = .ok (.invokestatic 114, 3) := by decide +kernel
theorem dX9_readsRow_65 : decode cX9_readsRow 65 = .ok (.ifCond .eq 27, 3) := by decide +kernel
theorem dX9_readsRow_68 : decode cX9_readsRow 68 = .ok (.aload_n 0, 1) := by decide +kernel
theorem dX9_readsRow_69 : decode cX9_readsRow 69 = .ok (.getfield 76, 3) := by decide +kernel
theorem dX9_readsRow_72 : decode cX9_readsRow 72 = .ok (.bipush 6, 2) := by decide +kernel
theorem dX9_readsRow_74 : decode cX9_readsRow 74 = .ok (.if_icmp .eq 18, 3) := by decide +kernel
theorem dX9_readsRow_77 : decode cX9_readsRow 77 = .ok (.aload_n 0, 1) := by decide +kernel
theorem dX9_readsRow_78 : decode cX9_readsRow 78 = .ok (.getfield 76, 3) := by decide +kernel
theorem dX9_readsRow_81 : decode cX9_readsRow 81 = .ok (.ifCond .le 13, 3) := by decide +kernel
theorem dX9_readsRow_84 : decode cX9_readsRow 84 = .ok (.iload_n 2, 1) := by decide +kernel
theorem dX9_readsRow_85 : decode cX9_readsRow 85 = .ok (.aload_n 0, 1) := by decide +kernel
theorem dX9_readsRow_86 : decode cX9_readsRow 86 = .ok (.getfield 79, 3) := by decide +kernel
theorem dX9_readsRow_89 : decode cX9_readsRow 89 = .ok (.if_icmp .eq 5, 3) := by decide +kernel
theorem dX9_readsRow_92 : decode cX9_readsRow 92 = .ok (.iconst 0, 1) := by decide +kernel
theorem dX9_readsRow_93 : decode cX9_readsRow 93 = .ok (.ireturn, 1) := by decide +kernel
theorem dX9_readsRow_94 : decode cX9_readsRow 94 = .ok (.aload_n 0, 1) := by decide +kernel
theorem dX9_readsRow_95 : decode cX9_readsRow 95 = .ok (.iload_n 1, 1) := by decide +kernel
theorem dX9_readsRow_96 : decode cX9_readsRow 96 = .ok (.iload_n 2, 1) := by decide +kernel
theorem dX9_readsRow_97 : decode cX9_readsRow 97 = .ok (.invokevirtual 58, 3) := by decide +kernel
theorem dX9_readsRow_100 : decode cX9_readsRow 100 = .ok (.iconst 1, 1) := by decide +kernel
theorem dX9_readsRow_101 : decode cX9_readsRow 101 = .ok (.ireturn, 1) := by decide +kernel
theorem dX9_readsDrum_0 : decode cX9_readsDrum 0 = .ok (.aload_n 0, 1) := by decide +kernel
theorem dX9_readsDrum_1 : decode cX9_readsDrum 1 = .ok (.getfield 62, 3) := by decide +kernel
theorem dX9_readsDrum_4 : decode cX9_readsDrum 4 = .ok (.iconst 4, 1) := by decide +kernel
theorem dX9_readsDrum_5 : decode cX9_readsDrum 5 = .ok (.if_icmp .eq 12, 3) := by decide +kernel
theorem dX9_readsDrum_8 : decode cX9_readsDrum 8 = .ok (.aload_n 0, 1) := by decide +kernel
theorem dX9_readsDrum_9 : decode cX9_readsDrum 9 = .ok (.iconst 0, 1) := by decide +kernel
theorem dX9_readsDrum_10 : decode cX9_readsDrum 10 = .ok (.iconst 3, 1) := by decide +kernel
theorem dX9_readsDrum_11 : decode cX9_readsDrum 11 = .ok (.invokevirtual 143, 3) := by decide +kernel
theorem dX9_readsDrum_14 : decode cX9_readsDrum 14 = .ok (.ifCond .ne 5, 3) := by decide +kernel
theorem dX9_readsDrum_17 : decode cX9_readsDrum 17 = .ok (.iconst 0, 1) := by decide +kernel
theorem dX9_readsDrum_18 : decode cX9_readsDrum 18 = .ok (.ireturn, 1) := by decide +kernel
theorem dX9_readsDrum_19 : decode cX9_readsDrum 19 = .ok (.aload_n 0, 1) := by decide +kernel
theorem dX9_readsDrum_20 : decode cX9_readsDrum 20 = .ok (.getfield 37, 3) := by decide +kernel
theorem dX9_readsDrum_23 : decode cX9_readsDrum 23 = .ok (.aload_n 0, 1) := by decide +kernel
theorem dX9_readsDrum_24 : decode cX9_readsDrum 24 = .ok (.getfield 62, 3) := by decide +kernel
theorem dX9_readsDrum_27 : decode cX9_readsDrum 27 = .ok (.aload_n 0, 1) := by decide +kernel
theorem dX9_readsDrum_28 : decode cX9_readsDrum 28 = .ok (.getfield 136, 3) := by decide +kernel
theorem dX9_readsDrum_31 : decode cX9_readsDrum 31 = .ok (.iastore, 1) := by decide +kernel
theorem dX9_readsDrum_32 : decode cX9_readsDrum 32 = .ok (.aload_n 0, 1) := by decide +kernel
theorem dX9_readsDrum_33 : decode cX9_readsDrum 33 = .ok (.dup, 1) := by decide +kernel
theorem dX9_readsDrum_34 : decode cX9_readsDrum 34 = .ok (.getfield 62, 3) := by decide +kernel
theorem dX9_readsDrum_37 : decode cX9_readsDrum 37 = .ok (.iconst 1, 1) := by decide +kernel
theorem dX9_readsDrum_38 : decode cX9_readsDrum 38 = .ok (.iadd, 1) := by decide +kernel
theorem dX9_readsDrum_39 : decode cX9_readsDrum 39 = .ok (.putfield 62, 3) := by decide +kernel
theorem dX9_readsDrum_42 : decode cX9_readsDrum 42 = .ok (.iconst 1, 1) := by decide +kernel
theorem dX9_readsDrum_43 : decode cX9_readsDrum 43 = .ok (.ireturn, 1) := by decide +kernel
theorem dX9_readsOther_0 : decode cX9_readsOther 0 = .ok (.aload_n 0, 1) := by decide +kernel
theorem dX9_readsOther_1 : decode cX9_readsOther 1 = .ok (.iconst 0, 1) := by decide +kernel
theorem dX9_readsOther_2 : decode cX9_readsOther 2 = .ok (.aload_n 0, 1) := by decide +kernel
theorem dX9_readsOther_3 : decode cX9_readsOther 3 = .ok (.getfield 62, 3) := by decide +kernel
theorem dX9_readsOther_6 : decode cX9_readsOther 6 = .ok (.iconst 1, 1) := by decide +kernel
theorem dX9_readsOther_7 : decode cX9_readsOther 7 = .ok (.isub, 1) := by decide +kernel
theorem dX9_readsOther_8 : decode cX9_readsOther 8 = .ok (.invokevirtual 143, 3) := by decide +kernel
theorem dX9_readsOther_11 : decode cX9_readsOther 11 = .ok (.ifCond .eq 12, 3) := by decide +kernel
theorem dX9_readsOther_14 : decode cX9_readsOther 14 = .ok (.aload_n 0, 1) := by decide +kernel
theorem dX9_readsOther_15 : decode cX9_readsOther 15 = .ok (.bipush 44, 2) := by decide +kernel
theorem dX9_readsOther_17 : decode cX9_readsOther 17 = .ok (.invokevirtual 147, 3) := by decide +kernel
theorem dX9_readsOther_20 : decode cX9_readsOther 20 = .ok (.ifCond .ne 5, 3) := by decide +kernel
theorem dX9_readsOther_23 : decode cX9_readsOther 23 = .ok (.iconst 0, 1) := by decide +kernel
theorem dX9_readsOther_24 : decode cX9_readsOther 24 = .ok (.ireturn, 1) := by decide +kernel
theorem dX9_readsOther_25 : decode cX9_readsOther 25 = .ok (.aload_n 0, 1) := by decide +kernel
theorem dX9_readsOther_26 : decode cX9_readsOther 26 = .ok (.getfield 136, 3) := by decide +kernel
theorem dX9_readsOther_29 : decode cX9_readsOther 29 = .ok (.istore_n 1, 1) := by decide +kernel
theorem dX9_readsOther_30 : decode cX9_readsOther 30 = .ok (.aload_n 0, 1) := by decide +kernel
theorem dX9_readsOther_31 : decode cX9_readsOther 31 = .ok (.iconst 0, 1) := by decide +kernel
theorem dX9_readsOther_32 : decode cX9_readsOther 32 = .ok (.aload_n 0, 1) := by decide +kernel
theorem dX9_readsOther_33 : decode cX9_readsOther 33 = .ok (.getfield 76, 3) := by decide +kernel
theorem dX9_readsOther_36 : decode cX9_readsOther 36 = .ok (.aload_n 0, 1) := by decide +kernel
theorem dX9_readsOther_37 : decode cX9_readsOther 37 = .ok (.getfield 79, 3) := by decide +kernel
theorem dX9_readsOther_40 : decode cX9_readsOther 40 = .ok (.imul, 1) := by decide +kernel
theorem dX9_readsOther_41 : decode cX9_readsOther 41 = .ok (.iconst 1, 1) := by decide +kernel
theorem dX9_readsOther_42 : decode cX9_readsOther 42 = .ok (.isub, 1) := by decide +kernel
theorem dX9_readsOther_43 : decode cX9_readsOther 43 = .ok (.invokevirtual 143, 3) := by decide +kernel
theorem dX9_readsOther_46 : decode cX9_readsOther 46 = .ok (.ifCond .eq 12, 3) := by decide +kernel
theorem dX9_readsOther_49 : decode cX9_readsOther 49 = .ok (.aload_n 0, 1) := by decide +kernel
theorem dX9_readsOther_50 : decode cX9_readsOther 50 = .ok (.bipush 44, 2) := by decide +kernel
theorem dX9_readsOther_52 : decode cX9_readsOther 52 = .ok (.invokevirtual 147, 3) := by decide +kernel
theorem dX9_readsOther_55 : decode cX9_readsOther 55 = .ok (.ifCond .ne 5, 3) := by decide +kernel
theorem dX9_readsOther_58 : decode cX9_readsOther 58 = .ok (.iconst 0, 1) := by decide +kernel
theorem dX9_readsOther_59 : decode cX9_readsOther 59 = .ok (.ireturn, 1) := by decide +kernel
theorem dX9_readsOther_60 : decode cX9_readsOther 60 = .ok (.aload_n 0, 1) := by decide +kernel
theorem dX9_readsOther_61 : decode cX9_readsOther 61 = .ok (.getfield 136, 3) := by decide +kernel
theorem dX9_readsOther_64 : decode cX9_readsOther 64 = .ok (.istore_n 2, 1) := by decide +kernel
theorem dX9_readsOther_65 : decode cX9_readsOther 65 = .ok (.aload_n 0, 1) := by decide +kernel
theorem dX9_readsOther_66 : decode cX9_readsOther 66 = .ok (.iconst 0, 1) := by decide +kernel
theorem dX9_readsOther_67 : decode cX9_readsOther 67 = .ok (.iconst 3, 1) := by decide +kernel
theorem dX9_readsOther_68 : decode cX9_readsOther 68 = .ok (.invokevirtual 143, 3) := by decide +kernel
theorem dX9_readsOther_71 : decode cX9_readsOther 71 = .ok (.ifCond .ne 5, 3) := by decide +kernel
theorem dX9_readsOther_74 : decode cX9_readsOther 74 = .ok (.iconst 0, 1) := by decide +kernel
theorem dX9_readsOther_75 : decode cX9_readsOther 75 = .ok (.ireturn, 1) := by decide +kernel
theorem dX9_readsOther_76 : decode cX9_readsOther 76 = .ok (.aload_n 0, 1) := by decide +kernel
theorem dX9_readsOther_77 : decode cX9_readsOther 77 = .ok (.getfield 40, 3) := by decide +kernel
theorem dX9_readsOther_80 : decode cX9_readsOther 80 = .ok (.bipush 36, 2) := by decide +kernel
theorem dX9_readsOther_82 : decode cX9_readsOther 82 = .ok (.iload_n 1, 1) := by decide +kernel
theorem dX9_readsOther_83 : decode cX9_readsOther 83 = .ok (.imul, 1) := by decide +kernel
theorem dX9_readsOther_84 : decode cX9_readsOther 84 = .ok (.iload_n 2, 1) := by decide +kernel
theorem dX9_readsOther_85 : decode cX9_readsOther 85 = .ok (.iadd, 1) := by decide +kernel
theorem dX9_readsOther_86 : decode cX9_readsOther 86 = .ok (.aload_n 0, 1) := by decide +kernel
theorem dX9_readsOther_87 : decode cX9_readsOther 87 = .ok (.getfield 136, 3) := by decide +kernel
theorem dX9_readsOther_90 : decode cX9_readsOther 90 = .ok (.iastore, 1) := by decide +kernel
theorem dX9_readsOther_91 : decode cX9_readsOther 91 = .ok (.iconst 1, 1) := by decide +kernel
theorem dX9_readsOther_92 : decode cX9_readsOther 92 = .ok (.ireturn, 1) := by decide +kernel
theorem dX9_readsTraveller_0 : decode cX9_readsTraveller 0 = .ok (.aload_n 0, 1) := by decide +kernel
theorem dX9_readsTraveller_1 : decode cX9_readsTraveller 1 = .ok (.getfield 82, 3) := by decide +kernel
theorem dX9_readsTraveller_4 : decode cX9_readsTraveller 4 = .ok (.iconst 4, 1) := by decide +kernel
theorem dX9_readsTraveller_5 : decode cX9_readsTraveller 5 = .ok (.if_icmp .eq 31, 3) := by decide +kernel
theorem dX9_readsTraveller_8 : decode cX9_readsTraveller 8 = .ok (.aload_n 0, 1) := by decide +kernel
theorem dX9_readsTraveller_9 : decode cX9_readsTraveller 9 = .ok (.iconst 0, 1) := by decide +kernel
theorem dX9_readsTraveller_10 : decode cX9_readsTraveller 10 = .ok (.aload_n 0, 1) := by decide +kernel
theorem dX9_readsTraveller_11 : decode cX9_readsTraveller 11 = .ok (.getfield 76, 3) := by decide +kernel
theorem dX9_readsTraveller_14 : decode cX9_readsTraveller 14 = .ok (.aload_n 0, 1) := by decide +kernel
theorem dX9_readsTraveller_15 : decode cX9_readsTraveller 15 = .ok (.getfield 79, 3) := by decide +kernel
theorem dX9_readsTraveller_18 : decode cX9_readsTraveller 18 = .ok (.imul, 1) := by decide +kernel
theorem dX9_readsTraveller_19 : decode cX9_readsTraveller 19 = .ok (.iconst 1, 1) := by decide +kernel
theorem dX9_readsTraveller_20 : decode cX9_readsTraveller 20 = .ok (.isub, 1) := by decide +kernel
theorem dX9_readsTraveller_21 : decode cX9_readsTraveller 21 = .ok (.invokevirtual 143, 3) := by decide +kernel
theorem dX9_readsTraveller_24 : decode cX9_readsTraveller 24 = .ok (.ifCond .eq 12, 3) := by decide +kernel
theorem dX9_readsTraveller_27 : decode cX9_readsTraveller 27 = .ok (.aload_n 0, 1) := by decide +kernel
theorem dX9_readsTraveller_28 : decode cX9_readsTraveller 28 = .ok (.bipush 44, 2) := by decide +kernel
theorem dX9_readsTraveller_30 : decode cX9_readsTraveller 30 = .ok (.invokevirtual 147, 3) := by decide +kernel
theorem dX9_readsTraveller_33 : decode cX9_readsTraveller 33 = .ok (.ifCond .ne 5, 3) := by decide +kernel
theorem dX9_readsTraveller_36 : decode cX9_readsTraveller 36 = .ok (.iconst 0, 1) := by decide +kernel
theorem dX9_readsTraveller_37 : decode cX9_readsTraveller 37 = .ok (.ireturn, 1) := by decide +kernel
theorem dX9_readsTraveller_38 : decode cX9_readsTraveller 38 = .ok (.aload_n 0, 1) := by decide +kernel
theorem dX9_readsTraveller_39 : decode cX9_readsTraveller 39 = .ok (.getfield 136, 3) := by decide +kernel
theorem dX9_readsTraveller_42 : decode cX9_readsTraveller 42 = .ok (.istore_n 1, 1) := by decide +kernel
theorem dX9_readsTraveller_43 : decode cX9_readsTraveller 43 = .ok (.aload_n 0, 1) := by decide +kernel
theorem dX9_readsTraveller_44 : decode cX9_readsTraveller 44 = .ok (.iconst 0, 1) := by decide +kernel
theorem dX9_readsTraveller_45 : decode cX9_readsTraveller 45 = .ok (.aload_n 0, 1) := by decide +kernel
theorem dX9_readsTraveller_46 : decode cX9_readsTraveller 46 = .ok (.getfield 76, 3) := by decide +kernel
theorem dX9_readsTraveller_49 : decode cX9_readsTraveller 49 = .ok (.aload_n 0, 1) := by decide +kernel
theorem dX9_readsTraveller_50 : decode cX9_readsTraveller 50 = .ok (.getfield 79, 3) := by decide +kernel
theorem dX9_readsTraveller_53 : decode cX9_readsTraveller 53 = .ok (.imul, 1) := by decide +kernel
theorem dX9_readsTraveller_54 : decode cX9_readsTraveller 54 = .ok (.iconst 1, 1) := by decide +kernel
theorem dX9_readsTraveller_55 : decode cX9_readsTraveller 55 = .ok (.isub, 1) := by decide +kernel
theorem dX9_readsTraveller_56 : decode cX9_readsTraveller 56 = .ok (.invokevirtual 143, 3) := by decide +kernel
theorem dX9_readsTraveller_59 : decode cX9_readsTraveller 59 = .ok (.ifCond .eq 12, 3) := by decide +kernel
theorem dX9_readsTraveller_62 : decode cX9_readsTraveller 62 = .ok (.aload_n 0, 1) := by decide +kernel
theorem dX9_readsTraveller_63 : decode cX9_readsTraveller 63 = .ok (.bipush 44, 2) := by decide +kernel
theorem dX9_readsTraveller_65 : decode cX9_readsTraveller 65 = .ok (.invokevirtual 147, 3) := by decide +kernel
theorem dX9_readsTraveller_68 : decode cX9_readsTraveller 68 = .ok (.ifCond .ne 5, 3) := by decide +kernel
theorem dX9_readsTraveller_71 : decode cX9_readsTraveller 71 = .ok (.iconst 0, 1) := by decide +kernel
theorem dX9_readsTraveller_72 : decode cX9_readsTraveller 72 = .ok (.ireturn, 1) := by decide +kernel
theorem dX9_readsTraveller_73 : decode cX9_readsTraveller 73 = .ok (.aload_n 0, 1) := by decide +kernel
theorem dX9_readsTraveller_74 : decode cX9_readsTraveller 74 = .ok (.getfield 136, 3) := by decide +kernel
theorem dX9_readsTraveller_77 : decode cX9_readsTraveller 77 = .ok (.istore_n 2, 1) := by decide +kernel
theorem dX9_readsTraveller_78 : decode cX9_readsTraveller 78 = .ok (.aload_n 0, 1) := by decide +kernel
theorem dX9_readsTraveller_79 : decode cX9_readsTraveller 79 = .ok (.iconst 0, 1) := by decide +kernel
theorem dX9_readsTraveller_80 : decode cX9_readsTraveller 80 = .ok (.aload_n 0, 1) := by decide +kernel
theorem dX9_readsTraveller_81 : decode cX9_readsTraveller 81 = .ok (.getfield 62, 3) := by decide +kernel
theorem dX9_readsTraveller_84 : decode cX9_readsTraveller 84 = .ok (.iconst 1, 1) := by decide +kernel
theorem dX9_readsTraveller_85 : decode cX9_readsTraveller 85 = .ok (.isub, 1) := by decide +kernel
theorem dX9_readsTraveller_86 : decode cX9_readsTraveller 86 = .ok (.invokevirtual 143, 3) := by decide +kernel
theorem dX9_readsTraveller_89 : decode cX9_readsTraveller 89 = .ok (.ifCond .ne 5, 3) := by decide +kernel
theorem dX9_readsTraveller_92 : decode cX9_readsTraveller 92 = .ok (.iconst 0, 1) := by decide +kernel
theorem dX9_readsTraveller_93 : decode cX9_readsTraveller 93 = .ok (.ireturn, 1) := by decide +kernel
theorem dX9_readsTraveller_94 : decode cX9_readsTraveller 94 = .ok (.aload_n 0, 1) := by decide +kernel
theorem dX9_readsTraveller_95 : decode cX9_readsTraveller 95 = .ok (.iload_n 1, 1) := by decide +kernel
theorem dX9_readsTraveller_96 : decode cX9_readsTraveller 96 = .ok (.iload_n 2, 1) := by decide +kernel
theorem dX9_readsTraveller_97 : decode cX9_readsTraveller 97 = .ok (.aload_n 0, 1) := by decide +kernel
theorem dX9_readsTraveller_98 : decode cX9_readsTraveller 98 = .ok (.getfield 136, 3) := by decide +kernel
theorem dX9_readsTraveller_101 : decode cX9_readsTraveller 101 = .ok (.invokevirtual 66, 3) := by decide +kernel
theorem dX9_readsTraveller_104 : decode cX9_readsTraveller 104 = .ok (.iconst 1, 1) := by decide +kernel
theorem dX9_readsTraveller_105 : decode cX9_readsTraveller 105 = .ok (.ireturn, 1) := by decide +kernel
theorem dX9_readsWet_0 : decode cX9_readsWet 0 = .ok (.aload_n 0, 1) := by decide +kernel
theorem dX9_readsWet_1 : decode cX9_readsWet 1 = .ok (.iconst 0, 1) := by decide +kernel
theorem dX9_readsWet_2 : decode cX9_readsWet 2 = .ok (.iconst 3, 1) := by decide +kernel
theorem dX9_readsWet_3 : decode cX9_readsWet 3 = .ok (.invokevirtual 143, 3) := by decide +kernel
theorem dX9_readsWet_6 : decode cX9_readsWet 6 = .ok (.ifCond .ne 5, 3) := by decide +kernel
theorem dX9_readsWet_9 : decode cX9_readsWet 9 = .ok (.iconst 0, 1) := by decide +kernel
theorem dX9_readsWet_10 : decode cX9_readsWet 10 = .ok (.ireturn, 1) := by decide +kernel
theorem dX9_readsWet_11 : decode cX9_readsWet 11 = .ok (.aload_n 0, 1) := by decide +kernel
theorem dX9_readsWet_12 : decode cX9_readsWet 12 = .ok (.aload_n 0, 1) := by decide +kernel
theorem dX9_readsWet_13 : decode cX9_readsWet 13 = .ok (.getfield 136, 3) := by decide +kernel
theorem dX9_readsWet_16 : decode cX9_readsWet 16 = .ok (.putfield 70, 3) := by decide +kernel
theorem dX9_readsWet_19 : decode cX9_readsWet 19 = .ok (.iconst 1, 1) := by decide +kernel
theorem dX9_readsWet_20 : decode cX9_readsWet 20 = .ok (.ireturn, 1) := by decide +kernel
theorem dX9_readsItem_0 : decode cX9_readsItem 0 = .ok (.aload_n 0, 1) := by decide +kernel
theorem dX9_readsItem_1 : decode cX9_readsItem 1 = .ok (.invokevirtual 124, 3) := by decide +kernel
theorem dX9_readsItem_4 : decode cX9_readsItem 4 = .ok (.istore_n 1, 1) := by decide +kernel
theorem dX9_readsItem_5 : decode cX9_readsItem 5 = .ok (.aload_n 0, 1) := by decide +kernel
theorem dX9_readsItem_6 : decode cX9_readsItem 6 = .ok (.dup, 1) := by decide +kernel
theorem dX9_readsItem_7 : decode cX9_readsItem 7 = .ok (.getfield 121, 3) := by decide +kernel
theorem dX9_readsItem_10 : decode cX9_readsItem 10 = .ok (.iconst 1, 1) := by decide +kernel
theorem dX9_readsItem_11 : decode cX9_readsItem 11 = .ok (.iadd, 1) := by decide +kernel
theorem dX9_readsItem_12 : decode cX9_readsItem 12 = .ok (.putfield 121, 3) := by decide +kernel
theorem dX9_readsItem_15 : decode cX9_readsItem 15 = .ok (.iload_n 1, 1) := by decide +kernel
theorem dX9_readsItem_16 : decode cX9_readsItem 16 = .ok (.lookupswitch 77 #[(100, 57), (114, 52), (116, 67), (119, 72), (120, 62)], 52) := by decide +kernel
theorem dX9_readsItem_68 : decode cX9_readsItem 68 = .ok (.aload_n 0, 1) := by decide +kernel
theorem dX9_readsItem_69 : decode cX9_readsItem 69 = .ok (.invokevirtual 150, 3) := by decide +kernel
theorem dX9_readsItem_72 : decode cX9_readsItem 72 = .ok (.ireturn, 1) := by decide +kernel
theorem dX9_readsItem_73 : decode cX9_readsItem 73 = .ok (.aload_n 0, 1) := by decide +kernel
theorem dX9_readsItem_74 : decode cX9_readsItem 74 = .ok (.invokevirtual 154, 3) := by decide +kernel
theorem dX9_readsItem_77 : decode cX9_readsItem 77 = .ok (.ireturn, 1) := by decide +kernel
theorem dX9_readsItem_78 : decode cX9_readsItem 78 = .ok (.aload_n 0, 1) := by decide +kernel
theorem dX9_readsItem_79 : decode cX9_readsItem 79 = .ok (.invokevirtual 157, 3) := by decide +kernel
theorem dX9_readsItem_82 : decode cX9_readsItem 82 = .ok (.ireturn, 1) := by decide +kernel
theorem dX9_readsItem_83 : decode cX9_readsItem 83 = .ok (.aload_n 0, 1) := by decide +kernel
theorem dX9_readsItem_84 : decode cX9_readsItem 84 = .ok (.invokevirtual 160, 3) := by decide +kernel
theorem dX9_readsItem_87 : decode cX9_readsItem 87 = .ok (.ireturn, 1) := by decide +kernel
theorem dX9_readsItem_88 : decode cX9_readsItem 88 = .ok (.aload_n 0, 1) := by decide +kernel
theorem dX9_readsItem_89 : decode cX9_readsItem 89 = .ok (.invokevirtual 163, 3) := by decide +kernel
theorem dX9_readsItem_92 : decode cX9_readsItem 92 = .ok (.ireturn, 1) := by decide +kernel
theorem dX9_readsItem_93 : decode cX9_readsItem 93 = .ok (.iconst 0, 1) := by decide +kernel
theorem dX9_readsItem_94 : decode cX9_readsItem 94 = .ok (.ireturn, 1) := by decide +kernel
theorem dX9_reads_0 : decode cX9_reads 0 = .ok (.aload_n 0, 1) := by decide +kernel
theorem dX9_reads_1 : decode cX9_reads 1 = .ok (.invokevirtual 55, 3) := by decide +kernel
theorem dX9_reads_4 : decode cX9_reads 4 = .ok (.aload_n 0, 1) := by decide +kernel
theorem dX9_reads_5 : decode cX9_reads 5 = .ok (.iconst 0, 1) := by decide +kernel
theorem dX9_reads_6 : decode cX9_reads 6 = .ok (.putfield 121, 3) := by decide +kernel
theorem dX9_reads_9 : decode cX9_reads 9 = .ok (.aload_n 0, 1) := by decide +kernel
theorem dX9_reads_10 : decode cX9_reads 10 = .ok (.getfield 121, 3) := by decide +kernel
theorem dX9_reads_13 : decode cX9_reads 13 = .ok (.aload_n 0, 1) := by decide +kernel
theorem dX9_reads_14 : decode cX9_reads 14 = .ok (.getfield 118, 3) := by decide +kernel
theorem dX9_reads_17 : decode cX9_reads 17 = .ok (.if_icmp .ge 29, 3) := by decide +kernel
theorem dX9_reads_20 : decode cX9_reads 20 = .ok (.aload_n 0, 1) := by decide +kernel
theorem dX9_reads_21 : decode cX9_reads 21 = .ok (.getfield 121, 3) := by decide +kernel
theorem dX9_reads_24 : decode cX9_reads 24 = .ok (.istore_n 1, 1) := by decide +kernel
theorem dX9_reads_25 : decode cX9_reads 25 = .ok (.aload_n 0, 1) := by decide +kernel
theorem dX9_reads_26 : decode cX9_reads 26 = .ok (.invokevirtual 166, 3) := by decide +kernel
theorem dX9_reads_29 : decode cX9_reads 29 = .ok (.ifCond .eq 12, 3) := by decide +kernel
theorem dX9_reads_32 : decode cX9_reads 32 = .ok (.aload_n 0, 1) := by decide +kernel
theorem dX9_reads_33 : decode cX9_reads 33 = .ok (.bipush 59, 2) := by decide +kernel
theorem dX9_reads_35 : decode cX9_reads 35 = .ok (.invokevirtual 147, 3) := by decide +kernel
theorem dX9_reads_38 : decode cX9_reads 38 = .ok (.ifCond .ne 5, 3) := by decide +kernel
theorem dX9_reads_41 : decode cX9_reads 41 = .ok (.iload_n 1, 1) := by decide +kernel
theorem dX9_reads_42 : decode cX9_reads 42 = .ok (.ireturn, 1) := by decide +kernel
theorem dX9_reads_43 : decode cX9_reads 43 = .ok (.goto (-34), 3) := by decide +kernel
theorem dX9_reads_46 : decode cX9_reads 46 = .ok (.bipush (-4), 2) := by decide +kernel
theorem dX9_reads_48 : decode cX9_reads 48 = .ok (.ireturn, 1) := by decide +kernel
theorem dX9_fault_0 : decode cX9_fault 0 = .ok (.aload_n 0, 1) := by decide +kernel
theorem dX9_fault_1 : decode cX9_fault 1 = .ok (.invokevirtual 169, 3) := by decide +kernel
theorem dX9_fault_4 : decode cX9_fault 4 = .ok (.ireturn, 1) := by decide +kernel
theorem dX9_lay_0 : decode cX9_lay 0 = .ok (.aload_n 0, 1) := by decide +kernel
theorem dX9_lay_1 : decode cX9_lay 1 = .ok (.invokevirtual 169, 3) := by decide +kernel
theorem dX9_lay_4 : decode cX9_lay 4 = .ok (.bipush (-4), 2) := by decide +kernel
theorem dX9_lay_6 : decode cX9_lay 6 = .ok (.if_icmp .ne 17, 3) := by decide +kernel
theorem dX9_lay_9 : decode cX9_lay 9 = .ok (.aload_n 0, 1) := by decide +kernel
theorem dX9_lay_10 : decode cX9_lay 10 = .ok (.getfield 76, 3) := by decide +kernel
theorem dX9_lay_13 : decode cX9_lay 13 = .ok (.ifCond .eq 10, 3) := by decide +kernel
theorem dX9_lay_16 : decode cX9_lay 16 = .ok (.aload_n 0, 1) := by decide +kernel
theorem dX9_lay_17 : decode cX9_lay 17 = .ok (.getfield 62, 3) := by decide +kernel
theorem dX9_lay_20 : decode cX9_lay 20 = .ok (.ifCond .ne 6, 3) := by decide +kernel
theorem dX9_lay_23 : decode cX9_lay 23 = .ok (.bipush (-2), 2) := by decide +kernel
theorem dX9_lay_25 : decode cX9_lay 25 = .ok (.ireturn, 1) := by decide +kernel
theorem dX9_lay_26 : decode cX9_lay 26 = .ok (.aload_n 0, 1) := by decide +kernel
theorem dX9_lay_27 : decode cX9_lay 27 = .ok (.invokevirtual 73, 3) := by decide +kernel
theorem dX9_lay_30 : decode cX9_lay 30 = .ok (.aload_n 0, 1) := by decide +kernel
theorem dX9_lay_31 : decode cX9_lay 31 = .ok (.getfield 85, 3) := by decide +kernel
theorem dX9_lay_34 : decode cX9_lay 34 = .ok (.aload_n 0, 1) := by decide +kernel
theorem dX9_lay_35 : decode cX9_lay 35 = .ok (.getfield 88, 3) := by decide +kernel
theorem dX9_lay_38 : decode cX9_lay 38 = .ok (.imul, 1) := by decide +kernel
theorem dX9_lay_39 : decode cX9_lay 39 = .ok (.ireturn, 1) := by decide +kernel
theorem dX9_isPlace_0 : decode cX9_isPlace 0 = .ok (.iload_n 1, 1) := by decide +kernel
theorem dX9_isPlace_1 : decode cX9_isPlace 1 = .ok (.i2l, 1) := by decide +kernel
theorem dX9_isPlace_2 : decode cX9_isPlace 2 = .ok (.lconst 0, 1) := by decide +kernel
theorem dX9_isPlace_3 : decode cX9_isPlace 3 = .ok (.aload_n 0, 1) := by decide +kernel
theorem dX9_isPlace_4 : decode cX9_isPlace 4 = .ok (.getfield 85, 3) := by decide +kernel
theorem dX9_isPlace_7 : decode cX9_isPlace 7 = .ok (.aload_n 0, 1) := by decide +kernel
theorem dX9_isPlace_8 : decode cX9_isPlace 8 = .ok (.getfield 88, 3) := by decide +kernel
theorem dX9_isPlace_11 : decode cX9_isPlace 11 = .ok (.imul, 1) := by decide +kernel
theorem dX9_isPlace_12 : decode cX9_isPlace 12 = .ok (.iconst 1, 1) := by decide +kernel
theorem dX9_isPlace_13 : decode cX9_isPlace 13 = .ok (.isub, 1) := by decide +kernel
theorem dX9_isPlace_14 : decode cX9_isPlace 14 = .ok (.i2l, 1) := by decide +kernel
theorem dX9_isPlace_15 : decode cX9_isPlace 15 = .ok (.invokestatic 114, 3) := by decide +kernel
theorem dX9_isPlace_18 : decode cX9_isPlace 18 = .ok (.ireturn, 1) := by decide +kernel
theorem dX9_isDrum_0 : decode cX9_isDrum 0 = .ok (.iload_n 1, 1) := by decide +kernel
theorem dX9_isDrum_1 : decode cX9_isDrum 1 = .ok (.i2l, 1) := by decide +kernel
theorem dX9_isDrum_2 : decode cX9_isDrum 2 = .ok (.lconst 0, 1) := by decide +kernel
theorem dX9_isDrum_3 : decode cX9_isDrum 3 = .ok (.aload_n 0, 1) := by decide +kernel
theorem dX9_isDrum_4 : decode cX9_isDrum 4 = .ok (.getfield 91, 3) := by decide +kernel
theorem dX9_isDrum_7 : decode cX9_isDrum 7 = .ok (.iconst 1, 1) := by decide +kernel
theorem dX9_isDrum_8 : decode cX9_isDrum 8 = .ok (.isub, 1) := by decide +kernel
theorem dX9_isDrum_9 : decode cX9_isDrum 9 = .ok (.i2l, 1) := by decide +kernel
theorem dX9_isDrum_10 : decode cX9_isDrum 10 = .ok (.invokestatic 114, 3) := by decide +kernel
theorem dX9_isDrum_13 : decode cX9_isDrum 13 = .ok (.ireturn, 1) := by decide +kernel
theorem dX9_isTraveller_0 : decode cX9_isTraveller 0 = .ok (.iload_n 1, 1) := by decide +kernel
theorem dX9_isTraveller_1 : decode cX9_isTraveller 1 = .ok (.i2l, 1) := by decide +kernel
theorem dX9_isTraveller_2 : decode cX9_isTraveller 2 = .ok (.lconst 0, 1) := by decide +kernel
theorem dX9_isTraveller_3 : decode cX9_isTraveller 3 = .ok (.aload_n 0, 1) := by decide +kernel
theorem dX9_isTraveller_4 : decode cX9_isTraveller 4 = .ok (.getfield 94, 3) := by decide +kernel
theorem dX9_isTraveller_7 : decode cX9_isTraveller 7 = .ok (.iconst 1, 1) := by decide +kernel
theorem dX9_isTraveller_8 : decode cX9_isTraveller 8 = .ok (.isub, 1) := by decide +kernel
theorem dX9_isTraveller_9 : decode cX9_isTraveller 9 = .ok (.i2l, 1) := by decide +kernel
theorem dX9_isTraveller_10 : decode cX9_isTraveller 10 = .ok (.invokestatic 114, 3) := by decide +kernel
theorem dX9_isTraveller_13 : decode cX9_isTraveller 13 = .ok (.ireturn, 1) := by decide +kernel
theorem dX9_tells_0 : decode cX9_tells 0 = .ok (.aload_n 0, 1) := by decide +kernel
theorem dX9_tells_1 : decode cX9_tells 1 = .ok (.iconst 2, 1) := by decide +kernel
theorem dX9_tells_2 : decode cX9_tells 2 = .ok (.bipush 36, 2) := by decide +kernel
theorem dX9_tells_4 : decode cX9_tells 4 = .ok (.iload_n 1, 1) := by decide +kernel
theorem dX9_tells_5 : decode cX9_tells 5 = .ok (.imul, 1) := by decide +kernel
theorem dX9_tells_6 : decode cX9_tells 6 = .ok (.iadd, 1) := by decide +kernel
theorem dX9_tells_7 : decode cX9_tells 7 = .ok (.iload_n 2, 1) := by decide +kernel
theorem dX9_tells_8 : decode cX9_tells 8 = .ok (.iadd, 1) := by decide +kernel
theorem dX9_tells_9 : decode cX9_tells 9 = .ok (.iaload, 1) := by decide +kernel
theorem dX9_tells_10 : decode cX9_tells 10 = .ok (.ireturn, 1) := by decide +kernel
theorem dX9_taken_0 : decode cX9_taken 0 = .ok (.iload_n 2, 1) := by decide +kernel
theorem dX9_taken_1 : decode cX9_taken 1 = .ok (.ifCond .ge 10, 3) := by decide +kernel
theorem dX9_taken_4 : decode cX9_taken 4 = .ok (.aload_n 0, 1) := by decide +kernel
theorem dX9_taken_5 : decode cX9_taken 5 = .ok (.getfield 7, 3) := by decide +kernel
theorem dX9_taken_8 : decode cX9_taken 8 = .ok (.iload_n 3, 1) := by decide +kernel
theorem dX9_taken_9 : decode cX9_taken 9 = .ok (.iaload, 1) := by decide +kernel
theorem dX9_taken_10 : decode cX9_taken 10 = .ok (.ireturn, 1) := by decide +kernel
theorem dX9_taken_11 : decode cX9_taken 11 = .ok (.aload_n 1, 1) := by decide +kernel
theorem dX9_taken_12 : decode cX9_taken 12 = .ok (.iload_n 2, 1) := by decide +kernel
theorem dX9_taken_13 : decode cX9_taken 13 = .ok (.iload_n 3, 1) := by decide +kernel
theorem dX9_taken_14 : decode cX9_taken 14 = .ok (.invokestatic 172, 3) := by decide +kernel
theorem dX9_taken_17 : decode cX9_taken 17 = .ok (.istore 4, 2) := by decide +kernel
theorem dX9_taken_19 : decode cX9_taken 19 = .ok (.aload_n 0, 1) := by decide +kernel
theorem dX9_taken_20 : decode cX9_taken 20 = .ok (.getfield 13, 3) := by decide +kernel
theorem dX9_taken_23 : decode cX9_taken 23 = .ok (.iload_n 2, 1) := by decide +kernel
theorem dX9_taken_24 : decode cX9_taken 24 = .ok (.iaload, 1) := by decide +kernel
theorem dX9_taken_25 : decode cX9_taken 25 = .ok (.ifCond .le 18, 3) := by decide +kernel
theorem dX9_taken_28 : decode cX9_taken 28 = .ok (.aload_n 0, 1) := by decide +kernel
theorem dX9_taken_29 : decode cX9_taken 29 = .ok (.getfield 13, 3) := by decide +kernel
theorem dX9_taken_32 : decode cX9_taken 32 = .ok (.iload_n 2, 1) := by decide +kernel
theorem dX9_taken_33 : decode cX9_taken 33 = .ok (.iaload, 1) := by decide +kernel
theorem dX9_taken_34 : decode cX9_taken 34 = .ok (.iload 4, 2) := by decide +kernel
theorem dX9_taken_36 : decode cX9_taken 36 = .ok (.if_icmp .ne 7, 3) := by decide +kernel
theorem dX9_taken_39 : decode cX9_taken 39 = .ok (.iconst 0, 1) := by decide +kernel
theorem dX9_taken_40 : decode cX9_taken 40 = .ok (.goto 5, 3) := by decide +kernel
theorem dX9_taken_43 : decode cX9_taken 43 = .ok (.iload 4, 2) := by decide +kernel
theorem dX9_taken_45 : decode cX9_taken 45 = .ok (.ireturn, 1) := by decide +kernel
theorem dX9_hoursFor_0 : decode cX9_hoursFor 0 = .ok (.iload_n 0, 1) := by decide +kernel
theorem dX9_hoursFor_1 : decode cX9_hoursFor 1 = .ok (.iconst 2, 1) := by decide +kernel
theorem dX9_hoursFor_2 : decode cX9_hoursFor 2 = .ok (.if_icmp .ne 7, 3) := by decide +kernel
theorem dX9_hoursFor_5 : decode cX9_hoursFor 5 = .ok (.iconst 3, 1) := by decide +kernel
theorem dX9_hoursFor_6 : decode cX9_hoursFor 6 = .ok (.goto 13, 3) := by decide +kernel
theorem dX9_hoursFor_9 : decode cX9_hoursFor 9 = .ok (.iload_n 0, 1) := by decide +kernel
theorem dX9_hoursFor_10 : decode cX9_hoursFor 10 = .ok (.iconst 1, 1) := by decide +kernel
theorem dX9_hoursFor_11 : decode cX9_hoursFor 11 = .ok (.if_icmp .ne 7, 3) := by decide +kernel
theorem dX9_hoursFor_14 : decode cX9_hoursFor 14 = .ok (.iconst 2, 1) := by decide +kernel
theorem dX9_hoursFor_15 : decode cX9_hoursFor 15 = .ok (.goto 4, 3) := by decide +kernel
theorem dX9_hoursFor_18 : decode cX9_hoursFor 18 = .ok (.iconst 1, 1) := by decide +kernel
theorem dX9_hoursFor_19 : decode cX9_hoursFor 19 = .ok (.istore_n 2, 1) := by decide +kernel
theorem dX9_hoursFor_20 : decode cX9_hoursFor 20 = .ok (.iload_n 1, 1) := by decide +kernel
theorem dX9_hoursFor_21 : decode cX9_hoursFor 21 = .ok (.iconst 2, 1) := by decide +kernel
theorem dX9_hoursFor_22 : decode cX9_hoursFor 22 = .ok (.if_icmp .ge 7, 3) := by decide +kernel
theorem dX9_hoursFor_25 : decode cX9_hoursFor 25 = .ok (.iload_n 2, 1) := by decide +kernel
theorem dX9_hoursFor_26 : decode cX9_hoursFor 26 = .ok (.goto 16, 3) := by decide +kernel
theorem dX9_hoursFor_29 : decode cX9_hoursFor 29 = .ok (.iload_n 0, 1) := by decide +kernel
theorem dX9_hoursFor_30 : decode cX9_hoursFor 30 = .ok (.iconst 3, 1) := by decide +kernel
theorem dX9_hoursFor_31 : decode cX9_hoursFor 31 = .ok (.if_icmp .ne 8, 3) := by decide +kernel
theorem dX9_hoursFor_34 : decode cX9_hoursFor 34 = .ok (.ldc 176, 2) := by decide +kernel
theorem dX9_hoursFor_36 : decode cX9_hoursFor 36 = .ok (.goto 6, 3) := by decide +kernel
theorem dX9_hoursFor_39 : decode cX9_hoursFor 39 = .ok (.iload_n 2, 1) := by decide +kernel
theorem dX9_hoursFor_40 : decode cX9_hoursFor 40 = .ok (.iconst 1, 1) := by decide +kernel
theorem dX9_hoursFor_41 : decode cX9_hoursFor 41 = .ok (.iadd, 1) := by decide +kernel
theorem dX9_hoursFor_42 : decode cX9_hoursFor 42 = .ok (.ireturn, 1) := by decide +kernel
theorem dX9_beside_0 : decode cX9_beside 0 = .ok (.iload_n 2, 1) := by decide +kernel
theorem dX9_beside_1 : decode cX9_beside 1 = .ok (.ifCond .ne 23, 3) := by decide +kernel
theorem dX9_beside_4 : decode cX9_beside 4 = .ok (.iload_n 1, 1) := by decide +kernel
theorem dX9_beside_5 : decode cX9_beside 5 = .ok (.aload_n 0, 1) := by decide +kernel
theorem dX9_beside_6 : decode cX9_beside 6 = .ok (.getfield 88, 3) := by decide +kernel
theorem dX9_beside_9 : decode cX9_beside 9 = .ok (.if_icmp .ge 8, 3) := by decide +kernel
theorem dX9_beside_12 : decode cX9_beside 12 = .ok (.bipush (-4), 2) := by decide +kernel
theorem dX9_beside_14 : decode cX9_beside 14 = .ok (.goto 9, 3) := by decide +kernel
theorem dX9_beside_17 : decode cX9_beside 17 = .ok (.iload_n 1, 1) := by decide +kernel
theorem dX9_beside_18 : decode cX9_beside 18 = .ok (.aload_n 0, 1) := by decide +kernel
theorem dX9_beside_19 : decode cX9_beside 19 = .ok (.getfield 88, 3) := by decide +kernel
theorem dX9_beside_22 : decode cX9_beside 22 = .ok (.isub, 1) := by decide +kernel
theorem dX9_beside_23 : decode cX9_beside 23 = .ok (.ireturn, 1) := by decide +kernel
theorem dX9_beside_24 : decode cX9_beside 24 = .ok (.iload_n 2, 1) := by decide +kernel
theorem dX9_beside_25 : decode cX9_beside 25 = .ok (.iconst 1, 1) := by decide +kernel
theorem dX9_beside_26 : decode cX9_beside 26 = .ok (.if_icmp .ne 21, 3) := by decide +kernel
theorem dX9_beside_29 : decode cX9_beside 29 = .ok (.iload_n 1, 1) := by decide +kernel
theorem dX9_beside_30 : decode cX9_beside 30 = .ok (.aload_n 0, 1) := by decide +kernel
theorem dX9_beside_31 : decode cX9_beside 31 = .ok (.getfield 88, 3) := by decide +kernel
theorem dX9_beside_34 : decode cX9_beside 34 = .ok (.irem, 1) := by decide +kernel
theorem dX9_beside_35 : decode cX9_beside 35 = .ok (.ifCond .ne 8, 3) := by decide +kernel
theorem dX9_beside_38 : decode cX9_beside 38 = .ok (.bipush (-4), 2) := by decide +kernel
theorem dX9_beside_40 : decode cX9_beside 40 = .ok (.goto 6, 3) := by decide +kernel
theorem dX9_beside_43 : decode cX9_beside 43 = .ok (.iload_n 1, 1) := by decide +kernel
theorem dX9_beside_44 : decode cX9_beside 44 = .ok (.iconst 1, 1) := by decide +kernel
theorem dX9_beside_45 : decode cX9_beside 45 = .ok (.isub, 1) := by decide +kernel
theorem dX9_beside_46 : decode cX9_beside 46 = .ok (.ireturn, 1) := by decide +kernel
theorem dX9_beside_47 : decode cX9_beside 47 = .ok (.iload_n 2, 1) := by decide +kernel
theorem dX9_beside_48 : decode cX9_beside 48 = .ok (.iconst 2, 1) := by decide +kernel
theorem dX9_beside_49 : decode cX9_beside 49 = .ok (.if_icmp .ne 27, 3) := by decide +kernel
theorem dX9_beside_52 : decode cX9_beside 52 = .ok (.iload_n 1, 1) := by decide +kernel
theorem dX9_beside_53 : decode cX9_beside 53 = .ok (.aload_n 0, 1) := by decide +kernel
theorem dX9_beside_54 : decode cX9_beside 54 = .ok (.getfield 88, 3) := by decide +kernel
theorem dX9_beside_57 : decode cX9_beside 57 = .ok (.irem, 1) := by decide +kernel
theorem dX9_beside_58 : decode cX9_beside 58 = .ok (.aload_n 0, 1) := by decide +kernel
theorem dX9_beside_59 : decode cX9_beside 59 = .ok (.getfield 88, 3) := by decide +kernel
theorem dX9_beside_62 : decode cX9_beside 62 = .ok (.iconst 1, 1) := by decide +kernel
theorem dX9_beside_63 : decode cX9_beside 63 = .ok (.isub, 1) := by decide +kernel
theorem dX9_beside_64 : decode cX9_beside 64 = .ok (.if_icmp .ne 8, 3) := by decide +kernel
theorem dX9_beside_67 : decode cX9_beside 67 = .ok (.bipush (-4), 2) := by decide +kernel
theorem dX9_beside_69 : decode cX9_beside 69 = .ok (.goto 6, 3) := by decide +kernel
theorem dX9_beside_72 : decode cX9_beside 72 = .ok (.iload_n 1, 1) := by decide +kernel
theorem dX9_beside_73 : decode cX9_beside 73 = .ok (.iconst 1, 1) := by decide +kernel
theorem dX9_beside_74 : decode cX9_beside 74 = .ok (.iadd, 1) := by decide +kernel
theorem dX9_beside_75 : decode cX9_beside 75 = .ok (.ireturn, 1) := by decide +kernel
theorem dX9_beside_76 : decode cX9_beside 76 = .ok (.iload_n 1, 1) := by decide +kernel
theorem dX9_beside_77 : decode cX9_beside 77 = .ok (.aload_n 0, 1) := by decide +kernel
theorem dX9_beside_78 : decode cX9_beside 78 = .ok (.getfield 88, 3) := by decide +kernel
theorem dX9_beside_81 : decode cX9_beside 81 = .ok (.aload_n 0, 1) := by decide +kernel
theorem dX9_beside_82 : decode cX9_beside 82 = .ok (.getfield 85, 3) := by decide +kernel
theorem dX9_beside_85 : decode cX9_beside 85 = .ok (.iconst 1, 1) := by decide +kernel
theorem dX9_beside_86 : decode cX9_beside 86 = .ok (.isub, 1) := by decide +kernel
theorem dX9_beside_87 : decode cX9_beside 87 = .ok (.imul, 1) := by decide +kernel
theorem dX9_beside_88 : decode cX9_beside 88 = .ok (.if_icmp .lt 8, 3) := by decide +kernel
theorem dX9_beside_91 : decode cX9_beside 91 = .ok (.bipush (-4), 2) := by decide +kernel
theorem dX9_beside_93 : decode cX9_beside 93 = .ok (.goto 9, 3) := by decide +kernel
theorem dX9_beside_96 : decode cX9_beside 96 = .ok (.iload_n 1, 1) := by decide +kernel
theorem dX9_beside_97 : decode cX9_beside 97 = .ok (.aload_n 0, 1) := by decide +kernel
theorem dX9_beside_98 : decode cX9_beside 98 = .ok (.getfield 88, 3) := by decide +kernel
theorem dX9_beside_101 : decode cX9_beside 101 = .ok (.iadd, 1) := by decide +kernel
theorem dX9_beside_102 : decode cX9_beside 102 = .ok (.ireturn, 1) := by decide +kernel
theorem dX9_byWay_0 : decode cX9_byWay 0 = .ok (.aload_n 0, 1) := by decide +kernel
theorem dX9_byWay_1 : decode cX9_byWay 1 = .ok (.iload_n 3, 1) := by decide +kernel
theorem dX9_byWay_2 : decode cX9_byWay 2 = .ok (.iload 4, 2) := by decide +kernel
theorem dX9_byWay_4 : decode cX9_byWay 4 = .ok (.invokevirtual 177, 3) := by decide +kernel
theorem dX9_byWay_7 : decode cX9_byWay 7 = .ok (.istore 5, 2) := by decide +kernel
theorem dX9_byWay_9 : decode cX9_byWay 9 = .ok (.iload 5, 2) := by decide +kernel
theorem dX9_byWay_11 : decode cX9_byWay 11 = .ok (.bipush (-4), 2) := by decide +kernel
theorem dX9_byWay_13 : decode cX9_byWay 13 = .ok (.if_icmp .eq 15, 3) := by decide +kernel
theorem dX9_byWay_16 : decode cX9_byWay 16 = .ok (.aload_n 0, 1) := by decide +kernel
theorem dX9_byWay_17 : decode cX9_byWay 17 = .ok (.getfield 52, 3) := by decide +kernel
theorem dX9_byWay_20 : decode cX9_byWay 20 = .ok (.iload 5, 2) := by decide +kernel
theorem dX9_byWay_22 : decode cX9_byWay 22 = .ok (.iaload, 1) := by decide +kernel
theorem dX9_byWay_23 : decode cX9_byWay 23 = .ok (.ldc 176, 2) := by decide +kernel
theorem dX9_byWay_25 : decode cX9_byWay 25 = .ok (.if_icmp .lt 6, 3) := by decide +kernel
theorem dX9_byWay_28 : decode cX9_byWay 28 = .ok (.ldc 176, 2) := by decide +kernel
theorem dX9_byWay_30 : decode cX9_byWay 30 = .ok (.ireturn, 1) := by decide +kernel
theorem dX9_byWay_31 : decode cX9_byWay 31 = .ok (.aload_n 0, 1) := by decide +kernel
theorem dX9_byWay_32 : decode cX9_byWay 32 = .ok (.aload_n 1, 1) := by decide +kernel
theorem dX9_byWay_33 : decode cX9_byWay 33 = .ok (.iload_n 2, 1) := by decide +kernel
theorem dX9_byWay_34 : decode cX9_byWay 34 = .ok (.iload 5, 2) := by decide +kernel
theorem dX9_byWay_36 : decode cX9_byWay 36 = .ok (.invokevirtual 181, 3) := by decide +kernel
theorem dX9_byWay_39 : decode cX9_byWay 39 = .ok (.aload_n 1, 1) := by decide +kernel
theorem dX9_byWay_40 : decode cX9_byWay 40 = .ok (.iconst 0, 1) := by decide +kernel
theorem dX9_byWay_41 : decode cX9_byWay 41 = .ok (.iaload, 1) := by decide +kernel
theorem dX9_byWay_42 : decode cX9_byWay 42 = .ok (.invokestatic 184, 3) := by decide +kernel
theorem dX9_byWay_45 : decode cX9_byWay 45 = .ok (.istore 6, 2) := by decide +kernel
theorem dX9_byWay_47 : decode cX9_byWay 47 = .ok (.iload 6, 2) := by decide +kernel
theorem dX9_byWay_49 : decode cX9_byWay 49 = .ok (.ldc 176, 2) := by decide +kernel
theorem dX9_byWay_51 : decode cX9_byWay 51 = .ok (.if_icmp .lt 8, 3) := by decide +kernel
theorem dX9_byWay_54 : decode cX9_byWay 54 = .ok (.ldc 176, 2) := by decide +kernel
theorem dX9_byWay_56 : decode cX9_byWay 56 = .ok (.goto 13, 3) := by decide +kernel
theorem dX9_byWay_59 : decode cX9_byWay 59 = .ok (.iload 6, 2) := by decide +kernel
theorem dX9_byWay_61 : decode cX9_byWay 61 = .ok (.aload_n 0, 1) := by decide +kernel
theorem dX9_byWay_62 : decode cX9_byWay 62 = .ok (.getfield 52, 3) := by decide +kernel
theorem dX9_byWay_65 : decode cX9_byWay 65 = .ok (.iload 5, 2) := by decide +kernel
theorem dX9_byWay_67 : decode cX9_byWay 67 = .ok (.iaload, 1) := by decide +kernel
theorem dX9_byWay_68 : decode cX9_byWay 68 = .ok (.iadd, 1) := by decide +kernel
theorem dX9_byWay_69 : decode cX9_byWay 69 = .ok (.ireturn, 1) := by decide +kernel
theorem dX9_layAway_0 : decode cX9_layAway 0 = .ok (.iconst 0, 1) := by decide +kernel
theorem dX9_layAway_1 : decode cX9_layAway 1 = .ok (.istore 4, 2) := by decide +kernel
theorem dX9_layAway_3 : decode cX9_layAway 3 = .ok (.iload 4, 2) := by decide +kernel
theorem dX9_layAway_5 : decode cX9_layAway 5 = .ok (.bipush 36, 2) := by decide +kernel
theorem dX9_layAway_7 : decode cX9_layAway 7 = .ok (.if_icmp .ge 28, 3) := by decide +kernel
theorem dX9_layAway_10 : decode cX9_layAway 10 = .ok (.aload_n 0, 1) := by decide +kernel
theorem dX9_layAway_11 : decode cX9_layAway 11 = .ok (.getfield 52, 3) := by decide +kernel
theorem dX9_layAway_14 : decode cX9_layAway 14 = .ok (.iload 4, 2) := by decide +kernel
theorem dX9_layAway_16 : decode cX9_layAway 16 = .ok (.iload 4, 2) := by decide +kernel
theorem dX9_layAway_18 : decode cX9_layAway 18 = .ok (.iload_n 3, 1) := by decide +kernel
theorem dX9_layAway_19 : decode cX9_layAway 19 = .ok (.if_icmp .ne 7, 3) := by decide +kernel
theorem dX9_layAway_22 : decode cX9_layAway 22 = .ok (.iconst 0, 1) := by decide +kernel
theorem dX9_layAway_23 : decode cX9_layAway 23 = .ok (.goto 5, 3) := by decide +kernel
theorem dX9_layAway_26 : decode cX9_layAway 26 = .ok (.ldc 176, 2) := by decide +kernel
theorem dX9_layAway_28 : decode cX9_layAway 28 = .ok (.iastore, 1) := by decide +kernel
theorem dX9_layAway_29 : decode cX9_layAway 29 = .ok (.iinc 4 1, 3) := by decide +kernel
theorem dX9_layAway_32 : decode cX9_layAway 32 = .ok (.goto (-29), 3) := by decide +kernel
theorem dX9_layAway_35 : decode cX9_layAway 35 = .ok (.iconst 1, 1) := by decide +kernel
theorem dX9_layAway_36 : decode cX9_layAway 36 = .ok (.istore 4, 2) := by decide +kernel
theorem dX9_layAway_38 : decode cX9_layAway 38 = .ok (.iload 4, 2) := by decide +kernel
theorem dX9_layAway_40 : decode cX9_layAway 40 = .ok (.ifCond .eq 114, 3) := by decide +kernel
theorem dX9_layAway_43 : decode cX9_layAway 43 = .ok (.iconst 0, 1) := by decide +kernel
theorem dX9_layAway_44 : decode cX9_layAway 44 = .ok (.istore 4, 2) := by decide +kernel
theorem dX9_layAway_46 : decode cX9_layAway 46 = .ok (.iconst 0, 1) := by decide +kernel
theorem dX9_layAway_47 : decode cX9_layAway 47 = .ok (.istore 5, 2) := by decide +kernel
theorem dX9_layAway_49 : decode cX9_layAway 49 = .ok (.iload 5, 2) := by decide +kernel
theorem dX9_layAway_51 : decode cX9_layAway 51 = .ok (.aload_n 0, 1) := by decide +kernel
theorem dX9_layAway_52 : decode cX9_layAway 52 = .ok (.getfield 85, 3) := by decide +kernel
theorem dX9_layAway_55 : decode cX9_layAway 55 = .ok (.aload_n 0, 1) := by decide +kernel
theorem dX9_layAway_56 : decode cX9_layAway 56 = .ok (.getfield 88, 3) := by decide +kernel
theorem dX9_layAway_59 : decode cX9_layAway 59 = .ok (.imul, 1) := by decide +kernel
theorem dX9_layAway_60 : decode cX9_layAway 60 = .ok (.if_icmp .ge 91, 3) := by decide +kernel
theorem dX9_layAway_63 : decode cX9_layAway 63 = .ok (.iconst 0, 1) := by decide +kernel
theorem dX9_layAway_64 : decode cX9_layAway 64 = .ok (.istore 6, 2) := by decide +kernel
theorem dX9_layAway_66 : decode cX9_layAway 66 = .ok (.iload 6, 2) := by decide +kernel
theorem dX9_layAway_68 : decode cX9_layAway 68 = .ok (.iconst 4, 1) := by decide +kernel
theorem dX9_layAway_69 : decode cX9_layAway 69 = .ok (.if_icmp .ge 76, 3) := by decide +kernel
theorem dX9_layAway_72 : decode cX9_layAway 72 = .ok (.aload_n 0, 1) := by decide +kernel
theorem dX9_layAway_73 : decode cX9_layAway 73 = .ok (.aload_n 1, 1) := by decide +kernel
theorem dX9_layAway_74 : decode cX9_layAway 74 = .ok (.iload_n 2, 1) := by decide +kernel
theorem dX9_layAway_75 : decode cX9_layAway 75 = .ok (.iload 5, 2) := by decide +kernel
theorem dX9_layAway_77 : decode cX9_layAway 77 = .ok (.iload 6, 2) := by decide +kernel
theorem dX9_layAway_79 : decode cX9_layAway 79 = .ok (.invokevirtual 187, 3) := by decide +kernel
theorem dX9_layAway_82 : decode cX9_layAway 82 = .ok (.istore 7, 2) := by decide +kernel
theorem dX9_layAway_84 : decode cX9_layAway 84 = .ok (.iload 4, 2) := by decide +kernel
theorem dX9_layAway_86 : decode cX9_layAway 86 = .ok (.ifCond .ne 15, 3) := by decide +kernel
theorem dX9_layAway_89 : decode cX9_layAway 89 = .ok (.iload 7, 2) := by decide +kernel
theorem dX9_layAway_91 : decode cX9_layAway 91 = .ok (.aload_n 0, 1) := by decide +kernel
theorem dX9_layAway_92 : decode cX9_layAway 92 = .ok (.getfield 52, 3) := by decide +kernel
theorem dX9_layAway_95 : decode cX9_layAway 95 = .ok (.iload 5, 2) := by decide +kernel
theorem dX9_layAway_97 : decode cX9_layAway 97 = .ok (.iaload, 1) := by decide +kernel
theorem dX9_layAway_98 : decode cX9_layAway 98 = .ok (.if_icmp .ge 7, 3) := by decide +kernel
theorem dX9_layAway_101 : decode cX9_layAway 101 = .ok (.iconst 1, 1) := by decide +kernel
theorem dX9_layAway_102 : decode cX9_layAway 102 = .ok (.goto 4, 3) := by decide +kernel
theorem dX9_layAway_105 : decode cX9_layAway 105 = .ok (.iconst 0, 1) := by decide +kernel
theorem dX9_layAway_106 : decode cX9_layAway 106 = .ok (.istore 4, 2) := by decide +kernel
theorem dX9_layAway_108 : decode cX9_layAway 108 = .ok (.aload_n 0, 1) := by decide +kernel
theorem dX9_layAway_109 : decode cX9_layAway 109 = .ok (.getfield 52, 3) := by decide +kernel
theorem dX9_layAway_112 : decode cX9_layAway 112 = .ok (.iload 5, 2) := by decide +kernel
theorem dX9_layAway_114 : decode cX9_layAway 114 = .ok (.iload 7, 2) := by decide +kernel
theorem dX9_layAway_116 : decode cX9_layAway 116 = .ok (.aload_n 0, 1) := by decide +kernel
theorem dX9_layAway_117 : decode cX9_layAway 117 = .ok (.getfield 52, 3) := by decide +kernel
theorem dX9_layAway_120 : decode cX9_layAway 120 = .ok (.iload 5, 2) := by decide +kernel
theorem dX9_layAway_122 : decode cX9_layAway 122 = .ok (.iaload, 1) := by decide +kernel
theorem dX9_layAway_123 : decode cX9_layAway 123 = .ok (.if_icmp .ge 8, 3) := by decide +kernel
theorem dX9_layAway_126 : decode cX9_layAway 126 = .ok (.iload 7, 2) := by decide +kernel
theorem dX9_layAway_128 : decode cX9_layAway 128 = .ok (.goto 10, 3) := by decide +kernel
theorem dX9_layAway_131 : decode cX9_layAway 131 = .ok (.aload_n 0, 1) := by decide +kernel
theorem dX9_layAway_132 : decode cX9_layAway 132 = .ok (.getfield 52, 3) := by decide +kernel
theorem dX9_layAway_135 : decode cX9_layAway 135 = .ok (.iload 5, 2) := by decide +kernel
theorem dX9_layAway_137 : decode cX9_layAway 137 = .ok (.iaload, 1) := by decide +kernel
theorem dX9_layAway_138 : decode cX9_layAway 138 = .ok (.iastore, 1) := by decide +kernel
theorem dX9_layAway_139 : decode cX9_layAway 139 = .ok (.iinc 6 1, 3) := by decide +kernel
theorem dX9_layAway_142 : decode cX9_layAway 142 = .ok (.goto (-76), 3) := by decide +kernel
theorem dX9_layAway_145 : decode cX9_layAway 145 = .ok (.iinc 5 1, 3) := by decide +kernel
theorem dX9_layAway_148 : decode cX9_layAway 148 = .ok (.goto (-99), 3) := by decide +kernel
theorem dX9_layAway_151 : decode cX9_layAway 151 = .ok (.goto (-113), 3) := by decide +kernel
theorem dX9_layAway_154 : decode cX9_layAway 154 = .ok (.return_, 1) := by decide +kernel
theorem dX9_firstOf_0 : decode cX9_firstOf 0 = .ok (.aload_n 0, 1) := by decide +kernel
theorem dX9_firstOf_1 : decode cX9_firstOf 1 = .ok (.aload_n 1, 1) := by decide +kernel
theorem dX9_firstOf_2 : decode cX9_firstOf 2 = .ok (.iload_n 2, 1) := by decide +kernel
theorem dX9_firstOf_3 : decode cX9_firstOf 3 = .ok (.iload 4, 2) := by decide +kernel
theorem dX9_firstOf_5 : decode cX9_firstOf 5 = .ok (.invokevirtual 191, 3) := by decide +kernel
theorem dX9_firstOf_8 : decode cX9_firstOf 8 = .ok (.iload_n 3, 1) := by decide +kernel
theorem dX9_firstOf_9 : decode cX9_firstOf 9 = .ok (.iload 4, 2) := by decide +kernel
theorem dX9_firstOf_11 : decode cX9_firstOf 11 = .ok (.if_icmp .eq 14, 3) := by decide +kernel
theorem dX9_firstOf_14 : decode cX9_firstOf 14 = .ok (.aload_n 0, 1) := by decide +kernel
theorem dX9_firstOf_15 : decode cX9_firstOf 15 = .ok (.getfield 52, 3) := by decide +kernel
theorem dX9_firstOf_18 : decode cX9_firstOf 18 = .ok (.iload_n 3, 1) := by decide +kernel
theorem dX9_firstOf_19 : decode cX9_firstOf 19 = .ok (.iaload, 1) := by decide +kernel
theorem dX9_firstOf_20 : decode cX9_firstOf 20 = .ok (.ldc 176, 2) := by decide +kernel
theorem dX9_firstOf_22 : decode cX9_firstOf 22 = .ok (.if_icmp .lt 6, 3) := by decide +kernel
theorem dX9_firstOf_25 : decode cX9_firstOf 25 = .ok (.bipush (-4), 2) := by decide +kernel
theorem dX9_firstOf_27 : decode cX9_firstOf 27 = .ok (.ireturn, 1) := by decide +kernel
theorem dX9_firstOf_28 : decode cX9_firstOf 28 = .ok (.iconst 0, 1) := by decide +kernel
theorem dX9_firstOf_29 : decode cX9_firstOf 29 = .ok (.istore 5, 2) := by decide +kernel
theorem dX9_firstOf_31 : decode cX9_firstOf 31 = .ok (.iload 5, 2) := by decide +kernel
theorem dX9_firstOf_33 : decode cX9_firstOf 33 = .ok (.iconst 4, 1) := by decide +kernel
theorem dX9_firstOf_34 : decode cX9_firstOf 34 = .ok (.if_icmp .ge 35, 3) := by decide +kernel
theorem dX9_firstOf_37 : decode cX9_firstOf 37 = .ok (.aload_n 0, 1) := by decide +kernel
theorem dX9_firstOf_38 : decode cX9_firstOf 38 = .ok (.aload_n 1, 1) := by decide +kernel
theorem dX9_firstOf_39 : decode cX9_firstOf 39 = .ok (.iload_n 2, 1) := by decide +kernel
theorem dX9_firstOf_40 : decode cX9_firstOf 40 = .ok (.iload_n 3, 1) := by decide +kernel
theorem dX9_firstOf_41 : decode cX9_firstOf 41 = .ok (.iload 5, 2) := by decide +kernel
theorem dX9_firstOf_43 : decode cX9_firstOf 43 = .ok (.invokevirtual 187, 3) := by decide +kernel
theorem dX9_firstOf_46 : decode cX9_firstOf 46 = .ok (.aload_n 0, 1) := by decide +kernel
theorem dX9_firstOf_47 : decode cX9_firstOf 47 = .ok (.getfield 52, 3) := by decide +kernel
theorem dX9_firstOf_50 : decode cX9_firstOf 50 = .ok (.iload_n 3, 1) := by decide +kernel
theorem dX9_firstOf_51 : decode cX9_firstOf 51 = .ok (.iaload, 1) := by decide +kernel
theorem dX9_firstOf_52 : decode cX9_firstOf 52 = .ok (.if_icmp .ne 11, 3) := by decide +kernel
theorem dX9_firstOf_55 : decode cX9_firstOf 55 = .ok (.aload_n 0, 1) := by decide +kernel
theorem dX9_firstOf_56 : decode cX9_firstOf 56 = .ok (.iload_n 3, 1) := by decide +kernel
theorem dX9_firstOf_57 : decode cX9_firstOf 57 = .ok (.iload 5, 2) := by decide +kernel
theorem dX9_firstOf_59 : decode cX9_firstOf 59 = .ok (.invokevirtual 177, 3) := by decide +kernel
theorem dX9_firstOf_62 : decode cX9_firstOf 62 = .ok (.ireturn, 1) := by decide +kernel
theorem dX9_firstOf_63 : decode cX9_firstOf 63 = .ok (.iinc 5 1, 3) := by decide +kernel
theorem dX9_firstOf_66 : decode cX9_firstOf 66 = .ok (.goto (-35), 3) := by decide +kernel
theorem dX9_firstOf_69 : decode cX9_firstOf 69 = .ok (.bipush (-4), 2) := by decide +kernel
theorem dX9_firstOf_71 : decode cX9_firstOf 71 = .ok (.ireturn, 1) := by decide +kernel
theorem dX9_lengthOf_0 : decode cX9_lengthOf 0 = .ok (.aload_n 0, 1) := by decide +kernel
theorem dX9_lengthOf_1 : decode cX9_lengthOf 1 = .ok (.aload_n 1, 1) := by decide +kernel
theorem dX9_lengthOf_2 : decode cX9_lengthOf 2 = .ok (.iload_n 2, 1) := by decide +kernel
theorem dX9_lengthOf_3 : decode cX9_lengthOf 3 = .ok (.iload 4, 2) := by decide +kernel
theorem dX9_lengthOf_5 : decode cX9_lengthOf 5 = .ok (.invokevirtual 191, 3) := by decide +kernel
theorem dX9_lengthOf_8 : decode cX9_lengthOf 8 = .ok (.aload_n 0, 1) := by decide +kernel
theorem dX9_lengthOf_9 : decode cX9_lengthOf 9 = .ok (.getfield 52, 3) := by decide +kernel
theorem dX9_lengthOf_12 : decode cX9_lengthOf 12 = .ok (.iload_n 3, 1) := by decide +kernel
theorem dX9_lengthOf_13 : decode cX9_lengthOf 13 = .ok (.iaload, 1) := by decide +kernel
theorem dX9_lengthOf_14 : decode cX9_lengthOf 14 = .ok (.ldc 176, 2) := by decide +kernel
theorem dX9_lengthOf_16 : decode cX9_lengthOf 16 = .ok (.if_icmp .lt 8, 3) := by decide +kernel
theorem dX9_lengthOf_19 : decode cX9_lengthOf 19 = .ok (.bipush (-4), 2) := by decide +kernel
theorem dX9_lengthOf_21 : decode cX9_lengthOf 21 = .ok (.goto 9, 3) := by decide +kernel
theorem dX9_lengthOf_24 : decode cX9_lengthOf 24 = .ok (.aload_n 0, 1) := by decide +kernel
theorem dX9_lengthOf_25 : decode cX9_lengthOf 25 = .ok (.getfield 52, 3) := by decide +kernel
theorem dX9_lengthOf_28 : decode cX9_lengthOf 28 = .ok (.iload_n 3, 1) := by decide +kernel
theorem dX9_lengthOf_29 : decode cX9_lengthOf 29 = .ok (.iaload, 1) := by decide +kernel
theorem dX9_lengthOf_30 : decode cX9_lengthOf 30 = .ok (.ireturn, 1) := by decide +kernel
theorem dX9_place_0 : decode cX9_place 0 = .ok (.aload_n 0, 1) := by decide +kernel
theorem dX9_place_1 : decode cX9_place 1 = .ok (.iload_n 1, 1) := by decide +kernel
theorem dX9_place_2 : decode cX9_place 2 = .ok (.invokevirtual 195, 3) := by decide +kernel
theorem dX9_place_5 : decode cX9_place 5 = .ok (.ifCond .eq 12, 3) := by decide +kernel
theorem dX9_place_8 : decode cX9_place 8 = .ok (.aload_n 0, 1) := by decide +kernel
theorem dX9_place_9 : decode cX9_place 9 = .ok (.getfield 7, 3) := by decide +kernel
theorem dX9_place_12 : decode cX9_place 12 = .ok (.iload_n 1, 1) := by decide +kernel
theorem dX9_place_13 : decode cX9_place 13 = .ok (.iaload, 1) := by decide +kernel
theorem dX9_place_14 : decode cX9_place 14 = .ok (.goto 4, 3) := by decide +kernel
theorem dX9_place_17 : decode cX9_place 17 = .ok (.iconst (-1), 1) := by decide +kernel
theorem dX9_place_18 : decode cX9_place 18 = .ok (.ireturn, 1) := by decide +kernel
theorem dX9_drum_0 : decode cX9_drum 0 = .ok (.aload_n 0, 1) := by decide +kernel
theorem dX9_drum_1 : decode cX9_drum 1 = .ok (.iload_n 1, 1) := by decide +kernel
theorem dX9_drum_2 : decode cX9_drum 2 = .ok (.invokevirtual 198, 3) := by decide +kernel
theorem dX9_drum_5 : decode cX9_drum 5 = .ok (.ifCond .eq 23, 3) := by decide +kernel
theorem dX9_drum_8 : decode cX9_drum 8 = .ok (.aload_n 0, 1) := by decide +kernel
theorem dX9_drum_9 : decode cX9_drum 9 = .ok (.iload_n 2, 1) := by decide +kernel
theorem dX9_drum_10 : decode cX9_drum 10 = .ok (.invokevirtual 195, 3) := by decide +kernel
theorem dX9_drum_13 : decode cX9_drum 13 = .ok (.ifCond .eq 15, 3) := by decide +kernel
theorem dX9_drum_16 : decode cX9_drum 16 = .ok (.iload_n 3, 1) := by decide +kernel
theorem dX9_drum_17 : decode cX9_drum 17 = .ok (.i2l, 1) := by decide +kernel
theorem dX9_drum_18 : decode cX9_drum 18 = .ok (.lconst 0, 1) := by decide +kernel
theorem dX9_drum_19 : decode cX9_drum 19 = .ok (.ldc2_w 201, 3) := by decide +kernel
theorem dX9_drum_22 : decode cX9_drum 22 = .ok (.invokestatic 114, 3) := by decide +kernel
theorem dX9_drum_25 : decode cX9_drum 25 = .ok (.ifCond .ne 5, 3) := by decide +kernel
theorem dX9_drum_28 : decode cX9_drum 28 = .ok (.iconst (-1), 1) := by decide +kernel
theorem dX9_drum_29 : decode cX9_drum 29 = .ok (.ireturn, 1) := by decide +kernel
theorem dX9_drum_30 : decode cX9_drum 30 = .ok (.aload_n 0, 1) := by decide +kernel
theorem dX9_drum_31 : decode cX9_drum 31 = .ok (.getfield 16, 3) := by decide +kernel
theorem dX9_drum_34 : decode cX9_drum 34 = .ok (.iload_n 1, 1) := by decide +kernel
theorem dX9_drum_35 : decode cX9_drum 35 = .ok (.iload_n 2, 1) := by decide +kernel
theorem dX9_drum_36 : decode cX9_drum 36 = .ok (.invokestatic 172, 3) := by decide +kernel
theorem dX9_drum_39 : decode cX9_drum 39 = .ok (.istore 4, 2) := by decide +kernel
theorem dX9_drum_41 : decode cX9_drum 41 = .ok (.iload_n 3, 1) := by decide +kernel
theorem dX9_drum_42 : decode cX9_drum 42 = .ok (.iconst 2, 1) := by decide +kernel
theorem dX9_drum_43 : decode cX9_drum 43 = .ok (.if_icmp .ge 23, 3) := by decide +kernel
theorem dX9_drum_46 : decode cX9_drum 46 = .ok (.iload_n 3, 1) := by decide +kernel
theorem dX9_drum_47 : decode cX9_drum 47 = .ok (.ifCond .ne 8, 3) := by decide +kernel
theorem dX9_drum_50 : decode cX9_drum 50 = .ok (.iload 4, 2) := by decide +kernel
theorem dX9_drum_52 : decode cX9_drum 52 = .ok (.goto 13, 3) := by decide +kernel
theorem dX9_drum_55 : decode cX9_drum 55 = .ok (.aload_n 0, 1) := by decide +kernel
theorem dX9_drum_56 : decode cX9_drum 56 = .ok (.aload_n 0, 1) := by decide +kernel
theorem dX9_drum_57 : decode cX9_drum 57 = .ok (.getfield 16, 3) := by decide +kernel
theorem dX9_drum_60 : decode cX9_drum 60 = .ok (.iload_n 1, 1) := by decide +kernel
theorem dX9_drum_61 : decode cX9_drum 61 = .ok (.iload_n 2, 1) := by decide +kernel
theorem dX9_drum_62 : decode cX9_drum 62 = .ok (.invokevirtual 181, 3) := by decide +kernel
theorem dX9_drum_65 : decode cX9_drum 65 = .ok (.ireturn, 1) := by decide +kernel
theorem dX9_drum_66 : decode cX9_drum 66 = .ok (.iload 4, 2) := by decide +kernel
theorem dX9_drum_68 : decode cX9_drum 68 = .ok (.iconst 3, 1) := by decide +kernel
theorem dX9_drum_69 : decode cX9_drum 69 = .ok (.if_icmp .ne 7, 3) := by decide +kernel
theorem dX9_drum_72 : decode cX9_drum 72 = .ok (.iconst 0, 1) := by decide +kernel
theorem dX9_drum_73 : decode cX9_drum 73 = .ok (.goto 32, 3) := by decide +kernel
theorem dX9_drum_76 : decode cX9_drum 76 = .ok (.iload 4, 2) := by decide +kernel
theorem dX9_drum_78 : decode cX9_drum 78 = .ok (.ifCond .ne 8, 3) := by decide +kernel
theorem dX9_drum_81 : decode cX9_drum 81 = .ok (.bipush 9, 2) := by decide +kernel
theorem dX9_drum_83 : decode cX9_drum 83 = .ok (.goto 15, 3) := by decide +kernel
theorem dX9_drum_86 : decode cX9_drum 86 = .ok (.iload 4, 2) := by decide +kernel
theorem dX9_drum_88 : decode cX9_drum 88 = .ok (.iconst 1, 1) := by decide +kernel
theorem dX9_drum_89 : decode cX9_drum 89 = .ok (.if_icmp .ne 8, 3) := by decide +kernel
theorem dX9_drum_92 : decode cX9_drum 92 = .ok (.bipush 6, 2) := by decide +kernel
theorem dX9_drum_94 : decode cX9_drum 94 = .ok (.goto 4, 3) := by decide +kernel
theorem dX9_drum_97 : decode cX9_drum 97 = .ok (.iconst 4, 1) := by decide +kernel
theorem dX9_drum_98 : decode cX9_drum 98 = .ok (.aload_n 0, 1) := by decide +kernel
theorem dX9_drum_99 : decode cX9_drum 99 = .ok (.getfield 16, 3) := by decide +kernel
theorem dX9_drum_102 : decode cX9_drum 102 = .ok (.iconst 0, 1) := by decide +kernel
theorem dX9_drum_103 : decode cX9_drum 103 = .ok (.iaload, 1) := by decide +kernel
theorem dX9_drum_104 : decode cX9_drum 104 = .ok (.isub, 1) := by decide +kernel
theorem dX9_drum_105 : decode cX9_drum 105 = .ok (.ireturn, 1) := by decide +kernel
theorem dX9_kind_0 : decode cX9_kind 0 = .ok (.aload_n 0, 1) := by decide +kernel
theorem dX9_kind_1 : decode cX9_kind 1 = .ok (.iload_n 1, 1) := by decide +kernel
theorem dX9_kind_2 : decode cX9_kind 2 = .ok (.invokevirtual 198, 3) := by decide +kernel
theorem dX9_kind_5 : decode cX9_kind 5 = .ok (.ifCond .eq 12, 3) := by decide +kernel
theorem dX9_kind_8 : decode cX9_kind 8 = .ok (.aload_n 0, 1) := by decide +kernel
theorem dX9_kind_9 : decode cX9_kind 9 = .ok (.getfield 13, 3) := by decide +kernel
theorem dX9_kind_12 : decode cX9_kind 12 = .ok (.iload_n 1, 1) := by decide +kernel
theorem dX9_kind_13 : decode cX9_kind 13 = .ok (.iaload, 1) := by decide +kernel
theorem dX9_kind_14 : decode cX9_kind 14 = .ok (.goto 4, 3) := by decide +kernel
theorem dX9_kind_17 : decode cX9_kind 17 = .ok (.iconst (-1), 1) := by decide +kernel
theorem dX9_kind_18 : decode cX9_kind 18 = .ok (.ireturn, 1) := by decide +kernel
theorem dX9_traveller_0 : decode cX9_traveller 0 = .ok (.aload_n 0, 1) := by decide +kernel
theorem dX9_traveller_1 : decode cX9_traveller 1 = .ok (.iload_n 1, 1) := by decide +kernel
theorem dX9_traveller_2 : decode cX9_traveller 2 = .ok (.invokevirtual 203, 3) := by decide +kernel
theorem dX9_traveller_5 : decode cX9_traveller 5 = .ok (.ifCond .eq 32, 3) := by decide +kernel
theorem dX9_traveller_8 : decode cX9_traveller 8 = .ok (.iload_n 2, 1) := by decide +kernel
theorem dX9_traveller_9 : decode cX9_traveller 9 = .ok (.i2l, 1) := by decide +kernel
theorem dX9_traveller_10 : decode cX9_traveller 10 = .ok (.lconst 0, 1) := by decide +kernel
theorem dX9_traveller_11 : decode cX9_traveller 11 = .ok (.ldc2_w 206, 3) := by decide +kernel
theorem dX9_traveller_14 : decode cX9_traveller 14 = .ok (.invokestatic 114, 3) := by decide +kernel
theorem dX9_traveller_17 : decode cX9_traveller 17 = .ok (.ifCond .eq 20, 3) := by decide +kernel
theorem dX9_traveller_20 : decode cX9_traveller 20 = .ok (.aload_n 0, 1) := by decide +kernel
theorem dX9_traveller_21 : decode cX9_traveller 21 = .ok (.getfield 16, 3) := by decide +kernel
theorem dX9_traveller_24 : decode cX9_traveller 24 = .ok (.sipush 146, 3) := by decide +kernel
theorem dX9_traveller_27 : decode cX9_traveller 27 = .ok (.iconst 4, 1) := by decide +kernel
theorem dX9_traveller_28 : decode cX9_traveller 28 = .ok (.iload_n 2, 1) := by decide +kernel
theorem dX9_traveller_29 : decode cX9_traveller 29 = .ok (.imul, 1) := by decide +kernel
theorem dX9_traveller_30 : decode cX9_traveller 30 = .ok (.iadd, 1) := by decide +kernel
theorem dX9_traveller_31 : decode cX9_traveller 31 = .ok (.iload_n 1, 1) := by decide +kernel
theorem dX9_traveller_32 : decode cX9_traveller 32 = .ok (.iadd, 1) := by decide +kernel
theorem dX9_traveller_33 : decode cX9_traveller 33 = .ok (.iaload, 1) := by decide +kernel
theorem dX9_traveller_34 : decode cX9_traveller 34 = .ok (.goto 4, 3) := by decide +kernel
theorem dX9_traveller_37 : decode cX9_traveller 37 = .ok (.iconst (-1), 1) := by decide +kernel
theorem dX9_traveller_38 : decode cX9_traveller 38 = .ok (.ireturn, 1) := by decide +kernel
theorem dX9_route_0 : decode cX9_route 0 = .ok (.aload_n 0, 1) := by decide +kernel
theorem dX9_route_1 : decode cX9_route 1 = .ok (.iload_n 1, 1) := by decide +kernel
theorem dX9_route_2 : decode cX9_route 2 = .ok (.invokevirtual 198, 3) := by decide +kernel
theorem dX9_route_5 : decode cX9_route 5 = .ok (.ifCond .eq 30, 3) := by decide +kernel
theorem dX9_route_8 : decode cX9_route 8 = .ok (.aload_n 0, 1) := by decide +kernel
theorem dX9_route_9 : decode cX9_route 9 = .ok (.iload_n 2, 1) := by decide +kernel
theorem dX9_route_10 : decode cX9_route 10 = .ok (.invokevirtual 195, 3) := by decide +kernel
theorem dX9_route_13 : decode cX9_route 13 = .ok (.ifCond .eq 22, 3) := by decide +kernel
theorem dX9_route_16 : decode cX9_route 16 = .ok (.aload_n 0, 1) := by decide +kernel
theorem dX9_route_17 : decode cX9_route 17 = .ok (.iload_n 3, 1) := by decide +kernel
theorem dX9_route_18 : decode cX9_route 18 = .ok (.invokevirtual 195, 3) := by decide +kernel
theorem dX9_route_21 : decode cX9_route 21 = .ok (.ifCond .eq 14, 3) := by decide +kernel
theorem dX9_route_24 : decode cX9_route 24 = .ok (.iload 4, 2) := by decide +kernel
theorem dX9_route_26 : decode cX9_route 26 = .ok (.i2l, 1) := by decide +kernel
theorem dX9_route_27 : decode cX9_route 27 = .ok (.lconst 0, 1) := by decide +kernel
theorem dX9_route_28 : decode cX9_route 28 = .ok (.lconst 1, 1) := by decide +kernel
theorem dX9_route_29 : decode cX9_route 29 = .ok (.invokestatic 114, 3) := by decide +kernel
theorem dX9_route_32 : decode cX9_route 32 = .ok (.ifCond .ne 5, 3) := by decide +kernel
theorem dX9_route_35 : decode cX9_route 35 = .ok (.iconst (-1), 1) := by decide +kernel
theorem dX9_route_36 : decode cX9_route 36 = .ok (.ireturn, 1) := by decide +kernel
theorem dX9_route_37 : decode cX9_route 37 = .ok (.iload 4, 2) := by decide +kernel
theorem dX9_route_39 : decode cX9_route 39 = .ok (.ifCond .ne 17, 3) := by decide +kernel
theorem dX9_route_42 : decode cX9_route 42 = .ok (.aload_n 0, 1) := by decide +kernel
theorem dX9_route_43 : decode cX9_route 43 = .ok (.aload_n 0, 1) := by decide +kernel
theorem dX9_route_44 : decode cX9_route 44 = .ok (.getfield 16, 3) := by decide +kernel
theorem dX9_route_47 : decode cX9_route 47 = .ok (.iload_n 1, 1) := by decide +kernel
theorem dX9_route_48 : decode cX9_route 48 = .ok (.iload_n 2, 1) := by decide +kernel
theorem dX9_route_49 : decode cX9_route 49 = .ok (.iload_n 3, 1) := by decide +kernel
theorem dX9_route_50 : decode cX9_route 50 = .ok (.invokevirtual 208, 3) := by decide +kernel
theorem dX9_route_53 : decode cX9_route 53 = .ok (.goto 14, 3) := by decide +kernel
theorem dX9_route_56 : decode cX9_route 56 = .ok (.aload_n 0, 1) := by decide +kernel
theorem dX9_route_57 : decode cX9_route 57 = .ok (.aload_n 0, 1) := by decide +kernel
theorem dX9_route_58 : decode cX9_route 58 = .ok (.getfield 16, 3) := by decide +kernel
theorem dX9_route_61 : decode cX9_route 61 = .ok (.iload_n 1, 1) := by decide +kernel
theorem dX9_route_62 : decode cX9_route 62 = .ok (.iload_n 2, 1) := by decide +kernel
theorem dX9_route_63 : decode cX9_route 63 = .ok (.iload_n 3, 1) := by decide +kernel
theorem dX9_route_64 : decode cX9_route 64 = .ok (.invokevirtual 211, 3) := by decide +kernel
theorem dX9_route_67 : decode cX9_route 67 = .ok (.ireturn, 1) := by decide +kernel
theorem dX9_truth_0 : decode cX9_truth 0 = .ok (.aload_n 0, 1) := by decide +kernel
theorem dX9_truth_1 : decode cX9_truth 1 = .ok (.iload_n 1, 1) := by decide +kernel
theorem dX9_truth_2 : decode cX9_truth 2 = .ok (.invokevirtual 195, 3) := by decide +kernel
theorem dX9_truth_5 : decode cX9_truth 5 = .ok (.ifCond .eq 25, 3) := by decide +kernel
theorem dX9_truth_8 : decode cX9_truth 8 = .ok (.aload_n 0, 1) := by decide +kernel
theorem dX9_truth_9 : decode cX9_truth 9 = .ok (.iload_n 2, 1) := by decide +kernel
theorem dX9_truth_10 : decode cX9_truth 10 = .ok (.invokevirtual 195, 3) := by decide +kernel
theorem dX9_truth_13 : decode cX9_truth 13 = .ok (.ifCond .eq 17, 3) := by decide +kernel
theorem dX9_truth_16 : decode cX9_truth 16 = .ok (.aload_n 0, 1) := by decide +kernel
theorem dX9_truth_17 : decode cX9_truth 17 = .ok (.aload_n 0, 1) := by decide +kernel
theorem dX9_truth_18 : decode cX9_truth 18 = .ok (.getfield 16, 3) := by decide +kernel
theorem dX9_truth_21 : decode cX9_truth 21 = .ok (.iconst (-1), 1) := by decide +kernel
theorem dX9_truth_22 : decode cX9_truth 22 = .ok (.iload_n 1, 1) := by decide +kernel
theorem dX9_truth_23 : decode cX9_truth 23 = .ok (.iload_n 2, 1) := by decide +kernel
theorem dX9_truth_24 : decode cX9_truth 24 = .ok (.invokevirtual 208, 3) := by decide +kernel
theorem dX9_truth_27 : decode cX9_truth 27 = .ok (.goto 4, 3) := by decide +kernel
theorem dX9_truth_30 : decode cX9_truth 30 = .ok (.iconst (-1), 1) := by decide +kernel
theorem dX9_truth_31 : decode cX9_truth 31 = .ok (.ireturn, 1) := by decide +kernel
theorem dX9_oneGoes_0 : decode cX9_oneGoes 0 = .ok (.aload_n 1, 1) := by decide +kernel
theorem dX9_oneGoes_1 : decode cX9_oneGoes 1 = .ok (.sipush 158, 3) := by decide +kernel
theorem dX9_oneGoes_4 : decode cX9_oneGoes 4 = .ok (.iload_n 2, 1) := by decide +kernel
theorem dX9_oneGoes_5 : decode cX9_oneGoes 5 = .ok (.iadd, 1) := by decide +kernel
theorem dX9_oneGoes_6 : decode cX9_oneGoes 6 = .ok (.iaload, 1) := by decide +kernel
theorem dX9_oneGoes_7 : decode cX9_oneGoes 7 = .ok (.ifCond .eq 4, 3) := by decide +kernel
theorem dX9_oneGoes_10 : decode cX9_oneGoes 10 = .ok (.return_, 1) := by decide +kernel
theorem dX9_oneGoes_11 : decode cX9_oneGoes 11 = .ok (.aload_n 1, 1) := by decide +kernel
theorem dX9_oneGoes_12 : decode cX9_oneGoes 12 = .ok (.sipush 166, 3) := by decide +kernel
theorem dX9_oneGoes_15 : decode cX9_oneGoes 15 = .ok (.iload_n 2, 1) := by decide +kernel
theorem dX9_oneGoes_16 : decode cX9_oneGoes 16 = .ok (.iadd, 1) := by decide +kernel
theorem dX9_oneGoes_17 : decode cX9_oneGoes 17 = .ok (.iaload, 1) := by decide +kernel
theorem dX9_oneGoes_18 : decode cX9_oneGoes 18 = .ok (.ifCond .ne 84, 3) := by decide +kernel
theorem dX9_oneGoes_21 : decode cX9_oneGoes 21 = .ok (.aload_n 0, 1) := by decide +kernel
theorem dX9_oneGoes_22 : decode cX9_oneGoes 22 = .ok (.aload_n 1, 1) := by decide +kernel
theorem dX9_oneGoes_23 : decode cX9_oneGoes 23 = .ok (.aload_n 1, 1) := by decide +kernel
theorem dX9_oneGoes_24 : decode cX9_oneGoes 24 = .ok (.sipush 154, 3) := by decide +kernel
theorem dX9_oneGoes_27 : decode cX9_oneGoes 27 = .ok (.iload_n 2, 1) := by decide +kernel
theorem dX9_oneGoes_28 : decode cX9_oneGoes 28 = .ok (.iadd, 1) := by decide +kernel
theorem dX9_oneGoes_29 : decode cX9_oneGoes 29 = .ok (.iaload, 1) := by decide +kernel
theorem dX9_oneGoes_30 : decode cX9_oneGoes 30 = .ok (.aload_n 1, 1) := by decide +kernel
theorem dX9_oneGoes_31 : decode cX9_oneGoes 31 = .ok (.sipush 146, 3) := by decide +kernel
theorem dX9_oneGoes_34 : decode cX9_oneGoes 34 = .ok (.iload_n 2, 1) := by decide +kernel
theorem dX9_oneGoes_35 : decode cX9_oneGoes 35 = .ok (.iadd, 1) := by decide +kernel
theorem dX9_oneGoes_36 : decode cX9_oneGoes 36 = .ok (.iaload, 1) := by decide +kernel
theorem dX9_oneGoes_37 : decode cX9_oneGoes 37 = .ok (.aload_n 1, 1) := by decide +kernel
theorem dX9_oneGoes_38 : decode cX9_oneGoes 38 = .ok (.sipush 150, 3) := by decide +kernel
theorem dX9_oneGoes_41 : decode cX9_oneGoes 41 = .ok (.iload_n 2, 1) := by decide +kernel
theorem dX9_oneGoes_42 : decode cX9_oneGoes 42 = .ok (.iadd, 1) := by decide +kernel
theorem dX9_oneGoes_43 : decode cX9_oneGoes 43 = .ok (.iaload, 1) := by decide +kernel
theorem dX9_oneGoes_44 : decode cX9_oneGoes 44 = .ok (.invokevirtual 211, 3) := by decide +kernel
theorem dX9_oneGoes_47 : decode cX9_oneGoes 47 = .ok (.istore_n 3, 1) := by decide +kernel
theorem dX9_oneGoes_48 : decode cX9_oneGoes 48 = .ok (.iload_n 3, 1) := by decide +kernel
theorem dX9_oneGoes_49 : decode cX9_oneGoes 49 = .ok (.bipush (-4), 2) := by decide +kernel
theorem dX9_oneGoes_51 : decode cX9_oneGoes 51 = .ok (.if_icmp .ne 4, 3) := by decide +kernel
theorem dX9_oneGoes_54 : decode cX9_oneGoes 54 = .ok (.return_, 1) := by decide +kernel
theorem dX9_oneGoes_55 : decode cX9_oneGoes 55 = .ok (.aload_n 0, 1) := by decide +kernel
theorem dX9_oneGoes_56 : decode cX9_oneGoes 56 = .ok (.getfield 7, 3) := by decide +kernel
theorem dX9_oneGoes_59 : decode cX9_oneGoes 59 = .ok (.iload_n 3, 1) := by decide +kernel
theorem dX9_oneGoes_60 : decode cX9_oneGoes 60 = .ok (.iaload, 1) := by decide +kernel
theorem dX9_oneGoes_61 : decode cX9_oneGoes 61 = .ok (.aload_n 1, 1) := by decide +kernel
theorem dX9_oneGoes_62 : decode cX9_oneGoes 62 = .ok (.iconst 0, 1) := by decide +kernel
theorem dX9_oneGoes_63 : decode cX9_oneGoes 63 = .ok (.iaload, 1) := by decide +kernel
theorem dX9_oneGoes_64 : decode cX9_oneGoes 64 = .ok (.invokestatic 184, 3) := by decide +kernel
theorem dX9_oneGoes_67 : decode cX9_oneGoes 67 = .ok (.istore 4, 2) := by decide +kernel
theorem dX9_oneGoes_69 : decode cX9_oneGoes 69 = .ok (.iload 4, 2) := by decide +kernel
theorem dX9_oneGoes_71 : decode cX9_oneGoes 71 = .ok (.ldc 176, 2) := by decide +kernel
theorem dX9_oneGoes_73 : decode cX9_oneGoes 73 = .ok (.if_icmp .lt 12, 3) := by decide +kernel
theorem dX9_oneGoes_76 : decode cX9_oneGoes 76 = .ok (.aload_n 1, 1) := by decide +kernel
theorem dX9_oneGoes_77 : decode cX9_oneGoes 77 = .ok (.sipush 158, 3) := by decide +kernel
theorem dX9_oneGoes_80 : decode cX9_oneGoes 80 = .ok (.iload_n 2, 1) := by decide +kernel
theorem dX9_oneGoes_81 : decode cX9_oneGoes 81 = .ok (.iadd, 1) := by decide +kernel
theorem dX9_oneGoes_82 : decode cX9_oneGoes 82 = .ok (.iconst 2, 1) := by decide +kernel
theorem dX9_oneGoes_83 : decode cX9_oneGoes 83 = .ok (.iastore, 1) := by decide +kernel
theorem dX9_oneGoes_84 : decode cX9_oneGoes 84 = .ok (.return_, 1) := by decide +kernel
theorem dX9_oneGoes_85 : decode cX9_oneGoes 85 = .ok (.aload_n 1, 1) := by decide +kernel
theorem dX9_oneGoes_86 : decode cX9_oneGoes 86 = .ok (.sipush 162, 3) := by decide +kernel
theorem dX9_oneGoes_89 : decode cX9_oneGoes 89 = .ok (.iload_n 2, 1) := by decide +kernel
theorem dX9_oneGoes_90 : decode cX9_oneGoes 90 = .ok (.iadd, 1) := by decide +kernel
theorem dX9_oneGoes_91 : decode cX9_oneGoes 91 = .ok (.iload_n 3, 1) := by decide +kernel
theorem dX9_oneGoes_92 : decode cX9_oneGoes 92 = .ok (.iastore, 1) := by decide +kernel
theorem dX9_oneGoes_93 : decode cX9_oneGoes 93 = .ok (.aload_n 1, 1) := by decide +kernel
theorem dX9_oneGoes_94 : decode cX9_oneGoes 94 = .ok (.sipush 166, 3) := by decide +kernel
theorem dX9_oneGoes_97 : decode cX9_oneGoes 97 = .ok (.iload_n 2, 1) := by decide +kernel
theorem dX9_oneGoes_98 : decode cX9_oneGoes 98 = .ok (.iadd, 1) := by decide +kernel
theorem dX9_oneGoes_99 : decode cX9_oneGoes 99 = .ok (.iload 4, 2) := by decide +kernel
theorem dX9_oneGoes_101 : decode cX9_oneGoes 101 = .ok (.iastore, 1) := by decide +kernel
theorem dX9_oneGoes_102 : decode cX9_oneGoes 102 = .ok (.aload_n 1, 1) := by decide +kernel
theorem dX9_oneGoes_103 : decode cX9_oneGoes 103 = .ok (.sipush 166, 3) := by decide +kernel
theorem dX9_oneGoes_106 : decode cX9_oneGoes 106 = .ok (.iload_n 2, 1) := by decide +kernel
theorem dX9_oneGoes_107 : decode cX9_oneGoes 107 = .ok (.iadd, 1) := by decide +kernel
theorem dX9_oneGoes_108 : decode cX9_oneGoes 108 = .ok (.dup2, 1) := by decide +kernel
theorem dX9_oneGoes_109 : decode cX9_oneGoes 109 = .ok (.iaload, 1) := by decide +kernel
theorem dX9_oneGoes_110 : decode cX9_oneGoes 110 = .ok (.iconst 1, 1) := by decide +kernel
theorem dX9_oneGoes_111 : decode cX9_oneGoes 111 = .ok (.isub, 1) := by decide +kernel
theorem dX9_oneGoes_112 : decode cX9_oneGoes 112 = .ok (.iastore, 1) := by decide +kernel
theorem dX9_oneGoes_113 : decode cX9_oneGoes 113 = .ok (.aload_n 1, 1) := by decide +kernel
theorem dX9_oneGoes_114 : decode cX9_oneGoes 114 = .ok (.sipush 166, 3) := by decide +kernel
theorem dX9_oneGoes_117 : decode cX9_oneGoes 117 = .ok (.iload_n 2, 1) := by decide +kernel
theorem dX9_oneGoes_118 : decode cX9_oneGoes 118 = .ok (.iadd, 1) := by decide +kernel
theorem dX9_oneGoes_119 : decode cX9_oneGoes 119 = .ok (.iaload, 1) := by decide +kernel
theorem dX9_oneGoes_120 : decode cX9_oneGoes 120 = .ok (.ifCond .ne 55, 3) := by decide +kernel
theorem dX9_oneGoes_123 : decode cX9_oneGoes 123 = .ok (.aload_n 1, 1) := by decide +kernel
theorem dX9_oneGoes_124 : decode cX9_oneGoes 124 = .ok (.sipush 146, 3) := by decide +kernel
theorem dX9_oneGoes_127 : decode cX9_oneGoes 127 = .ok (.iload_n 2, 1) := by decide +kernel
theorem dX9_oneGoes_128 : decode cX9_oneGoes 128 = .ok (.iadd, 1) := by decide +kernel
theorem dX9_oneGoes_129 : decode cX9_oneGoes 129 = .ok (.aload_n 1, 1) := by decide +kernel
theorem dX9_oneGoes_130 : decode cX9_oneGoes 130 = .ok (.sipush 162, 3) := by decide +kernel
theorem dX9_oneGoes_133 : decode cX9_oneGoes 133 = .ok (.iload_n 2, 1) := by decide +kernel
theorem dX9_oneGoes_134 : decode cX9_oneGoes 134 = .ok (.iadd, 1) := by decide +kernel
theorem dX9_oneGoes_135 : decode cX9_oneGoes 135 = .ok (.iaload, 1) := by decide +kernel
theorem dX9_oneGoes_136 : decode cX9_oneGoes 136 = .ok (.iastore, 1) := by decide +kernel
theorem dX9_oneGoes_137 : decode cX9_oneGoes 137 = .ok (.aload_n 1, 1) := by decide +kernel
theorem dX9_oneGoes_138 : decode cX9_oneGoes 138 = .ok (.sipush 162, 3) := by decide +kernel
theorem dX9_oneGoes_141 : decode cX9_oneGoes 141 = .ok (.iload_n 2, 1) := by decide +kernel
theorem dX9_oneGoes_142 : decode cX9_oneGoes 142 = .ok (.iadd, 1) := by decide +kernel
theorem dX9_oneGoes_143 : decode cX9_oneGoes 143 = .ok (.bipush (-4), 2) := by decide +kernel
theorem dX9_oneGoes_145 : decode cX9_oneGoes 145 = .ok (.iastore, 1) := by decide +kernel
theorem dX9_oneGoes_146 : decode cX9_oneGoes 146 = .ok (.aload_n 1, 1) := by decide +kernel
theorem dX9_oneGoes_147 : decode cX9_oneGoes 147 = .ok (.sipush 158, 3) := by decide +kernel
theorem dX9_oneGoes_150 : decode cX9_oneGoes 150 = .ok (.iload_n 2, 1) := by decide +kernel
theorem dX9_oneGoes_151 : decode cX9_oneGoes 151 = .ok (.iadd, 1) := by decide +kernel
theorem dX9_oneGoes_152 : decode cX9_oneGoes 152 = .ok (.aload_n 1, 1) := by decide +kernel
theorem dX9_oneGoes_153 : decode cX9_oneGoes 153 = .ok (.sipush 146, 3) := by decide +kernel
theorem dX9_oneGoes_156 : decode cX9_oneGoes 156 = .ok (.iload_n 2, 1) := by decide +kernel
theorem dX9_oneGoes_157 : decode cX9_oneGoes 157 = .ok (.iadd, 1) := by decide +kernel
theorem dX9_oneGoes_158 : decode cX9_oneGoes 158 = .ok (.iaload, 1) := by decide +kernel
theorem dX9_oneGoes_159 : decode cX9_oneGoes 159 = .ok (.aload_n 1, 1) := by decide +kernel
theorem dX9_oneGoes_160 : decode cX9_oneGoes 160 = .ok (.sipush 150, 3) := by decide +kernel
theorem dX9_oneGoes_163 : decode cX9_oneGoes 163 = .ok (.iload_n 2, 1) := by decide +kernel
theorem dX9_oneGoes_164 : decode cX9_oneGoes 164 = .ok (.iadd, 1) := by decide +kernel
theorem dX9_oneGoes_165 : decode cX9_oneGoes 165 = .ok (.iaload, 1) := by decide +kernel
theorem dX9_oneGoes_166 : decode cX9_oneGoes 166 = .ok (.if_icmp .ne 7, 3) := by decide +kernel
theorem dX9_oneGoes_169 : decode cX9_oneGoes 169 = .ok (.iconst 1, 1) := by decide +kernel
theorem dX9_oneGoes_170 : decode cX9_oneGoes 170 = .ok (.goto 4, 3) := by decide +kernel
theorem dX9_oneGoes_173 : decode cX9_oneGoes 173 = .ok (.iconst 0, 1) := by decide +kernel
theorem dX9_oneGoes_174 : decode cX9_oneGoes 174 = .ok (.iastore, 1) := by decide +kernel
theorem dX9_oneGoes_175 : decode cX9_oneGoes 175 = .ok (.return_, 1) := by decide +kernel
theorem dX9_hourGoes_0 : decode cX9_hourGoes 0 = .ok (.iconst 0, 1) := by decide +kernel
theorem dX9_hourGoes_1 : decode cX9_hourGoes 1 = .ok (.istore_n 2, 1) := by decide +kernel
theorem dX9_hourGoes_2 : decode cX9_hourGoes 2 = .ok (.iload_n 2, 1) := by decide +kernel
theorem dX9_hourGoes_3 : decode cX9_hourGoes 3 = .ok (.aload_n 0, 1) := by decide +kernel
theorem dX9_hourGoes_4 : decode cX9_hourGoes 4 = .ok (.getfield 94, 3) := by decide +kernel
theorem dX9_hourGoes_7 : decode cX9_hourGoes 7 = .ok (.if_icmp .ge 15, 3) := by decide +kernel
theorem dX9_hourGoes_10 : decode cX9_hourGoes 10 = .ok (.aload_n 0, 1) := by decide +kernel
theorem dX9_hourGoes_11 : decode cX9_hourGoes 11 = .ok (.aload_n 1, 1) := by decide +kernel
theorem dX9_hourGoes_12 : decode cX9_hourGoes 12 = .ok (.iload_n 2, 1) := by decide +kernel
theorem dX9_hourGoes_13 : decode cX9_hourGoes 13 = .ok (.invokevirtual 214, 3) := by decide +kernel
theorem dX9_hourGoes_16 : decode cX9_hourGoes 16 = .ok (.iinc 2 1, 3) := by decide +kernel
theorem dX9_hourGoes_19 : decode cX9_hourGoes 19 = .ok (.goto (-17), 3) := by decide +kernel
theorem dX9_hourGoes_22 : decode cX9_hourGoes 22 = .ok (.aload_n 1, 1) := by decide +kernel
theorem dX9_hourGoes_23 : decode cX9_hourGoes 23 = .ok (.iconst 1, 1) := by decide +kernel
theorem dX9_hourGoes_24 : decode cX9_hourGoes 24 = .ok (.dup2, 1) := by decide +kernel
theorem dX9_hourGoes_25 : decode cX9_hourGoes 25 = .ok (.iaload, 1) := by decide +kernel
theorem dX9_hourGoes_26 : decode cX9_hourGoes 26 = .ok (.iconst 1, 1) := by decide +kernel
theorem dX9_hourGoes_27 : decode cX9_hourGoes 27 = .ok (.iadd, 1) := by decide +kernel
theorem dX9_hourGoes_28 : decode cX9_hourGoes 28 = .ok (.iastore, 1) := by decide +kernel
theorem dX9_hourGoes_29 : decode cX9_hourGoes 29 = .ok (.return_, 1) := by decide +kernel
theorem dX9_remember_0 : decode cX9_remember 0 = .ok (.aload_n 0, 1) := by decide +kernel
theorem dX9_remember_1 : decode cX9_remember 1 = .ok (.getfield 101, 3) := by decide +kernel
theorem dX9_remember_4 : decode cX9_remember 4 = .ok (.bipush 8, 2) := by decide +kernel
theorem dX9_remember_6 : decode cX9_remember 6 = .ok (.if_icmp .ne 44, 3) := by decide +kernel
theorem dX9_remember_9 : decode cX9_remember 9 = .ok (.iconst 0, 1) := by decide +kernel
theorem dX9_remember_10 : decode cX9_remember 10 = .ok (.istore_n 1, 1) := by decide +kernel
theorem dX9_remember_11 : decode cX9_remember 11 = .ok (.iload_n 1, 1) := by decide +kernel
theorem dX9_remember_12 : decode cX9_remember 12 = .ok (.sipush 1190, 3) := by decide +kernel
theorem dX9_remember_15 : decode cX9_remember 15 = .ok (.if_icmp .ge 25, 3) := by decide +kernel
theorem dX9_remember_18 : decode cX9_remember 18 = .ok (.aload_n 0, 1) := by decide +kernel
theorem dX9_remember_19 : decode cX9_remember 19 = .ok (.getfield 22, 3) := by decide +kernel
theorem dX9_remember_22 : decode cX9_remember 22 = .ok (.iload_n 1, 1) := by decide +kernel
theorem dX9_remember_23 : decode cX9_remember 23 = .ok (.aload_n 0, 1) := by decide +kernel
theorem dX9_remember_24 : decode cX9_remember 24 = .ok (.getfield 22, 3) := by decide +kernel
theorem dX9_remember_27 : decode cX9_remember 27 = .ok (.iload_n 1, 1) := by decide +kernel
theorem dX9_remember_28 : decode cX9_remember 28 = .ok (.sipush 170, 3) := by decide +kernel
theorem dX9_remember_31 : decode cX9_remember 31 = .ok (.iadd, 1) := by decide +kernel
theorem dX9_remember_32 : decode cX9_remember 32 = .ok (.iaload, 1) := by decide +kernel
theorem dX9_remember_33 : decode cX9_remember 33 = .ok (.iastore, 1) := by decide +kernel
theorem dX9_remember_34 : decode cX9_remember 34 = .ok (.iinc 1 1, 3) := by decide +kernel
theorem dX9_remember_37 : decode cX9_remember 37 = .ok (.goto (-26), 3) := by decide +kernel
theorem dX9_remember_40 : decode cX9_remember 40 = .ok (.aload_n 0, 1) := by decide +kernel
theorem dX9_remember_41 : decode cX9_remember 41 = .ok (.dup, 1) := by decide +kernel
theorem dX9_remember_42 : decode cX9_remember 42 = .ok (.getfield 101, 3) := by decide +kernel
theorem dX9_remember_45 : decode cX9_remember 45 = .ok (.iconst 1, 1) := by decide +kernel
theorem dX9_remember_46 : decode cX9_remember 46 = .ok (.isub, 1) := by decide +kernel
theorem dX9_remember_47 : decode cX9_remember 47 = .ok (.putfield 101, 3) := by decide +kernel
theorem dX9_remember_50 : decode cX9_remember 50 = .ok (.aload_n 0, 1) := by decide +kernel
theorem dX9_remember_51 : decode cX9_remember 51 = .ok (.getfield 16, 3) := by decide +kernel
theorem dX9_remember_54 : decode cX9_remember 54 = .ok (.iconst 0, 1) := by decide +kernel
theorem dX9_remember_55 : decode cX9_remember 55 = .ok (.aload_n 0, 1) := by decide +kernel
theorem dX9_remember_56 : decode cX9_remember 56 = .ok (.getfield 22, 3) := by decide +kernel
theorem dX9_remember_59 : decode cX9_remember 59 = .ok (.sipush 170, 3) := by decide +kernel
theorem dX9_remember_62 : decode cX9_remember 62 = .ok (.aload_n 0, 1) := by decide +kernel
theorem dX9_remember_63 : decode cX9_remember 63 = .ok (.getfield 101, 3) := by decide +kernel
theorem dX9_remember_66 : decode cX9_remember 66 = .ok (.imul, 1) := by decide +kernel
theorem dX9_remember_67 : decode cX9_remember 67 = .ok (.sipush 170, 3) := by decide +kernel
theorem dX9_remember_70 : decode cX9_remember 70 = .ok (.invokestatic 97, 3) := by decide +kernel
theorem dX9_remember_73 : decode cX9_remember 73 = .ok (.aload_n 0, 1) := by decide +kernel
theorem dX9_remember_74 : decode cX9_remember 74 = .ok (.dup, 1) := by decide +kernel
theorem dX9_remember_75 : decode cX9_remember 75 = .ok (.getfield 101, 3) := by decide +kernel
theorem dX9_remember_78 : decode cX9_remember 78 = .ok (.iconst 1, 1) := by decide +kernel
theorem dX9_remember_79 : decode cX9_remember 79 = .ok (.iadd, 1) := by decide +kernel
theorem dX9_remember_80 : decode cX9_remember 80 = .ok (.putfield 101, 3) := by decide +kernel
theorem dX9_remember_83 : decode cX9_remember 83 = .ok (.return_, 1) := by decide +kernel
theorem dX9_pass_0 : decode cX9_pass 0 = .ok (.iload_n 1, 1) := by decide +kernel
theorem dX9_pass_1 : decode cX9_pass 1 = .ok (.i2l, 1) := by decide +kernel
theorem dX9_pass_2 : decode cX9_pass 2 = .ok (.lconst 1, 1) := by decide +kernel
theorem dX9_pass_3 : decode cX9_pass 3 = .ok (.ldc2_w 218, 3) := by decide +kernel
theorem dX9_pass_6 : decode cX9_pass 6 = .ok (.invokestatic 114, 3) := by decide +kernel
theorem dX9_pass_9 : decode cX9_pass 9 = .ok (.ifCond .ne 5, 3) := by decide +kernel
theorem dX9_pass_12 : decode cX9_pass 12 = .ok (.iconst (-1), 1) := by decide +kernel
theorem dX9_pass_13 : decode cX9_pass 13 = .ok (.ireturn, 1) := by decide +kernel
theorem dX9_pass_14 : decode cX9_pass 14 = .ok (.aload_n 0, 1) := by decide +kernel
theorem dX9_pass_15 : decode cX9_pass 15 = .ok (.invokevirtual 220, 3) := by decide +kernel
theorem dX9_pass_18 : decode cX9_pass 18 = .ok (.iconst 0, 1) := by decide +kernel
theorem dX9_pass_19 : decode cX9_pass 19 = .ok (.istore_n 2, 1) := by decide +kernel
theorem dX9_pass_20 : decode cX9_pass 20 = .ok (.iload_n 2, 1) := by decide +kernel
theorem dX9_pass_21 : decode cX9_pass 21 = .ok (.iload_n 1, 1) := by decide +kernel
theorem dX9_pass_22 : decode cX9_pass 22 = .ok (.if_icmp .ge 17, 3) := by decide +kernel
theorem dX9_pass_25 : decode cX9_pass 25 = .ok (.aload_n 0, 1) := by decide +kernel
theorem dX9_pass_26 : decode cX9_pass 26 = .ok (.aload_n 0, 1) := by decide +kernel
theorem dX9_pass_27 : decode cX9_pass 27 = .ok (.getfield 16, 3) := by decide +kernel
theorem dX9_pass_30 : decode cX9_pass 30 = .ok (.invokevirtual 223, 3) := by decide +kernel
theorem dX9_pass_33 : decode cX9_pass 33 = .ok (.iinc 2 1, 3) := by decide +kernel
theorem dX9_pass_36 : decode cX9_pass 36 = .ok (.goto (-16), 3) := by decide +kernel
theorem dX9_pass_39 : decode cX9_pass 39 = .ok (.aload_n 0, 1) := by decide +kernel
theorem dX9_pass_40 : decode cX9_pass 40 = .ok (.getfield 16, 3) := by decide +kernel
theorem dX9_pass_43 : decode cX9_pass 43 = .ok (.iconst 1, 1) := by decide +kernel
theorem dX9_pass_44 : decode cX9_pass 44 = .ok (.iaload, 1) := by decide +kernel
theorem dX9_pass_45 : decode cX9_pass 45 = .ok (.ireturn, 1) := by decide +kernel
theorem dX9_rain_0 : decode cX9_rain 0 = .ok (.iload_n 1, 1) := by decide +kernel
theorem dX9_rain_1 : decode cX9_rain 1 = .ok (.i2l, 1) := by decide +kernel
theorem dX9_rain_2 : decode cX9_rain 2 = .ok (.lconst 0, 1) := by decide +kernel
theorem dX9_rain_3 : decode cX9_rain 3 = .ok (.ldc2_w 227, 3) := by decide +kernel
theorem dX9_rain_6 : decode cX9_rain 6 = .ok (.invokestatic 114, 3) := by decide +kernel
theorem dX9_rain_9 : decode cX9_rain 9 = .ok (.ifCond .ne 5, 3) := by decide +kernel
theorem dX9_rain_12 : decode cX9_rain 12 = .ok (.iconst (-1), 1) := by decide +kernel
theorem dX9_rain_13 : decode cX9_rain 13 = .ok (.ireturn, 1) := by decide +kernel
theorem dX9_rain_14 : decode cX9_rain 14 = .ok (.aload_n 0, 1) := by decide +kernel
theorem dX9_rain_15 : decode cX9_rain 15 = .ok (.invokevirtual 220, 3) := by decide +kernel
theorem dX9_rain_18 : decode cX9_rain 18 = .ok (.aload_n 0, 1) := by decide +kernel
theorem dX9_rain_19 : decode cX9_rain 19 = .ok (.getfield 16, 3) := by decide +kernel
theorem dX9_rain_22 : decode cX9_rain 22 = .ok (.iconst 0, 1) := by decide +kernel
theorem dX9_rain_23 : decode cX9_rain 23 = .ok (.iaload, 1) := by decide +kernel
theorem dX9_rain_24 : decode cX9_rain 24 = .ok (.istore_n 2, 1) := by decide +kernel
theorem dX9_rain_25 : decode cX9_rain 25 = .ok (.aload_n 0, 1) := by decide +kernel
theorem dX9_rain_26 : decode cX9_rain 26 = .ok (.getfield 16, 3) := by decide +kernel
theorem dX9_rain_29 : decode cX9_rain 29 = .ok (.iconst 0, 1) := by decide +kernel
theorem dX9_rain_30 : decode cX9_rain 30 = .ok (.iload_n 1, 1) := by decide +kernel
theorem dX9_rain_31 : decode cX9_rain 31 = .ok (.iastore, 1) := by decide +kernel
theorem dX9_rain_32 : decode cX9_rain 32 = .ok (.iload_n 2, 1) := by decide +kernel
theorem dX9_rain_33 : decode cX9_rain 33 = .ok (.ireturn, 1) := by decide +kernel
theorem dX9_retune_0 : decode cX9_retune 0 = .ok (.aload_n 0, 1) := by decide +kernel
theorem dX9_retune_1 : decode cX9_retune 1 = .ok (.iload_n 1, 1) := by decide +kernel
theorem dX9_retune_2 : decode cX9_retune 2 = .ok (.invokevirtual 198, 3) := by decide +kernel
theorem dX9_retune_5 : decode cX9_retune 5 = .ok (.ifCond .eq 23, 3) := by decide +kernel
theorem dX9_retune_8 : decode cX9_retune 8 = .ok (.aload_n 0, 1) := by decide +kernel
theorem dX9_retune_9 : decode cX9_retune 9 = .ok (.iload_n 2, 1) := by decide +kernel
theorem dX9_retune_10 : decode cX9_retune 10 = .ok (.invokevirtual 195, 3) := by decide +kernel
theorem dX9_retune_13 : decode cX9_retune 13 = .ok (.ifCond .eq 15, 3) := by decide +kernel
theorem dX9_retune_16 : decode cX9_retune 16 = .ok (.iload_n 3, 1) := by decide +kernel
theorem dX9_retune_17 : decode cX9_retune 17 = .ok (.i2l, 1) := by decide +kernel
theorem dX9_retune_18 : decode cX9_retune 18 = .ok (.lconst 0, 1) := by decide +kernel
theorem dX9_retune_19 : decode cX9_retune 19 = .ok (.ldc2_w 227, 3) := by decide +kernel
theorem dX9_retune_22 : decode cX9_retune 22 = .ok (.invokestatic 114, 3) := by decide +kernel
theorem dX9_retune_25 : decode cX9_retune 25 = .ok (.ifCond .ne 5, 3) := by decide +kernel
theorem dX9_retune_28 : decode cX9_retune 28 = .ok (.iconst (-1), 1) := by decide +kernel
theorem dX9_retune_29 : decode cX9_retune 29 = .ok (.ireturn, 1) := by decide +kernel
theorem dX9_retune_30 : decode cX9_retune 30 = .ok (.aload_n 0, 1) := by decide +kernel
theorem dX9_retune_31 : decode cX9_retune 31 = .ok (.invokevirtual 220, 3) := by decide +kernel
theorem dX9_retune_34 : decode cX9_retune 34 = .ok (.aload_n 0, 1) := by decide +kernel
theorem dX9_retune_35 : decode cX9_retune 35 = .ok (.getfield 16, 3) := by decide +kernel
theorem dX9_retune_38 : decode cX9_retune 38 = .ok (.iload_n 1, 1) := by decide +kernel
theorem dX9_retune_39 : decode cX9_retune 39 = .ok (.iload_n 2, 1) := by decide +kernel
theorem dX9_retune_40 : decode cX9_retune 40 = .ok (.invokestatic 172, 3) := by decide +kernel
theorem dX9_retune_43 : decode cX9_retune 43 = .ok (.istore 4, 2) := by decide +kernel
theorem dX9_retune_45 : decode cX9_retune 45 = .ok (.aload_n 0, 1) := by decide +kernel
theorem dX9_retune_46 : decode cX9_retune 46 = .ok (.getfield 16, 3) := by decide +kernel
theorem dX9_retune_49 : decode cX9_retune 49 = .ok (.iconst 2, 1) := by decide +kernel
theorem dX9_retune_50 : decode cX9_retune 50 = .ok (.bipush 36, 2) := by decide +kernel
theorem dX9_retune_52 : decode cX9_retune 52 = .ok (.iload_n 1, 1) := by decide +kernel
theorem dX9_retune_53 : decode cX9_retune 53 = .ok (.imul, 1) := by decide +kernel
theorem dX9_retune_54 : decode cX9_retune 54 = .ok (.iadd, 1) := by decide +kernel
theorem dX9_retune_55 : decode cX9_retune 55 = .ok (.iload_n 2, 1) := by decide +kernel
theorem dX9_retune_56 : decode cX9_retune 56 = .ok (.iadd, 1) := by decide +kernel
theorem dX9_retune_57 : decode cX9_retune 57 = .ok (.iload_n 3, 1) := by decide +kernel
theorem dX9_retune_58 : decode cX9_retune 58 = .ok (.iastore, 1) := by decide +kernel
theorem dX9_retune_59 : decode cX9_retune 59 = .ok (.iload 4, 2) := by decide +kernel
theorem dX9_retune_61 : decode cX9_retune 61 = .ok (.ireturn, 1) := by decide +kernel
theorem dX9_give_0 : decode cX9_give 0 = .ok (.aload_n 0, 1) := by decide +kernel
theorem dX9_give_1 : decode cX9_give 1 = .ok (.iload_n 1, 1) := by decide +kernel
theorem dX9_give_2 : decode cX9_give 2 = .ok (.invokevirtual 203, 3) := by decide +kernel
theorem dX9_give_5 : decode cX9_give 5 = .ok (.ifCond .eq 11, 3) := by decide +kernel
theorem dX9_give_8 : decode cX9_give 8 = .ok (.aload_n 0, 1) := by decide +kernel
theorem dX9_give_9 : decode cX9_give 9 = .ok (.iload_n 2, 1) := by decide +kernel
theorem dX9_give_10 : decode cX9_give 10 = .ok (.invokevirtual 198, 3) := by decide +kernel
theorem dX9_give_13 : decode cX9_give 13 = .ok (.ifCond .ne 5, 3) := by decide +kernel
theorem dX9_give_16 : decode cX9_give 16 = .ok (.iconst (-1), 1) := by decide +kernel
theorem dX9_give_17 : decode cX9_give 17 = .ok (.ireturn, 1) := by decide +kernel
theorem dX9_give_18 : decode cX9_give 18 = .ok (.aload_n 0, 1) := by decide +kernel
theorem dX9_give_19 : decode cX9_give 19 = .ok (.getfield 16, 3) := by decide +kernel
theorem dX9_give_22 : decode cX9_give 22 = .ok (.sipush 158, 3) := by decide +kernel
theorem dX9_give_25 : decode cX9_give 25 = .ok (.iload_n 1, 1) := by decide +kernel
theorem dX9_give_26 : decode cX9_give 26 = .ok (.iadd, 1) := by decide +kernel
theorem dX9_give_27 : decode cX9_give 27 = .ok (.iaload, 1) := by decide +kernel
theorem dX9_give_28 : decode cX9_give 28 = .ok (.ifCond .eq 6, 3) := by decide +kernel
theorem dX9_give_31 : decode cX9_give 31 = .ok (.bipush (-2), 2) := by decide +kernel
theorem dX9_give_33 : decode cX9_give 33 = .ok (.ireturn, 1) := by decide +kernel
theorem dX9_give_34 : decode cX9_give 34 = .ok (.aload_n 0, 1) := by decide +kernel
theorem dX9_give_35 : decode cX9_give 35 = .ok (.invokevirtual 220, 3) := by decide +kernel
theorem dX9_give_38 : decode cX9_give 38 = .ok (.aload_n 0, 1) := by decide +kernel
theorem dX9_give_39 : decode cX9_give 39 = .ok (.getfield 16, 3) := by decide +kernel
theorem dX9_give_42 : decode cX9_give 42 = .ok (.sipush 154, 3) := by decide +kernel
theorem dX9_give_45 : decode cX9_give 45 = .ok (.iload_n 1, 1) := by decide +kernel
theorem dX9_give_46 : decode cX9_give 46 = .ok (.iadd, 1) := by decide +kernel
theorem dX9_give_47 : decode cX9_give 47 = .ok (.iaload, 1) := by decide +kernel
theorem dX9_give_48 : decode cX9_give 48 = .ok (.istore_n 3, 1) := by decide +kernel
theorem dX9_give_49 : decode cX9_give 49 = .ok (.aload_n 0, 1) := by decide +kernel
theorem dX9_give_50 : decode cX9_give 50 = .ok (.getfield 16, 3) := by decide +kernel
theorem dX9_give_53 : decode cX9_give 53 = .ok (.sipush 154, 3) := by decide +kernel
theorem dX9_give_56 : decode cX9_give 56 = .ok (.iload_n 1, 1) := by decide +kernel
theorem dX9_give_57 : decode cX9_give 57 = .ok (.iadd, 1) := by decide +kernel
theorem dX9_give_58 : decode cX9_give 58 = .ok (.iload_n 2, 1) := by decide +kernel
theorem dX9_give_59 : decode cX9_give 59 = .ok (.iastore, 1) := by decide +kernel
theorem dX9_give_60 : decode cX9_give 60 = .ok (.iload_n 3, 1) := by decide +kernel
theorem dX9_give_61 : decode cX9_give 61 = .ok (.ireturn, 1) := by decide +kernel
theorem dX9_sends_0 : decode cX9_sends 0 = .ok (.aload_n 0, 1) := by decide +kernel
theorem dX9_sends_1 : decode cX9_sends 1 = .ok (.sipush 150, 3) := by decide +kernel
theorem dX9_sends_4 : decode cX9_sends 4 = .ok (.iload_n 1, 1) := by decide +kernel
theorem dX9_sends_5 : decode cX9_sends 5 = .ok (.iadd, 1) := by decide +kernel
theorem dX9_sends_6 : decode cX9_sends 6 = .ok (.iload_n 2, 1) := by decide +kernel
theorem dX9_sends_7 : decode cX9_sends 7 = .ok (.iastore, 1) := by decide +kernel
theorem dX9_sends_8 : decode cX9_sends 8 = .ok (.aload_n 0, 1) := by decide +kernel
theorem dX9_sends_9 : decode cX9_sends 9 = .ok (.sipush 158, 3) := by decide +kernel
theorem dX9_sends_12 : decode cX9_sends 12 = .ok (.iload_n 1, 1) := by decide +kernel
theorem dX9_sends_13 : decode cX9_sends 13 = .ok (.iadd, 1) := by decide +kernel
theorem dX9_sends_14 : decode cX9_sends 14 = .ok (.aload_n 0, 1) := by decide +kernel
theorem dX9_sends_15 : decode cX9_sends 15 = .ok (.sipush 166, 3) := by decide +kernel
theorem dX9_sends_18 : decode cX9_sends 18 = .ok (.iload_n 1, 1) := by decide +kernel
theorem dX9_sends_19 : decode cX9_sends 19 = .ok (.iadd, 1) := by decide +kernel
theorem dX9_sends_20 : decode cX9_sends 20 = .ok (.iaload, 1) := by decide +kernel
theorem dX9_sends_21 : decode cX9_sends 21 = .ok (.ifCond .ne 18, 3) := by decide +kernel
theorem dX9_sends_24 : decode cX9_sends 24 = .ok (.aload_n 0, 1) := by decide +kernel
theorem dX9_sends_25 : decode cX9_sends 25 = .ok (.sipush 146, 3) := by decide +kernel
theorem dX9_sends_28 : decode cX9_sends 28 = .ok (.iload_n 1, 1) := by decide +kernel
theorem dX9_sends_29 : decode cX9_sends 29 = .ok (.iadd, 1) := by decide +kernel
theorem dX9_sends_30 : decode cX9_sends 30 = .ok (.iaload, 1) := by decide +kernel
theorem dX9_sends_31 : decode cX9_sends 31 = .ok (.iload_n 2, 1) := by decide +kernel
theorem dX9_sends_32 : decode cX9_sends 32 = .ok (.if_icmp .ne 7, 3) := by decide +kernel
theorem dX9_sends_35 : decode cX9_sends 35 = .ok (.iconst 1, 1) := by decide +kernel
theorem dX9_sends_36 : decode cX9_sends 36 = .ok (.goto 4, 3) := by decide +kernel
theorem dX9_sends_39 : decode cX9_sends 39 = .ok (.iconst 0, 1) := by decide +kernel
theorem dX9_sends_40 : decode cX9_sends 40 = .ok (.iastore, 1) := by decide +kernel
theorem dX9_sends_41 : decode cX9_sends 41 = .ok (.return_, 1) := by decide +kernel
theorem dX9_send_0 : decode cX9_send 0 = .ok (.aload_n 0, 1) := by decide +kernel
theorem dX9_send_1 : decode cX9_send 1 = .ok (.iload_n 1, 1) := by decide +kernel
theorem dX9_send_2 : decode cX9_send 2 = .ok (.invokevirtual 203, 3) := by decide +kernel
theorem dX9_send_5 : decode cX9_send 5 = .ok (.ifCond .eq 11, 3) := by decide +kernel
theorem dX9_send_8 : decode cX9_send 8 = .ok (.aload_n 0, 1) := by decide +kernel
theorem dX9_send_9 : decode cX9_send 9 = .ok (.iload_n 2, 1) := by decide +kernel
theorem dX9_send_10 : decode cX9_send 10 = .ok (.invokevirtual 195, 3) := by decide +kernel
theorem dX9_send_13 : decode cX9_send 13 = .ok (.ifCond .ne 5, 3) := by decide +kernel
theorem dX9_send_16 : decode cX9_send 16 = .ok (.iconst (-1), 1) := by decide +kernel
theorem dX9_send_17 : decode cX9_send 17 = .ok (.ireturn, 1) := by decide +kernel
theorem dX9_send_18 : decode cX9_send 18 = .ok (.aload_n 0, 1) := by decide +kernel
theorem dX9_send_19 : decode cX9_send 19 = .ok (.getfield 16, 3) := by decide +kernel
theorem dX9_send_22 : decode cX9_send 22 = .ok (.sipush 158, 3) := by decide +kernel
theorem dX9_send_25 : decode cX9_send 25 = .ok (.iload_n 1, 1) := by decide +kernel
theorem dX9_send_26 : decode cX9_send 26 = .ok (.iadd, 1) := by decide +kernel
theorem dX9_send_27 : decode cX9_send 27 = .ok (.iaload, 1) := by decide +kernel
theorem dX9_send_28 : decode cX9_send 28 = .ok (.iconst 2, 1) := by decide +kernel
theorem dX9_send_29 : decode cX9_send 29 = .ok (.if_icmp .ne 6, 3) := by decide +kernel
theorem dX9_send_32 : decode cX9_send 32 = .ok (.bipush (-2), 2) := by decide +kernel
theorem dX9_send_34 : decode cX9_send 34 = .ok (.ireturn, 1) := by decide +kernel
theorem dX9_send_35 : decode cX9_send 35 = .ok (.aload_n 0, 1) := by decide +kernel
theorem dX9_send_36 : decode cX9_send 36 = .ok (.invokevirtual 220, 3) := by decide +kernel
theorem dX9_send_39 : decode cX9_send 39 = .ok (.aload_n 0, 1) := by decide +kernel
theorem dX9_send_40 : decode cX9_send 40 = .ok (.getfield 16, 3) := by decide +kernel
theorem dX9_send_43 : decode cX9_send 43 = .ok (.iload_n 1, 1) := by decide +kernel
theorem dX9_send_44 : decode cX9_send 44 = .ok (.iload_n 2, 1) := by decide +kernel
theorem dX9_send_45 : decode cX9_send 45 = .ok (.invokestatic 229, 3) := by decide +kernel
theorem dX9_send_48 : decode cX9_send 48 = .ok (.aload_n 0, 1) := by decide +kernel
theorem dX9_send_49 : decode cX9_send 49 = .ok (.getfield 16, 3) := by decide +kernel
theorem dX9_send_52 : decode cX9_send 52 = .ok (.sipush 158, 3) := by decide +kernel
theorem dX9_send_55 : decode cX9_send 55 = .ok (.iload_n 1, 1) := by decide +kernel
theorem dX9_send_56 : decode cX9_send 56 = .ok (.iadd, 1) := by decide +kernel
theorem dX9_send_57 : decode cX9_send 57 = .ok (.iaload, 1) := by decide +kernel
theorem dX9_send_58 : decode cX9_send 58 = .ok (.iconst 1, 1) := by decide +kernel
theorem dX9_send_59 : decode cX9_send 59 = .ok (.if_icmp .ne 7, 3) := by decide +kernel
theorem dX9_send_62 : decode cX9_send 62 = .ok (.iconst 1, 1) := by decide +kernel
theorem dX9_send_63 : decode cX9_send 63 = .ok (.goto 4, 3) := by decide +kernel
theorem dX9_send_66 : decode cX9_send 66 = .ok (.iconst 0, 1) := by decide +kernel
theorem dX9_send_67 : decode cX9_send 67 = .ok (.ireturn, 1) := by decide +kernel
theorem dX9_undo_0 : decode cX9_undo 0 = .ok (.aload_n 0, 1) := by decide +kernel
theorem dX9_undo_1 : decode cX9_undo 1 = .ok (.getfield 101, 3) := by decide +kernel
theorem dX9_undo_4 : decode cX9_undo 4 = .ok (.ifCond .ne 6, 3) := by decide +kernel
theorem dX9_undo_7 : decode cX9_undo 7 = .ok (.bipush (-2), 2) := by decide +kernel
theorem dX9_undo_9 : decode cX9_undo 9 = .ok (.ireturn, 1) := by decide +kernel
theorem dX9_undo_10 : decode cX9_undo 10 = .ok (.aload_n 0, 1) := by decide +kernel
theorem dX9_undo_11 : decode cX9_undo 11 = .ok (.dup, 1) := by decide +kernel
theorem dX9_undo_12 : decode cX9_undo 12 = .ok (.getfield 101, 3) := by decide +kernel
theorem dX9_undo_15 : decode cX9_undo 15 = .ok (.iconst 1, 1) := by decide +kernel
theorem dX9_undo_16 : decode cX9_undo 16 = .ok (.isub, 1) := by decide +kernel
theorem dX9_undo_17 : decode cX9_undo 17 = .ok (.putfield 101, 3) := by decide +kernel
theorem dX9_undo_20 : decode cX9_undo 20 = .ok (.aload_n 0, 1) := by decide +kernel
theorem dX9_undo_21 : decode cX9_undo 21 = .ok (.getfield 22, 3) := by decide +kernel
theorem dX9_undo_24 : decode cX9_undo 24 = .ok (.sipush 170, 3) := by decide +kernel
theorem dX9_undo_27 : decode cX9_undo 27 = .ok (.aload_n 0, 1) := by decide +kernel
theorem dX9_undo_28 : decode cX9_undo 28 = .ok (.getfield 101, 3) := by decide +kernel
theorem dX9_undo_31 : decode cX9_undo 31 = .ok (.imul, 1) := by decide +kernel
theorem dX9_undo_32 : decode cX9_undo 32 = .ok (.aload_n 0, 1) := by decide +kernel
theorem dX9_undo_33 : decode cX9_undo 33 = .ok (.getfield 16, 3) := by decide +kernel
theorem dX9_undo_36 : decode cX9_undo 36 = .ok (.iconst 0, 1) := by decide +kernel
theorem dX9_undo_37 : decode cX9_undo 37 = .ok (.sipush 170, 3) := by decide +kernel
theorem dX9_undo_40 : decode cX9_undo 40 = .ok (.invokestatic 97, 3) := by decide +kernel
theorem dX9_undo_43 : decode cX9_undo 43 = .ok (.aload_n 0, 1) := by decide +kernel
theorem dX9_undo_44 : decode cX9_undo 44 = .ok (.getfield 101, 3) := by decide +kernel
theorem dX9_undo_47 : decode cX9_undo 47 = .ok (.ireturn, 1) := by decide +kernel
theorem dX9_untilSo_0 : decode cX9_untilSo 0 = .ok (.iconst 0, 1) := by decide +kernel
theorem dX9_untilSo_1 : decode cX9_untilSo 1 = .ok (.istore_n 3, 1) := by decide +kernel
theorem dX9_untilSo_2 : decode cX9_untilSo 2 = .ok (.iload_n 3, 1) := by decide +kernel
theorem dX9_untilSo_3 : decode cX9_untilSo 3 = .ok (.bipush 61, 2) := by decide +kernel
theorem dX9_untilSo_5 : decode cX9_untilSo 5 = .ok (.if_icmp .ge 34, 3) := by decide +kernel
theorem dX9_untilSo_8 : decode cX9_untilSo 8 = .ok (.aload_n 0, 1) := by decide +kernel
theorem dX9_untilSo_9 : decode cX9_untilSo 9 = .ok (.getfield 19, 3) := by decide +kernel
theorem dX9_untilSo_12 : decode cX9_untilSo 12 = .ok (.sipush 158, 3) := by decide +kernel
theorem dX9_untilSo_15 : decode cX9_untilSo 15 = .ok (.iload_n 1, 1) := by decide +kernel
theorem dX9_untilSo_16 : decode cX9_untilSo 16 = .ok (.iadd, 1) := by decide +kernel
theorem dX9_untilSo_17 : decode cX9_untilSo 17 = .ok (.iaload, 1) := by decide +kernel
theorem dX9_untilSo_18 : decode cX9_untilSo 18 = .ok (.iload_n 2, 1) := by decide +kernel
theorem dX9_untilSo_19 : decode cX9_untilSo 19 = .ok (.if_icmp .ne 5, 3) := by decide +kernel
theorem dX9_untilSo_22 : decode cX9_untilSo 22 = .ok (.iload_n 3, 1) := by decide +kernel
theorem dX9_untilSo_23 : decode cX9_untilSo 23 = .ok (.ireturn, 1) := by decide +kernel
theorem dX9_untilSo_24 : decode cX9_untilSo 24 = .ok (.aload_n 0, 1) := by decide +kernel
theorem dX9_untilSo_25 : decode cX9_untilSo 25 = .ok (.aload_n 0, 1) := by decide +kernel
theorem dX9_untilSo_26 : decode cX9_untilSo 26 = .ok (.getfield 19, 3) := by decide +kernel
theorem dX9_untilSo_29 : decode cX9_untilSo 29 = .ok (.iload_n 1, 1) := by decide +kernel
theorem dX9_untilSo_30 : decode cX9_untilSo 30 = .ok (.invokevirtual 214, 3) := by decide +kernel
theorem dX9_untilSo_33 : decode cX9_untilSo 33 = .ok (.iinc 3 1, 3) := by decide +kernel
theorem dX9_untilSo_36 : decode cX9_untilSo 36 = .ok (.goto (-34), 3) := by decide +kernel
theorem dX9_untilSo_39 : decode cX9_untilSo 39 = .ok (.bipush (-4), 2) := by decide +kernel
theorem dX9_untilSo_41 : decode cX9_untilSo 41 = .ok (.ireturn, 1) := by decide +kernel
theorem dX9_untilNow_0 : decode cX9_untilNow 0 = .ok (.aload_n 0, 1) := by decide +kernel
theorem dX9_untilNow_1 : decode cX9_untilNow 1 = .ok (.getfield 16, 3) := by decide +kernel
theorem dX9_untilNow_4 : decode cX9_untilNow 4 = .ok (.iconst 0, 1) := by decide +kernel
theorem dX9_untilNow_5 : decode cX9_untilNow 5 = .ok (.aload_n 0, 1) := by decide +kernel
theorem dX9_untilNow_6 : decode cX9_untilNow 6 = .ok (.getfield 19, 3) := by decide +kernel
theorem dX9_untilNow_9 : decode cX9_untilNow 9 = .ok (.iconst 0, 1) := by decide +kernel
theorem dX9_untilNow_10 : decode cX9_untilNow 10 = .ok (.sipush 170, 3) := by decide +kernel
theorem dX9_untilNow_13 : decode cX9_untilNow 13 = .ok (.invokestatic 97, 3) := by decide +kernel
theorem dX9_untilNow_16 : decode cX9_untilNow 16 = .ok (.aload_n 0, 1) := by decide +kernel
theorem dX9_untilNow_17 : decode cX9_untilNow 17 = .ok (.iload_n 1, 1) := by decide +kernel
theorem dX9_untilNow_18 : decode cX9_untilNow 18 = .ok (.iload_n 2, 1) := by decide +kernel
theorem dX9_untilNow_19 : decode cX9_untilNow 19 = .ok (.invokevirtual 232, 3) := by decide +kernel
theorem dX9_untilNow_22 : decode cX9_untilNow 22 = .ok (.ireturn, 1) := by decide +kernel
theorem dX9_arrives_0 : decode cX9_arrives 0 = .ok (.aload_n 0, 1) := by decide +kernel
theorem dX9_arrives_1 : decode cX9_arrives 1 = .ok (.iload_n 1, 1) := by decide +kernel
theorem dX9_arrives_2 : decode cX9_arrives 2 = .ok (.invokevirtual 203, 3) := by decide +kernel
theorem dX9_arrives_5 : decode cX9_arrives 5 = .ok (.ifCond .eq 12, 3) := by decide +kernel
theorem dX9_arrives_8 : decode cX9_arrives 8 = .ok (.aload_n 0, 1) := by decide +kernel
theorem dX9_arrives_9 : decode cX9_arrives 9 = .ok (.iload_n 1, 1) := by decide +kernel
theorem dX9_arrives_10 : decode cX9_arrives 10 = .ok (.iconst 1, 1) := by decide +kernel
theorem dX9_arrives_11 : decode cX9_arrives 11 = .ok (.invokevirtual 235, 3) := by decide +kernel
theorem dX9_arrives_14 : decode cX9_arrives 14 = .ok (.goto 4, 3) := by decide +kernel
theorem dX9_arrives_17 : decode cX9_arrives 17 = .ok (.iconst (-1), 1) := by decide +kernel
theorem dX9_arrives_18 : decode cX9_arrives 18 = .ok (.ireturn, 1) := by decide +kernel
theorem dX9_loses_0 : decode cX9_loses 0 = .ok (.aload_n 0, 1) := by decide +kernel
theorem dX9_loses_1 : decode cX9_loses 1 = .ok (.iload_n 1, 1) := by decide +kernel
theorem dX9_loses_2 : decode cX9_loses 2 = .ok (.invokevirtual 203, 3) := by decide +kernel
theorem dX9_loses_5 : decode cX9_loses 5 = .ok (.ifCond .eq 12, 3) := by decide +kernel
theorem dX9_loses_8 : decode cX9_loses 8 = .ok (.aload_n 0, 1) := by decide +kernel
theorem dX9_loses_9 : decode cX9_loses 9 = .ok (.iload_n 1, 1) := by decide +kernel
theorem dX9_loses_10 : decode cX9_loses 10 = .ok (.iconst 2, 1) := by decide +kernel
theorem dX9_loses_11 : decode cX9_loses 11 = .ok (.invokevirtual 235, 3) := by decide +kernel
theorem dX9_loses_14 : decode cX9_loses 14 = .ok (.goto 4, 3) := by decide +kernel
theorem dX9_loses_17 : decode cX9_loses 17 = .ok (.iconst (-1), 1) := by decide +kernel
theorem dX9_loses_18 : decode cX9_loses 18 = .ok (.ireturn, 1) := by decide +kernel
theorem dX9_ledBy_0 : decode cX9_ledBy 0 = .ok (.aload_n 0, 1) := by decide +kernel
theorem dX9_ledBy_1 : decode cX9_ledBy 1 = .ok (.getfield 16, 3) := by decide +kernel
theorem dX9_ledBy_4 : decode cX9_ledBy 4 = .ok (.iconst 0, 1) := by decide +kernel
theorem dX9_ledBy_5 : decode cX9_ledBy 5 = .ok (.aload_n 0, 1) := by decide +kernel
theorem dX9_ledBy_6 : decode cX9_ledBy 6 = .ok (.getfield 19, 3) := by decide +kernel
theorem dX9_ledBy_9 : decode cX9_ledBy 9 = .ok (.iconst 0, 1) := by decide +kernel
theorem dX9_ledBy_10 : decode cX9_ledBy 10 = .ok (.sipush 170, 3) := by decide +kernel
theorem dX9_ledBy_13 : decode cX9_ledBy 13 = .ok (.invokestatic 97, 3) := by decide +kernel
theorem dX9_ledBy_16 : decode cX9_ledBy 16 = .ok (.aload_n 0, 1) := by decide +kernel
theorem dX9_ledBy_17 : decode cX9_ledBy 17 = .ok (.getfield 19, 3) := by decide +kernel
theorem dX9_ledBy_20 : decode cX9_ledBy 20 = .ok (.sipush 146, 3) := by decide +kernel
theorem dX9_ledBy_23 : decode cX9_ledBy 23 = .ok (.iload_n 2, 1) := by decide +kernel
theorem dX9_ledBy_24 : decode cX9_ledBy 24 = .ok (.iastore, 1) := by decide +kernel
theorem dX9_ledBy_25 : decode cX9_ledBy 25 = .ok (.aload_n 0, 1) := by decide +kernel
theorem dX9_ledBy_26 : decode cX9_ledBy 26 = .ok (.getfield 19, 3) := by decide +kernel
theorem dX9_ledBy_29 : decode cX9_ledBy 29 = .ok (.sipush 154, 3) := by decide +kernel
theorem dX9_ledBy_32 : decode cX9_ledBy 32 = .ok (.iload_n 1, 1) := by decide +kernel
theorem dX9_ledBy_33 : decode cX9_ledBy 33 = .ok (.iastore, 1) := by decide +kernel
theorem dX9_ledBy_34 : decode cX9_ledBy 34 = .ok (.aload_n 0, 1) := by decide +kernel
theorem dX9_ledBy_35 : decode cX9_ledBy 35 = .ok (.getfield 19, 3) := by decide +kernel
theorem dX9_ledBy_38 : decode cX9_ledBy 38 = .ok (.sipush 162, 3) := by decide +kernel
theorem dX9_ledBy_41 : decode cX9_ledBy 41 = .ok (.bipush (-4), 2) := by decide +kernel
theorem dX9_ledBy_43 : decode cX9_ledBy 43 = .ok (.iastore, 1) := by decide +kernel
theorem dX9_ledBy_44 : decode cX9_ledBy 44 = .ok (.aload_n 0, 1) := by decide +kernel
theorem dX9_ledBy_45 : decode cX9_ledBy 45 = .ok (.getfield 19, 3) := by decide +kernel
theorem dX9_ledBy_48 : decode cX9_ledBy 48 = .ok (.sipush 166, 3) := by decide +kernel
theorem dX9_ledBy_51 : decode cX9_ledBy 51 = .ok (.iconst 0, 1) := by decide +kernel
theorem dX9_ledBy_52 : decode cX9_ledBy 52 = .ok (.iastore, 1) := by decide +kernel
theorem dX9_ledBy_53 : decode cX9_ledBy 53 = .ok (.aload_n 0, 1) := by decide +kernel
theorem dX9_ledBy_54 : decode cX9_ledBy 54 = .ok (.getfield 19, 3) := by decide +kernel
theorem dX9_ledBy_57 : decode cX9_ledBy 57 = .ok (.iconst 0, 1) := by decide +kernel
theorem dX9_ledBy_58 : decode cX9_ledBy 58 = .ok (.iload_n 3, 1) := by decide +kernel
theorem dX9_ledBy_59 : decode cX9_ledBy 59 = .ok (.invokestatic 229, 3) := by decide +kernel
theorem dX9_ledBy_62 : decode cX9_ledBy 62 = .ok (.aload_n 0, 1) := by decide +kernel
theorem dX9_ledBy_63 : decode cX9_ledBy 63 = .ok (.iconst 0, 1) := by decide +kernel
theorem dX9_ledBy_64 : decode cX9_ledBy 64 = .ok (.iconst 1, 1) := by decide +kernel
theorem dX9_ledBy_65 : decode cX9_ledBy 65 = .ok (.invokevirtual 232, 3) := by decide +kernel
theorem dX9_ledBy_68 : decode cX9_ledBy 68 = .ok (.ireturn, 1) := by decide +kernel
theorem dX9_led_0 : decode cX9_led 0 = .ok (.aload_n 0, 1) := by decide +kernel
theorem dX9_led_1 : decode cX9_led 1 = .ok (.iload_n 1, 1) := by decide +kernel
theorem dX9_led_2 : decode cX9_led 2 = .ok (.invokevirtual 198, 3) := by decide +kernel
theorem dX9_led_5 : decode cX9_led 5 = .ok (.ifCond .eq 29, 3) := by decide +kernel
theorem dX9_led_8 : decode cX9_led 8 = .ok (.aload_n 0, 1) := by decide +kernel
theorem dX9_led_9 : decode cX9_led 9 = .ok (.iload_n 2, 1) := by decide +kernel
theorem dX9_led_10 : decode cX9_led 10 = .ok (.invokevirtual 195, 3) := by decide +kernel
theorem dX9_led_13 : decode cX9_led 13 = .ok (.ifCond .eq 21, 3) := by decide +kernel
theorem dX9_led_16 : decode cX9_led 16 = .ok (.aload_n 0, 1) := by decide +kernel
theorem dX9_led_17 : decode cX9_led 17 = .ok (.iload_n 3, 1) := by decide +kernel
theorem dX9_led_18 : decode cX9_led 18 = .ok (.invokevirtual 195, 3) := by decide +kernel
theorem dX9_led_21 : decode cX9_led 21 = .ok (.ifCond .eq 13, 3) := by decide +kernel
theorem dX9_led_24 : decode cX9_led 24 = .ok (.aload_n 0, 1) := by decide +kernel
theorem dX9_led_25 : decode cX9_led 25 = .ok (.iload_n 1, 1) := by decide +kernel
theorem dX9_led_26 : decode cX9_led 26 = .ok (.iload_n 2, 1) := by decide +kernel
theorem dX9_led_27 : decode cX9_led 27 = .ok (.iload_n 3, 1) := by decide +kernel
theorem dX9_led_28 : decode cX9_led 28 = .ok (.invokevirtual 238, 3) := by decide +kernel
theorem dX9_led_31 : decode cX9_led 31 = .ok (.goto 4, 3) := by decide +kernel
theorem dX9_led_34 : decode cX9_led 34 = .ok (.iconst (-1), 1) := by decide +kernel
theorem dX9_led_35 : decode cX9_led 35 = .ok (.ireturn, 1) := by decide +kernel
theorem dX9_fastest_0 : decode cX9_fastest 0 = .ok (.aload_n 0, 1) := by decide +kernel
theorem dX9_fastest_1 : decode cX9_fastest 1 = .ok (.iload_n 1, 1) := by decide +kernel
theorem dX9_fastest_2 : decode cX9_fastest 2 = .ok (.invokevirtual 203, 3) := by decide +kernel
theorem dX9_fastest_5 : decode cX9_fastest 5 = .ok (.ifCond .ne 5, 3) := by decide +kernel
theorem dX9_fastest_8 : decode cX9_fastest 8 = .ok (.iconst (-1), 1) := by decide +kernel
theorem dX9_fastest_9 : decode cX9_fastest 9 = .ok (.ireturn, 1) := by decide +kernel
theorem dX9_fastest_10 : decode cX9_fastest 10 = .ok (.aload_n 0, 1) := by decide +kernel
theorem dX9_fastest_11 : decode cX9_fastest 11 = .ok (.getfield 16, 3) := by decide +kernel
theorem dX9_fastest_14 : decode cX9_fastest 14 = .ok (.sipush 158, 3) := by decide +kernel
theorem dX9_fastest_17 : decode cX9_fastest 17 = .ok (.iload_n 1, 1) := by decide +kernel
theorem dX9_fastest_18 : decode cX9_fastest 18 = .ok (.iadd, 1) := by decide +kernel
theorem dX9_fastest_19 : decode cX9_fastest 19 = .ok (.iaload, 1) := by decide +kernel
theorem dX9_fastest_20 : decode cX9_fastest 20 = .ok (.ifCond .eq 6, 3) := by decide +kernel
theorem dX9_fastest_23 : decode cX9_fastest 23 = .ok (.bipush (-2), 2) := by decide +kernel
theorem dX9_fastest_25 : decode cX9_fastest 25 = .ok (.ireturn, 1) := by decide +kernel
theorem dX9_fastest_26 : decode cX9_fastest 26 = .ok (.bipush (-4), 2) := by decide +kernel
theorem dX9_fastest_28 : decode cX9_fastest 28 = .ok (.istore_n 2, 1) := by decide +kernel
theorem dX9_fastest_29 : decode cX9_fastest 29 = .ok (.ldc 176, 2) := by decide +kernel
theorem dX9_fastest_31 : decode cX9_fastest 31 = .ok (.istore_n 3, 1) := by decide +kernel
theorem dX9_fastest_32 : decode cX9_fastest 32 = .ok (.iconst 0, 1) := by decide +kernel
theorem dX9_fastest_33 : decode cX9_fastest 33 = .ok (.istore 4, 2) := by decide +kernel
theorem dX9_fastest_35 : decode cX9_fastest 35 = .ok (.iload 4, 2) := by decide +kernel
theorem dX9_fastest_37 : decode cX9_fastest 37 = .ok (.aload_n 0, 1) := by decide +kernel
theorem dX9_fastest_38 : decode cX9_fastest 38 = .ok (.getfield 91, 3) := by decide +kernel
theorem dX9_fastest_41 : decode cX9_fastest 41 = .ok (.if_icmp .ge 85, 3) := by decide +kernel
theorem dX9_fastest_44 : decode cX9_fastest 44 = .ok (.aload_n 0, 1) := by decide +kernel
theorem dX9_fastest_45 : decode cX9_fastest 45 = .ok (.getfield 16, 3) := by decide +kernel
theorem dX9_fastest_48 : decode cX9_fastest 48 = .ok (.iconst 0, 1) := by decide +kernel
theorem dX9_fastest_49 : decode cX9_fastest 49 = .ok (.aload_n 0, 1) := by decide +kernel
theorem dX9_fastest_50 : decode cX9_fastest 50 = .ok (.getfield 19, 3) := by decide +kernel
theorem dX9_fastest_53 : decode cX9_fastest 53 = .ok (.iconst 0, 1) := by decide +kernel
theorem dX9_fastest_54 : decode cX9_fastest 54 = .ok (.sipush 170, 3) := by decide +kernel
theorem dX9_fastest_57 : decode cX9_fastest 57 = .ok (.invokestatic 97, 3) := by decide +kernel
theorem dX9_fastest_60 : decode cX9_fastest 60 = .ok (.aload_n 0, 1) := by decide +kernel
theorem dX9_fastest_61 : decode cX9_fastest 61 = .ok (.getfield 19, 3) := by decide +kernel
theorem dX9_fastest_64 : decode cX9_fastest 64 = .ok (.sipush 154, 3) := by decide +kernel
theorem dX9_fastest_67 : decode cX9_fastest 67 = .ok (.iload_n 1, 1) := by decide +kernel
theorem dX9_fastest_68 : decode cX9_fastest 68 = .ok (.iadd, 1) := by decide +kernel
theorem dX9_fastest_69 : decode cX9_fastest 69 = .ok (.iload 4, 2) := by decide +kernel
theorem dX9_fastest_71 : decode cX9_fastest 71 = .ok (.iastore, 1) := by decide +kernel
theorem dX9_fastest_72 : decode cX9_fastest 72 = .ok (.aload_n 0, 1) := by decide +kernel
theorem dX9_fastest_73 : decode cX9_fastest 73 = .ok (.iload_n 1, 1) := by decide +kernel
theorem dX9_fastest_74 : decode cX9_fastest 74 = .ok (.iconst 1, 1) := by decide +kernel
theorem dX9_fastest_75 : decode cX9_fastest 75 = .ok (.invokevirtual 232, 3) := by decide +kernel
theorem dX9_fastest_78 : decode cX9_fastest 78 = .ok (.istore 5, 2) := by decide +kernel
theorem dX9_fastest_80 : decode cX9_fastest 80 = .ok (.iload 5, 2) := by decide +kernel
theorem dX9_fastest_82 : decode cX9_fastest 82 = .ok (.bipush (-4), 2) := by decide +kernel
theorem dX9_fastest_84 : decode cX9_fastest 84 = .ok (.if_icmp .eq 14, 3) := by decide +kernel
theorem dX9_fastest_87 : decode cX9_fastest 87 = .ok (.iload 5, 2) := by decide +kernel
theorem dX9_fastest_89 : decode cX9_fastest 89 = .ok (.iload_n 3, 1) := by decide +kernel
theorem dX9_fastest_90 : decode cX9_fastest 90 = .ok (.if_icmp .ge 8, 3) := by decide +kernel
theorem dX9_fastest_93 : decode cX9_fastest 93 = .ok (.iload 4, 2) := by decide +kernel
theorem dX9_fastest_95 : decode cX9_fastest 95 = .ok (.goto 4, 3) := by decide +kernel
theorem dX9_fastest_98 : decode cX9_fastest 98 = .ok (.iload_n 2, 1) := by decide +kernel
theorem dX9_fastest_99 : decode cX9_fastest 99 = .ok (.istore_n 2, 1) := by decide +kernel
theorem dX9_fastest_100 : decode cX9_fastest 100 = .ok (.iload 5, 2) := by decide +kernel
theorem dX9_fastest_102 : decode cX9_fastest 102 = .ok (.bipush (-4), 2) := by decide +kernel
theorem dX9_fastest_104 : decode cX9_fastest 104 = .ok (.if_icmp .eq 14, 3) := by decide +kernel
theorem dX9_fastest_107 : decode cX9_fastest 107 = .ok (.iload 5, 2) := by decide +kernel
theorem dX9_fastest_109 : decode cX9_fastest 109 = .ok (.iload_n 3, 1) := by decide +kernel
theorem dX9_fastest_110 : decode cX9_fastest 110 = .ok (.if_icmp .ge 8, 3) := by decide +kernel
theorem dX9_fastest_113 : decode cX9_fastest 113 = .ok (.iload 5, 2) := by decide +kernel
theorem dX9_fastest_115 : decode cX9_fastest 115 = .ok (.goto 4, 3) := by decide +kernel
theorem dX9_fastest_118 : decode cX9_fastest 118 = .ok (.iload_n 3, 1) := by decide +kernel
theorem dX9_fastest_119 : decode cX9_fastest 119 = .ok (.istore_n 3, 1) := by decide +kernel
theorem dX9_fastest_120 : decode cX9_fastest 120 = .ok (.iinc 4 1, 3) := by decide +kernel
theorem dX9_fastest_123 : decode cX9_fastest 123 = .ok (.goto (-88), 3) := by decide +kernel
theorem dX9_fastest_126 : decode cX9_fastest 126 = .ok (.iload_n 2, 1) := by decide +kernel
theorem dX9_fastest_127 : decode cX9_fastest 127 = .ok (.ireturn, 1) := by decide +kernel
theorem dX9_tune_0 : decode cX9_tune 0 = .ok (.aload_n 0, 1) := by decide +kernel
theorem dX9_tune_1 : decode cX9_tune 1 = .ok (.iload_n 1, 1) := by decide +kernel
theorem dX9_tune_2 : decode cX9_tune 2 = .ok (.invokevirtual 203, 3) := by decide +kernel
theorem dX9_tune_5 : decode cX9_tune 5 = .ok (.ifCond .ne 5, 3) := by decide +kernel
theorem dX9_tune_8 : decode cX9_tune 8 = .ok (.iconst (-1), 1) := by decide +kernel
theorem dX9_tune_9 : decode cX9_tune 9 = .ok (.ireturn, 1) := by decide +kernel
theorem dX9_tune_10 : decode cX9_tune 10 = .ok (.aload_n 0, 1) := by decide +kernel
theorem dX9_tune_11 : decode cX9_tune 11 = .ok (.getfield 16, 3) := by decide +kernel
theorem dX9_tune_14 : decode cX9_tune 14 = .ok (.sipush 158, 3) := by decide +kernel
theorem dX9_tune_17 : decode cX9_tune 17 = .ok (.iload_n 1, 1) := by decide +kernel
theorem dX9_tune_18 : decode cX9_tune 18 = .ok (.iadd, 1) := by decide +kernel
theorem dX9_tune_19 : decode cX9_tune 19 = .ok (.iaload, 1) := by decide +kernel
theorem dX9_tune_20 : decode cX9_tune 20 = .ok (.ifCond .eq 6, 3) := by decide +kernel
theorem dX9_tune_23 : decode cX9_tune 23 = .ok (.bipush (-2), 2) := by decide +kernel
theorem dX9_tune_25 : decode cX9_tune 25 = .ok (.ireturn, 1) := by decide +kernel
theorem dX9_tune_26 : decode cX9_tune 26 = .ok (.aload_n 0, 1) := by decide +kernel
theorem dX9_tune_27 : decode cX9_tune 27 = .ok (.iload_n 1, 1) := by decide +kernel
theorem dX9_tune_28 : decode cX9_tune 28 = .ok (.iconst 1, 1) := by decide +kernel
theorem dX9_tune_29 : decode cX9_tune 29 = .ok (.invokevirtual 235, 3) := by decide +kernel
theorem dX9_tune_32 : decode cX9_tune 32 = .ok (.istore_n 2, 1) := by decide +kernel
theorem dX9_tune_33 : decode cX9_tune 33 = .ok (.iload_n 2, 1) := by decide +kernel
theorem dX9_tune_34 : decode cX9_tune 34 = .ok (.bipush (-4), 2) := by decide +kernel
theorem dX9_tune_36 : decode cX9_tune 36 = .ok (.if_icmp .ne 8, 3) := by decide +kernel
theorem dX9_tune_39 : decode cX9_tune 39 = .ok (.ldc 176, 2) := by decide +kernel
theorem dX9_tune_41 : decode cX9_tune 41 = .ok (.goto 4, 3) := by decide +kernel
theorem dX9_tune_44 : decode cX9_tune 44 = .ok (.iload_n 2, 1) := by decide +kernel
theorem dX9_tune_45 : decode cX9_tune 45 = .ok (.istore_n 3, 1) := by decide +kernel
theorem dX9_tune_46 : decode cX9_tune 46 = .ok (.bipush (-4), 2) := by decide +kernel
theorem dX9_tune_48 : decode cX9_tune 48 = .ok (.istore 4, 2) := by decide +kernel
theorem dX9_tune_50 : decode cX9_tune 50 = .ok (.iconst 2, 1) := by decide +kernel
theorem dX9_tune_51 : decode cX9_tune 51 = .ok (.bipush 36, 2) := by decide +kernel
theorem dX9_tune_53 : decode cX9_tune 53 = .ok (.aload_n 0, 1) := by decide +kernel
theorem dX9_tune_54 : decode cX9_tune 54 = .ok (.getfield 16, 3) := by decide +kernel
theorem dX9_tune_57 : decode cX9_tune 57 = .ok (.sipush 154, 3) := by decide +kernel
theorem dX9_tune_60 : decode cX9_tune 60 = .ok (.iload_n 1, 1) := by decide +kernel
theorem dX9_tune_61 : decode cX9_tune 61 = .ok (.iadd, 1) := by decide +kernel
theorem dX9_tune_62 : decode cX9_tune 62 = .ok (.iaload, 1) := by decide +kernel
theorem dX9_tune_63 : decode cX9_tune 63 = .ok (.imul, 1) := by decide +kernel
theorem dX9_tune_64 : decode cX9_tune 64 = .ok (.iadd, 1) := by decide +kernel
theorem dX9_tune_65 : decode cX9_tune 65 = .ok (.istore 5, 2) := by decide +kernel
theorem dX9_tune_67 : decode cX9_tune 67 = .ok (.iconst 0, 1) := by decide +kernel
theorem dX9_tune_68 : decode cX9_tune 68 = .ok (.istore 6, 2) := by decide +kernel
theorem dX9_tune_70 : decode cX9_tune 70 = .ok (.iload 6, 2) := by decide +kernel
theorem dX9_tune_72 : decode cX9_tune 72 = .ok (.aload_n 0, 1) := by decide +kernel
theorem dX9_tune_73 : decode cX9_tune 73 = .ok (.getfield 85, 3) := by decide +kernel
theorem dX9_tune_76 : decode cX9_tune 76 = .ok (.aload_n 0, 1) := by decide +kernel
theorem dX9_tune_77 : decode cX9_tune 77 = .ok (.getfield 88, 3) := by decide +kernel
theorem dX9_tune_80 : decode cX9_tune 80 = .ok (.imul, 1) := by decide +kernel
theorem dX9_tune_81 : decode cX9_tune 81 = .ok (.if_icmp .ge 112, 3) := by decide +kernel
theorem dX9_tune_84 : decode cX9_tune 84 = .ok (.aload_n 0, 1) := by decide +kernel
theorem dX9_tune_85 : decode cX9_tune 85 = .ok (.getfield 16, 3) := by decide +kernel
theorem dX9_tune_88 : decode cX9_tune 88 = .ok (.iload 5, 2) := by decide +kernel
theorem dX9_tune_90 : decode cX9_tune 90 = .ok (.iload 6, 2) := by decide +kernel
theorem dX9_tune_92 : decode cX9_tune 92 = .ok (.iadd, 1) := by decide +kernel
theorem dX9_tune_93 : decode cX9_tune 93 = .ok (.iaload, 1) := by decide +kernel
theorem dX9_tune_94 : decode cX9_tune 94 = .ok (.aload_n 0, 1) := by decide +kernel
theorem dX9_tune_95 : decode cX9_tune 95 = .ok (.getfield 7, 3) := by decide +kernel
theorem dX9_tune_98 : decode cX9_tune 98 = .ok (.iload 6, 2) := by decide +kernel
theorem dX9_tune_100 : decode cX9_tune 100 = .ok (.iaload, 1) := by decide +kernel
theorem dX9_tune_101 : decode cX9_tune 101 = .ok (.if_icmp .eq 86, 3) := by decide +kernel
theorem dX9_tune_104 : decode cX9_tune 104 = .ok (.aload_n 0, 1) := by decide +kernel
theorem dX9_tune_105 : decode cX9_tune 105 = .ok (.getfield 16, 3) := by decide +kernel
theorem dX9_tune_108 : decode cX9_tune 108 = .ok (.iconst 0, 1) := by decide +kernel
theorem dX9_tune_109 : decode cX9_tune 109 = .ok (.aload_n 0, 1) := by decide +kernel
theorem dX9_tune_110 : decode cX9_tune 110 = .ok (.getfield 19, 3) := by decide +kernel
theorem dX9_tune_113 : decode cX9_tune 113 = .ok (.iconst 0, 1) := by decide +kernel
theorem dX9_tune_114 : decode cX9_tune 114 = .ok (.sipush 170, 3) := by decide +kernel
theorem dX9_tune_117 : decode cX9_tune 117 = .ok (.invokestatic 97, 3) := by decide +kernel
theorem dX9_tune_120 : decode cX9_tune 120 = .ok (.aload_n 0, 1) := by decide +kernel
theorem dX9_tune_121 : decode cX9_tune 121 = .ok (.getfield 19, 3) := by decide +kernel
theorem dX9_tune_124 : decode cX9_tune 124 = .ok (.iload 5, 2) := by decide +kernel
theorem dX9_tune_126 : decode cX9_tune 126 = .ok (.iload 6, 2) := by decide +kernel
theorem dX9_tune_128 : decode cX9_tune 128 = .ok (.iadd, 1) := by decide +kernel
theorem dX9_tune_129 : decode cX9_tune 129 = .ok (.aload_n 0, 1) := by decide +kernel
theorem dX9_tune_130 : decode cX9_tune 130 = .ok (.getfield 7, 3) := by decide +kernel
theorem dX9_tune_133 : decode cX9_tune 133 = .ok (.iload 6, 2) := by decide +kernel
theorem dX9_tune_135 : decode cX9_tune 135 = .ok (.iaload, 1) := by decide +kernel
theorem dX9_tune_136 : decode cX9_tune 136 = .ok (.iastore, 1) := by decide +kernel
theorem dX9_tune_137 : decode cX9_tune 137 = .ok (.aload_n 0, 1) := by decide +kernel
theorem dX9_tune_138 : decode cX9_tune 138 = .ok (.iload_n 1, 1) := by decide +kernel
theorem dX9_tune_139 : decode cX9_tune 139 = .ok (.iconst 1, 1) := by decide +kernel
theorem dX9_tune_140 : decode cX9_tune 140 = .ok (.invokevirtual 232, 3) := by decide +kernel
theorem dX9_tune_143 : decode cX9_tune 143 = .ok (.istore 7, 2) := by decide +kernel
theorem dX9_tune_145 : decode cX9_tune 145 = .ok (.iload 7, 2) := by decide +kernel
theorem dX9_tune_147 : decode cX9_tune 147 = .ok (.bipush (-4), 2) := by decide +kernel
theorem dX9_tune_149 : decode cX9_tune 149 = .ok (.if_icmp .eq 14, 3) := by decide +kernel
theorem dX9_tune_152 : decode cX9_tune 152 = .ok (.iload 7, 2) := by decide +kernel
theorem dX9_tune_154 : decode cX9_tune 154 = .ok (.iload_n 3, 1) := by decide +kernel
theorem dX9_tune_155 : decode cX9_tune 155 = .ok (.if_icmp .ge 8, 3) := by decide +kernel
theorem dX9_tune_158 : decode cX9_tune 158 = .ok (.iload 6, 2) := by decide +kernel
theorem dX9_tune_160 : decode cX9_tune 160 = .ok (.goto 5, 3) := by decide +kernel
theorem dX9_tune_163 : decode cX9_tune 163 = .ok (.iload 4, 2) := by decide +kernel
theorem dX9_tune_165 : decode cX9_tune 165 = .ok (.istore 4, 2) := by decide +kernel
theorem dX9_tune_167 : decode cX9_tune 167 = .ok (.iload 7, 2) := by decide +kernel
theorem dX9_tune_169 : decode cX9_tune 169 = .ok (.bipush (-4), 2) := by decide +kernel
theorem dX9_tune_171 : decode cX9_tune 171 = .ok (.if_icmp .eq 14, 3) := by decide +kernel
theorem dX9_tune_174 : decode cX9_tune 174 = .ok (.iload 7, 2) := by decide +kernel
theorem dX9_tune_176 : decode cX9_tune 176 = .ok (.iload_n 3, 1) := by decide +kernel
theorem dX9_tune_177 : decode cX9_tune 177 = .ok (.if_icmp .ge 8, 3) := by decide +kernel
theorem dX9_tune_180 : decode cX9_tune 180 = .ok (.iload 7, 2) := by decide +kernel
theorem dX9_tune_182 : decode cX9_tune 182 = .ok (.goto 4, 3) := by decide +kernel
theorem dX9_tune_185 : decode cX9_tune 185 = .ok (.iload_n 3, 1) := by decide +kernel
theorem dX9_tune_186 : decode cX9_tune 186 = .ok (.istore_n 3, 1) := by decide +kernel
theorem dX9_tune_187 : decode cX9_tune 187 = .ok (.iinc 6 1, 3) := by decide +kernel
theorem dX9_tune_190 : decode cX9_tune 190 = .ok (.goto (-120), 3) := by decide +kernel
theorem dX9_tune_193 : decode cX9_tune 193 = .ok (.iload 4, 2) := by decide +kernel
theorem dX9_tune_195 : decode cX9_tune 195 = .ok (.ireturn, 1) := by decide +kernel
theorem dX9_meet_0 : decode cX9_meet 0 = .ok (.aload_n 0, 1) := by decide +kernel
theorem dX9_meet_1 : decode cX9_meet 1 = .ok (.iload_n 1, 1) := by decide +kernel
theorem dX9_meet_2 : decode cX9_meet 2 = .ok (.invokevirtual 203, 3) := by decide +kernel
theorem dX9_meet_5 : decode cX9_meet 5 = .ok (.ifCond .eq 16, 3) := by decide +kernel
theorem dX9_meet_8 : decode cX9_meet 8 = .ok (.aload_n 0, 1) := by decide +kernel
theorem dX9_meet_9 : decode cX9_meet 9 = .ok (.iload_n 2, 1) := by decide +kernel
theorem dX9_meet_10 : decode cX9_meet 10 = .ok (.invokevirtual 203, 3) := by decide +kernel
theorem dX9_meet_13 : decode cX9_meet 13 = .ok (.ifCond .eq 8, 3) := by decide +kernel
theorem dX9_meet_16 : decode cX9_meet 16 = .ok (.iload_n 1, 1) := by decide +kernel
theorem dX9_meet_17 : decode cX9_meet 17 = .ok (.iload_n 2, 1) := by decide +kernel
theorem dX9_meet_18 : decode cX9_meet 18 = .ok (.if_icmp .ne 5, 3) := by decide +kernel
theorem dX9_meet_21 : decode cX9_meet 21 = .ok (.iconst (-1), 1) := by decide +kernel
theorem dX9_meet_22 : decode cX9_meet 22 = .ok (.ireturn, 1) := by decide +kernel
theorem dX9_meet_23 : decode cX9_meet 23 = .ok (.aload_n 0, 1) := by decide +kernel
theorem dX9_meet_24 : decode cX9_meet 24 = .ok (.getfield 16, 3) := by decide +kernel
theorem dX9_meet_27 : decode cX9_meet 27 = .ok (.iconst 0, 1) := by decide +kernel
theorem dX9_meet_28 : decode cX9_meet 28 = .ok (.aload_n 0, 1) := by decide +kernel
theorem dX9_meet_29 : decode cX9_meet 29 = .ok (.getfield 19, 3) := by decide +kernel
theorem dX9_meet_32 : decode cX9_meet 32 = .ok (.iconst 0, 1) := by decide +kernel
theorem dX9_meet_33 : decode cX9_meet 33 = .ok (.sipush 170, 3) := by decide +kernel
theorem dX9_meet_36 : decode cX9_meet 36 = .ok (.invokestatic 97, 3) := by decide +kernel
theorem dX9_meet_39 : decode cX9_meet 39 = .ok (.iconst 0, 1) := by decide +kernel
theorem dX9_meet_40 : decode cX9_meet 40 = .ok (.istore_n 3, 1) := by decide +kernel
theorem dX9_meet_41 : decode cX9_meet 41 = .ok (.iload_n 3, 1) := by decide +kernel
theorem dX9_meet_42 : decode cX9_meet 42 = .ok (.bipush 61, 2) := by decide +kernel
theorem dX9_meet_44 : decode cX9_meet 44 = .ok (.if_icmp .ge 78, 3) := by decide +kernel
theorem dX9_meet_47 : decode cX9_meet 47 = .ok (.aload_n 0, 1) := by decide +kernel
theorem dX9_meet_48 : decode cX9_meet 48 = .ok (.getfield 19, 3) := by decide +kernel
theorem dX9_meet_51 : decode cX9_meet 51 = .ok (.sipush 146, 3) := by decide +kernel
theorem dX9_meet_54 : decode cX9_meet 54 = .ok (.iload_n 1, 1) := by decide +kernel
theorem dX9_meet_55 : decode cX9_meet 55 = .ok (.iadd, 1) := by decide +kernel
theorem dX9_meet_56 : decode cX9_meet 56 = .ok (.iaload, 1) := by decide +kernel
theorem dX9_meet_57 : decode cX9_meet 57 = .ok (.aload_n 0, 1) := by decide +kernel
theorem dX9_meet_58 : decode cX9_meet 58 = .ok (.getfield 19, 3) := by decide +kernel
theorem dX9_meet_61 : decode cX9_meet 61 = .ok (.sipush 146, 3) := by decide +kernel
theorem dX9_meet_64 : decode cX9_meet 64 = .ok (.iload_n 2, 1) := by decide +kernel
theorem dX9_meet_65 : decode cX9_meet 65 = .ok (.iadd, 1) := by decide +kernel
theorem dX9_meet_66 : decode cX9_meet 66 = .ok (.iaload, 1) := by decide +kernel
theorem dX9_meet_67 : decode cX9_meet 67 = .ok (.if_icmp .ne 31, 3) := by decide +kernel
theorem dX9_meet_70 : decode cX9_meet 70 = .ok (.aload_n 0, 1) := by decide +kernel
theorem dX9_meet_71 : decode cX9_meet 71 = .ok (.getfield 19, 3) := by decide +kernel
theorem dX9_meet_74 : decode cX9_meet 74 = .ok (.sipush 166, 3) := by decide +kernel
theorem dX9_meet_77 : decode cX9_meet 77 = .ok (.iload_n 1, 1) := by decide +kernel
theorem dX9_meet_78 : decode cX9_meet 78 = .ok (.iadd, 1) := by decide +kernel
theorem dX9_meet_79 : decode cX9_meet 79 = .ok (.iaload, 1) := by decide +kernel
theorem dX9_meet_80 : decode cX9_meet 80 = .ok (.ifCond .ne 18, 3) := by decide +kernel
theorem dX9_meet_83 : decode cX9_meet 83 = .ok (.aload_n 0, 1) := by decide +kernel
theorem dX9_meet_84 : decode cX9_meet 84 = .ok (.getfield 19, 3) := by decide +kernel
theorem dX9_meet_87 : decode cX9_meet 87 = .ok (.sipush 166, 3) := by decide +kernel
theorem dX9_meet_90 : decode cX9_meet 90 = .ok (.iload_n 2, 1) := by decide +kernel
theorem dX9_meet_91 : decode cX9_meet 91 = .ok (.iadd, 1) := by decide +kernel
theorem dX9_meet_92 : decode cX9_meet 92 = .ok (.iaload, 1) := by decide +kernel
theorem dX9_meet_93 : decode cX9_meet 93 = .ok (.ifCond .ne 5, 3) := by decide +kernel
theorem dX9_meet_96 : decode cX9_meet 96 = .ok (.iload_n 3, 1) := by decide +kernel
theorem dX9_meet_97 : decode cX9_meet 97 = .ok (.ireturn, 1) := by decide +kernel
theorem dX9_meet_98 : decode cX9_meet 98 = .ok (.aload_n 0, 1) := by decide +kernel
theorem dX9_meet_99 : decode cX9_meet 99 = .ok (.aload_n 0, 1) := by decide +kernel
theorem dX9_meet_100 : decode cX9_meet 100 = .ok (.getfield 19, 3) := by decide +kernel
theorem dX9_meet_103 : decode cX9_meet 103 = .ok (.iload_n 1, 1) := by decide +kernel
theorem dX9_meet_104 : decode cX9_meet 104 = .ok (.invokevirtual 214, 3) := by decide +kernel
theorem dX9_meet_107 : decode cX9_meet 107 = .ok (.aload_n 0, 1) := by decide +kernel
theorem dX9_meet_108 : decode cX9_meet 108 = .ok (.aload_n 0, 1) := by decide +kernel
theorem dX9_meet_109 : decode cX9_meet 109 = .ok (.getfield 19, 3) := by decide +kernel
theorem dX9_meet_112 : decode cX9_meet 112 = .ok (.iload_n 2, 1) := by decide +kernel
theorem dX9_meet_113 : decode cX9_meet 113 = .ok (.invokevirtual 214, 3) := by decide +kernel
theorem dX9_meet_116 : decode cX9_meet 116 = .ok (.iinc 3 1, 3) := by decide +kernel
theorem dX9_meet_119 : decode cX9_meet 119 = .ok (.goto (-78), 3) := by decide +kernel
theorem dX9_meet_122 : decode cX9_meet 122 = .ok (.bipush (-4), 2) := by decide +kernel
theorem dX9_meet_124 : decode cX9_meet 124 = .ok (.ireturn, 1) := by decide +kernel
theorem dX9_clash_0 : decode cX9_clash 0 = .ok (.aload_n 0, 1) := by decide +kernel
theorem dX9_clash_1 : decode cX9_clash 1 = .ok (.iload_n 1, 1) := by decide +kernel
theorem dX9_clash_2 : decode cX9_clash 2 = .ok (.invokevirtual 198, 3) := by decide +kernel
theorem dX9_clash_5 : decode cX9_clash 5 = .ok (.ifCond .eq 26, 3) := by decide +kernel
theorem dX9_clash_8 : decode cX9_clash 8 = .ok (.aload_n 0, 1) := by decide +kernel
theorem dX9_clash_9 : decode cX9_clash 9 = .ok (.iload_n 2, 1) := by decide +kernel
theorem dX9_clash_10 : decode cX9_clash 10 = .ok (.invokevirtual 198, 3) := by decide +kernel
theorem dX9_clash_13 : decode cX9_clash 13 = .ok (.ifCond .eq 18, 3) := by decide +kernel
theorem dX9_clash_16 : decode cX9_clash 16 = .ok (.iload_n 1, 1) := by decide +kernel
theorem dX9_clash_17 : decode cX9_clash 17 = .ok (.iload_n 2, 1) := by decide +kernel
theorem dX9_clash_18 : decode cX9_clash 18 = .ok (.if_icmp .eq 13, 3) := by decide +kernel
theorem dX9_clash_21 : decode cX9_clash 21 = .ok (.iload_n 3, 1) := by decide +kernel
theorem dX9_clash_22 : decode cX9_clash 22 = .ok (.i2l, 1) := by decide +kernel
theorem dX9_clash_23 : decode cX9_clash 23 = .ok (.lconst 0, 1) := by decide +kernel
theorem dX9_clash_24 : decode cX9_clash 24 = .ok (.lconst 1, 1) := by decide +kernel
theorem dX9_clash_25 : decode cX9_clash 25 = .ok (.invokestatic 114, 3) := by decide +kernel
theorem dX9_clash_28 : decode cX9_clash 28 = .ok (.ifCond .ne 5, 3) := by decide +kernel
theorem dX9_clash_31 : decode cX9_clash 31 = .ok (.iconst (-1), 1) := by decide +kernel
theorem dX9_clash_32 : decode cX9_clash 32 = .ok (.ireturn, 1) := by decide +kernel
theorem dX9_clash_33 : decode cX9_clash 33 = .ok (.iconst 0, 1) := by decide +kernel
theorem dX9_clash_34 : decode cX9_clash 34 = .ok (.istore 4, 2) := by decide +kernel
theorem dX9_clash_36 : decode cX9_clash 36 = .ok (.bipush (-4), 2) := by decide +kernel
theorem dX9_clash_38 : decode cX9_clash 38 = .ok (.istore 5, 2) := by decide +kernel
theorem dX9_clash_40 : decode cX9_clash 40 = .ok (.aload_n 0, 1) := by decide +kernel
theorem dX9_clash_41 : decode cX9_clash 41 = .ok (.getfield 85, 3) := by decide +kernel
theorem dX9_clash_44 : decode cX9_clash 44 = .ok (.aload_n 0, 1) := by decide +kernel
theorem dX9_clash_45 : decode cX9_clash 45 = .ok (.getfield 88, 3) := by decide +kernel
theorem dX9_clash_48 : decode cX9_clash 48 = .ok (.imul, 1) := by decide +kernel
theorem dX9_clash_49 : decode cX9_clash 49 = .ok (.iconst 1, 1) := by decide +kernel
theorem dX9_clash_50 : decode cX9_clash 50 = .ok (.isub, 1) := by decide +kernel
theorem dX9_clash_51 : decode cX9_clash 51 = .ok (.istore 6, 2) := by decide +kernel
theorem dX9_clash_53 : decode cX9_clash 53 = .ok (.iload 6, 2) := by decide +kernel
theorem dX9_clash_55 : decode cX9_clash 55 = .ok (.ifCond .lt 68, 3) := by decide +kernel
theorem dX9_clash_58 : decode cX9_clash 58 = .ok (.aload_n 0, 1) := by decide +kernel
theorem dX9_clash_59 : decode cX9_clash 59 = .ok (.getfield 16, 3) := by decide +kernel
theorem dX9_clash_62 : decode cX9_clash 62 = .ok (.iload_n 1, 1) := by decide +kernel
theorem dX9_clash_63 : decode cX9_clash 63 = .ok (.iload 6, 2) := by decide +kernel
theorem dX9_clash_65 : decode cX9_clash 65 = .ok (.invokestatic 172, 3) := by decide +kernel
theorem dX9_clash_68 : decode cX9_clash 68 = .ok (.aload_n 0, 1) := by decide +kernel
theorem dX9_clash_69 : decode cX9_clash 69 = .ok (.getfield 16, 3) := by decide +kernel
theorem dX9_clash_72 : decode cX9_clash 72 = .ok (.iload_n 2, 1) := by decide +kernel
theorem dX9_clash_73 : decode cX9_clash 73 = .ok (.iload 6, 2) := by decide +kernel
theorem dX9_clash_75 : decode cX9_clash 75 = .ok (.invokestatic 172, 3) := by decide +kernel
theorem dX9_clash_78 : decode cX9_clash 78 = .ok (.if_icmp .eq 7, 3) := by decide +kernel
theorem dX9_clash_81 : decode cX9_clash 81 = .ok (.iconst 1, 1) := by decide +kernel
theorem dX9_clash_82 : decode cX9_clash 82 = .ok (.goto 4, 3) := by decide +kernel
theorem dX9_clash_85 : decode cX9_clash 85 = .ok (.iconst 0, 1) := by decide +kernel
theorem dX9_clash_86 : decode cX9_clash 86 = .ok (.istore 7, 2) := by decide +kernel
theorem dX9_clash_88 : decode cX9_clash 88 = .ok (.iload 4, 2) := by decide +kernel
theorem dX9_clash_90 : decode cX9_clash 90 = .ok (.iload 7, 2) := by decide +kernel
theorem dX9_clash_92 : decode cX9_clash 92 = .ok (.ifCond .eq 7, 3) := by decide +kernel
theorem dX9_clash_95 : decode cX9_clash 95 = .ok (.iconst 1, 1) := by decide +kernel
theorem dX9_clash_96 : decode cX9_clash 96 = .ok (.goto 4, 3) := by decide +kernel
theorem dX9_clash_99 : decode cX9_clash 99 = .ok (.iconst 0, 1) := by decide +kernel
theorem dX9_clash_100 : decode cX9_clash 100 = .ok (.iadd, 1) := by decide +kernel
theorem dX9_clash_101 : decode cX9_clash 101 = .ok (.istore 4, 2) := by decide +kernel
theorem dX9_clash_103 : decode cX9_clash 103 = .ok (.iload 7, 2) := by decide +kernel
theorem dX9_clash_105 : decode cX9_clash 105 = .ok (.ifCond .eq 8, 3) := by decide +kernel
theorem dX9_clash_108 : decode cX9_clash 108 = .ok (.iload 6, 2) := by decide +kernel
theorem dX9_clash_110 : decode cX9_clash 110 = .ok (.goto 5, 3) := by decide +kernel
theorem dX9_clash_113 : decode cX9_clash 113 = .ok (.iload 5, 2) := by decide +kernel
theorem dX9_clash_115 : decode cX9_clash 115 = .ok (.istore 5, 2) := by decide +kernel
theorem dX9_clash_117 : decode cX9_clash 117 = .ok (.iinc 6 (-1), 3) := by decide +kernel
theorem dX9_clash_120 : decode cX9_clash 120 = .ok (.goto (-67), 3) := by decide +kernel
theorem dX9_clash_123 : decode cX9_clash 123 = .ok (.iload_n 3, 1) := by decide +kernel
theorem dX9_clash_124 : decode cX9_clash 124 = .ok (.ifCond .ne 8, 3) := by decide +kernel
theorem dX9_clash_127 : decode cX9_clash 127 = .ok (.iload 4, 2) := by decide +kernel
theorem dX9_clash_129 : decode cX9_clash 129 = .ok (.goto 5, 3) := by decide +kernel
theorem dX9_clash_132 : decode cX9_clash 132 = .ok (.iload 5, 2) := by decide +kernel
theorem dX9_clash_134 : decode cX9_clash 134 = .ok (.ireturn, 1) := by decide +kernel
theorem dX9_right_0 : decode cX9_right 0 = .ok (.aload_n 0, 1) := by decide +kernel
theorem dX9_right_1 : decode cX9_right 1 = .ok (.iload_n 1, 1) := by decide +kernel
theorem dX9_right_2 : decode cX9_right 2 = .ok (.invokevirtual 195, 3) := by decide +kernel
theorem dX9_right_5 : decode cX9_right 5 = .ok (.ifCond .eq 11, 3) := by decide +kernel
theorem dX9_right_8 : decode cX9_right 8 = .ok (.aload_n 0, 1) := by decide +kernel
theorem dX9_right_9 : decode cX9_right 9 = .ok (.iload_n 2, 1) := by decide +kernel
theorem dX9_right_10 : decode cX9_right 10 = .ok (.invokevirtual 195, 3) := by decide +kernel
theorem dX9_right_13 : decode cX9_right 13 = .ok (.ifCond .ne 5, 3) := by decide +kernel
theorem dX9_right_16 : decode cX9_right 16 = .ok (.iconst (-1), 1) := by decide +kernel
theorem dX9_right_17 : decode cX9_right 17 = .ok (.ireturn, 1) := by decide +kernel
theorem dX9_right_18 : decode cX9_right 18 = .ok (.aload_n 0, 1) := by decide +kernel
theorem dX9_right_19 : decode cX9_right 19 = .ok (.aload_n 0, 1) := by decide +kernel
theorem dX9_right_20 : decode cX9_right 20 = .ok (.getfield 16, 3) := by decide +kernel
theorem dX9_right_23 : decode cX9_right 23 = .ok (.iconst (-1), 1) := by decide +kernel
theorem dX9_right_24 : decode cX9_right 24 = .ok (.iload_n 1, 1) := by decide +kernel
theorem dX9_right_25 : decode cX9_right 25 = .ok (.iload_n 2, 1) := by decide +kernel
theorem dX9_right_26 : decode cX9_right 26 = .ok (.invokevirtual 208, 3) := by decide +kernel
theorem dX9_right_29 : decode cX9_right 29 = .ok (.istore_n 3, 1) := by decide +kernel
theorem dX9_right_30 : decode cX9_right 30 = .ok (.iconst 0, 1) := by decide +kernel
theorem dX9_right_31 : decode cX9_right 31 = .ok (.istore 4, 2) := by decide +kernel
theorem dX9_right_33 : decode cX9_right 33 = .ok (.iconst 0, 1) := by decide +kernel
theorem dX9_right_34 : decode cX9_right 34 = .ok (.istore 5, 2) := by decide +kernel
theorem dX9_right_36 : decode cX9_right 36 = .ok (.iload 5, 2) := by decide +kernel
theorem dX9_right_38 : decode cX9_right 38 = .ok (.aload_n 0, 1) := by decide +kernel
theorem dX9_right_39 : decode cX9_right 39 = .ok (.getfield 91, 3) := by decide +kernel
theorem dX9_right_42 : decode cX9_right 42 = .ok (.if_icmp .ge 51, 3) := by decide +kernel
theorem dX9_right_45 : decode cX9_right 45 = .ok (.iload_n 3, 1) := by decide +kernel
theorem dX9_right_46 : decode cX9_right 46 = .ok (.bipush (-4), 2) := by decide +kernel
theorem dX9_right_48 : decode cX9_right 48 = .ok (.if_icmp .eq 45, 3) := by decide +kernel
theorem dX9_right_51 : decode cX9_right 51 = .ok (.aload_n 0, 1) := by decide +kernel
theorem dX9_right_52 : decode cX9_right 52 = .ok (.iload 5, 2) := by decide +kernel
theorem dX9_right_54 : decode cX9_right 54 = .ok (.iload_n 1, 1) := by decide +kernel
theorem dX9_right_55 : decode cX9_right 55 = .ok (.iload_n 2, 1) := by decide +kernel
theorem dX9_right_56 : decode cX9_right 56 = .ok (.invokevirtual 238, 3) := by decide +kernel
theorem dX9_right_59 : decode cX9_right 59 = .ok (.istore 6, 2) := by decide +kernel
theorem dX9_right_61 : decode cX9_right 61 = .ok (.iload 4, 2) := by decide +kernel
theorem dX9_right_63 : decode cX9_right 63 = .ok (.iload 6, 2) := by decide +kernel
theorem dX9_right_65 : decode cX9_right 65 = .ok (.bipush (-4), 2) := by decide +kernel
theorem dX9_right_67 : decode cX9_right 67 = .ok (.if_icmp .eq 16, 3) := by decide +kernel
theorem dX9_right_70 : decode cX9_right 70 = .ok (.iload 6, 2) := by decide +kernel
theorem dX9_right_72 : decode cX9_right 72 = .ok (.iload_n 3, 1) := by decide +kernel
theorem dX9_right_73 : decode cX9_right 73 = .ok (.if_icmp .gt 10, 3) := by decide +kernel
theorem dX9_right_76 : decode cX9_right 76 = .ok (.iconst 1, 1) := by decide +kernel
theorem dX9_right_77 : decode cX9_right 77 = .ok (.iload 5, 2) := by decide +kernel
theorem dX9_right_79 : decode cX9_right 79 = .ok (.ishl, 1) := by decide +kernel
theorem dX9_right_80 : decode cX9_right 80 = .ok (.goto 4, 3) := by decide +kernel
theorem dX9_right_83 : decode cX9_right 83 = .ok (.iconst 0, 1) := by decide +kernel
theorem dX9_right_84 : decode cX9_right 84 = .ok (.ior, 1) := by decide +kernel
theorem dX9_right_85 : decode cX9_right 85 = .ok (.istore 4, 2) := by decide +kernel
theorem dX9_right_87 : decode cX9_right 87 = .ok (.iinc 5 1, 3) := by decide +kernel
theorem dX9_right_90 : decode cX9_right 90 = .ok (.goto (-54), 3) := by decide +kernel
theorem dX9_right_93 : decode cX9_right 93 = .ok (.iload 4, 2) := by decide +kernel
theorem dX9_right_95 : decode cX9_right 95 = .ok (.ireturn, 1) := by decide +kernel
theorem dX9_hear_0 : decode cX9_hear 0 = .ok (.aload_n 0, 1) := by decide +kernel
theorem dX9_hear_1 : decode cX9_hear 1 = .ok (.iload_n 1, 1) := by decide +kernel
theorem dX9_hear_2 : decode cX9_hear 2 = .ok (.invokevirtual 195, 3) := by decide +kernel
theorem dX9_hear_5 : decode cX9_hear 5 = .ok (.ifCond .eq 15, 3) := by decide +kernel
theorem dX9_hear_8 : decode cX9_hear 8 = .ok (.iload_n 2, 1) := by decide +kernel
theorem dX9_hear_9 : decode cX9_hear 9 = .ok (.i2l, 1) := by decide +kernel
theorem dX9_hear_10 : decode cX9_hear 10 = .ok (.lconst 0, 1) := by decide +kernel
theorem dX9_hear_11 : decode cX9_hear 11 = .ok (.ldc2_w 227, 3) := by decide +kernel
theorem dX9_hear_14 : decode cX9_hear 14 = .ok (.invokestatic 114, 3) := by decide +kernel
theorem dX9_hear_17 : decode cX9_hear 17 = .ok (.ifCond .ne 5, 3) := by decide +kernel
theorem dX9_hear_20 : decode cX9_hear 20 = .ok (.iconst (-1), 1) := by decide +kernel
theorem dX9_hear_21 : decode cX9_hear 21 = .ok (.ireturn, 1) := by decide +kernel
theorem dX9_hear_22 : decode cX9_hear 22 = .ok (.aload_n 0, 1) := by decide +kernel
theorem dX9_hear_23 : decode cX9_hear 23 = .ok (.getfield 107, 3) := by decide +kernel
theorem dX9_hear_26 : decode cX9_hear 26 = .ok (.bipush 8, 2) := by decide +kernel
theorem dX9_hear_28 : decode cX9_hear 28 = .ok (.if_icmp .ne 6, 3) := by decide +kernel
theorem dX9_hear_31 : decode cX9_hear 31 = .ok (.bipush (-3), 2) := by decide +kernel
theorem dX9_hear_33 : decode cX9_hear 33 = .ok (.ireturn, 1) := by decide +kernel
theorem dX9_hear_34 : decode cX9_hear 34 = .ok (.aload_n 0, 1) := by decide +kernel
theorem dX9_hear_35 : decode cX9_hear 35 = .ok (.getfield 28, 3) := by decide +kernel
theorem dX9_hear_38 : decode cX9_hear 38 = .ok (.iconst 2, 1) := by decide +kernel
theorem dX9_hear_39 : decode cX9_hear 39 = .ok (.aload_n 0, 1) := by decide +kernel
theorem dX9_hear_40 : decode cX9_hear 40 = .ok (.getfield 107, 3) := by decide +kernel
theorem dX9_hear_43 : decode cX9_hear 43 = .ok (.imul, 1) := by decide +kernel
theorem dX9_hear_44 : decode cX9_hear 44 = .ok (.iload_n 1, 1) := by decide +kernel
theorem dX9_hear_45 : decode cX9_hear 45 = .ok (.iastore, 1) := by decide +kernel
theorem dX9_hear_46 : decode cX9_hear 46 = .ok (.aload_n 0, 1) := by decide +kernel
theorem dX9_hear_47 : decode cX9_hear 47 = .ok (.getfield 28, 3) := by decide +kernel
theorem dX9_hear_50 : decode cX9_hear 50 = .ok (.iconst 2, 1) := by decide +kernel
theorem dX9_hear_51 : decode cX9_hear 51 = .ok (.aload_n 0, 1) := by decide +kernel
theorem dX9_hear_52 : decode cX9_hear 52 = .ok (.getfield 107, 3) := by decide +kernel
theorem dX9_hear_55 : decode cX9_hear 55 = .ok (.imul, 1) := by decide +kernel
theorem dX9_hear_56 : decode cX9_hear 56 = .ok (.iconst 1, 1) := by decide +kernel
theorem dX9_hear_57 : decode cX9_hear 57 = .ok (.iadd, 1) := by decide +kernel
theorem dX9_hear_58 : decode cX9_hear 58 = .ok (.iload_n 2, 1) := by decide +kernel
theorem dX9_hear_59 : decode cX9_hear 59 = .ok (.iastore, 1) := by decide +kernel
theorem dX9_hear_60 : decode cX9_hear 60 = .ok (.aload_n 0, 1) := by decide +kernel
theorem dX9_hear_61 : decode cX9_hear 61 = .ok (.dup, 1) := by decide +kernel
theorem dX9_hear_62 : decode cX9_hear 62 = .ok (.getfield 107, 3) := by decide +kernel
theorem dX9_hear_65 : decode cX9_hear 65 = .ok (.iconst 1, 1) := by decide +kernel
theorem dX9_hear_66 : decode cX9_hear 66 = .ok (.iadd, 1) := by decide +kernel
theorem dX9_hear_67 : decode cX9_hear 67 = .ok (.putfield 107, 3) := by decide +kernel
theorem dX9_hear_70 : decode cX9_hear 70 = .ok (.aload_n 0, 1) := by decide +kernel
theorem dX9_hear_71 : decode cX9_hear 71 = .ok (.getfield 107, 3) := by decide +kernel
theorem dX9_hear_74 : decode cX9_hear 74 = .ok (.ireturn, 1) := by decide +kernel
theorem dX9_forget_0 : decode cX9_forget 0 = .ok (.aload_n 0, 1) := by decide +kernel
theorem dX9_forget_1 : decode cX9_forget 1 = .ok (.getfield 107, 3) := by decide +kernel
theorem dX9_forget_4 : decode cX9_forget 4 = .ok (.istore_n 1, 1) := by decide +kernel
theorem dX9_forget_5 : decode cX9_forget 5 = .ok (.aload_n 0, 1) := by decide +kernel
theorem dX9_forget_6 : decode cX9_forget 6 = .ok (.iconst 0, 1) := by decide +kernel
theorem dX9_forget_7 : decode cX9_forget 7 = .ok (.putfield 107, 3) := by decide +kernel
theorem dX9_forget_10 : decode cX9_forget 10 = .ok (.iload_n 1, 1) := by decide +kernel
theorem dX9_forget_11 : decode cX9_forget 11 = .ok (.ireturn, 1) := by decide +kernel
theorem dX9_which_0 : decode cX9_which 0 = .ok (.iconst 0, 1) := by decide +kernel
theorem dX9_which_1 : decode cX9_which 1 = .ok (.istore_n 1, 1) := by decide +kernel
theorem dX9_which_2 : decode cX9_which 2 = .ok (.iconst 0, 1) := by decide +kernel
theorem dX9_which_3 : decode cX9_which 3 = .ok (.istore_n 2, 1) := by decide +kernel
theorem dX9_which_4 : decode cX9_which 4 = .ok (.iload_n 2, 1) := by decide +kernel
theorem dX9_which_5 : decode cX9_which 5 = .ok (.aload_n 0, 1) := by decide +kernel
theorem dX9_which_6 : decode cX9_which 6 = .ok (.getfield 91, 3) := by decide +kernel
theorem dX9_which_9 : decode cX9_which 9 = .ok (.if_icmp .ge 82, 3) := by decide +kernel
theorem dX9_which_12 : decode cX9_which 12 = .ok (.iconst 1, 1) := by decide +kernel
theorem dX9_which_13 : decode cX9_which 13 = .ok (.istore_n 3, 1) := by decide +kernel
theorem dX9_which_14 : decode cX9_which 14 = .ok (.iconst 0, 1) := by decide +kernel
theorem dX9_which_15 : decode cX9_which 15 = .ok (.istore 4, 2) := by decide +kernel
theorem dX9_which_17 : decode cX9_which 17 = .ok (.iload 4, 2) := by decide +kernel
theorem dX9_which_19 : decode cX9_which 19 = .ok (.iconst 2, 1) := by decide +kernel
theorem dX9_which_20 : decode cX9_which 20 = .ok (.aload_n 0, 1) := by decide +kernel
theorem dX9_which_21 : decode cX9_which 21 = .ok (.getfield 107, 3) := by decide +kernel
theorem dX9_which_24 : decode cX9_which 24 = .ok (.imul, 1) := by decide +kernel
theorem dX9_which_25 : decode cX9_which 25 = .ok (.if_icmp .ge 46, 3) := by decide +kernel
theorem dX9_which_28 : decode cX9_which 28 = .ok (.iload_n 3, 1) := by decide +kernel
theorem dX9_which_29 : decode cX9_which 29 = .ok (.ifCond .eq 34, 3) := by decide +kernel
theorem dX9_which_32 : decode cX9_which 32 = .ok (.aload_n 0, 1) := by decide +kernel
theorem dX9_which_33 : decode cX9_which 33 = .ok (.getfield 16, 3) := by decide +kernel
theorem dX9_which_36 : decode cX9_which 36 = .ok (.iload_n 2, 1) := by decide +kernel
theorem dX9_which_37 : decode cX9_which 37 = .ok (.aload_n 0, 1) := by decide +kernel
theorem dX9_which_38 : decode cX9_which 38 = .ok (.getfield 28, 3) := by decide +kernel
theorem dX9_which_41 : decode cX9_which 41 = .ok (.iload 4, 2) := by decide +kernel
theorem dX9_which_43 : decode cX9_which 43 = .ok (.iaload, 1) := by decide +kernel
theorem dX9_which_44 : decode cX9_which 44 = .ok (.invokestatic 172, 3) := by decide +kernel
theorem dX9_which_47 : decode cX9_which 47 = .ok (.aload_n 0, 1) := by decide +kernel
theorem dX9_which_48 : decode cX9_which 48 = .ok (.getfield 28, 3) := by decide +kernel
theorem dX9_which_51 : decode cX9_which 51 = .ok (.iload 4, 2) := by decide +kernel
theorem dX9_which_53 : decode cX9_which 53 = .ok (.iconst 1, 1) := by decide +kernel
theorem dX9_which_54 : decode cX9_which 54 = .ok (.iadd, 1) := by decide +kernel
theorem dX9_which_55 : decode cX9_which 55 = .ok (.iaload, 1) := by decide +kernel
theorem dX9_which_56 : decode cX9_which 56 = .ok (.if_icmp .ne 7, 3) := by decide +kernel
theorem dX9_which_59 : decode cX9_which 59 = .ok (.iconst 1, 1) := by decide +kernel
theorem dX9_which_60 : decode cX9_which 60 = .ok (.goto 4, 3) := by decide +kernel
theorem dX9_which_63 : decode cX9_which 63 = .ok (.iconst 0, 1) := by decide +kernel
theorem dX9_which_64 : decode cX9_which 64 = .ok (.istore_n 3, 1) := by decide +kernel
theorem dX9_which_65 : decode cX9_which 65 = .ok (.iinc 4 2, 3) := by decide +kernel
theorem dX9_which_68 : decode cX9_which 68 = .ok (.goto (-51), 3) := by decide +kernel
theorem dX9_which_71 : decode cX9_which 71 = .ok (.iload_n 1, 1) := by decide +kernel
theorem dX9_which_72 : decode cX9_which 72 = .ok (.iload_n 3, 1) := by decide +kernel
theorem dX9_which_73 : decode cX9_which 73 = .ok (.ifCond .eq 9, 3) := by decide +kernel
theorem dX9_which_76 : decode cX9_which 76 = .ok (.iconst 1, 1) := by decide +kernel
theorem dX9_which_77 : decode cX9_which 77 = .ok (.iload_n 2, 1) := by decide +kernel
theorem dX9_which_78 : decode cX9_which 78 = .ok (.ishl, 1) := by decide +kernel
theorem dX9_which_79 : decode cX9_which 79 = .ok (.goto 4, 3) := by decide +kernel
theorem dX9_which_82 : decode cX9_which 82 = .ok (.iconst 0, 1) := by decide +kernel
theorem dX9_which_83 : decode cX9_which 83 = .ok (.ior, 1) := by decide +kernel
theorem dX9_which_84 : decode cX9_which 84 = .ok (.istore_n 1, 1) := by decide +kernel
theorem dX9_which_85 : decode cX9_which 85 = .ok (.iinc 2 1, 3) := by decide +kernel
theorem dX9_which_88 : decode cX9_which 88 = .ok (.goto (-84), 3) := by decide +kernel
theorem dX9_which_91 : decode cX9_which 91 = .ok (.iload_n 1, 1) := by decide +kernel
theorem dX9_which_92 : decode cX9_which 92 = .ok (.ireturn, 1) := by decide +kernel
theorem dX9_seen_0 : decode cX9_seen 0 = .ok (.aload_n 0, 1) := by decide +kernel
theorem dX9_seen_1 : decode cX9_seen 1 = .ok (.iload_n 1, 1) := by decide +kernel
theorem dX9_seen_2 : decode cX9_seen 2 = .ok (.invokevirtual 203, 3) := by decide +kernel
theorem dX9_seen_5 : decode cX9_seen 5 = .ok (.ifCond .eq 23, 3) := by decide +kernel
theorem dX9_seen_8 : decode cX9_seen 8 = .ok (.aload_n 0, 1) := by decide +kernel
theorem dX9_seen_9 : decode cX9_seen 9 = .ok (.iload_n 2, 1) := by decide +kernel
theorem dX9_seen_10 : decode cX9_seen 10 = .ok (.invokevirtual 195, 3) := by decide +kernel
theorem dX9_seen_13 : decode cX9_seen 13 = .ok (.ifCond .eq 15, 3) := by decide +kernel
theorem dX9_seen_16 : decode cX9_seen 16 = .ok (.iload_n 3, 1) := by decide +kernel
theorem dX9_seen_17 : decode cX9_seen 17 = .ok (.i2l, 1) := by decide +kernel
theorem dX9_seen_18 : decode cX9_seen 18 = .ok (.lconst 0, 1) := by decide +kernel
theorem dX9_seen_19 : decode cX9_seen 19 = .ok (.ldc2_w 242, 3) := by decide +kernel
theorem dX9_seen_22 : decode cX9_seen 22 = .ok (.invokestatic 114, 3) := by decide +kernel
theorem dX9_seen_25 : decode cX9_seen 25 = .ok (.ifCond .ne 5, 3) := by decide +kernel
theorem dX9_seen_28 : decode cX9_seen 28 = .ok (.iconst (-1), 1) := by decide +kernel
theorem dX9_seen_29 : decode cX9_seen 29 = .ok (.ireturn, 1) := by decide +kernel
theorem dX9_seen_30 : decode cX9_seen 30 = .ok (.iconst 0, 1) := by decide +kernel
theorem dX9_seen_31 : decode cX9_seen 31 = .ok (.istore 4, 2) := by decide +kernel
theorem dX9_seen_33 : decode cX9_seen 33 = .ok (.iconst 0, 1) := by decide +kernel
theorem dX9_seen_34 : decode cX9_seen 34 = .ok (.istore 5, 2) := by decide +kernel
theorem dX9_seen_36 : decode cX9_seen 36 = .ok (.iload 5, 2) := by decide +kernel
theorem dX9_seen_38 : decode cX9_seen 38 = .ok (.aload_n 0, 1) := by decide +kernel
theorem dX9_seen_39 : decode cX9_seen 39 = .ok (.getfield 91, 3) := by decide +kernel
theorem dX9_seen_42 : decode cX9_seen 42 = .ok (.if_icmp .ge 88, 3) := by decide +kernel
theorem dX9_seen_45 : decode cX9_seen 45 = .ok (.aload_n 0, 1) := by decide +kernel
theorem dX9_seen_46 : decode cX9_seen 46 = .ok (.getfield 16, 3) := by decide +kernel
theorem dX9_seen_49 : decode cX9_seen 49 = .ok (.iconst 0, 1) := by decide +kernel
theorem dX9_seen_50 : decode cX9_seen 50 = .ok (.aload_n 0, 1) := by decide +kernel
theorem dX9_seen_51 : decode cX9_seen 51 = .ok (.getfield 19, 3) := by decide +kernel
theorem dX9_seen_54 : decode cX9_seen 54 = .ok (.iconst 0, 1) := by decide +kernel
theorem dX9_seen_55 : decode cX9_seen 55 = .ok (.sipush 170, 3) := by decide +kernel
theorem dX9_seen_58 : decode cX9_seen 58 = .ok (.invokestatic 97, 3) := by decide +kernel
theorem dX9_seen_61 : decode cX9_seen 61 = .ok (.aload_n 0, 1) := by decide +kernel
theorem dX9_seen_62 : decode cX9_seen 62 = .ok (.getfield 19, 3) := by decide +kernel
theorem dX9_seen_65 : decode cX9_seen 65 = .ok (.sipush 154, 3) := by decide +kernel
theorem dX9_seen_68 : decode cX9_seen 68 = .ok (.iload_n 1, 1) := by decide +kernel
theorem dX9_seen_69 : decode cX9_seen 69 = .ok (.iadd, 1) := by decide +kernel
theorem dX9_seen_70 : decode cX9_seen 70 = .ok (.iload 5, 2) := by decide +kernel
theorem dX9_seen_72 : decode cX9_seen 72 = .ok (.iastore, 1) := by decide +kernel
theorem dX9_seen_73 : decode cX9_seen 73 = .ok (.iconst 0, 1) := by decide +kernel
theorem dX9_seen_74 : decode cX9_seen 74 = .ok (.istore 6, 2) := by decide +kernel
theorem dX9_seen_76 : decode cX9_seen 76 = .ok (.iload 6, 2) := by decide +kernel
theorem dX9_seen_78 : decode cX9_seen 78 = .ok (.iload_n 3, 1) := by decide +kernel
theorem dX9_seen_79 : decode cX9_seen 79 = .ok (.if_icmp .ge 18, 3) := by decide +kernel
theorem dX9_seen_82 : decode cX9_seen 82 = .ok (.aload_n 0, 1) := by decide +kernel
theorem dX9_seen_83 : decode cX9_seen 83 = .ok (.aload_n 0, 1) := by decide +kernel
theorem dX9_seen_84 : decode cX9_seen 84 = .ok (.getfield 19, 3) := by decide +kernel
theorem dX9_seen_87 : decode cX9_seen 87 = .ok (.iload_n 1, 1) := by decide +kernel
theorem dX9_seen_88 : decode cX9_seen 88 = .ok (.invokevirtual 214, 3) := by decide +kernel
theorem dX9_seen_91 : decode cX9_seen 91 = .ok (.iinc 6 1, 3) := by decide +kernel
theorem dX9_seen_94 : decode cX9_seen 94 = .ok (.goto (-18), 3) := by decide +kernel
theorem dX9_seen_97 : decode cX9_seen 97 = .ok (.iload 4, 2) := by decide +kernel
theorem dX9_seen_99 : decode cX9_seen 99 = .ok (.aload_n 0, 1) := by decide +kernel
theorem dX9_seen_100 : decode cX9_seen 100 = .ok (.getfield 19, 3) := by decide +kernel
theorem dX9_seen_103 : decode cX9_seen 103 = .ok (.sipush 146, 3) := by decide +kernel
theorem dX9_seen_106 : decode cX9_seen 106 = .ok (.iload_n 1, 1) := by decide +kernel
theorem dX9_seen_107 : decode cX9_seen 107 = .ok (.iadd, 1) := by decide +kernel
theorem dX9_seen_108 : decode cX9_seen 108 = .ok (.iaload, 1) := by decide +kernel
theorem dX9_seen_109 : decode cX9_seen 109 = .ok (.iload_n 2, 1) := by decide +kernel
theorem dX9_seen_110 : decode cX9_seen 110 = .ok (.if_icmp .ne 10, 3) := by decide +kernel
theorem dX9_seen_113 : decode cX9_seen 113 = .ok (.iconst 1, 1) := by decide +kernel
theorem dX9_seen_114 : decode cX9_seen 114 = .ok (.iload 5, 2) := by decide +kernel
theorem dX9_seen_116 : decode cX9_seen 116 = .ok (.ishl, 1) := by decide +kernel
theorem dX9_seen_117 : decode cX9_seen 117 = .ok (.goto 4, 3) := by decide +kernel
theorem dX9_seen_120 : decode cX9_seen 120 = .ok (.iconst 0, 1) := by decide +kernel
theorem dX9_seen_121 : decode cX9_seen 121 = .ok (.ior, 1) := by decide +kernel
theorem dX9_seen_122 : decode cX9_seen 122 = .ok (.istore 4, 2) := by decide +kernel
theorem dX9_seen_124 : decode cX9_seen 124 = .ok (.iinc 5 1, 3) := by decide +kernel
theorem dX9_seen_127 : decode cX9_seen 127 = .ok (.goto (-91), 3) := by decide +kernel
theorem dX9_seen_130 : decode cX9_seen 130 = .ok (.iload 4, 2) := by decide +kernel
theorem dX9_seen_132 : decode cX9_seen 132 = .ok (.ireturn, 1) := by decide +kernel
theorem dX9_lowest_0 : decode cX9_lowest 0 = .ok (.lload_n 0, 1) := by decide +kernel
theorem dX9_lowest_1 : decode cX9_lowest 1 = .ok (.lstore 5, 2) := by decide +kernel
theorem dX9_lowest_3 : decode cX9_lowest 3 = .ok (.lload_n 2, 1) := by decide +kernel
theorem dX9_lowest_4 : decode cX9_lowest 4 = .ok (.lstore 7, 2) := by decide +kernel
theorem dX9_lowest_6 : decode cX9_lowest 6 = .ok (.lload 7, 2) := by decide +kernel
theorem dX9_lowest_8 : decode cX9_lowest 8 = .ok (.lconst 0, 1) := by decide +kernel
theorem dX9_lowest_9 : decode cX9_lowest 9 = .ok (.lcmp, 1) := by decide +kernel
theorem dX9_lowest_10 : decode cX9_lowest 10 = .ok (.ifCond .eq 21, 3) := by decide +kernel
theorem dX9_lowest_13 : decode cX9_lowest 13 = .ok (.lload 5, 2) := by decide +kernel
theorem dX9_lowest_15 : decode cX9_lowest 15 = .ok (.lload 7, 2) := by decide +kernel
theorem dX9_lowest_17 : decode cX9_lowest 17 = .ok (.lrem, 1) := by decide +kernel
theorem dX9_lowest_18 : decode cX9_lowest 18 = .ok (.lstore 9, 2) := by decide +kernel
theorem dX9_lowest_20 : decode cX9_lowest 20 = .ok (.lload 7, 2) := by decide +kernel
theorem dX9_lowest_22 : decode cX9_lowest 22 = .ok (.lstore 5, 2) := by decide +kernel
theorem dX9_lowest_24 : decode cX9_lowest 24 = .ok (.lload 9, 2) := by decide +kernel
theorem dX9_lowest_26 : decode cX9_lowest 26 = .ok (.lstore 7, 2) := by decide +kernel
theorem dX9_lowest_28 : decode cX9_lowest 28 = .ok (.goto (-22), 3) := by decide +kernel
theorem dX9_lowest_31 : decode cX9_lowest 31 = .ok (.iload 4, 2) := by decide +kernel
theorem dX9_lowest_33 : decode cX9_lowest 33 = .ok (.ifCond .ne 10, 3) := by decide +kernel
theorem dX9_lowest_36 : decode cX9_lowest 36 = .ok (.lload_n 0, 1) := by decide +kernel
theorem dX9_lowest_37 : decode cX9_lowest 37 = .ok (.lload 5, 2) := by decide +kernel
theorem dX9_lowest_39 : decode cX9_lowest 39 = .ok (.ldiv, 1) := by decide +kernel
theorem dX9_lowest_40 : decode cX9_lowest 40 = .ok (.goto 7, 3) := by decide +kernel
theorem dX9_lowest_43 : decode cX9_lowest 43 = .ok (.lload_n 2, 1) := by decide +kernel
theorem dX9_lowest_44 : decode cX9_lowest 44 = .ok (.lload 5, 2) := by decide +kernel
theorem dX9_lowest_46 : decode cX9_lowest 46 = .ok (.ldiv, 1) := by decide +kernel
theorem dX9_lowest_47 : decode cX9_lowest 47 = .ok (.l2i, 1) := by decide +kernel
theorem dX9_lowest_48 : decode cX9_lowest 48 = .ok (.ireturn, 1) := by decide +kernel
theorem dX9_rains_0 : decode cX9_rains 0 = .ok (.aload_n 0, 1) := by decide +kernel
theorem dX9_rains_1 : decode cX9_rains 1 = .ok (.iload_n 1, 1) := by decide +kernel
theorem dX9_rains_2 : decode cX9_rains 2 = .ok (.invokevirtual 203, 3) := by decide +kernel
theorem dX9_rains_5 : decode cX9_rains 5 = .ok (.ifCond .eq 38, 3) := by decide +kernel
theorem dX9_rains_8 : decode cX9_rains 8 = .ok (.iload_n 2, 1) := by decide +kernel
theorem dX9_rains_9 : decode cX9_rains 9 = .ok (.i2l, 1) := by decide +kernel
theorem dX9_rains_10 : decode cX9_rains 10 = .ok (.lconst 0, 1) := by decide +kernel
theorem dX9_rains_11 : decode cX9_rains 11 = .ok (.ldc2_w 244, 3) := by decide +kernel
theorem dX9_rains_14 : decode cX9_rains 14 = .ok (.invokestatic 114, 3) := by decide +kernel
theorem dX9_rains_17 : decode cX9_rains 17 = .ok (.ifCond .eq 26, 3) := by decide +kernel
theorem dX9_rains_20 : decode cX9_rains 20 = .ok (.iload_n 3, 1) := by decide +kernel
theorem dX9_rains_21 : decode cX9_rains 21 = .ok (.i2l, 1) := by decide +kernel
theorem dX9_rains_22 : decode cX9_rains 22 = .ok (.lconst 0, 1) := by decide +kernel
theorem dX9_rains_23 : decode cX9_rains 23 = .ok (.ldc2_w 246, 3) := by decide +kernel
theorem dX9_rains_26 : decode cX9_rains 26 = .ok (.invokestatic 114, 3) := by decide +kernel
theorem dX9_rains_29 : decode cX9_rains 29 = .ok (.ifCond .eq 14, 3) := by decide +kernel
theorem dX9_rains_32 : decode cX9_rains 32 = .ok (.iload 4, 2) := by decide +kernel
theorem dX9_rains_34 : decode cX9_rains 34 = .ok (.i2l, 1) := by decide +kernel
theorem dX9_rains_35 : decode cX9_rains 35 = .ok (.lconst 0, 1) := by decide +kernel
theorem dX9_rains_36 : decode cX9_rains 36 = .ok (.lconst 1, 1) := by decide +kernel
theorem dX9_rains_37 : decode cX9_rains 37 = .ok (.invokestatic 114, 3) := by decide +kernel
theorem dX9_rains_40 : decode cX9_rains 40 = .ok (.ifCond .ne 5, 3) := by decide +kernel
theorem dX9_rains_43 : decode cX9_rains 43 = .ok (.iconst (-1), 1) := by decide +kernel
theorem dX9_rains_44 : decode cX9_rains 44 = .ok (.ireturn, 1) := by decide +kernel
theorem dX9_rains_45 : decode cX9_rains 45 = .ok (.lconst 0, 1) := by decide +kernel
theorem dX9_rains_46 : decode cX9_rains 46 = .ok (.lstore 5, 2) := by decide +kernel
theorem dX9_rains_48 : decode cX9_rains 48 = .ok (.lconst 1, 1) := by decide +kernel
theorem dX9_rains_49 : decode cX9_rains 49 = .ok (.lstore 7, 2) := by decide +kernel
theorem dX9_rains_51 : decode cX9_rains 51 = .ok (.iconst 0, 1) := by decide +kernel
theorem dX9_rains_52 : decode cX9_rains 52 = .ok (.istore 9, 2) := by decide +kernel
theorem dX9_rains_54 : decode cX9_rains 54 = .ok (.iload 9, 2) := by decide +kernel
theorem dX9_rains_56 : decode cX9_rains 56 = .ok (.iload_n 2, 1) := by decide +kernel
theorem dX9_rains_57 : decode cX9_rains 57 = .ok (.if_icmp .ge 17, 3) := by decide +kernel
theorem dX9_rains_60 : decode cX9_rains 60 = .ok (.lload 7, 2) := by decide +kernel
theorem dX9_rains_62 : decode cX9_rains 62 = .ok (.ldc2_w 246, 3) := by decide +kernel
theorem dX9_rains_65 : decode cX9_rains 65 = .ok (.lmul, 1) := by decide +kernel
theorem dX9_rains_66 : decode cX9_rains 66 = .ok (.lstore 7, 2) := by decide +kernel
theorem dX9_rains_68 : decode cX9_rains 68 = .ok (.iinc 9 1, 3) := by decide +kernel
theorem dX9_rains_71 : decode cX9_rains 71 = .ok (.goto (-17), 3) := by decide +kernel
theorem dX9_rains_74 : decode cX9_rains 74 = .ok (.iconst 0, 1) := by decide +kernel
theorem dX9_rains_75 : decode cX9_rains 75 = .ok (.istore 9, 2) := by decide +kernel
theorem dX9_rains_77 : decode cX9_rains 77 = .ok (.iload 9, 2) := by decide +kernel
theorem dX9_rains_79 : decode cX9_rains 79 = .ok (.iconst 1, 1) := by decide +kernel
theorem dX9_rains_80 : decode cX9_rains 80 = .ok (.iload_n 2, 1) := by decide +kernel
theorem dX9_rains_81 : decode cX9_rains 81 = .ok (.ishl, 1) := by decide +kernel
theorem dX9_rains_82 : decode cX9_rains 82 = .ok (.if_icmp .ge 128, 3) := by decide +kernel
theorem dX9_rains_85 : decode cX9_rains 85 = .ok (.lconst 1, 1) := by decide +kernel
theorem dX9_rains_86 : decode cX9_rains 86 = .ok (.lstore 10, 2) := by decide +kernel
theorem dX9_rains_88 : decode cX9_rains 88 = .ok (.aload_n 0, 1) := by decide +kernel
theorem dX9_rains_89 : decode cX9_rains 89 = .ok (.getfield 16, 3) := by decide +kernel
theorem dX9_rains_92 : decode cX9_rains 92 = .ok (.iconst 0, 1) := by decide +kernel
theorem dX9_rains_93 : decode cX9_rains 93 = .ok (.aload_n 0, 1) := by decide +kernel
theorem dX9_rains_94 : decode cX9_rains 94 = .ok (.getfield 19, 3) := by decide +kernel
theorem dX9_rains_97 : decode cX9_rains 97 = .ok (.iconst 0, 1) := by decide +kernel
theorem dX9_rains_98 : decode cX9_rains 98 = .ok (.sipush 170, 3) := by decide +kernel
theorem dX9_rains_101 : decode cX9_rains 101 = .ok (.invokestatic 97, 3) := by decide +kernel
theorem dX9_rains_104 : decode cX9_rains 104 = .ok (.iconst 0, 1) := by decide +kernel
theorem dX9_rains_105 : decode cX9_rains 105 = .ok (.istore 12, 2) := by decide +kernel
theorem dX9_rains_107 : decode cX9_rains 107 = .ok (.iload 12, 2) := by decide +kernel
theorem dX9_rains_109 : decode cX9_rains 109 = .ok (.iload_n 2, 1) := by decide +kernel
theorem dX9_rains_110 : decode cX9_rains 110 = .ok (.if_icmp .ge 69, 3) := by decide +kernel
theorem dX9_rains_113 : decode cX9_rains 113 = .ok (.lload 10, 2) := by decide +kernel
theorem dX9_rains_115 : decode cX9_rains 115 = .ok (.iload 9, 2) := by decide +kernel
theorem dX9_rains_117 : decode cX9_rains 117 = .ok (.iload 12, 2) := by decide +kernel
theorem dX9_rains_119 : decode cX9_rains 119 = .ok (.invokestatic 248, 3) := by decide +kernel
theorem dX9_rains_122 : decode cX9_rains 122 = .ok (.ifCond .eq 8, 3) := by decide +kernel
theorem dX9_rains_125 : decode cX9_rains 125 = .ok (.iload_n 3, 1) := by decide +kernel
theorem dX9_rains_126 : decode cX9_rains 126 = .ok (.i2l, 1) := by decide +kernel
theorem dX9_rains_127 : decode cX9_rains 127 = .ok (.goto 8, 3) := by decide +kernel
theorem dX9_rains_130 : decode cX9_rains 130 = .ok (.bipush 10, 2) := by decide +kernel
theorem dX9_rains_132 : decode cX9_rains 132 = .ok (.iload_n 3, 1) := by decide +kernel
theorem dX9_rains_133 : decode cX9_rains 133 = .ok (.isub, 1) := by decide +kernel
theorem dX9_rains_134 : decode cX9_rains 134 = .ok (.i2l, 1) := by decide +kernel
theorem dX9_rains_135 : decode cX9_rains 135 = .ok (.lmul, 1) := by decide +kernel
theorem dX9_rains_136 : decode cX9_rains 136 = .ok (.lstore 10, 2) := by decide +kernel
theorem dX9_rains_138 : decode cX9_rains 138 = .ok (.aload_n 0, 1) := by decide +kernel
theorem dX9_rains_139 : decode cX9_rains 139 = .ok (.getfield 19, 3) := by decide +kernel
theorem dX9_rains_142 : decode cX9_rains 142 = .ok (.iconst 0, 1) := by decide +kernel
theorem dX9_rains_143 : decode cX9_rains 143 = .ok (.iload 9, 2) := by decide +kernel
theorem dX9_rains_145 : decode cX9_rains 145 = .ok (.iload 12, 2) := by decide +kernel
theorem dX9_rains_147 : decode cX9_rains 147 = .ok (.invokestatic 248, 3) := by decide +kernel
theorem dX9_rains_150 : decode cX9_rains 150 = .ok (.ifCond .eq 7, 3) := by decide +kernel
theorem dX9_rains_153 : decode cX9_rains 153 = .ok (.iconst 3, 1) := by decide +kernel
theorem dX9_rains_154 : decode cX9_rains 154 = .ok (.goto 9, 3) := by decide +kernel
theorem dX9_rains_157 : decode cX9_rains 157 = .ok (.aload_n 0, 1) := by decide +kernel
theorem dX9_rains_158 : decode cX9_rains 158 = .ok (.getfield 16, 3) := by decide +kernel
theorem dX9_rains_161 : decode cX9_rains 161 = .ok (.iconst 0, 1) := by decide +kernel
theorem dX9_rains_162 : decode cX9_rains 162 = .ok (.iaload, 1) := by decide +kernel
theorem dX9_rains_163 : decode cX9_rains 163 = .ok (.iastore, 1) := by decide +kernel
theorem dX9_rains_164 : decode cX9_rains 164 = .ok (.aload_n 0, 1) := by decide +kernel
theorem dX9_rains_165 : decode cX9_rains 165 = .ok (.aload_n 0, 1) := by decide +kernel
theorem dX9_rains_166 : decode cX9_rains 166 = .ok (.getfield 19, 3) := by decide +kernel
theorem dX9_rains_169 : decode cX9_rains 169 = .ok (.iload_n 1, 1) := by decide +kernel
theorem dX9_rains_170 : decode cX9_rains 170 = .ok (.invokevirtual 214, 3) := by decide +kernel
theorem dX9_rains_173 : decode cX9_rains 173 = .ok (.iinc 12 1, 3) := by decide +kernel
theorem dX9_rains_176 : decode cX9_rains 176 = .ok (.goto (-69), 3) := by decide +kernel
theorem dX9_rains_179 : decode cX9_rains 179 = .ok (.lload 5, 2) := by decide +kernel
theorem dX9_rains_181 : decode cX9_rains 181 = .ok (.aload_n 0, 1) := by decide +kernel
theorem dX9_rains_182 : decode cX9_rains 182 = .ok (.getfield 19, 3) := by decide +kernel
theorem dX9_rains_185 : decode cX9_rains 185 = .ok (.sipush 158, 3) := by decide +kernel
theorem dX9_rains_188 : decode cX9_rains 188 = .ok (.iload_n 1, 1) := by decide +kernel
theorem dX9_rains_189 : decode cX9_rains 189 = .ok (.iadd, 1) := by decide +kernel
theorem dX9_rains_190 : decode cX9_rains 190 = .ok (.iaload, 1) := by decide +kernel
theorem dX9_rains_191 : decode cX9_rains 191 = .ok (.iconst 1, 1) := by decide +kernel
theorem dX9_rains_192 : decode cX9_rains 192 = .ok (.if_icmp .ne 8, 3) := by decide +kernel
theorem dX9_rains_195 : decode cX9_rains 195 = .ok (.lload 10, 2) := by decide +kernel
theorem dX9_rains_197 : decode cX9_rains 197 = .ok (.goto 4, 3) := by decide +kernel
theorem dX9_rains_200 : decode cX9_rains 200 = .ok (.lconst 0, 1) := by decide +kernel
theorem dX9_rains_201 : decode cX9_rains 201 = .ok (.ladd, 1) := by decide +kernel
theorem dX9_rains_202 : decode cX9_rains 202 = .ok (.lstore 5, 2) := by decide +kernel
theorem dX9_rains_204 : decode cX9_rains 204 = .ok (.iinc 9 1, 3) := by decide +kernel
theorem dX9_rains_207 : decode cX9_rains 207 = .ok (.goto (-130), 3) := by decide +kernel
theorem dX9_rains_210 : decode cX9_rains 210 = .ok (.lload 5, 2) := by decide +kernel
theorem dX9_rains_212 : decode cX9_rains 212 = .ok (.lload 7, 2) := by decide +kernel
theorem dX9_rains_214 : decode cX9_rains 214 = .ok (.iload 4, 2) := by decide +kernel
theorem dX9_rains_216 : decode cX9_rains 216 = .ok (.invokestatic 251, 3) := by decide +kernel
theorem dX9_rains_219 : decode cX9_rains 219 = .ok (.ireturn, 1) := by decide +kernel
theorem dX9_manyOf_0 : decode cX9_manyOf 0 = .ok (.iconst 0, 1) := by decide +kernel
theorem dX9_manyOf_1 : decode cX9_manyOf 1 = .ok (.istore_n 3, 1) := by decide +kernel
theorem dX9_manyOf_2 : decode cX9_manyOf 2 = .ok (.iconst 0, 1) := by decide +kernel
theorem dX9_manyOf_3 : decode cX9_manyOf 3 = .ok (.istore 4, 2) := by decide +kernel
theorem dX9_manyOf_5 : decode cX9_manyOf 5 = .ok (.iload 4, 2) := by decide +kernel
theorem dX9_manyOf_7 : decode cX9_manyOf 7 = .ok (.aload_n 0, 1) := by decide +kernel
theorem dX9_manyOf_8 : decode cX9_manyOf 8 = .ok (.getfield 94, 3) := by decide +kernel
theorem dX9_manyOf_11 : decode cX9_manyOf 11 = .ok (.if_icmp .ge 29, 3) := by decide +kernel
theorem dX9_manyOf_14 : decode cX9_manyOf 14 = .ok (.iload_n 3, 1) := by decide +kernel
theorem dX9_manyOf_15 : decode cX9_manyOf 15 = .ok (.aload_n 1, 1) := by decide +kernel
theorem dX9_manyOf_16 : decode cX9_manyOf 16 = .ok (.sipush 158, 3) := by decide +kernel
theorem dX9_manyOf_19 : decode cX9_manyOf 19 = .ok (.iload 4, 2) := by decide +kernel
theorem dX9_manyOf_21 : decode cX9_manyOf 21 = .ok (.iadd, 1) := by decide +kernel
theorem dX9_manyOf_22 : decode cX9_manyOf 22 = .ok (.iaload, 1) := by decide +kernel
theorem dX9_manyOf_23 : decode cX9_manyOf 23 = .ok (.iload_n 2, 1) := by decide +kernel
theorem dX9_manyOf_24 : decode cX9_manyOf 24 = .ok (.if_icmp .ne 7, 3) := by decide +kernel
theorem dX9_manyOf_27 : decode cX9_manyOf 27 = .ok (.iconst 1, 1) := by decide +kernel
theorem dX9_manyOf_28 : decode cX9_manyOf 28 = .ok (.goto 4, 3) := by decide +kernel
theorem dX9_manyOf_31 : decode cX9_manyOf 31 = .ok (.iconst 0, 1) := by decide +kernel
theorem dX9_manyOf_32 : decode cX9_manyOf 32 = .ok (.iadd, 1) := by decide +kernel
theorem dX9_manyOf_33 : decode cX9_manyOf 33 = .ok (.istore_n 3, 1) := by decide +kernel
theorem dX9_manyOf_34 : decode cX9_manyOf 34 = .ok (.iinc 4 1, 3) := by decide +kernel
theorem dX9_manyOf_37 : decode cX9_manyOf 37 = .ok (.goto (-32), 3) := by decide +kernel
theorem dX9_manyOf_40 : decode cX9_manyOf 40 = .ok (.iload_n 3, 1) := by decide +kernel
theorem dX9_manyOf_41 : decode cX9_manyOf 41 = .ok (.ireturn, 1) := by decide +kernel
theorem dX9_yearDraws_0 : decode cX9_yearDraws 0 = .ok (.iload_n 1, 1) := by decide +kernel
theorem dX9_yearDraws_1 : decode cX9_yearDraws 1 = .ok (.bipush 8, 2) := by decide +kernel
theorem dX9_yearDraws_3 : decode cX9_yearDraws 3 = .ok (.irem, 1) := by decide +kernel
theorem dX9_yearDraws_4 : decode cX9_yearDraws 4 = .ok (.istore_n 2, 1) := by decide +kernel
theorem dX9_yearDraws_5 : decode cX9_yearDraws 5 = .ok (.iload_n 2, 1) := by decide +kernel
theorem dX9_yearDraws_6 : decode cX9_yearDraws 6 = .ok (.ifCond .ne 18, 3) := by decide +kernel
theorem dX9_yearDraws_9 : decode cX9_yearDraws 9 = .ok (.aload_n 0, 1) := by decide +kernel
theorem dX9_yearDraws_10 : decode cX9_yearDraws 10 = .ok (.getfield 19, 3) := by decide +kernel
theorem dX9_yearDraws_13 : decode cX9_yearDraws 13 = .ok (.iconst 0, 1) := by decide +kernel
theorem dX9_yearDraws_14 : decode cX9_yearDraws 14 = .ok (.iload_n 1, 1) := by decide +kernel
theorem dX9_yearDraws_15 : decode cX9_yearDraws 15 = .ok (.bipush 8, 2) := by decide +kernel
theorem dX9_yearDraws_17 : decode cX9_yearDraws 17 = .ok (.idiv, 1) := by decide +kernel
theorem dX9_yearDraws_18 : decode cX9_yearDraws 18 = .ok (.iconst 4, 1) := by decide +kernel
theorem dX9_yearDraws_19 : decode cX9_yearDraws 19 = .ok (.irem, 1) := by decide +kernel
theorem dX9_yearDraws_20 : decode cX9_yearDraws 20 = .ok (.iastore, 1) := by decide +kernel
theorem dX9_yearDraws_21 : decode cX9_yearDraws 21 = .ok (.goto 116, 3) := by decide +kernel
theorem dX9_yearDraws_24 : decode cX9_yearDraws 24 = .ok (.iload_n 2, 1) := by decide +kernel
theorem dX9_yearDraws_25 : decode cX9_yearDraws 25 = .ok (.iconst 1, 1) := by decide +kernel
theorem dX9_yearDraws_26 : decode cX9_yearDraws 26 = .ok (.if_icmp .ne 47, 3) := by decide +kernel
theorem dX9_yearDraws_29 : decode cX9_yearDraws 29 = .ok (.aload_n 0, 1) := by decide +kernel
theorem dX9_yearDraws_30 : decode cX9_yearDraws 30 = .ok (.getfield 19, 3) := by decide +kernel
theorem dX9_yearDraws_33 : decode cX9_yearDraws 33 = .ok (.iconst 2, 1) := by decide +kernel
theorem dX9_yearDraws_34 : decode cX9_yearDraws 34 = .ok (.bipush 36, 2) := by decide +kernel
theorem dX9_yearDraws_36 : decode cX9_yearDraws 36 = .ok (.iload_n 1, 1) := by decide +kernel
theorem dX9_yearDraws_37 : decode cX9_yearDraws 37 = .ok (.bipush 8, 2) := by decide +kernel
theorem dX9_yearDraws_39 : decode cX9_yearDraws 39 = .ok (.idiv, 1) := by decide +kernel
theorem dX9_yearDraws_40 : decode cX9_yearDraws 40 = .ok (.aload_n 0, 1) := by decide +kernel
theorem dX9_yearDraws_41 : decode cX9_yearDraws 41 = .ok (.getfield 91, 3) := by decide +kernel
theorem dX9_yearDraws_44 : decode cX9_yearDraws 44 = .ok (.irem, 1) := by decide +kernel
theorem dX9_yearDraws_45 : decode cX9_yearDraws 45 = .ok (.imul, 1) := by decide +kernel
theorem dX9_yearDraws_46 : decode cX9_yearDraws 46 = .ok (.iadd, 1) := by decide +kernel
theorem dX9_yearDraws_47 : decode cX9_yearDraws 47 = .ok (.iload_n 1, 1) := by decide +kernel
theorem dX9_yearDraws_48 : decode cX9_yearDraws 48 = .ok (.bipush 32, 2) := by decide +kernel
theorem dX9_yearDraws_50 : decode cX9_yearDraws 50 = .ok (.idiv, 1) := by decide +kernel
theorem dX9_yearDraws_51 : decode cX9_yearDraws 51 = .ok (.aload_n 0, 1) := by decide +kernel
theorem dX9_yearDraws_52 : decode cX9_yearDraws 52 = .ok (.getfield 85, 3) := by decide +kernel
theorem dX9_yearDraws_55 : decode cX9_yearDraws 55 = .ok (.aload_n 0, 1) := by decide +kernel
theorem dX9_yearDraws_56 : decode cX9_yearDraws 56 = .ok (.getfield 88, 3) := by decide +kernel
theorem dX9_yearDraws_59 : decode cX9_yearDraws 59 = .ok (.imul, 1) := by decide +kernel
theorem dX9_yearDraws_60 : decode cX9_yearDraws 60 = .ok (.irem, 1) := by decide +kernel
theorem dX9_yearDraws_61 : decode cX9_yearDraws 61 = .ok (.iadd, 1) := by decide +kernel
theorem dX9_yearDraws_62 : decode cX9_yearDraws 62 = .ok (.iload_n 1, 1) := by decide +kernel
theorem dX9_yearDraws_63 : decode cX9_yearDraws 63 = .ok (.sipush 2048, 3) := by decide +kernel
theorem dX9_yearDraws_66 : decode cX9_yearDraws 66 = .ok (.idiv, 1) := by decide +kernel
theorem dX9_yearDraws_67 : decode cX9_yearDraws 67 = .ok (.iconst 4, 1) := by decide +kernel
theorem dX9_yearDraws_68 : decode cX9_yearDraws 68 = .ok (.irem, 1) := by decide +kernel
theorem dX9_yearDraws_69 : decode cX9_yearDraws 69 = .ok (.iastore, 1) := by decide +kernel
theorem dX9_yearDraws_70 : decode cX9_yearDraws 70 = .ok (.goto 67, 3) := by decide +kernel
theorem dX9_yearDraws_73 : decode cX9_yearDraws 73 = .ok (.iload_n 2, 1) := by decide +kernel
theorem dX9_yearDraws_74 : decode cX9_yearDraws 74 = .ok (.iconst 2, 1) := by decide +kernel
theorem dX9_yearDraws_75 : decode cX9_yearDraws 75 = .ok (.if_icmp .ne 62, 3) := by decide +kernel
theorem dX9_yearDraws_78 : decode cX9_yearDraws 78 = .ok (.aload_n 0, 1) := by decide +kernel
theorem dX9_yearDraws_79 : decode cX9_yearDraws 79 = .ok (.getfield 94, 3) := by decide +kernel
theorem dX9_yearDraws_82 : decode cX9_yearDraws 82 = .ok (.ifCond .le 55, 3) := by decide +kernel
theorem dX9_yearDraws_85 : decode cX9_yearDraws 85 = .ok (.aload_n 0, 1) := by decide +kernel
theorem dX9_yearDraws_86 : decode cX9_yearDraws 86 = .ok (.getfield 19, 3) := by decide +kernel
theorem dX9_yearDraws_89 : decode cX9_yearDraws 89 = .ok (.sipush 158, 3) := by decide +kernel
theorem dX9_yearDraws_92 : decode cX9_yearDraws 92 = .ok (.iload_n 1, 1) := by decide +kernel
theorem dX9_yearDraws_93 : decode cX9_yearDraws 93 = .ok (.bipush 8, 2) := by decide +kernel
theorem dX9_yearDraws_95 : decode cX9_yearDraws 95 = .ok (.idiv, 1) := by decide +kernel
theorem dX9_yearDraws_96 : decode cX9_yearDraws 96 = .ok (.aload_n 0, 1) := by decide +kernel
theorem dX9_yearDraws_97 : decode cX9_yearDraws 97 = .ok (.getfield 94, 3) := by decide +kernel
theorem dX9_yearDraws_100 : decode cX9_yearDraws 100 = .ok (.irem, 1) := by decide +kernel
theorem dX9_yearDraws_101 : decode cX9_yearDraws 101 = .ok (.iadd, 1) := by decide +kernel
theorem dX9_yearDraws_102 : decode cX9_yearDraws 102 = .ok (.iaload, 1) := by decide +kernel
theorem dX9_yearDraws_103 : decode cX9_yearDraws 103 = .ok (.iconst 2, 1) := by decide +kernel
theorem dX9_yearDraws_104 : decode cX9_yearDraws 104 = .ok (.if_icmp .eq 33, 3) := by decide +kernel
theorem dX9_yearDraws_107 : decode cX9_yearDraws 107 = .ok (.aload_n 0, 1) := by decide +kernel
theorem dX9_yearDraws_108 : decode cX9_yearDraws 108 = .ok (.getfield 19, 3) := by decide +kernel
theorem dX9_yearDraws_111 : decode cX9_yearDraws 111 = .ok (.iload_n 1, 1) := by decide +kernel
theorem dX9_yearDraws_112 : decode cX9_yearDraws 112 = .ok (.bipush 8, 2) := by decide +kernel
theorem dX9_yearDraws_114 : decode cX9_yearDraws 114 = .ok (.idiv, 1) := by decide +kernel
theorem dX9_yearDraws_115 : decode cX9_yearDraws 115 = .ok (.aload_n 0, 1) := by decide +kernel
theorem dX9_yearDraws_116 : decode cX9_yearDraws 116 = .ok (.getfield 94, 3) := by decide +kernel
theorem dX9_yearDraws_119 : decode cX9_yearDraws 119 = .ok (.irem, 1) := by decide +kernel
theorem dX9_yearDraws_120 : decode cX9_yearDraws 120 = .ok (.iload_n 1, 1) := by decide +kernel
theorem dX9_yearDraws_121 : decode cX9_yearDraws 121 = .ok (.bipush 32, 2) := by decide +kernel
theorem dX9_yearDraws_123 : decode cX9_yearDraws 123 = .ok (.idiv, 1) := by decide +kernel
theorem dX9_yearDraws_124 : decode cX9_yearDraws 124 = .ok (.aload_n 0, 1) := by decide +kernel
theorem dX9_yearDraws_125 : decode cX9_yearDraws 125 = .ok (.getfield 85, 3) := by decide +kernel
theorem dX9_yearDraws_128 : decode cX9_yearDraws 128 = .ok (.aload_n 0, 1) := by decide +kernel
theorem dX9_yearDraws_129 : decode cX9_yearDraws 129 = .ok (.getfield 88, 3) := by decide +kernel
theorem dX9_yearDraws_132 : decode cX9_yearDraws 132 = .ok (.imul, 1) := by decide +kernel
theorem dX9_yearDraws_133 : decode cX9_yearDraws 133 = .ok (.irem, 1) := by decide +kernel
theorem dX9_yearDraws_134 : decode cX9_yearDraws 134 = .ok (.invokestatic 229, 3) := by decide +kernel
theorem dX9_yearDraws_137 : decode cX9_yearDraws 137 = .ok (.return_, 1) := by decide +kernel
theorem dX9_year_0 : decode cX9_year 0 = .ok (.iload_n 1, 1) := by decide +kernel
theorem dX9_year_1 : decode cX9_year 1 = .ok (.i2l, 1) := by decide +kernel
theorem dX9_year_2 : decode cX9_year 2 = .ok (.lconst 0, 1) := by decide +kernel
theorem dX9_year_3 : decode cX9_year 3 = .ok (.ldc2_w 255, 3) := by decide +kernel
theorem dX9_year_6 : decode cX9_year 6 = .ok (.invokestatic 114, 3) := by decide +kernel
theorem dX9_year_9 : decode cX9_year 9 = .ok (.ifCond .eq 25, 3) := by decide +kernel
theorem dX9_year_12 : decode cX9_year 12 = .ok (.iload_n 2, 1) := by decide +kernel
theorem dX9_year_13 : decode cX9_year 13 = .ok (.i2l, 1) := by decide +kernel
theorem dX9_year_14 : decode cX9_year 14 = .ok (.lconst 1, 1) := by decide +kernel
theorem dX9_year_15 : decode cX9_year 15 = .ok (.ldc2_w 257, 3) := by decide +kernel
theorem dX9_year_18 : decode cX9_year 18 = .ok (.invokestatic 114, 3) := by decide +kernel
theorem dX9_year_21 : decode cX9_year 21 = .ok (.ifCond .eq 13, 3) := by decide +kernel
theorem dX9_year_24 : decode cX9_year 24 = .ok (.iload_n 3, 1) := by decide +kernel
theorem dX9_year_25 : decode cX9_year 25 = .ok (.i2l, 1) := by decide +kernel
theorem dX9_year_26 : decode cX9_year 26 = .ok (.lconst 0, 1) := by decide +kernel
theorem dX9_year_27 : decode cX9_year 27 = .ok (.lconst 1, 1) := by decide +kernel
theorem dX9_year_28 : decode cX9_year 28 = .ok (.invokestatic 114, 3) := by decide +kernel
theorem dX9_year_31 : decode cX9_year 31 = .ok (.ifCond .ne 5, 3) := by decide +kernel
theorem dX9_year_34 : decode cX9_year 34 = .ok (.iconst (-1), 1) := by decide +kernel
theorem dX9_year_35 : decode cX9_year 35 = .ok (.ireturn, 1) := by decide +kernel
theorem dX9_year_36 : decode cX9_year 36 = .ok (.aload_n 0, 1) := by decide +kernel
theorem dX9_year_37 : decode cX9_year 37 = .ok (.getfield 16, 3) := by decide +kernel
theorem dX9_year_40 : decode cX9_year 40 = .ok (.iconst 0, 1) := by decide +kernel
theorem dX9_year_41 : decode cX9_year 41 = .ok (.aload_n 0, 1) := by decide +kernel
theorem dX9_year_42 : decode cX9_year 42 = .ok (.getfield 19, 3) := by decide +kernel
theorem dX9_year_45 : decode cX9_year 45 = .ok (.iconst 0, 1) := by decide +kernel
theorem dX9_year_46 : decode cX9_year 46 = .ok (.sipush 170, 3) := by decide +kernel
theorem dX9_year_49 : decode cX9_year 49 = .ok (.invokestatic 97, 3) := by decide +kernel
theorem dX9_year_52 : decode cX9_year 52 = .ok (.iconst 0, 1) := by decide +kernel
theorem dX9_year_53 : decode cX9_year 53 = .ok (.istore 4, 2) := by decide +kernel
theorem dX9_year_55 : decode cX9_year 55 = .ok (.iload 4, 2) := by decide +kernel
theorem dX9_year_57 : decode cX9_year 57 = .ok (.iload_n 2, 1) := by decide +kernel
theorem dX9_year_58 : decode cX9_year 58 = .ok (.if_icmp .ge 49, 3) := by decide +kernel
theorem dX9_year_61 : decode cX9_year 61 = .ok (.ldc2_w 259, 3) := by decide +kernel
theorem dX9_year_64 : decode cX9_year 64 = .ok (.iload_n 1, 1) := by decide +kernel
theorem dX9_year_65 : decode cX9_year 65 = .ok (.i2l, 1) := by decide +kernel
theorem dX9_year_66 : decode cX9_year 66 = .ok (.lmul, 1) := by decide +kernel
theorem dX9_year_67 : decode cX9_year 67 = .ok (.ldc2_w 261, 3) := by decide +kernel
theorem dX9_year_70 : decode cX9_year 70 = .ok (.iload 4, 2) := by decide +kernel
theorem dX9_year_72 : decode cX9_year 72 = .ok (.i2l, 1) := by decide +kernel
theorem dX9_year_73 : decode cX9_year 73 = .ok (.lmul, 1) := by decide +kernel
theorem dX9_year_74 : decode cX9_year 74 = .ok (.ladd, 1) := by decide +kernel
theorem dX9_year_75 : decode cX9_year 75 = .ok (.lconst 1, 1) := by decide +kernel
theorem dX9_year_76 : decode cX9_year 76 = .ok (.ladd, 1) := by decide +kernel
theorem dX9_year_77 : decode cX9_year 77 = .ok (.lstore 5, 2) := by decide +kernel
theorem dX9_year_79 : decode cX9_year 79 = .ok (.aload_n 0, 1) := by decide +kernel
theorem dX9_year_80 : decode cX9_year 80 = .ok (.lload 5, 2) := by decide +kernel
theorem dX9_year_82 : decode cX9_year 82 = .ok (.lload 5, 2) := by decide +kernel
theorem dX9_year_84 : decode cX9_year 84 = .ok (.lmul, 1) := by decide +kernel
theorem dX9_year_85 : decode cX9_year 85 = .ok (.ldc2_w 263, 3) := by decide +kernel
theorem dX9_year_88 : decode cX9_year 88 = .ok (.lrem, 1) := by decide +kernel
theorem dX9_year_89 : decode cX9_year 89 = .ok (.l2i, 1) := by decide +kernel
theorem dX9_year_90 : decode cX9_year 90 = .ok (.invokevirtual 265, 3) := by decide +kernel
theorem dX9_year_93 : decode cX9_year 93 = .ok (.aload_n 0, 1) := by decide +kernel
theorem dX9_year_94 : decode cX9_year 94 = .ok (.aload_n 0, 1) := by decide +kernel
theorem dX9_year_95 : decode cX9_year 95 = .ok (.getfield 19, 3) := by decide +kernel
theorem dX9_year_98 : decode cX9_year 98 = .ok (.invokevirtual 223, 3) := by decide +kernel
theorem dX9_year_101 : decode cX9_year 101 = .ok (.iinc 4 1, 3) := by decide +kernel
theorem dX9_year_104 : decode cX9_year 104 = .ok (.goto (-49), 3) := by decide +kernel
theorem dX9_year_107 : decode cX9_year 107 = .ok (.aload_n 0, 1) := by decide +kernel
theorem dX9_year_108 : decode cX9_year 108 = .ok (.aload_n 0, 1) := by decide +kernel
theorem dX9_year_109 : decode cX9_year 109 = .ok (.getfield 19, 3) := by decide +kernel
theorem dX9_year_112 : decode cX9_year 112 = .ok (.iload_n 3, 1) := by decide +kernel
theorem dX9_year_113 : decode cX9_year 113 = .ok (.ifCond .ne 7, 3) := by decide +kernel
theorem dX9_year_116 : decode cX9_year 116 = .ok (.iconst 1, 1) := by decide +kernel
theorem dX9_year_117 : decode cX9_year 117 = .ok (.goto 4, 3) := by decide +kernel
theorem dX9_year_120 : decode cX9_year 120 = .ok (.iconst 2, 1) := by decide +kernel
theorem dX9_year_121 : decode cX9_year 121 = .ok (.invokevirtual 269, 3) := by decide +kernel
theorem dX9_year_124 : decode cX9_year 124 = .ok (.ireturn, 1) := by decide +kernel
theorem dX9_keep_0 : decode cX9_keep 0 = .ok (.aload_n 0, 1) := by decide +kernel
theorem dX9_keep_1 : decode cX9_keep 1 = .ok (.getfield 104, 3) := by decide +kernel
theorem dX9_keep_4 : decode cX9_keep 4 = .ok (.iconst 2, 1) := by decide +kernel
theorem dX9_keep_5 : decode cX9_keep 5 = .ok (.if_icmp .ne 6, 3) := by decide +kernel
theorem dX9_keep_8 : decode cX9_keep 8 = .ok (.bipush (-3), 2) := by decide +kernel
theorem dX9_keep_10 : decode cX9_keep 10 = .ok (.ireturn, 1) := by decide +kernel
theorem dX9_keep_11 : decode cX9_keep 11 = .ok (.aload_n 0, 1) := by decide +kernel
theorem dX9_keep_12 : decode cX9_keep 12 = .ok (.getfield 16, 3) := by decide +kernel
theorem dX9_keep_15 : decode cX9_keep 15 = .ok (.iconst 0, 1) := by decide +kernel
theorem dX9_keep_16 : decode cX9_keep 16 = .ok (.aload_n 0, 1) := by decide +kernel
theorem dX9_keep_17 : decode cX9_keep 17 = .ok (.getfield 25, 3) := by decide +kernel
theorem dX9_keep_20 : decode cX9_keep 20 = .ok (.sipush 170, 3) := by decide +kernel
theorem dX9_keep_23 : decode cX9_keep 23 = .ok (.aload_n 0, 1) := by decide +kernel
theorem dX9_keep_24 : decode cX9_keep 24 = .ok (.getfield 104, 3) := by decide +kernel
theorem dX9_keep_27 : decode cX9_keep 27 = .ok (.imul, 1) := by decide +kernel
theorem dX9_keep_28 : decode cX9_keep 28 = .ok (.sipush 170, 3) := by decide +kernel
theorem dX9_keep_31 : decode cX9_keep 31 = .ok (.invokestatic 97, 3) := by decide +kernel
theorem dX9_keep_34 : decode cX9_keep 34 = .ok (.aload_n 0, 1) := by decide +kernel
theorem dX9_keep_35 : decode cX9_keep 35 = .ok (.dup, 1) := by decide +kernel
theorem dX9_keep_36 : decode cX9_keep 36 = .ok (.getfield 104, 3) := by decide +kernel
theorem dX9_keep_39 : decode cX9_keep 39 = .ok (.iconst 1, 1) := by decide +kernel
theorem dX9_keep_40 : decode cX9_keep 40 = .ok (.iadd, 1) := by decide +kernel
theorem dX9_keep_41 : decode cX9_keep 41 = .ok (.putfield 104, 3) := by decide +kernel
theorem dX9_keep_44 : decode cX9_keep 44 = .ok (.aload_n 0, 1) := by decide +kernel
theorem dX9_keep_45 : decode cX9_keep 45 = .ok (.getfield 104, 3) := by decide +kernel
theorem dX9_keep_48 : decode cX9_keep 48 = .ok (.ireturn, 1) := by decide +kernel
theorem dX9_back_0 : decode cX9_back 0 = .ok (.aload_n 0, 1) := by decide +kernel
theorem dX9_back_1 : decode cX9_back 1 = .ok (.getfield 104, 3) := by decide +kernel
theorem dX9_back_4 : decode cX9_back 4 = .ok (.ifCond .ne 6, 3) := by decide +kernel
theorem dX9_back_7 : decode cX9_back 7 = .ok (.bipush (-2), 2) := by decide +kernel
theorem dX9_back_9 : decode cX9_back 9 = .ok (.ireturn, 1) := by decide +kernel
theorem dX9_back_10 : decode cX9_back 10 = .ok (.aload_n 0, 1) := by decide +kernel
theorem dX9_back_11 : decode cX9_back 11 = .ok (.dup, 1) := by decide +kernel
theorem dX9_back_12 : decode cX9_back 12 = .ok (.getfield 104, 3) := by decide +kernel
theorem dX9_back_15 : decode cX9_back 15 = .ok (.iconst 1, 1) := by decide +kernel
theorem dX9_back_16 : decode cX9_back 16 = .ok (.isub, 1) := by decide +kernel
theorem dX9_back_17 : decode cX9_back 17 = .ok (.putfield 104, 3) := by decide +kernel
theorem dX9_back_20 : decode cX9_back 20 = .ok (.aload_n 0, 1) := by decide +kernel
theorem dX9_back_21 : decode cX9_back 21 = .ok (.getfield 25, 3) := by decide +kernel
theorem dX9_back_24 : decode cX9_back 24 = .ok (.sipush 170, 3) := by decide +kernel
theorem dX9_back_27 : decode cX9_back 27 = .ok (.aload_n 0, 1) := by decide +kernel
theorem dX9_back_28 : decode cX9_back 28 = .ok (.getfield 104, 3) := by decide +kernel
theorem dX9_back_31 : decode cX9_back 31 = .ok (.imul, 1) := by decide +kernel
theorem dX9_back_32 : decode cX9_back 32 = .ok (.aload_n 0, 1) := by decide +kernel
theorem dX9_back_33 : decode cX9_back 33 = .ok (.getfield 16, 3) := by decide +kernel
theorem dX9_back_36 : decode cX9_back 36 = .ok (.iconst 0, 1) := by decide +kernel
theorem dX9_back_37 : decode cX9_back 37 = .ok (.sipush 170, 3) := by decide +kernel
theorem dX9_back_40 : decode cX9_back 40 = .ok (.invokestatic 97, 3) := by decide +kernel
theorem dX9_back_43 : decode cX9_back 43 = .ok (.aload_n 0, 1) := by decide +kernel
theorem dX9_back_44 : decode cX9_back 44 = .ok (.iconst 0, 1) := by decide +kernel
theorem dX9_back_45 : decode cX9_back 45 = .ok (.putfield 101, 3) := by decide +kernel
theorem dX9_back_48 : decode cX9_back 48 = .ok (.aload_n 0, 1) := by decide +kernel
theorem dX9_back_49 : decode cX9_back 49 = .ok (.getfield 104, 3) := by decide +kernel
theorem dX9_back_52 : decode cX9_back 52 = .ok (.ireturn, 1) := by decide +kernel
theorem dX9_sure_0 : decode cX9_sure 0 = .ok (.iconst 0, 1) := by decide +kernel
theorem dX9_sure_1 : decode cX9_sure 1 = .ok (.istore_n 1, 1) := by decide +kernel
theorem dX9_sure_2 : decode cX9_sure 2 = .ok (.iconst 0, 1) := by decide +kernel
theorem dX9_sure_3 : decode cX9_sure 3 = .ok (.istore_n 2, 1) := by decide +kernel
theorem dX9_sure_4 : decode cX9_sure 4 = .ok (.iload_n 2, 1) := by decide +kernel
theorem dX9_sure_5 : decode cX9_sure 5 = .ok (.aload_n 0, 1) := by decide +kernel
theorem dX9_sure_6 : decode cX9_sure 6 = .ok (.getfield 85, 3) := by decide +kernel
theorem dX9_sure_9 : decode cX9_sure 9 = .ok (.aload_n 0, 1) := by decide +kernel
theorem dX9_sure_10 : decode cX9_sure 10 = .ok (.getfield 88, 3) := by decide +kernel
theorem dX9_sure_13 : decode cX9_sure 13 = .ok (.imul, 1) := by decide +kernel
theorem dX9_sure_14 : decode cX9_sure 14 = .ok (.if_icmp .ge 70, 3) := by decide +kernel
theorem dX9_sure_17 : decode cX9_sure 17 = .ok (.iconst 1, 1) := by decide +kernel
theorem dX9_sure_18 : decode cX9_sure 18 = .ok (.istore_n 3, 1) := by decide +kernel
theorem dX9_sure_19 : decode cX9_sure 19 = .ok (.iconst 0, 1) := by decide +kernel
theorem dX9_sure_20 : decode cX9_sure 20 = .ok (.istore 4, 2) := by decide +kernel
theorem dX9_sure_22 : decode cX9_sure 22 = .ok (.iload 4, 2) := by decide +kernel
theorem dX9_sure_24 : decode cX9_sure 24 = .ok (.aload_n 0, 1) := by decide +kernel
theorem dX9_sure_25 : decode cX9_sure 25 = .ok (.getfield 91, 3) := by decide +kernel
theorem dX9_sure_28 : decode cX9_sure 28 = .ok (.if_icmp .ge 38, 3) := by decide +kernel
theorem dX9_sure_31 : decode cX9_sure 31 = .ok (.iload_n 3, 1) := by decide +kernel
theorem dX9_sure_32 : decode cX9_sure 32 = .ok (.ifCond .eq 26, 3) := by decide +kernel
theorem dX9_sure_35 : decode cX9_sure 35 = .ok (.aload_n 0, 1) := by decide +kernel
theorem dX9_sure_36 : decode cX9_sure 36 = .ok (.getfield 16, 3) := by decide +kernel
theorem dX9_sure_39 : decode cX9_sure 39 = .ok (.iload 4, 2) := by decide +kernel
theorem dX9_sure_41 : decode cX9_sure 41 = .ok (.iload_n 2, 1) := by decide +kernel
theorem dX9_sure_42 : decode cX9_sure 42 = .ok (.invokestatic 172, 3) := by decide +kernel
theorem dX9_sure_45 : decode cX9_sure 45 = .ok (.aload_n 0, 1) := by decide +kernel
theorem dX9_sure_46 : decode cX9_sure 46 = .ok (.getfield 7, 3) := by decide +kernel
theorem dX9_sure_49 : decode cX9_sure 49 = .ok (.iload_n 2, 1) := by decide +kernel
theorem dX9_sure_50 : decode cX9_sure 50 = .ok (.iaload, 1) := by decide +kernel
theorem dX9_sure_51 : decode cX9_sure 51 = .ok (.if_icmp .ne 7, 3) := by decide +kernel
theorem dX9_sure_54 : decode cX9_sure 54 = .ok (.iconst 1, 1) := by decide +kernel
theorem dX9_sure_55 : decode cX9_sure 55 = .ok (.goto 4, 3) := by decide +kernel
theorem dX9_sure_58 : decode cX9_sure 58 = .ok (.iconst 0, 1) := by decide +kernel
theorem dX9_sure_59 : decode cX9_sure 59 = .ok (.istore_n 3, 1) := by decide +kernel
theorem dX9_sure_60 : decode cX9_sure 60 = .ok (.iinc 4 1, 3) := by decide +kernel
theorem dX9_sure_63 : decode cX9_sure 63 = .ok (.goto (-41), 3) := by decide +kernel
theorem dX9_sure_66 : decode cX9_sure 66 = .ok (.iload_n 1, 1) := by decide +kernel
theorem dX9_sure_67 : decode cX9_sure 67 = .ok (.iload_n 3, 1) := by decide +kernel
theorem dX9_sure_68 : decode cX9_sure 68 = .ok (.ifCond .eq 7, 3) := by decide +kernel
theorem dX9_sure_71 : decode cX9_sure 71 = .ok (.iconst 1, 1) := by decide +kernel
theorem dX9_sure_72 : decode cX9_sure 72 = .ok (.goto 4, 3) := by decide +kernel
theorem dX9_sure_75 : decode cX9_sure 75 = .ok (.iconst 0, 1) := by decide +kernel
theorem dX9_sure_76 : decode cX9_sure 76 = .ok (.iadd, 1) := by decide +kernel
theorem dX9_sure_77 : decode cX9_sure 77 = .ok (.istore_n 1, 1) := by decide +kernel
theorem dX9_sure_78 : decode cX9_sure 78 = .ok (.iinc 2 1, 3) := by decide +kernel
theorem dX9_sure_81 : decode cX9_sure 81 = .ok (.goto (-77), 3) := by decide +kernel
theorem dX9_sure_84 : decode cX9_sure 84 = .ok (.iload_n 1, 1) := by decide +kernel
theorem dX9_sure_85 : decode cX9_sure 85 = .ok (.ireturn, 1) := by decide +kernel
theorem dX9_count_0 : decode cX9_count 0 = .ok (.iload_n 1, 1) := by decide +kernel
theorem dX9_count_1 : decode cX9_count 1 = .ok (.tableswitch 151 0 12 #[67, 77, 82, 87, 92, 99, 106, 116, 126, 131, 136, 141, 146], 67) := by decide +kernel
theorem dX9_count_68 : decode cX9_count 68 = .ok (.aload_n 0, 1) := by decide +kernel
theorem dX9_count_69 : decode cX9_count 69 = .ok (.getfield 85, 3) := by decide +kernel
theorem dX9_count_72 : decode cX9_count 72 = .ok (.aload_n 0, 1) := by decide +kernel
theorem dX9_count_73 : decode cX9_count 73 = .ok (.getfield 88, 3) := by decide +kernel
theorem dX9_count_76 : decode cX9_count 76 = .ok (.imul, 1) := by decide +kernel
theorem dX9_count_77 : decode cX9_count 77 = .ok (.ireturn, 1) := by decide +kernel
theorem dX9_count_78 : decode cX9_count 78 = .ok (.aload_n 0, 1) := by decide +kernel
theorem dX9_count_79 : decode cX9_count 79 = .ok (.getfield 88, 3) := by decide +kernel
theorem dX9_count_82 : decode cX9_count 82 = .ok (.ireturn, 1) := by decide +kernel
theorem dX9_count_83 : decode cX9_count 83 = .ok (.aload_n 0, 1) := by decide +kernel
theorem dX9_count_84 : decode cX9_count 84 = .ok (.getfield 91, 3) := by decide +kernel
theorem dX9_count_87 : decode cX9_count 87 = .ok (.ireturn, 1) := by decide +kernel
theorem dX9_count_88 : decode cX9_count 88 = .ok (.aload_n 0, 1) := by decide +kernel
theorem dX9_count_89 : decode cX9_count 89 = .ok (.getfield 94, 3) := by decide +kernel
theorem dX9_count_92 : decode cX9_count 92 = .ok (.ireturn, 1) := by decide +kernel
theorem dX9_count_93 : decode cX9_count 93 = .ok (.aload_n 0, 1) := by decide +kernel
theorem dX9_count_94 : decode cX9_count 94 = .ok (.getfield 16, 3) := by decide +kernel
theorem dX9_count_97 : decode cX9_count 97 = .ok (.iconst 0, 1) := by decide +kernel
theorem dX9_count_98 : decode cX9_count 98 = .ok (.iaload, 1) := by decide +kernel
theorem dX9_count_99 : decode cX9_count 99 = .ok (.ireturn, 1) := by decide +kernel
theorem dX9_count_100 : decode cX9_count 100 = .ok (.aload_n 0, 1) := by decide +kernel
theorem dX9_count_101 : decode cX9_count 101 = .ok (.getfield 16, 3) := by decide +kernel
theorem dX9_count_104 : decode cX9_count 104 = .ok (.iconst 1, 1) := by decide +kernel
theorem dX9_count_105 : decode cX9_count 105 = .ok (.iaload, 1) := by decide +kernel
theorem dX9_count_106 : decode cX9_count 106 = .ok (.ireturn, 1) := by decide +kernel
theorem dX9_count_107 : decode cX9_count 107 = .ok (.aload_n 0, 1) := by decide +kernel
theorem dX9_count_108 : decode cX9_count 108 = .ok (.aload_n 0, 1) := by decide +kernel
theorem dX9_count_109 : decode cX9_count 109 = .ok (.getfield 16, 3) := by decide +kernel
theorem dX9_count_112 : decode cX9_count 112 = .ok (.iconst 1, 1) := by decide +kernel
theorem dX9_count_113 : decode cX9_count 113 = .ok (.invokevirtual 269, 3) := by decide +kernel
theorem dX9_count_116 : decode cX9_count 116 = .ok (.ireturn, 1) := by decide +kernel
theorem dX9_count_117 : decode cX9_count 117 = .ok (.aload_n 0, 1) := by decide +kernel
theorem dX9_count_118 : decode cX9_count 118 = .ok (.aload_n 0, 1) := by decide +kernel
theorem dX9_count_119 : decode cX9_count 119 = .ok (.getfield 16, 3) := by decide +kernel
theorem dX9_count_122 : decode cX9_count 122 = .ok (.iconst 2, 1) := by decide +kernel
theorem dX9_count_123 : decode cX9_count 123 = .ok (.invokevirtual 269, 3) := by decide +kernel
theorem dX9_count_126 : decode cX9_count 126 = .ok (.ireturn, 1) := by decide +kernel
theorem dX9_count_127 : decode cX9_count 127 = .ok (.aload_n 0, 1) := by decide +kernel
theorem dX9_count_128 : decode cX9_count 128 = .ok (.invokevirtual 273, 3) := by decide +kernel
theorem dX9_count_131 : decode cX9_count 131 = .ok (.ireturn, 1) := by decide +kernel
theorem dX9_count_132 : decode cX9_count 132 = .ok (.aload_n 0, 1) := by decide +kernel
theorem dX9_count_133 : decode cX9_count 133 = .ok (.getfield 107, 3) := by decide +kernel
theorem dX9_count_136 : decode cX9_count 136 = .ok (.ireturn, 1) := by decide +kernel
theorem dX9_count_137 : decode cX9_count 137 = .ok (.aload_n 0, 1) := by decide +kernel
theorem dX9_count_138 : decode cX9_count 138 = .ok (.getfield 101, 3) := by decide +kernel
theorem dX9_count_141 : decode cX9_count 141 = .ok (.ireturn, 1) := by decide +kernel
theorem dX9_count_142 : decode cX9_count 142 = .ok (.aload_n 0, 1) := by decide +kernel
theorem dX9_count_143 : decode cX9_count 143 = .ok (.getfield 104, 3) := by decide +kernel
theorem dX9_count_146 : decode cX9_count 146 = .ok (.ireturn, 1) := by decide +kernel
theorem dX9_count_147 : decode cX9_count 147 = .ok (.aload_n 0, 1) := by decide +kernel
theorem dX9_count_148 : decode cX9_count 148 = .ok (.getfield 118, 3) := by decide +kernel
theorem dX9_count_151 : decode cX9_count 151 = .ok (.ireturn, 1) := by decide +kernel
theorem dX9_count_152 : decode cX9_count 152 = .ok (.iconst (-1), 1) := by decide +kernel
theorem dX9_count_153 : decode cX9_count 153 = .ok (.ireturn, 1) := by decide +kernel
