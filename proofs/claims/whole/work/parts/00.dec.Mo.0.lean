theorem d_Mo_init_0 : decode b_Mo_init 0 = .ok (.aload_n 0, 1) := by decide +kernel
theorem d_Mo_init_1 : decode b_Mo_init 1 = .ok (.invokespecial 1, 3) := by decide +kernel
theorem d_Mo_init_4 : decode b_Mo_init 4 = .ok (.aload_n 0, 1) := by decide +kernel
theorem d_Mo_init_5 : decode b_Mo_init 5 = .ok (.sipush 300, 3) := by decide +kernel
theorem d_Mo_init_8 : decode b_Mo_init 8 = .ok (.newarray .int, 2) := by decide +kernel
theorem d_Mo_init_10 : decode b_Mo_init 10 = .ok (.putfield 7, 3) := by decide +kernel
theorem d_Mo_init_13 : decode b_Mo_init 13 = .ok (.aload_n 0, 1) := by decide +kernel
theorem d_Mo_init_14 : decode b_Mo_init 14 = .ok (.sipush 155, 3) := by decide +kernel
theorem d_Mo_init_17 : decode b_Mo_init 17 = .ok (.newarray .int, 2) := by decide +kernel
theorem d_Mo_init_19 : decode b_Mo_init 19 = .ok (.putfield 13, 3) := by decide +kernel
theorem d_Mo_init_22 : decode b_Mo_init 22 = .ok (.aload_n 0, 1) := by decide +kernel
theorem d_Mo_init_23 : decode b_Mo_init 23 = .ok (.sipush 155, 3) := by decide +kernel
theorem d_Mo_init_26 : decode b_Mo_init 26 = .ok (.newarray .long, 2) := by decide +kernel
theorem d_Mo_init_28 : decode b_Mo_init 28 = .ok (.putfield 16, 3) := by decide +kernel
theorem d_Mo_init_31 : decode b_Mo_init 31 = .ok (.aload_n 0, 1) := by decide +kernel
theorem d_Mo_init_32 : decode b_Mo_init 32 = .ok (.sipush 155, 3) := by decide +kernel
theorem d_Mo_init_35 : decode b_Mo_init 35 = .ok (.newarray .int, 2) := by decide +kernel
theorem d_Mo_init_37 : decode b_Mo_init 37 = .ok (.putfield 20, 3) := by decide +kernel
theorem d_Mo_init_40 : decode b_Mo_init 40 = .ok (.aload_n 0, 1) := by decide +kernel
theorem d_Mo_init_41 : decode b_Mo_init 41 = .ok (.sipush 155, 3) := by decide +kernel
theorem d_Mo_init_44 : decode b_Mo_init 44 = .ok (.newarray .int, 2) := by decide +kernel
theorem d_Mo_init_46 : decode b_Mo_init 46 = .ok (.putfield 23, 3) := by decide +kernel
theorem d_Mo_init_49 : decode b_Mo_init 49 = .ok (.aload_n 0, 1) := by decide +kernel
theorem d_Mo_init_50 : decode b_Mo_init 50 = .ok (.sipush 155, 3) := by decide +kernel
theorem d_Mo_init_53 : decode b_Mo_init 53 = .ok (.newarray .int, 2) := by decide +kernel
theorem d_Mo_init_55 : decode b_Mo_init 55 = .ok (.putfield 26, 3) := by decide +kernel
theorem d_Mo_init_58 : decode b_Mo_init 58 = .ok (.aload_n 0, 1) := by decide +kernel
theorem d_Mo_init_59 : decode b_Mo_init 59 = .ok (.sipush 155, 3) := by decide +kernel
theorem d_Mo_init_62 : decode b_Mo_init 62 = .ok (.newarray .int, 2) := by decide +kernel
theorem d_Mo_init_64 : decode b_Mo_init 64 = .ok (.putfield 29, 3) := by decide +kernel
theorem d_Mo_init_67 : decode b_Mo_init 67 = .ok (.aload_n 0, 1) := by decide +kernel
theorem d_Mo_init_68 : decode b_Mo_init 68 = .ok (.sipush 155, 3) := by decide +kernel
theorem d_Mo_init_71 : decode b_Mo_init 71 = .ok (.newarray .int, 2) := by decide +kernel
theorem d_Mo_init_73 : decode b_Mo_init 73 = .ok (.putfield 32, 3) := by decide +kernel
theorem d_Mo_init_76 : decode b_Mo_init 76 = .ok (.aload_n 0, 1) := by decide +kernel
theorem d_Mo_init_77 : decode b_Mo_init 77 = .ok (.sipush 155, 3) := by decide +kernel
theorem d_Mo_init_80 : decode b_Mo_init 80 = .ok (.newarray .int, 2) := by decide +kernel
theorem d_Mo_init_82 : decode b_Mo_init 82 = .ok (.putfield 35, 3) := by decide +kernel
theorem d_Mo_init_85 : decode b_Mo_init 85 = .ok (.aload_n 0, 1) := by decide +kernel
theorem d_Mo_init_86 : decode b_Mo_init 86 = .ok (.sipush 155, 3) := by decide +kernel
theorem d_Mo_init_89 : decode b_Mo_init 89 = .ok (.newarray .int, 2) := by decide +kernel
theorem d_Mo_init_91 : decode b_Mo_init 91 = .ok (.putfield 38, 3) := by decide +kernel
theorem d_Mo_init_94 : decode b_Mo_init 94 = .ok (.aload_n 0, 1) := by decide +kernel
theorem d_Mo_init_95 : decode b_Mo_init 95 = .ok (.sipush 155, 3) := by decide +kernel
theorem d_Mo_init_98 : decode b_Mo_init 98 = .ok (.newarray .int, 2) := by decide +kernel
theorem d_Mo_init_100 : decode b_Mo_init 100 = .ok (.putfield 41, 3) := by decide +kernel
theorem d_Mo_init_103 : decode b_Mo_init 103 = .ok (.aload_n 0, 1) := by decide +kernel
theorem d_Mo_init_104 : decode b_Mo_init 104 = .ok (.iconst (-1), 1) := by decide +kernel
theorem d_Mo_init_105 : decode b_Mo_init 105 = .ok (.putfield 44, 3) := by decide +kernel
theorem d_Mo_init_108 : decode b_Mo_init 108 = .ok (.aload_n 0, 1) := by decide +kernel
theorem d_Mo_init_109 : decode b_Mo_init 109 = .ok (.bipush 18, 2) := by decide +kernel
theorem d_Mo_init_111 : decode b_Mo_init 111 = .ok (.newarray .long, 2) := by decide +kernel
theorem d_Mo_init_113 : decode b_Mo_init 113 = .ok (.putfield 48, 3) := by decide +kernel
theorem d_Mo_init_116 : decode b_Mo_init 116 = .ok (.aload_n 0, 1) := by decide +kernel
theorem d_Mo_init_117 : decode b_Mo_init 117 = .ok (.bipush 18, 2) := by decide +kernel
theorem d_Mo_init_119 : decode b_Mo_init 119 = .ok (.newarray .int, 2) := by decide +kernel
theorem d_Mo_init_121 : decode b_Mo_init 121 = .ok (.putfield 51, 3) := by decide +kernel
theorem d_Mo_init_124 : decode b_Mo_init 124 = .ok (.aload_n 0, 1) := by decide +kernel
theorem d_Mo_init_125 : decode b_Mo_init 125 = .ok (.bipush 18, 2) := by decide +kernel
theorem d_Mo_init_127 : decode b_Mo_init 127 = .ok (.newarray .int, 2) := by decide +kernel
theorem d_Mo_init_129 : decode b_Mo_init 129 = .ok (.putfield 54, 3) := by decide +kernel
theorem d_Mo_init_132 : decode b_Mo_init 132 = .ok (.aload_n 0, 1) := by decide +kernel
theorem d_Mo_init_133 : decode b_Mo_init 133 = .ok (.bipush 18, 2) := by decide +kernel
theorem d_Mo_init_135 : decode b_Mo_init 135 = .ok (.newarray .int, 2) := by decide +kernel
theorem d_Mo_init_137 : decode b_Mo_init 137 = .ok (.putfield 57, 3) := by decide +kernel
theorem d_Mo_init_140 : decode b_Mo_init 140 = .ok (.aload_n 0, 1) := by decide +kernel
theorem d_Mo_init_141 : decode b_Mo_init 141 = .ok (.bipush 18, 2) := by decide +kernel
theorem d_Mo_init_143 : decode b_Mo_init 143 = .ok (.newarray .int, 2) := by decide +kernel
theorem d_Mo_init_145 : decode b_Mo_init 145 = .ok (.putfield 60, 3) := by decide +kernel
theorem d_Mo_init_148 : decode b_Mo_init 148 = .ok (.aload_n 0, 1) := by decide +kernel
theorem d_Mo_init_149 : decode b_Mo_init 149 = .ok (.bipush 8, 2) := by decide +kernel
theorem d_Mo_init_151 : decode b_Mo_init 151 = .ok (.newarray .int, 2) := by decide +kernel
theorem d_Mo_init_153 : decode b_Mo_init 153 = .ok (.putfield 63, 3) := by decide +kernel
theorem d_Mo_init_156 : decode b_Mo_init 156 = .ok (.aload_n 0, 1) := by decide +kernel
theorem d_Mo_init_157 : decode b_Mo_init 157 = .ok (.bipush 8, 2) := by decide +kernel
theorem d_Mo_init_159 : decode b_Mo_init 159 = .ok (.newarray .int, 2) := by decide +kernel
theorem d_Mo_init_161 : decode b_Mo_init 161 = .ok (.putfield 66, 3) := by decide +kernel
theorem d_Mo_init_164 : decode b_Mo_init 164 = .ok (.aload_n 0, 1) := by decide +kernel
theorem d_Mo_init_165 : decode b_Mo_init 165 = .ok (.bipush 18, 2) := by decide +kernel
theorem d_Mo_init_167 : decode b_Mo_init 167 = .ok (.newarray .int, 2) := by decide +kernel
theorem d_Mo_init_169 : decode b_Mo_init 169 = .ok (.putfield 69, 3) := by decide +kernel
theorem d_Mo_init_172 : decode b_Mo_init 172 = .ok (.aload_n 0, 1) := by decide +kernel
theorem d_Mo_init_173 : decode b_Mo_init 173 = .ok (.bipush 18, 2) := by decide +kernel
theorem d_Mo_init_175 : decode b_Mo_init 175 = .ok (.newarray .int, 2) := by decide +kernel
theorem d_Mo_init_177 : decode b_Mo_init 177 = .ok (.putfield 72, 3) := by decide +kernel
theorem d_Mo_init_180 : decode b_Mo_init 180 = .ok (.aload_n 0, 1) := by decide +kernel
theorem d_Mo_init_181 : decode b_Mo_init 181 = .ok (.bipush 18, 2) := by decide +kernel
theorem d_Mo_init_183 : decode b_Mo_init 183 = .ok (.newarray .int, 2) := by decide +kernel
theorem d_Mo_init_185 : decode b_Mo_init 185 = .ok (.putfield 75, 3) := by decide +kernel
theorem d_Mo_init_188 : decode b_Mo_init 188 = .ok (.aload_n 0, 1) := by decide +kernel
theorem d_Mo_init_189 : decode b_Mo_init 189 = .ok (.bipush 18, 2) := by decide +kernel
theorem d_Mo_init_191 : decode b_Mo_init 191 = .ok (.newarray .int, 2) := by decide +kernel
theorem d_Mo_init_193 : decode b_Mo_init 193 = .ok (.putfield 78, 3) := by decide +kernel
theorem d_Mo_init_196 : decode b_Mo_init 196 = .ok (.aload_n 0, 1) := by decide +kernel
theorem d_Mo_init_197 : decode b_Mo_init 197 = .ok (.bipush 8, 2) := by decide +kernel
theorem d_Mo_init_199 : decode b_Mo_init 199 = .ok (.newarray .int, 2) := by decide +kernel
theorem d_Mo_init_201 : decode b_Mo_init 201 = .ok (.putfield 81, 3) := by decide +kernel
theorem d_Mo_init_204 : decode b_Mo_init 204 = .ok (.aload_n 0, 1) := by decide +kernel
theorem d_Mo_init_205 : decode b_Mo_init 205 = .ok (.bipush 10, 2) := by decide +kernel
theorem d_Mo_init_207 : decode b_Mo_init 207 = .ok (.newarray .int, 2) := by decide +kernel
theorem d_Mo_init_209 : decode b_Mo_init 209 = .ok (.putfield 84, 3) := by decide +kernel
theorem d_Mo_init_212 : decode b_Mo_init 212 = .ok (.aload_n 0, 1) := by decide +kernel
theorem d_Mo_init_213 : decode b_Mo_init 213 = .ok (.bipush 10, 2) := by decide +kernel
theorem d_Mo_init_215 : decode b_Mo_init 215 = .ok (.newarray .int, 2) := by decide +kernel
theorem d_Mo_init_217 : decode b_Mo_init 217 = .ok (.putfield 87, 3) := by decide +kernel
theorem d_Mo_init_220 : decode b_Mo_init 220 = .ok (.aload_n 0, 1) := by decide +kernel
theorem d_Mo_init_221 : decode b_Mo_init 221 = .ok (.sipush 132, 3) := by decide +kernel
theorem d_Mo_init_224 : decode b_Mo_init 224 = .ok (.newarray .int, 2) := by decide +kernel
theorem d_Mo_init_226 : decode b_Mo_init 226 = .ok (.putfield 90, 3) := by decide +kernel
theorem d_Mo_init_229 : decode b_Mo_init 229 = .ok (.aload_n 0, 1) := by decide +kernel
theorem d_Mo_init_230 : decode b_Mo_init 230 = .ok (.sipush 132, 3) := by decide +kernel
theorem d_Mo_init_233 : decode b_Mo_init 233 = .ok (.newarray .int, 2) := by decide +kernel
theorem d_Mo_init_235 : decode b_Mo_init 235 = .ok (.putfield 93, 3) := by decide +kernel
theorem d_Mo_init_238 : decode b_Mo_init 238 = .ok (.aload_n 0, 1) := by decide +kernel
theorem d_Mo_init_239 : decode b_Mo_init 239 = .ok (.bipush 11, 2) := by decide +kernel
theorem d_Mo_init_241 : decode b_Mo_init 241 = .ok (.newarray .int, 2) := by decide +kernel
theorem d_Mo_init_243 : decode b_Mo_init 243 = .ok (.putfield 96, 3) := by decide +kernel
theorem d_Mo_init_246 : decode b_Mo_init 246 = .ok (.aload_n 0, 1) := by decide +kernel
theorem d_Mo_init_247 : decode b_Mo_init 247 = .ok (.bipush 11, 2) := by decide +kernel
theorem d_Mo_init_249 : decode b_Mo_init 249 = .ok (.newarray .int, 2) := by decide +kernel
theorem d_Mo_init_251 : decode b_Mo_init 251 = .ok (.putfield 99, 3) := by decide +kernel
theorem d_Mo_init_254 : decode b_Mo_init 254 = .ok (.aload_n 0, 1) := by decide +kernel
theorem d_Mo_init_255 : decode b_Mo_init 255 = .ok (.bipush 11, 2) := by decide +kernel
theorem d_Mo_init_257 : decode b_Mo_init 257 = .ok (.newarray .int, 2) := by decide +kernel
theorem d_Mo_init_259 : decode b_Mo_init 259 = .ok (.putfield 102, 3) := by decide +kernel
theorem d_Mo_init_262 : decode b_Mo_init 262 = .ok (.aload_n 0, 1) := by decide +kernel
theorem d_Mo_init_263 : decode b_Mo_init 263 = .ok (.bipush 11, 2) := by decide +kernel
theorem d_Mo_init_265 : decode b_Mo_init 265 = .ok (.newarray .int, 2) := by decide +kernel
theorem d_Mo_init_267 : decode b_Mo_init 267 = .ok (.putfield 105, 3) := by decide +kernel
theorem d_Mo_init_270 : decode b_Mo_init 270 = .ok (.aload_n 0, 1) := by decide +kernel
theorem d_Mo_init_271 : decode b_Mo_init 271 = .ok (.bipush 110, 2) := by decide +kernel
theorem d_Mo_init_273 : decode b_Mo_init 273 = .ok (.newarray .int, 2) := by decide +kernel
theorem d_Mo_init_275 : decode b_Mo_init 275 = .ok (.putfield 108, 3) := by decide +kernel
theorem d_Mo_init_278 : decode b_Mo_init 278 = .ok (.aload_n 0, 1) := by decide +kernel
theorem d_Mo_init_279 : decode b_Mo_init 279 = .ok (.bipush 110, 2) := by decide +kernel
theorem d_Mo_init_281 : decode b_Mo_init 281 = .ok (.newarray .int, 2) := by decide +kernel
theorem d_Mo_init_283 : decode b_Mo_init 283 = .ok (.putfield 111, 3) := by decide +kernel
theorem d_Mo_init_286 : decode b_Mo_init 286 = .ok (.aload_n 0, 1) := by decide +kernel
theorem d_Mo_init_287 : decode b_Mo_init 287 = .ok (.bipush 32, 2) := by decide +kernel
theorem d_Mo_init_289 : decode b_Mo_init 289 = .ok (.newarray .int, 2) := by decide +kernel
theorem d_Mo_init_291 : decode b_Mo_init 291 = .ok (.putfield 114, 3) := by decide +kernel
theorem d_Mo_init_294 : decode b_Mo_init 294 = .ok (.aload_n 0, 1) := by decide +kernel
theorem d_Mo_init_295 : decode b_Mo_init 295 = .ok (.bipush 10, 2) := by decide +kernel
theorem d_Mo_init_297 : decode b_Mo_init 297 = .ok (.newarray .int, 2) := by decide +kernel
theorem d_Mo_init_299 : decode b_Mo_init 299 = .ok (.putfield 117, 3) := by decide +kernel
theorem d_Mo_init_302 : decode b_Mo_init 302 = .ok (.aload_n 0, 1) := by decide +kernel
theorem d_Mo_init_303 : decode b_Mo_init 303 = .ok (.bipush 10, 2) := by decide +kernel
theorem d_Mo_init_305 : decode b_Mo_init 305 = .ok (.newarray .int, 2) := by decide +kernel
theorem d_Mo_init_307 : decode b_Mo_init 307 = .ok (.putfield 120, 3) := by decide +kernel
theorem d_Mo_init_310 : decode b_Mo_init 310 = .ok (.aload_n 0, 1) := by decide +kernel
theorem d_Mo_init_311 : decode b_Mo_init 311 = .ok (.bipush 10, 2) := by decide +kernel
theorem d_Mo_init_313 : decode b_Mo_init 313 = .ok (.newarray .int, 2) := by decide +kernel
theorem d_Mo_init_315 : decode b_Mo_init 315 = .ok (.putfield 123, 3) := by decide +kernel
theorem d_Mo_init_318 : decode b_Mo_init 318 = .ok (.aload_n 0, 1) := by decide +kernel
theorem d_Mo_init_319 : decode b_Mo_init 319 = .ok (.bipush 10, 2) := by decide +kernel
theorem d_Mo_init_321 : decode b_Mo_init 321 = .ok (.newarray .int, 2) := by decide +kernel
theorem d_Mo_init_323 : decode b_Mo_init 323 = .ok (.putfield 126, 3) := by decide +kernel
theorem d_Mo_init_326 : decode b_Mo_init 326 = .ok (.aload_n 0, 1) := by decide +kernel
theorem d_Mo_init_327 : decode b_Mo_init 327 = .ok (.iconst 3, 1) := by decide +kernel
theorem d_Mo_init_328 : decode b_Mo_init 328 = .ok (.newarray .int, 2) := by decide +kernel
theorem d_Mo_init_330 : decode b_Mo_init 330 = .ok (.putfield 129, 3) := by decide +kernel
theorem d_Mo_init_333 : decode b_Mo_init 333 = .ok (.return_, 1) := by decide +kernel
theorem d_Mo_thrown_0 : decode b_Mo_thrown 0 = .ok (.aload_n 0, 1) := by decide +kernel
theorem d_Mo_thrown_1 : decode b_Mo_thrown 1 = .ok (.getfield 132, 3) := by decide +kernel
theorem d_Mo_thrown_4 : decode b_Mo_thrown 4 = .ok (.ireturn, 1) := by decide +kernel
theorem d_Mo_raise_0 : decode b_Mo_raise 0 = .ok (.aload_n 0, 1) := by decide +kernel
theorem d_Mo_raise_1 : decode b_Mo_raise 1 = .ok (.iload_n 1, 1) := by decide +kernel
theorem d_Mo_raise_2 : decode b_Mo_raise 2 = .ok (.putfield 132, 3) := by decide +kernel
theorem d_Mo_raise_5 : decode b_Mo_raise 5 = .ok (.iconst 0, 1) := by decide +kernel
theorem d_Mo_raise_6 : decode b_Mo_raise 6 = .ok (.ireturn, 1) := by decide +kernel
theorem d_Mo_append_0 : decode b_Mo_append 0 = .ok (.aload_n 0, 1) := by decide +kernel
theorem d_Mo_append_1 : decode b_Mo_append 1 = .ok (.iconst 0, 1) := by decide +kernel
theorem d_Mo_append_2 : decode b_Mo_append 2 = .ok (.putfield 132, 3) := by decide +kernel
theorem d_Mo_append_5 : decode b_Mo_append 5 = .ok (.iload_n 3, 1) := by decide +kernel
theorem d_Mo_append_6 : decode b_Mo_append 6 = .ok (.iconst 1, 1) := by decide +kernel
theorem d_Mo_append_7 : decode b_Mo_append 7 = .ok (.if_icmp .lt 9, 3) := by decide +kernel
theorem d_Mo_append_10 : decode b_Mo_append 10 = .ok (.iload_n 3, 1) := by decide +kernel
theorem d_Mo_append_11 : decode b_Mo_append 11 = .ok (.bipush 8, 2) := by decide +kernel
theorem d_Mo_append_13 : decode b_Mo_append 13 = .ok (.if_icmp .le 9, 3) := by decide +kernel
theorem d_Mo_append_16 : decode b_Mo_append 16 = .ok (.aload_n 0, 1) := by decide +kernel
theorem d_Mo_append_17 : decode b_Mo_append 17 = .ok (.iconst 1, 1) := by decide +kernel
theorem d_Mo_append_18 : decode b_Mo_append 18 = .ok (.invokevirtual 135, 3) := by decide +kernel
theorem d_Mo_append_21 : decode b_Mo_append 21 = .ok (.ireturn, 1) := by decide +kernel
theorem d_Mo_append_22 : decode b_Mo_append 22 = .ok (.iconst 0, 1) := by decide +kernel
theorem d_Mo_append_23 : decode b_Mo_append 23 = .ok (.istore 4, 2) := by decide +kernel
theorem d_Mo_append_25 : decode b_Mo_append 25 = .ok (.iload 4, 2) := by decide +kernel
theorem d_Mo_append_27 : decode b_Mo_append 27 = .ok (.iload_n 3, 1) := by decide +kernel
theorem d_Mo_append_28 : decode b_Mo_append 28 = .ok (.if_icmp .ge 43, 3) := by decide +kernel
theorem d_Mo_append_31 : decode b_Mo_append 31 = .ok (.lload_n 1, 1) := by decide +kernel
theorem d_Mo_append_32 : decode b_Mo_append 32 = .ok (.bipush 8, 2) := by decide +kernel
theorem d_Mo_append_34 : decode b_Mo_append 34 = .ok (.iload 4, 2) := by decide +kernel
theorem d_Mo_append_36 : decode b_Mo_append 36 = .ok (.imul, 1) := by decide +kernel
theorem d_Mo_append_37 : decode b_Mo_append 37 = .ok (.lshr, 1) := by decide +kernel
theorem d_Mo_append_38 : decode b_Mo_append 38 = .ok (.l2i, 1) := by decide +kernel
theorem d_Mo_append_39 : decode b_Mo_append 39 = .ok (.sipush 255, 3) := by decide +kernel
theorem d_Mo_append_42 : decode b_Mo_append 42 = .ok (.iand, 1) := by decide +kernel
theorem d_Mo_append_43 : decode b_Mo_append 43 = .ok (.istore 5, 2) := by decide +kernel
theorem d_Mo_append_45 : decode b_Mo_append 45 = .ok (.iload 5, 2) := by decide +kernel
theorem d_Mo_append_47 : decode b_Mo_append 47 = .ok (.bipush 32, 2) := by decide +kernel
theorem d_Mo_append_49 : decode b_Mo_append 49 = .ok (.if_icmp .lt 10, 3) := by decide +kernel
theorem d_Mo_append_52 : decode b_Mo_append 52 = .ok (.iload 5, 2) := by decide +kernel
theorem d_Mo_append_54 : decode b_Mo_append 54 = .ok (.bipush 126, 2) := by decide +kernel
theorem d_Mo_append_56 : decode b_Mo_append 56 = .ok (.if_icmp .le 9, 3) := by decide +kernel
theorem d_Mo_append_59 : decode b_Mo_append 59 = .ok (.aload_n 0, 1) := by decide +kernel
theorem d_Mo_append_60 : decode b_Mo_append 60 = .ok (.iconst 1, 1) := by decide +kernel
theorem d_Mo_append_61 : decode b_Mo_append 61 = .ok (.invokevirtual 135, 3) := by decide +kernel
theorem d_Mo_append_64 : decode b_Mo_append 64 = .ok (.ireturn, 1) := by decide +kernel
theorem d_Mo_append_65 : decode b_Mo_append 65 = .ok (.iinc 4 1, 3) := by decide +kernel
theorem d_Mo_append_68 : decode b_Mo_append 68 = .ok (.goto (-43), 3) := by decide +kernel
theorem d_Mo_append_71 : decode b_Mo_append 71 = .ok (.aload_n 0, 1) := by decide +kernel
theorem d_Mo_append_72 : decode b_Mo_append 72 = .ok (.getfield 139, 3) := by decide +kernel
theorem d_Mo_append_75 : decode b_Mo_append 75 = .ok (.iload_n 3, 1) := by decide +kernel
theorem d_Mo_append_76 : decode b_Mo_append 76 = .ok (.iadd, 1) := by decide +kernel
theorem d_Mo_append_77 : decode b_Mo_append 77 = .ok (.sipush 300, 3) := by decide +kernel
theorem d_Mo_append_80 : decode b_Mo_append 80 = .ok (.if_icmp .le 9, 3) := by decide +kernel
theorem d_Mo_append_83 : decode b_Mo_append 83 = .ok (.aload_n 0, 1) := by decide +kernel
theorem d_Mo_append_84 : decode b_Mo_append 84 = .ok (.iconst 2, 1) := by decide +kernel
theorem d_Mo_append_85 : decode b_Mo_append 85 = .ok (.invokevirtual 135, 3) := by decide +kernel
theorem d_Mo_append_88 : decode b_Mo_append 88 = .ok (.ireturn, 1) := by decide +kernel
theorem d_Mo_append_89 : decode b_Mo_append 89 = .ok (.iload_n 3, 1) := by decide +kernel
theorem d_Mo_append_90 : decode b_Mo_append 90 = .ok (.iconst 1, 1) := by decide +kernel
theorem d_Mo_append_91 : decode b_Mo_append 91 = .ok (.isub, 1) := by decide +kernel
theorem d_Mo_append_92 : decode b_Mo_append 92 = .ok (.istore 4, 2) := by decide +kernel
theorem d_Mo_append_94 : decode b_Mo_append 94 = .ok (.iload 4, 2) := by decide +kernel
theorem d_Mo_append_96 : decode b_Mo_append 96 = .ok (.ifCond .lt 40, 3) := by decide +kernel
theorem d_Mo_append_99 : decode b_Mo_append 99 = .ok (.aload_n 0, 1) := by decide +kernel
theorem d_Mo_append_100 : decode b_Mo_append 100 = .ok (.getfield 7, 3) := by decide +kernel
theorem d_Mo_append_103 : decode b_Mo_append 103 = .ok (.aload_n 0, 1) := by decide +kernel
theorem d_Mo_append_104 : decode b_Mo_append 104 = .ok (.getfield 139, 3) := by decide +kernel
theorem d_Mo_append_107 : decode b_Mo_append 107 = .ok (.lload_n 1, 1) := by decide +kernel
theorem d_Mo_append_108 : decode b_Mo_append 108 = .ok (.bipush 8, 2) := by decide +kernel
theorem d_Mo_append_110 : decode b_Mo_append 110 = .ok (.iload 4, 2) := by decide +kernel
theorem d_Mo_append_112 : decode b_Mo_append 112 = .ok (.imul, 1) := by decide +kernel
theorem d_Mo_append_113 : decode b_Mo_append 113 = .ok (.lshr, 1) := by decide +kernel
theorem d_Mo_append_114 : decode b_Mo_append 114 = .ok (.l2i, 1) := by decide +kernel
theorem d_Mo_append_115 : decode b_Mo_append 115 = .ok (.sipush 255, 3) := by decide +kernel
theorem d_Mo_append_118 : decode b_Mo_append 118 = .ok (.iand, 1) := by decide +kernel
theorem d_Mo_append_119 : decode b_Mo_append 119 = .ok (.iastore, 1) := by decide +kernel
theorem d_Mo_append_120 : decode b_Mo_append 120 = .ok (.aload_n 0, 1) := by decide +kernel
theorem d_Mo_append_121 : decode b_Mo_append 121 = .ok (.dup, 1) := by decide +kernel
theorem d_Mo_append_122 : decode b_Mo_append 122 = .ok (.getfield 139, 3) := by decide +kernel
theorem d_Mo_append_125 : decode b_Mo_append 125 = .ok (.iconst 1, 1) := by decide +kernel
theorem d_Mo_append_126 : decode b_Mo_append 126 = .ok (.iadd, 1) := by decide +kernel
theorem d_Mo_append_127 : decode b_Mo_append 127 = .ok (.putfield 139, 3) := by decide +kernel
theorem d_Mo_append_130 : decode b_Mo_append 130 = .ok (.iinc 4 (-1), 3) := by decide +kernel
theorem d_Mo_append_133 : decode b_Mo_append 133 = .ok (.goto (-39), 3) := by decide +kernel
theorem d_Mo_append_136 : decode b_Mo_append 136 = .ok (.aload_n 0, 1) := by decide +kernel
theorem d_Mo_append_137 : decode b_Mo_append 137 = .ok (.getfield 139, 3) := by decide +kernel
theorem d_Mo_append_140 : decode b_Mo_append 140 = .ok (.ireturn, 1) := by decide +kernel
theorem d_Mo_cut_0 : decode b_Mo_cut 0 = .ok (.aload_n 0, 1) := by decide +kernel
theorem d_Mo_cut_1 : decode b_Mo_cut 1 = .ok (.iconst 0, 1) := by decide +kernel
theorem d_Mo_cut_2 : decode b_Mo_cut 2 = .ok (.putfield 132, 3) := by decide +kernel
theorem d_Mo_cut_5 : decode b_Mo_cut 5 = .ok (.iload_n 1, 1) := by decide +kernel
theorem d_Mo_cut_6 : decode b_Mo_cut 6 = .ok (.ifCond .lt 11, 3) := by decide +kernel
theorem d_Mo_cut_9 : decode b_Mo_cut 9 = .ok (.iload_n 1, 1) := by decide +kernel
theorem d_Mo_cut_10 : decode b_Mo_cut 10 = .ok (.aload_n 0, 1) := by decide +kernel
theorem d_Mo_cut_11 : decode b_Mo_cut 11 = .ok (.getfield 139, 3) := by decide +kernel
theorem d_Mo_cut_14 : decode b_Mo_cut 14 = .ok (.if_icmp .le 9, 3) := by decide +kernel
theorem d_Mo_cut_17 : decode b_Mo_cut 17 = .ok (.aload_n 0, 1) := by decide +kernel
theorem d_Mo_cut_18 : decode b_Mo_cut 18 = .ok (.iconst 1, 1) := by decide +kernel
theorem d_Mo_cut_19 : decode b_Mo_cut 19 = .ok (.invokevirtual 135, 3) := by decide +kernel
theorem d_Mo_cut_22 : decode b_Mo_cut 22 = .ok (.ireturn, 1) := by decide +kernel
theorem d_Mo_cut_23 : decode b_Mo_cut 23 = .ok (.aload_n 0, 1) := by decide +kernel
theorem d_Mo_cut_24 : decode b_Mo_cut 24 = .ok (.dup, 1) := by decide +kernel
theorem d_Mo_cut_25 : decode b_Mo_cut 25 = .ok (.getfield 139, 3) := by decide +kernel
theorem d_Mo_cut_28 : decode b_Mo_cut 28 = .ok (.iload_n 1, 1) := by decide +kernel
theorem d_Mo_cut_29 : decode b_Mo_cut 29 = .ok (.isub, 1) := by decide +kernel
theorem d_Mo_cut_30 : decode b_Mo_cut 30 = .ok (.putfield 139, 3) := by decide +kernel
theorem d_Mo_cut_33 : decode b_Mo_cut 33 = .ok (.aload_n 0, 1) := by decide +kernel
theorem d_Mo_cut_34 : decode b_Mo_cut 34 = .ok (.getfield 139, 3) := by decide +kernel
theorem d_Mo_cut_37 : decode b_Mo_cut 37 = .ok (.ireturn, 1) := by decide +kernel
theorem d_Mo_letter_0 : decode b_Mo_letter 0 = .ok (.iload_n 0, 1) := by decide +kernel
theorem d_Mo_letter_1 : decode b_Mo_letter 1 = .ok (.bipush 97, 2) := by decide +kernel
theorem d_Mo_letter_3 : decode b_Mo_letter 3 = .ok (.if_icmp .lt 13, 3) := by decide +kernel
theorem d_Mo_letter_6 : decode b_Mo_letter 6 = .ok (.iload_n 0, 1) := by decide +kernel
theorem d_Mo_letter_7 : decode b_Mo_letter 7 = .ok (.bipush 122, 2) := by decide +kernel
theorem d_Mo_letter_9 : decode b_Mo_letter 9 = .ok (.if_icmp .gt 7, 3) := by decide +kernel
theorem d_Mo_letter_12 : decode b_Mo_letter 12 = .ok (.iconst 1, 1) := by decide +kernel
theorem d_Mo_letter_13 : decode b_Mo_letter 13 = .ok (.goto 4, 3) := by decide +kernel
theorem d_Mo_letter_16 : decode b_Mo_letter 16 = .ok (.iconst 0, 1) := by decide +kernel
theorem d_Mo_letter_17 : decode b_Mo_letter 17 = .ok (.ireturn, 1) := by decide +kernel
theorem d_Mo_digit_0 : decode b_Mo_digit 0 = .ok (.iload_n 0, 1) := by decide +kernel
theorem d_Mo_digit_1 : decode b_Mo_digit 1 = .ok (.bipush 48, 2) := by decide +kernel
theorem d_Mo_digit_3 : decode b_Mo_digit 3 = .ok (.if_icmp .lt 13, 3) := by decide +kernel
theorem d_Mo_digit_6 : decode b_Mo_digit 6 = .ok (.iload_n 0, 1) := by decide +kernel
theorem d_Mo_digit_7 : decode b_Mo_digit 7 = .ok (.bipush 57, 2) := by decide +kernel
theorem d_Mo_digit_9 : decode b_Mo_digit 9 = .ok (.if_icmp .gt 7, 3) := by decide +kernel
theorem d_Mo_digit_12 : decode b_Mo_digit 12 = .ok (.iconst 1, 1) := by decide +kernel
theorem d_Mo_digit_13 : decode b_Mo_digit 13 = .ok (.goto 4, 3) := by decide +kernel
theorem d_Mo_digit_16 : decode b_Mo_digit 16 = .ok (.iconst 0, 1) := by decide +kernel
theorem d_Mo_digit_17 : decode b_Mo_digit 17 = .ok (.ireturn, 1) := by decide +kernel
theorem d_Mo_wordKind_0 : decode b_Mo_wordKind 0 = .ok (.lload_n 0, 1) := by decide +kernel
theorem d_Mo_wordKind_1 : decode b_Mo_wordKind 1 = .ok (.ldc2_w 142, 3) := by decide +kernel
theorem d_Mo_wordKind_4 : decode b_Mo_wordKind 4 = .ok (.lcmp, 1) := by decide +kernel
theorem d_Mo_wordKind_5 : decode b_Mo_wordKind 5 = .ok (.ifCond .ne 5, 3) := by decide +kernel
theorem d_Mo_wordKind_8 : decode b_Mo_wordKind 8 = .ok (.iconst 3, 1) := by decide +kernel
theorem d_Mo_wordKind_9 : decode b_Mo_wordKind 9 = .ok (.ireturn, 1) := by decide +kernel
theorem d_Mo_wordKind_10 : decode b_Mo_wordKind 10 = .ok (.lload_n 0, 1) := by decide +kernel
theorem d_Mo_wordKind_11 : decode b_Mo_wordKind 11 = .ok (.ldc2_w 144, 3) := by decide +kernel
theorem d_Mo_wordKind_14 : decode b_Mo_wordKind 14 = .ok (.lcmp, 1) := by decide +kernel
theorem d_Mo_wordKind_15 : decode b_Mo_wordKind 15 = .ok (.ifCond .ne 5, 3) := by decide +kernel
theorem d_Mo_wordKind_18 : decode b_Mo_wordKind 18 = .ok (.iconst 4, 1) := by decide +kernel
theorem d_Mo_wordKind_19 : decode b_Mo_wordKind 19 = .ok (.ireturn, 1) := by decide +kernel
theorem d_Mo_wordKind_20 : decode b_Mo_wordKind 20 = .ok (.lload_n 0, 1) := by decide +kernel
theorem d_Mo_wordKind_21 : decode b_Mo_wordKind 21 = .ok (.ldc2_w 146, 3) := by decide +kernel
theorem d_Mo_wordKind_24 : decode b_Mo_wordKind 24 = .ok (.lcmp, 1) := by decide +kernel
theorem d_Mo_wordKind_25 : decode b_Mo_wordKind 25 = .ok (.ifCond .ne 5, 3) := by decide +kernel
theorem d_Mo_wordKind_28 : decode b_Mo_wordKind 28 = .ok (.iconst 5, 1) := by decide +kernel
theorem d_Mo_wordKind_29 : decode b_Mo_wordKind 29 = .ok (.ireturn, 1) := by decide +kernel
theorem d_Mo_wordKind_30 : decode b_Mo_wordKind 30 = .ok (.lload_n 0, 1) := by decide +kernel
theorem d_Mo_wordKind_31 : decode b_Mo_wordKind 31 = .ok (.ldc2_w 148, 3) := by decide +kernel
theorem d_Mo_wordKind_34 : decode b_Mo_wordKind 34 = .ok (.lcmp, 1) := by decide +kernel
theorem d_Mo_wordKind_35 : decode b_Mo_wordKind 35 = .ok (.ifCond .ne 6, 3) := by decide +kernel
theorem d_Mo_wordKind_38 : decode b_Mo_wordKind 38 = .ok (.bipush 6, 2) := by decide +kernel
theorem d_Mo_wordKind_40 : decode b_Mo_wordKind 40 = .ok (.ireturn, 1) := by decide +kernel
theorem d_Mo_wordKind_41 : decode b_Mo_wordKind 41 = .ok (.lload_n 0, 1) := by decide +kernel
theorem d_Mo_wordKind_42 : decode b_Mo_wordKind 42 = .ok (.ldc2_w 150, 3) := by decide +kernel
theorem d_Mo_wordKind_45 : decode b_Mo_wordKind 45 = .ok (.lcmp, 1) := by decide +kernel
theorem d_Mo_wordKind_46 : decode b_Mo_wordKind 46 = .ok (.ifCond .ne 6, 3) := by decide +kernel
theorem d_Mo_wordKind_49 : decode b_Mo_wordKind 49 = .ok (.bipush 7, 2) := by decide +kernel
theorem d_Mo_wordKind_51 : decode b_Mo_wordKind 51 = .ok (.ireturn, 1) := by decide +kernel
theorem d_Mo_wordKind_52 : decode b_Mo_wordKind 52 = .ok (.lload_n 0, 1) := by decide +kernel
theorem d_Mo_wordKind_53 : decode b_Mo_wordKind 53 = .ok (.ldc2_w 152, 3) := by decide +kernel
theorem d_Mo_wordKind_56 : decode b_Mo_wordKind 56 = .ok (.lcmp, 1) := by decide +kernel
theorem d_Mo_wordKind_57 : decode b_Mo_wordKind 57 = .ok (.ifCond .ne 6, 3) := by decide +kernel
theorem d_Mo_wordKind_60 : decode b_Mo_wordKind 60 = .ok (.bipush 8, 2) := by decide +kernel
theorem d_Mo_wordKind_62 : decode b_Mo_wordKind 62 = .ok (.ireturn, 1) := by decide +kernel
theorem d_Mo_wordKind_63 : decode b_Mo_wordKind 63 = .ok (.lload_n 0, 1) := by decide +kernel
theorem d_Mo_wordKind_64 : decode b_Mo_wordKind 64 = .ok (.ldc2_w 154, 3) := by decide +kernel
theorem d_Mo_wordKind_67 : decode b_Mo_wordKind 67 = .ok (.lcmp, 1) := by decide +kernel
theorem d_Mo_wordKind_68 : decode b_Mo_wordKind 68 = .ok (.ifCond .ne 6, 3) := by decide +kernel
theorem d_Mo_wordKind_71 : decode b_Mo_wordKind 71 = .ok (.bipush 9, 2) := by decide +kernel
theorem d_Mo_wordKind_73 : decode b_Mo_wordKind 73 = .ok (.ireturn, 1) := by decide +kernel
theorem d_Mo_wordKind_74 : decode b_Mo_wordKind 74 = .ok (.lload_n 0, 1) := by decide +kernel
theorem d_Mo_wordKind_75 : decode b_Mo_wordKind 75 = .ok (.ldc2_w 156, 3) := by decide +kernel
theorem d_Mo_wordKind_78 : decode b_Mo_wordKind 78 = .ok (.lcmp, 1) := by decide +kernel
theorem d_Mo_wordKind_79 : decode b_Mo_wordKind 79 = .ok (.ifCond .ne 6, 3) := by decide +kernel
theorem d_Mo_wordKind_82 : decode b_Mo_wordKind 82 = .ok (.bipush 10, 2) := by decide +kernel
theorem d_Mo_wordKind_84 : decode b_Mo_wordKind 84 = .ok (.ireturn, 1) := by decide +kernel
theorem d_Mo_wordKind_85 : decode b_Mo_wordKind 85 = .ok (.lload_n 0, 1) := by decide +kernel
theorem d_Mo_wordKind_86 : decode b_Mo_wordKind 86 = .ok (.ldc2_w 158, 3) := by decide +kernel
theorem d_Mo_wordKind_89 : decode b_Mo_wordKind 89 = .ok (.lcmp, 1) := by decide +kernel
theorem d_Mo_wordKind_90 : decode b_Mo_wordKind 90 = .ok (.ifCond .ne 6, 3) := by decide +kernel
theorem d_Mo_wordKind_93 : decode b_Mo_wordKind 93 = .ok (.bipush 11, 2) := by decide +kernel
theorem d_Mo_wordKind_95 : decode b_Mo_wordKind 95 = .ok (.ireturn, 1) := by decide +kernel
theorem d_Mo_wordKind_96 : decode b_Mo_wordKind 96 = .ok (.lload_n 0, 1) := by decide +kernel
theorem d_Mo_wordKind_97 : decode b_Mo_wordKind 97 = .ok (.ldc2_w 160, 3) := by decide +kernel
theorem d_Mo_wordKind_100 : decode b_Mo_wordKind 100 = .ok (.lcmp, 1) := by decide +kernel
theorem d_Mo_wordKind_101 : decode b_Mo_wordKind 101 = .ok (.ifCond .ne 8, 3) := by decide +kernel
theorem d_Mo_wordKind_104 : decode b_Mo_wordKind 104 = .ok (.bipush 12, 2) := by decide +kernel
theorem d_Mo_wordKind_106 : decode b_Mo_wordKind 106 = .ok (.goto 4, 3) := by decide +kernel
theorem d_Mo_wordKind_109 : decode b_Mo_wordKind 109 = .ok (.iconst 1, 1) := by decide +kernel
theorem d_Mo_wordKind_110 : decode b_Mo_wordKind 110 = .ok (.ireturn, 1) := by decide +kernel
theorem d_Mo_sign_0 : decode b_Mo_sign 0 = .ok (.iload_n 0, 1) := by decide +kernel
theorem d_Mo_sign_1 : decode b_Mo_sign 1 = .ok (.bipush 40, 2) := by decide +kernel
theorem d_Mo_sign_3 : decode b_Mo_sign 3 = .ok (.if_icmp .lt 9, 3) := by decide +kernel
theorem d_Mo_sign_6 : decode b_Mo_sign 6 = .ok (.iload_n 0, 1) := by decide +kernel
theorem d_Mo_sign_7 : decode b_Mo_sign 7 = .ok (.bipush 47, 2) := by decide +kernel
theorem d_Mo_sign_9 : decode b_Mo_sign 9 = .ok (.if_icmp .le 33, 3) := by decide +kernel
theorem d_Mo_sign_12 : decode b_Mo_sign 12 = .ok (.iload_n 0, 1) := by decide +kernel
theorem d_Mo_sign_13 : decode b_Mo_sign 13 = .ok (.bipush 59, 2) := by decide +kernel
theorem d_Mo_sign_15 : decode b_Mo_sign 15 = .ok (.if_icmp .eq 27, 3) := by decide +kernel
theorem d_Mo_sign_18 : decode b_Mo_sign 18 = .ok (.iload_n 0, 1) := by decide +kernel
theorem d_Mo_sign_19 : decode b_Mo_sign 19 = .ok (.bipush 60, 2) := by decide +kernel
theorem d_Mo_sign_21 : decode b_Mo_sign 21 = .ok (.if_icmp .lt 9, 3) := by decide +kernel
theorem d_Mo_sign_24 : decode b_Mo_sign 24 = .ok (.iload_n 0, 1) := by decide +kernel
theorem d_Mo_sign_25 : decode b_Mo_sign 25 = .ok (.bipush 62, 2) := by decide +kernel
theorem d_Mo_sign_27 : decode b_Mo_sign 27 = .ok (.if_icmp .le 15, 3) := by decide +kernel
theorem d_Mo_sign_30 : decode b_Mo_sign 30 = .ok (.iload_n 0, 1) := by decide +kernel
theorem d_Mo_sign_31 : decode b_Mo_sign 31 = .ok (.bipush 37, 2) := by decide +kernel
theorem d_Mo_sign_33 : decode b_Mo_sign 33 = .ok (.if_icmp .eq 9, 3) := by decide +kernel
theorem d_Mo_sign_36 : decode b_Mo_sign 36 = .ok (.iload_n 0, 1) := by decide +kernel
theorem d_Mo_sign_37 : decode b_Mo_sign 37 = .ok (.bipush 64, 2) := by decide +kernel
theorem d_Mo_sign_39 : decode b_Mo_sign 39 = .ok (.if_icmp .ne 7, 3) := by decide +kernel
theorem d_Mo_sign_42 : decode b_Mo_sign 42 = .ok (.iconst 1, 1) := by decide +kernel
theorem d_Mo_sign_43 : decode b_Mo_sign 43 = .ok (.goto 4, 3) := by decide +kernel
theorem d_Mo_sign_46 : decode b_Mo_sign 46 = .ok (.iconst 0, 1) := by decide +kernel
theorem d_Mo_sign_47 : decode b_Mo_sign 47 = .ok (.ireturn, 1) := by decide +kernel
theorem d_Mo_cutWord_0 : decode b_Mo_cutWord 0 = .ok (.aload_n 0, 1) := by decide +kernel
theorem d_Mo_cutWord_1 : decode b_Mo_cutWord 1 = .ok (.getfield 162, 3) := by decide +kernel
theorem d_Mo_cutWord_4 : decode b_Mo_cutWord 4 = .ok (.istore_n 2, 1) := by decide +kernel
theorem d_Mo_cutWord_5 : decode b_Mo_cutWord 5 = .ok (.iload_n 1, 1) := by decide +kernel
theorem d_Mo_cutWord_6 : decode b_Mo_cutWord 6 = .ok (.istore_n 3, 1) := by decide +kernel
theorem d_Mo_cutWord_7 : decode b_Mo_cutWord 7 = .ok (.aload_n 0, 1) := by decide +kernel
theorem d_Mo_cutWord_8 : decode b_Mo_cutWord 8 = .ok (.getfield 7, 3) := by decide +kernel
theorem d_Mo_cutWord_11 : decode b_Mo_cutWord 11 = .ok (.iload_n 1, 1) := by decide +kernel
theorem d_Mo_cutWord_12 : decode b_Mo_cutWord 12 = .ok (.iaload, 1) := by decide +kernel
theorem d_Mo_cutWord_13 : decode b_Mo_cutWord 13 = .ok (.invokestatic 165, 3) := by decide +kernel
theorem d_Mo_cutWord_16 : decode b_Mo_cutWord 16 = .ok (.istore 4, 2) := by decide +kernel
theorem d_Mo_cutWord_18 : decode b_Mo_cutWord 18 = .ok (.lconst 0, 1) := by decide +kernel
theorem d_Mo_cutWord_19 : decode b_Mo_cutWord 19 = .ok (.lstore 5, 2) := by decide +kernel
theorem d_Mo_cutWord_21 : decode b_Mo_cutWord 21 = .ok (.iload_n 3, 1) := by decide +kernel
theorem d_Mo_cutWord_22 : decode b_Mo_cutWord 22 = .ok (.aload_n 0, 1) := by decide +kernel
theorem d_Mo_cutWord_23 : decode b_Mo_cutWord 23 = .ok (.getfield 139, 3) := by decide +kernel
theorem d_Mo_cutWord_26 : decode b_Mo_cutWord 26 = .ok (.if_icmp .ge 87, 3) := by decide +kernel
theorem d_Mo_cutWord_29 : decode b_Mo_cutWord 29 = .ok (.iload_n 3, 1) := by decide +kernel
theorem d_Mo_cutWord_30 : decode b_Mo_cutWord 30 = .ok (.iload_n 1, 1) := by decide +kernel
theorem d_Mo_cutWord_31 : decode b_Mo_cutWord 31 = .ok (.bipush 10, 2) := by decide +kernel
theorem d_Mo_cutWord_33 : decode b_Mo_cutWord 33 = .ok (.iadd, 1) := by decide +kernel
theorem d_Mo_cutWord_34 : decode b_Mo_cutWord 34 = .ok (.if_icmp .ge 79, 3) := by decide +kernel
theorem d_Mo_cutWord_37 : decode b_Mo_cutWord 37 = .ok (.aload_n 0, 1) := by decide +kernel
theorem d_Mo_cutWord_38 : decode b_Mo_cutWord 38 = .ok (.getfield 7, 3) := by decide +kernel
theorem d_Mo_cutWord_41 : decode b_Mo_cutWord 41 = .ok (.iload_n 3, 1) := by decide +kernel
theorem d_Mo_cutWord_42 : decode b_Mo_cutWord 42 = .ok (.iaload, 1) := by decide +kernel
theorem d_Mo_cutWord_43 : decode b_Mo_cutWord 43 = .ok (.invokestatic 169, 3) := by decide +kernel
theorem d_Mo_cutWord_46 : decode b_Mo_cutWord 46 = .ok (.ifCond .ne 20, 3) := by decide +kernel
theorem d_Mo_cutWord_49 : decode b_Mo_cutWord 49 = .ok (.iload 4, 2) := by decide +kernel
theorem d_Mo_cutWord_51 : decode b_Mo_cutWord 51 = .ok (.ifCond .eq 62, 3) := by decide +kernel
theorem d_Mo_cutWord_54 : decode b_Mo_cutWord 54 = .ok (.aload_n 0, 1) := by decide +kernel
theorem d_Mo_cutWord_55 : decode b_Mo_cutWord 55 = .ok (.getfield 7, 3) := by decide +kernel
theorem d_Mo_cutWord_58 : decode b_Mo_cutWord 58 = .ok (.iload_n 3, 1) := by decide +kernel
theorem d_Mo_cutWord_59 : decode b_Mo_cutWord 59 = .ok (.iaload, 1) := by decide +kernel
theorem d_Mo_cutWord_60 : decode b_Mo_cutWord 60 = .ok (.invokestatic 165, 3) := by decide +kernel
theorem d_Mo_cutWord_63 : decode b_Mo_cutWord 63 = .ok (.ifCond .eq 50, 3) := by decide +kernel
theorem d_Mo_cutWord_66 : decode b_Mo_cutWord 66 = .ok (.iload 4, 2) := by decide +kernel
theorem d_Mo_cutWord_68 : decode b_Mo_cutWord 68 = .ok (.ifCond .eq 19, 3) := by decide +kernel
theorem d_Mo_cutWord_71 : decode b_Mo_cutWord 71 = .ok (.lload 5, 2) := by decide +kernel
theorem d_Mo_cutWord_73 : decode b_Mo_cutWord 73 = .ok (.bipush 8, 2) := by decide +kernel
theorem d_Mo_cutWord_75 : decode b_Mo_cutWord 75 = .ok (.lshl, 1) := by decide +kernel
theorem d_Mo_cutWord_76 : decode b_Mo_cutWord 76 = .ok (.aload_n 0, 1) := by decide +kernel
theorem d_Mo_cutWord_77 : decode b_Mo_cutWord 77 = .ok (.getfield 7, 3) := by decide +kernel
theorem d_Mo_cutWord_80 : decode b_Mo_cutWord 80 = .ok (.iload_n 3, 1) := by decide +kernel
theorem d_Mo_cutWord_81 : decode b_Mo_cutWord 81 = .ok (.iaload, 1) := by decide +kernel
theorem d_Mo_cutWord_82 : decode b_Mo_cutWord 82 = .ok (.i2l, 1) := by decide +kernel
theorem d_Mo_cutWord_83 : decode b_Mo_cutWord 83 = .ok (.lor, 1) := by decide +kernel
theorem d_Mo_cutWord_84 : decode b_Mo_cutWord 84 = .ok (.goto 21, 3) := by decide +kernel
theorem d_Mo_cutWord_87 : decode b_Mo_cutWord 87 = .ok (.lload 5, 2) := by decide +kernel
theorem d_Mo_cutWord_89 : decode b_Mo_cutWord 89 = .ok (.ldc2_w 172, 3) := by decide +kernel
theorem d_Mo_cutWord_92 : decode b_Mo_cutWord 92 = .ok (.lmul, 1) := by decide +kernel
theorem d_Mo_cutWord_93 : decode b_Mo_cutWord 93 = .ok (.aload_n 0, 1) := by decide +kernel
theorem d_Mo_cutWord_94 : decode b_Mo_cutWord 94 = .ok (.getfield 7, 3) := by decide +kernel
theorem d_Mo_cutWord_97 : decode b_Mo_cutWord 97 = .ok (.iload_n 3, 1) := by decide +kernel
theorem d_Mo_cutWord_98 : decode b_Mo_cutWord 98 = .ok (.iaload, 1) := by decide +kernel
theorem d_Mo_cutWord_99 : decode b_Mo_cutWord 99 = .ok (.i2l, 1) := by decide +kernel
theorem d_Mo_cutWord_100 : decode b_Mo_cutWord 100 = .ok (.ladd, 1) := by decide +kernel
theorem d_Mo_cutWord_101 : decode b_Mo_cutWord 101 = .ok (.ldc2_w 174, 3) := by decide +kernel
theorem d_Mo_cutWord_104 : decode b_Mo_cutWord 104 = .ok (.lsub, 1) := by decide +kernel
theorem d_Mo_cutWord_105 : decode b_Mo_cutWord 105 = .ok (.lstore 5, 2) := by decide +kernel
theorem d_Mo_cutWord_107 : decode b_Mo_cutWord 107 = .ok (.iinc 3 1, 3) := by decide +kernel
theorem d_Mo_cutWord_110 : decode b_Mo_cutWord 110 = .ok (.goto (-89), 3) := by decide +kernel
theorem d_Mo_cutWord_113 : decode b_Mo_cutWord 113 = .ok (.aload_n 0, 1) := by decide +kernel
theorem d_Mo_cutWord_114 : decode b_Mo_cutWord 114 = .ok (.getfield 13, 3) := by decide +kernel
theorem d_Mo_cutWord_117 : decode b_Mo_cutWord 117 = .ok (.iload_n 2, 1) := by decide +kernel
theorem d_Mo_cutWord_118 : decode b_Mo_cutWord 118 = .ok (.iload_n 3, 1) := by decide +kernel
theorem d_Mo_cutWord_119 : decode b_Mo_cutWord 119 = .ok (.iload_n 1, 1) := by decide +kernel
theorem d_Mo_cutWord_120 : decode b_Mo_cutWord 120 = .ok (.isub, 1) := by decide +kernel
theorem d_Mo_cutWord_121 : decode b_Mo_cutWord 121 = .ok (.iload 4, 2) := by decide +kernel
theorem d_Mo_cutWord_123 : decode b_Mo_cutWord 123 = .ok (.ifCond .eq 8, 3) := by decide +kernel
theorem d_Mo_cutWord_126 : decode b_Mo_cutWord 126 = .ok (.bipush 6, 2) := by decide +kernel
theorem d_Mo_cutWord_128 : decode b_Mo_cutWord 128 = .ok (.goto 5, 3) := by decide +kernel
theorem d_Mo_cutWord_131 : decode b_Mo_cutWord 131 = .ok (.bipush 9, 2) := by decide +kernel
theorem d_Mo_cutWord_133 : decode b_Mo_cutWord 133 = .ok (.if_icmp .le 8, 3) := by decide +kernel
theorem d_Mo_cutWord_136 : decode b_Mo_cutWord 136 = .ok (.bipush 99, 2) := by decide +kernel
theorem d_Mo_cutWord_138 : decode b_Mo_cutWord 138 = .ok (.goto 17, 3) := by decide +kernel
theorem d_Mo_cutWord_141 : decode b_Mo_cutWord 141 = .ok (.iload 4, 2) := by decide +kernel
theorem d_Mo_cutWord_143 : decode b_Mo_cutWord 143 = .ok (.ifCond .eq 11, 3) := by decide +kernel
theorem d_Mo_cutWord_146 : decode b_Mo_cutWord 146 = .ok (.lload 5, 2) := by decide +kernel
theorem d_Mo_cutWord_148 : decode b_Mo_cutWord 148 = .ok (.invokestatic 176, 3) := by decide +kernel
theorem d_Mo_cutWord_151 : decode b_Mo_cutWord 151 = .ok (.goto 4, 3) := by decide +kernel
theorem d_Mo_cutWord_154 : decode b_Mo_cutWord 154 = .ok (.iconst 2, 1) := by decide +kernel
theorem d_Mo_cutWord_155 : decode b_Mo_cutWord 155 = .ok (.iastore, 1) := by decide +kernel
theorem d_Mo_cutWord_156 : decode b_Mo_cutWord 156 = .ok (.aload_n 0, 1) := by decide +kernel
theorem d_Mo_cutWord_157 : decode b_Mo_cutWord 157 = .ok (.getfield 16, 3) := by decide +kernel
theorem d_Mo_cutWord_160 : decode b_Mo_cutWord 160 = .ok (.iload_n 2, 1) := by decide +kernel
theorem d_Mo_cutWord_161 : decode b_Mo_cutWord 161 = .ok (.lload 5, 2) := by decide +kernel
theorem d_Mo_cutWord_163 : decode b_Mo_cutWord 163 = .ok (.lastore, 1) := by decide +kernel
theorem d_Mo_cutWord_164 : decode b_Mo_cutWord 164 = .ok (.aload_n 0, 1) := by decide +kernel
theorem d_Mo_cutWord_165 : decode b_Mo_cutWord 165 = .ok (.getfield 23, 3) := by decide +kernel
theorem d_Mo_cutWord_168 : decode b_Mo_cutWord 168 = .ok (.iload_n 2, 1) := by decide +kernel
theorem d_Mo_cutWord_169 : decode b_Mo_cutWord 169 = .ok (.iload_n 3, 1) := by decide +kernel
theorem d_Mo_cutWord_170 : decode b_Mo_cutWord 170 = .ok (.iastore, 1) := by decide +kernel
theorem d_Mo_cutWord_171 : decode b_Mo_cutWord 171 = .ok (.return_, 1) := by decide +kernel
theorem d_Mo_cutAll_0 : decode b_Mo_cutAll 0 = .ok (.aload_n 0, 1) := by decide +kernel
theorem d_Mo_cutAll_1 : decode b_Mo_cutAll 1 = .ok (.iconst 0, 1) := by decide +kernel
theorem d_Mo_cutAll_2 : decode b_Mo_cutAll 2 = .ok (.putfield 162, 3) := by decide +kernel
theorem d_Mo_cutAll_5 : decode b_Mo_cutAll 5 = .ok (.iconst 0, 1) := by decide +kernel
theorem d_Mo_cutAll_6 : decode b_Mo_cutAll 6 = .ok (.istore_n 1, 1) := by decide +kernel
theorem d_Mo_cutAll_7 : decode b_Mo_cutAll 7 = .ok (.iload_n 1, 1) := by decide +kernel
theorem d_Mo_cutAll_8 : decode b_Mo_cutAll 8 = .ok (.aload_n 0, 1) := by decide +kernel
theorem d_Mo_cutAll_9 : decode b_Mo_cutAll 9 = .ok (.getfield 139, 3) := by decide +kernel
theorem d_Mo_cutAll_12 : decode b_Mo_cutAll 12 = .ok (.if_icmp .ge 190, 3) := by decide +kernel
theorem d_Mo_cutAll_15 : decode b_Mo_cutAll 15 = .ok (.aload_n 0, 1) := by decide +kernel
theorem d_Mo_cutAll_16 : decode b_Mo_cutAll 16 = .ok (.getfield 162, 3) := by decide +kernel
theorem d_Mo_cutAll_19 : decode b_Mo_cutAll 19 = .ok (.sipush 151, 3) := by decide +kernel
theorem d_Mo_cutAll_22 : decode b_Mo_cutAll 22 = .ok (.if_icmp .ge 180, 3) := by decide +kernel
theorem d_Mo_cutAll_25 : decode b_Mo_cutAll 25 = .ok (.aload_n 0, 1) := by decide +kernel
theorem d_Mo_cutAll_26 : decode b_Mo_cutAll 26 = .ok (.getfield 7, 3) := by decide +kernel
theorem d_Mo_cutAll_29 : decode b_Mo_cutAll 29 = .ok (.iload_n 1, 1) := by decide +kernel
theorem d_Mo_cutAll_30 : decode b_Mo_cutAll 30 = .ok (.iaload, 1) := by decide +kernel
theorem d_Mo_cutAll_31 : decode b_Mo_cutAll 31 = .ok (.istore_n 2, 1) := by decide +kernel
theorem d_Mo_cutAll_32 : decode b_Mo_cutAll 32 = .ok (.iload_n 2, 1) := by decide +kernel
theorem d_Mo_cutAll_33 : decode b_Mo_cutAll 33 = .ok (.bipush 32, 2) := by decide +kernel
theorem d_Mo_cutAll_35 : decode b_Mo_cutAll 35 = .ok (.if_icmp .ne 9, 3) := by decide +kernel
theorem d_Mo_cutAll_38 : decode b_Mo_cutAll 38 = .ok (.iinc 1 1, 3) := by decide +kernel
theorem d_Mo_cutAll_41 : decode b_Mo_cutAll 41 = .ok (.goto (-34), 3) := by decide +kernel
theorem d_Mo_cutAll_44 : decode b_Mo_cutAll 44 = .ok (.aload_n 0, 1) := by decide +kernel
theorem d_Mo_cutAll_45 : decode b_Mo_cutAll 45 = .ok (.getfield 162, 3) := by decide +kernel
theorem d_Mo_cutAll_48 : decode b_Mo_cutAll 48 = .ok (.istore_n 3, 1) := by decide +kernel
theorem d_Mo_cutAll_49 : decode b_Mo_cutAll 49 = .ok (.aload_n 0, 1) := by decide +kernel
theorem d_Mo_cutAll_50 : decode b_Mo_cutAll 50 = .ok (.getfield 20, 3) := by decide +kernel
theorem d_Mo_cutAll_53 : decode b_Mo_cutAll 53 = .ok (.iload_n 3, 1) := by decide +kernel
theorem d_Mo_cutAll_54 : decode b_Mo_cutAll 54 = .ok (.iload_n 1, 1) := by decide +kernel
theorem d_Mo_cutAll_55 : decode b_Mo_cutAll 55 = .ok (.iastore, 1) := by decide +kernel
theorem d_Mo_cutAll_56 : decode b_Mo_cutAll 56 = .ok (.aload_n 0, 1) := by decide +kernel
theorem d_Mo_cutAll_57 : decode b_Mo_cutAll 57 = .ok (.getfield 23, 3) := by decide +kernel
theorem d_Mo_cutAll_60 : decode b_Mo_cutAll 60 = .ok (.iload_n 3, 1) := by decide +kernel
theorem d_Mo_cutAll_61 : decode b_Mo_cutAll 61 = .ok (.iload_n 1, 1) := by decide +kernel
theorem d_Mo_cutAll_62 : decode b_Mo_cutAll 62 = .ok (.iconst 1, 1) := by decide +kernel
theorem d_Mo_cutAll_63 : decode b_Mo_cutAll 63 = .ok (.iadd, 1) := by decide +kernel
theorem d_Mo_cutAll_64 : decode b_Mo_cutAll 64 = .ok (.iastore, 1) := by decide +kernel
theorem d_Mo_cutAll_65 : decode b_Mo_cutAll 65 = .ok (.aload_n 0, 1) := by decide +kernel
theorem d_Mo_cutAll_66 : decode b_Mo_cutAll 66 = .ok (.getfield 13, 3) := by decide +kernel
theorem d_Mo_cutAll_69 : decode b_Mo_cutAll 69 = .ok (.iload_n 3, 1) := by decide +kernel
theorem d_Mo_cutAll_70 : decode b_Mo_cutAll 70 = .ok (.iload_n 2, 1) := by decide +kernel
theorem d_Mo_cutAll_71 : decode b_Mo_cutAll 71 = .ok (.invokestatic 180, 3) := by decide +kernel
theorem d_Mo_cutAll_74 : decode b_Mo_cutAll 74 = .ok (.ifCond .eq 7, 3) := by decide +kernel
theorem d_Mo_cutAll_77 : decode b_Mo_cutAll 77 = .ok (.iload_n 2, 1) := by decide +kernel
theorem d_Mo_cutAll_78 : decode b_Mo_cutAll 78 = .ok (.goto 5, 3) := by decide +kernel
theorem d_Mo_cutAll_81 : decode b_Mo_cutAll 81 = .ok (.bipush 99, 2) := by decide +kernel
theorem d_Mo_cutAll_83 : decode b_Mo_cutAll 83 = .ok (.iastore, 1) := by decide +kernel
theorem d_Mo_cutAll_84 : decode b_Mo_cutAll 84 = .ok (.iload_n 2, 1) := by decide +kernel
theorem d_Mo_cutAll_85 : decode b_Mo_cutAll 85 = .ok (.invokestatic 165, 3) := by decide +kernel
theorem d_Mo_cutAll_88 : decode b_Mo_cutAll 88 = .ok (.ifCond .ne 10, 3) := by decide +kernel
theorem d_Mo_cutAll_91 : decode b_Mo_cutAll 91 = .ok (.iload_n 2, 1) := by decide +kernel
theorem d_Mo_cutAll_92 : decode b_Mo_cutAll 92 = .ok (.invokestatic 169, 3) := by decide +kernel
theorem d_Mo_cutAll_95 : decode b_Mo_cutAll 95 = .ok (.ifCond .eq 8, 3) := by decide +kernel
theorem d_Mo_cutAll_98 : decode b_Mo_cutAll 98 = .ok (.aload_n 0, 1) := by decide +kernel
theorem d_Mo_cutAll_99 : decode b_Mo_cutAll 99 = .ok (.iload_n 1, 1) := by decide +kernel
theorem d_Mo_cutAll_100 : decode b_Mo_cutAll 100 = .ok (.invokevirtual 183, 3) := by decide +kernel
theorem d_Mo_cutAll_103 : decode b_Mo_cutAll 103 = .ok (.iload_n 2, 1) := by decide +kernel
theorem d_Mo_cutAll_104 : decode b_Mo_cutAll 104 = .ok (.bipush 58, 2) := by decide +kernel
theorem d_Mo_cutAll_106 : decode b_Mo_cutAll 106 = .ok (.if_icmp .ne 43, 3) := by decide +kernel
theorem d_Mo_cutAll_109 : decode b_Mo_cutAll 109 = .ok (.iload_n 1, 1) := by decide +kernel
theorem d_Mo_cutAll_110 : decode b_Mo_cutAll 110 = .ok (.iconst 1, 1) := by decide +kernel
theorem d_Mo_cutAll_111 : decode b_Mo_cutAll 111 = .ok (.iadd, 1) := by decide +kernel
theorem d_Mo_cutAll_112 : decode b_Mo_cutAll 112 = .ok (.aload_n 0, 1) := by decide +kernel
theorem d_Mo_cutAll_113 : decode b_Mo_cutAll 113 = .ok (.getfield 139, 3) := by decide +kernel
theorem d_Mo_cutAll_116 : decode b_Mo_cutAll 116 = .ok (.if_icmp .ge 33, 3) := by decide +kernel
theorem d_Mo_cutAll_119 : decode b_Mo_cutAll 119 = .ok (.aload_n 0, 1) := by decide +kernel
theorem d_Mo_cutAll_120 : decode b_Mo_cutAll 120 = .ok (.getfield 7, 3) := by decide +kernel
theorem d_Mo_cutAll_123 : decode b_Mo_cutAll 123 = .ok (.iload_n 1, 1) := by decide +kernel
theorem d_Mo_cutAll_124 : decode b_Mo_cutAll 124 = .ok (.iconst 1, 1) := by decide +kernel
theorem d_Mo_cutAll_125 : decode b_Mo_cutAll 125 = .ok (.iadd, 1) := by decide +kernel
theorem d_Mo_cutAll_126 : decode b_Mo_cutAll 126 = .ok (.iaload, 1) := by decide +kernel
theorem d_Mo_cutAll_127 : decode b_Mo_cutAll 127 = .ok (.bipush 61, 2) := by decide +kernel
theorem d_Mo_cutAll_129 : decode b_Mo_cutAll 129 = .ok (.if_icmp .ne 20, 3) := by decide +kernel
theorem d_Mo_cutAll_132 : decode b_Mo_cutAll 132 = .ok (.aload_n 0, 1) := by decide +kernel
theorem d_Mo_cutAll_133 : decode b_Mo_cutAll 133 = .ok (.getfield 13, 3) := by decide +kernel
theorem d_Mo_cutAll_136 : decode b_Mo_cutAll 136 = .ok (.iload_n 3, 1) := by decide +kernel
theorem d_Mo_cutAll_137 : decode b_Mo_cutAll 137 = .ok (.bipush 13, 2) := by decide +kernel
theorem d_Mo_cutAll_139 : decode b_Mo_cutAll 139 = .ok (.iastore, 1) := by decide +kernel
theorem d_Mo_cutAll_140 : decode b_Mo_cutAll 140 = .ok (.aload_n 0, 1) := by decide +kernel
theorem d_Mo_cutAll_141 : decode b_Mo_cutAll 141 = .ok (.getfield 23, 3) := by decide +kernel
theorem d_Mo_cutAll_144 : decode b_Mo_cutAll 144 = .ok (.iload_n 3, 1) := by decide +kernel
theorem d_Mo_cutAll_145 : decode b_Mo_cutAll 145 = .ok (.iload_n 1, 1) := by decide +kernel
theorem d_Mo_cutAll_146 : decode b_Mo_cutAll 146 = .ok (.iconst 2, 1) := by decide +kernel
theorem d_Mo_cutAll_147 : decode b_Mo_cutAll 147 = .ok (.iadd, 1) := by decide +kernel
theorem d_Mo_cutAll_148 : decode b_Mo_cutAll 148 = .ok (.iastore, 1) := by decide +kernel
theorem d_Mo_cutAll_149 : decode b_Mo_cutAll 149 = .ok (.iload_n 3, 1) := by decide +kernel
theorem d_Mo_cutAll_150 : decode b_Mo_cutAll 150 = .ok (.sipush 150, 3) := by decide +kernel
theorem d_Mo_cutAll_153 : decode b_Mo_cutAll 153 = .ok (.if_icmp .ne 11, 3) := by decide +kernel
theorem d_Mo_cutAll_156 : decode b_Mo_cutAll 156 = .ok (.aload_n 0, 1) := by decide +kernel
theorem d_Mo_cutAll_157 : decode b_Mo_cutAll 157 = .ok (.getfield 13, 3) := by decide +kernel
theorem d_Mo_cutAll_160 : decode b_Mo_cutAll 160 = .ok (.iload_n 3, 1) := by decide +kernel
theorem d_Mo_cutAll_161 : decode b_Mo_cutAll 161 = .ok (.bipush 99, 2) := by decide +kernel
theorem d_Mo_cutAll_163 : decode b_Mo_cutAll 163 = .ok (.iastore, 1) := by decide +kernel
theorem d_Mo_cutAll_164 : decode b_Mo_cutAll 164 = .ok (.aload_n 0, 1) := by decide +kernel
theorem d_Mo_cutAll_165 : decode b_Mo_cutAll 165 = .ok (.dup, 1) := by decide +kernel
theorem d_Mo_cutAll_166 : decode b_Mo_cutAll 166 = .ok (.getfield 162, 3) := by decide +kernel
theorem d_Mo_cutAll_169 : decode b_Mo_cutAll 169 = .ok (.iconst 1, 1) := by decide +kernel
theorem d_Mo_cutAll_170 : decode b_Mo_cutAll 170 = .ok (.iadd, 1) := by decide +kernel
theorem d_Mo_cutAll_171 : decode b_Mo_cutAll 171 = .ok (.putfield 162, 3) := by decide +kernel
theorem d_Mo_cutAll_174 : decode b_Mo_cutAll 174 = .ok (.aload_n 0, 1) := by decide +kernel
theorem d_Mo_cutAll_175 : decode b_Mo_cutAll 175 = .ok (.getfield 13, 3) := by decide +kernel
theorem d_Mo_cutAll_178 : decode b_Mo_cutAll 178 = .ok (.iload_n 3, 1) := by decide +kernel
theorem d_Mo_cutAll_179 : decode b_Mo_cutAll 179 = .ok (.iaload, 1) := by decide +kernel
theorem d_Mo_cutAll_180 : decode b_Mo_cutAll 180 = .ok (.bipush 99, 2) := by decide +kernel
theorem d_Mo_cutAll_182 : decode b_Mo_cutAll 182 = .ok (.if_icmp .ne 10, 3) := by decide +kernel
theorem d_Mo_cutAll_185 : decode b_Mo_cutAll 185 = .ok (.aload_n 0, 1) := by decide +kernel
theorem d_Mo_cutAll_186 : decode b_Mo_cutAll 186 = .ok (.getfield 139, 3) := by decide +kernel
theorem d_Mo_cutAll_189 : decode b_Mo_cutAll 189 = .ok (.goto 9, 3) := by decide +kernel
theorem d_Mo_cutAll_192 : decode b_Mo_cutAll 192 = .ok (.aload_n 0, 1) := by decide +kernel
theorem d_Mo_cutAll_193 : decode b_Mo_cutAll 193 = .ok (.getfield 23, 3) := by decide +kernel
theorem d_Mo_cutAll_196 : decode b_Mo_cutAll 196 = .ok (.iload_n 3, 1) := by decide +kernel
theorem d_Mo_cutAll_197 : decode b_Mo_cutAll 197 = .ok (.iaload, 1) := by decide +kernel
theorem d_Mo_cutAll_198 : decode b_Mo_cutAll 198 = .ok (.istore_n 1, 1) := by decide +kernel
theorem d_Mo_cutAll_199 : decode b_Mo_cutAll 199 = .ok (.goto (-192), 3) := by decide +kernel
theorem d_Mo_cutAll_202 : decode b_Mo_cutAll 202 = .ok (.aload_n 0, 1) := by decide +kernel
theorem d_Mo_cutAll_203 : decode b_Mo_cutAll 203 = .ok (.getfield 162, 3) := by decide +kernel
theorem d_Mo_cutAll_206 : decode b_Mo_cutAll 206 = .ok (.istore_n 2, 1) := by decide +kernel
theorem d_Mo_cutAll_207 : decode b_Mo_cutAll 207 = .ok (.iload_n 2, 1) := by decide +kernel
theorem d_Mo_cutAll_208 : decode b_Mo_cutAll 208 = .ok (.sipush 155, 3) := by decide +kernel
theorem d_Mo_cutAll_211 : decode b_Mo_cutAll 211 = .ok (.if_icmp .ge 16, 3) := by decide +kernel
theorem d_Mo_cutAll_214 : decode b_Mo_cutAll 214 = .ok (.aload_n 0, 1) := by decide +kernel
theorem d_Mo_cutAll_215 : decode b_Mo_cutAll 215 = .ok (.getfield 13, 3) := by decide +kernel
theorem d_Mo_cutAll_218 : decode b_Mo_cutAll 218 = .ok (.iload_n 2, 1) := by decide +kernel
theorem d_Mo_cutAll_219 : decode b_Mo_cutAll 219 = .ok (.iconst 0, 1) := by decide +kernel
theorem d_Mo_cutAll_220 : decode b_Mo_cutAll 220 = .ok (.iastore, 1) := by decide +kernel
theorem d_Mo_cutAll_221 : decode b_Mo_cutAll 221 = .ok (.iinc 2 1, 3) := by decide +kernel
theorem d_Mo_cutAll_224 : decode b_Mo_cutAll 224 = .ok (.goto (-17), 3) := by decide +kernel
theorem d_Mo_cutAll_227 : decode b_Mo_cutAll 227 = .ok (.return_, 1) := by decide +kernel
theorem d_Mo_blame_0 : decode b_Mo_blame 0 = .ok (.aload_n 0, 1) := by decide +kernel
theorem d_Mo_blame_1 : decode b_Mo_blame 1 = .ok (.getfield 187, 3) := by decide +kernel
theorem d_Mo_blame_4 : decode b_Mo_blame 4 = .ok (.ifCond .ge 8, 3) := by decide +kernel
theorem d_Mo_blame_7 : decode b_Mo_blame 7 = .ok (.aload_n 0, 1) := by decide +kernel
theorem d_Mo_blame_8 : decode b_Mo_blame 8 = .ok (.iload_n 1, 1) := by decide +kernel
theorem d_Mo_blame_9 : decode b_Mo_blame 9 = .ok (.putfield 187, 3) := by decide +kernel
theorem d_Mo_blame_12 : decode b_Mo_blame 12 = .ok (.return_, 1) := by decide +kernel
theorem d_Mo_take_0 : decode b_Mo_take 0 = .ok (.aload_n 0, 1) := by decide +kernel
theorem d_Mo_take_1 : decode b_Mo_take 1 = .ok (.getfield 187, 3) := by decide +kernel
theorem d_Mo_take_4 : decode b_Mo_take 4 = .ok (.ifCond .ge 16, 3) := by decide +kernel
theorem d_Mo_take_7 : decode b_Mo_take 7 = .ok (.aload_n 0, 1) := by decide +kernel
theorem d_Mo_take_8 : decode b_Mo_take 8 = .ok (.getfield 13, 3) := by decide +kernel
theorem d_Mo_take_11 : decode b_Mo_take 11 = .ok (.aload_n 0, 1) := by decide +kernel
theorem d_Mo_take_12 : decode b_Mo_take 12 = .ok (.getfield 190, 3) := by decide +kernel
theorem d_Mo_take_15 : decode b_Mo_take 15 = .ok (.iaload, 1) := by decide +kernel
theorem d_Mo_take_16 : decode b_Mo_take 16 = .ok (.iload_n 1, 1) := by decide +kernel
theorem d_Mo_take_17 : decode b_Mo_take 17 = .ok (.if_icmp .eq 5, 3) := by decide +kernel
theorem d_Mo_take_20 : decode b_Mo_take 20 = .ok (.iconst 0, 1) := by decide +kernel
theorem d_Mo_take_21 : decode b_Mo_take 21 = .ok (.ireturn, 1) := by decide +kernel
theorem d_Mo_take_22 : decode b_Mo_take 22 = .ok (.aload_n 0, 1) := by decide +kernel
theorem d_Mo_take_23 : decode b_Mo_take 23 = .ok (.dup, 1) := by decide +kernel
theorem d_Mo_take_24 : decode b_Mo_take 24 = .ok (.getfield 190, 3) := by decide +kernel
theorem d_Mo_take_27 : decode b_Mo_take 27 = .ok (.iconst 1, 1) := by decide +kernel
theorem d_Mo_take_28 : decode b_Mo_take 28 = .ok (.iadd, 1) := by decide +kernel
theorem d_Mo_take_29 : decode b_Mo_take 29 = .ok (.putfield 190, 3) := by decide +kernel
theorem d_Mo_take_32 : decode b_Mo_take 32 = .ok (.iconst 1, 1) := by decide +kernel
theorem d_Mo_take_33 : decode b_Mo_take 33 = .ok (.ireturn, 1) := by decide +kernel
theorem d_Mo_need_0 : decode b_Mo_need 0 = .ok (.aload_n 0, 1) := by decide +kernel
theorem d_Mo_need_1 : decode b_Mo_need 1 = .ok (.iload_n 1, 1) := by decide +kernel
theorem d_Mo_need_2 : decode b_Mo_need 2 = .ok (.invokevirtual 193, 3) := by decide +kernel
theorem d_Mo_need_5 : decode b_Mo_need 5 = .ok (.ifCond .ne 11, 3) := by decide +kernel
theorem d_Mo_need_8 : decode b_Mo_need 8 = .ok (.aload_n 0, 1) := by decide +kernel
theorem d_Mo_need_9 : decode b_Mo_need 9 = .ok (.aload_n 0, 1) := by decide +kernel
theorem d_Mo_need_10 : decode b_Mo_need 10 = .ok (.getfield 190, 3) := by decide +kernel
theorem d_Mo_need_13 : decode b_Mo_need 13 = .ok (.invokevirtual 196, 3) := by decide +kernel
theorem d_Mo_need_16 : decode b_Mo_need 16 = .ok (.return_, 1) := by decide +kernel
theorem d_Mo_declare_0 : decode b_Mo_declare 0 = .ok (.aload_n 0, 1) := by decide +kernel
theorem d_Mo_declare_1 : decode b_Mo_declare 1 = .ok (.getfield 187, 3) := by decide +kernel
theorem d_Mo_declare_4 : decode b_Mo_declare 4 = .ok (.ifCond .ge 42, 3) := by decide +kernel
theorem d_Mo_declare_7 : decode b_Mo_declare 7 = .ok (.aload_n 0, 1) := by decide +kernel
theorem d_Mo_declare_8 : decode b_Mo_declare 8 = .ok (.getfield 13, 3) := by decide +kernel
theorem d_Mo_declare_11 : decode b_Mo_declare 11 = .ok (.aload_n 0, 1) := by decide +kernel
theorem d_Mo_declare_12 : decode b_Mo_declare 12 = .ok (.getfield 190, 3) := by decide +kernel
theorem d_Mo_declare_15 : decode b_Mo_declare 15 = .ok (.iaload, 1) := by decide +kernel
theorem d_Mo_declare_16 : decode b_Mo_declare 16 = .ok (.iconst 1, 1) := by decide +kernel
theorem d_Mo_declare_17 : decode b_Mo_declare 17 = .ok (.if_icmp .ne 29, 3) := by decide +kernel
theorem d_Mo_declare_20 : decode b_Mo_declare 20 = .ok (.iload_n 1, 1) := by decide +kernel
theorem d_Mo_declare_21 : decode b_Mo_declare 21 = .ok (.iconst 3, 1) := by decide +kernel
theorem d_Mo_declare_22 : decode b_Mo_declare 22 = .ok (.if_icmp .ne 15, 3) := by decide +kernel
theorem d_Mo_declare_25 : decode b_Mo_declare 25 = .ok (.aload_n 0, 1) := by decide +kernel
theorem d_Mo_declare_26 : decode b_Mo_declare 26 = .ok (.getfield 199, 3) := by decide +kernel
theorem d_Mo_declare_29 : decode b_Mo_declare 29 = .ok (.bipush 6, 2) := by decide +kernel
theorem d_Mo_declare_31 : decode b_Mo_declare 31 = .ok (.if_icmp .ne 24, 3) := by decide +kernel
theorem d_Mo_declare_34 : decode b_Mo_declare 34 = .ok (.goto 12, 3) := by decide +kernel
theorem d_Mo_declare_37 : decode b_Mo_declare 37 = .ok (.aload_n 0, 1) := by decide +kernel
theorem d_Mo_declare_38 : decode b_Mo_declare 38 = .ok (.getfield 202, 3) := by decide +kernel
theorem d_Mo_declare_41 : decode b_Mo_declare 41 = .ok (.bipush 12, 2) := by decide +kernel
theorem d_Mo_declare_43 : decode b_Mo_declare 43 = .ok (.if_icmp .ne 12, 3) := by decide +kernel
theorem d_Mo_declare_46 : decode b_Mo_declare 46 = .ok (.aload_n 0, 1) := by decide +kernel
theorem d_Mo_declare_47 : decode b_Mo_declare 47 = .ok (.aload_n 0, 1) := by decide +kernel
theorem d_Mo_declare_48 : decode b_Mo_declare 48 = .ok (.getfield 190, 3) := by decide +kernel
theorem d_Mo_declare_51 : decode b_Mo_declare 51 = .ok (.invokevirtual 196, 3) := by decide +kernel
theorem d_Mo_declare_54 : decode b_Mo_declare 54 = .ok (.return_, 1) := by decide +kernel
theorem d_Mo_declare_55 : decode b_Mo_declare 55 = .ok (.iconst 0, 1) := by decide +kernel
theorem d_Mo_declare_56 : decode b_Mo_declare 56 = .ok (.istore_n 2, 1) := by decide +kernel
theorem d_Mo_declare_57 : decode b_Mo_declare 57 = .ok (.iload_n 2, 1) := by decide +kernel
theorem d_Mo_declare_58 : decode b_Mo_declare 58 = .ok (.aload_n 0, 1) := by decide +kernel
theorem d_Mo_declare_59 : decode b_Mo_declare 59 = .ok (.getfield 205, 3) := by decide +kernel
theorem d_Mo_declare_62 : decode b_Mo_declare 62 = .ok (.if_icmp .ge 49, 3) := by decide +kernel
theorem d_Mo_declare_65 : decode b_Mo_declare 65 = .ok (.aload_n 0, 1) := by decide +kernel
theorem d_Mo_declare_66 : decode b_Mo_declare 66 = .ok (.getfield 54, 3) := by decide +kernel
theorem d_Mo_declare_69 : decode b_Mo_declare 69 = .ok (.iload_n 2, 1) := by decide +kernel
theorem d_Mo_declare_70 : decode b_Mo_declare 70 = .ok (.iaload, 1) := by decide +kernel
theorem d_Mo_declare_71 : decode b_Mo_declare 71 = .ok (.aload_n 0, 1) := by decide +kernel
theorem d_Mo_declare_72 : decode b_Mo_declare 72 = .ok (.getfield 208, 3) := by decide +kernel
theorem d_Mo_declare_75 : decode b_Mo_declare 75 = .ok (.if_icmp .ne 30, 3) := by decide +kernel
theorem d_Mo_declare_78 : decode b_Mo_declare 78 = .ok (.aload_n 0, 1) := by decide +kernel
theorem d_Mo_declare_79 : decode b_Mo_declare 79 = .ok (.getfield 48, 3) := by decide +kernel
theorem d_Mo_declare_82 : decode b_Mo_declare 82 = .ok (.iload_n 2, 1) := by decide +kernel
theorem d_Mo_declare_83 : decode b_Mo_declare 83 = .ok (.laload, 1) := by decide +kernel
theorem d_Mo_declare_84 : decode b_Mo_declare 84 = .ok (.aload_n 0, 1) := by decide +kernel
theorem d_Mo_declare_85 : decode b_Mo_declare 85 = .ok (.getfield 16, 3) := by decide +kernel
theorem d_Mo_declare_88 : decode b_Mo_declare 88 = .ok (.aload_n 0, 1) := by decide +kernel
theorem d_Mo_declare_89 : decode b_Mo_declare 89 = .ok (.getfield 190, 3) := by decide +kernel
theorem d_Mo_declare_92 : decode b_Mo_declare 92 = .ok (.laload, 1) := by decide +kernel
theorem d_Mo_declare_93 : decode b_Mo_declare 93 = .ok (.lcmp, 1) := by decide +kernel
theorem d_Mo_declare_94 : decode b_Mo_declare 94 = .ok (.ifCond .ne 11, 3) := by decide +kernel
theorem d_Mo_declare_97 : decode b_Mo_declare 97 = .ok (.aload_n 0, 1) := by decide +kernel
theorem d_Mo_declare_98 : decode b_Mo_declare 98 = .ok (.aload_n 0, 1) := by decide +kernel
theorem d_Mo_declare_99 : decode b_Mo_declare 99 = .ok (.getfield 190, 3) := by decide +kernel
theorem d_Mo_declare_102 : decode b_Mo_declare 102 = .ok (.invokevirtual 196, 3) := by decide +kernel
theorem d_Mo_declare_105 : decode b_Mo_declare 105 = .ok (.iinc 2 1, 3) := by decide +kernel
theorem d_Mo_declare_108 : decode b_Mo_declare 108 = .ok (.goto (-51), 3) := by decide +kernel
theorem d_Mo_declare_111 : decode b_Mo_declare 111 = .ok (.aload_n 0, 1) := by decide +kernel
theorem d_Mo_declare_112 : decode b_Mo_declare 112 = .ok (.getfield 187, 3) := by decide +kernel
theorem d_Mo_declare_115 : decode b_Mo_declare 115 = .ok (.ifCond .lt 4, 3) := by decide +kernel
theorem d_Mo_declare_118 : decode b_Mo_declare 118 = .ok (.return_, 1) := by decide +kernel
theorem d_Mo_declare_119 : decode b_Mo_declare 119 = .ok (.aload_n 0, 1) := by decide +kernel
theorem d_Mo_declare_120 : decode b_Mo_declare 120 = .ok (.getfield 48, 3) := by decide +kernel
theorem d_Mo_declare_123 : decode b_Mo_declare 123 = .ok (.aload_n 0, 1) := by decide +kernel
theorem d_Mo_declare_124 : decode b_Mo_declare 124 = .ok (.getfield 205, 3) := by decide +kernel
theorem d_Mo_declare_127 : decode b_Mo_declare 127 = .ok (.aload_n 0, 1) := by decide +kernel
theorem d_Mo_declare_128 : decode b_Mo_declare 128 = .ok (.getfield 16, 3) := by decide +kernel
theorem d_Mo_declare_131 : decode b_Mo_declare 131 = .ok (.aload_n 0, 1) := by decide +kernel
theorem d_Mo_declare_132 : decode b_Mo_declare 132 = .ok (.getfield 190, 3) := by decide +kernel
theorem d_Mo_declare_135 : decode b_Mo_declare 135 = .ok (.laload, 1) := by decide +kernel
theorem d_Mo_declare_136 : decode b_Mo_declare 136 = .ok (.lastore, 1) := by decide +kernel
theorem d_Mo_declare_137 : decode b_Mo_declare 137 = .ok (.aload_n 0, 1) := by decide +kernel
theorem d_Mo_declare_138 : decode b_Mo_declare 138 = .ok (.getfield 51, 3) := by decide +kernel
theorem d_Mo_declare_141 : decode b_Mo_declare 141 = .ok (.aload_n 0, 1) := by decide +kernel
theorem d_Mo_declare_142 : decode b_Mo_declare 142 = .ok (.getfield 205, 3) := by decide +kernel
theorem d_Mo_declare_145 : decode b_Mo_declare 145 = .ok (.iload_n 1, 1) := by decide +kernel
theorem d_Mo_declare_146 : decode b_Mo_declare 146 = .ok (.iastore, 1) := by decide +kernel
theorem d_Mo_declare_147 : decode b_Mo_declare 147 = .ok (.aload_n 0, 1) := by decide +kernel
theorem d_Mo_declare_148 : decode b_Mo_declare 148 = .ok (.getfield 54, 3) := by decide +kernel
theorem d_Mo_declare_151 : decode b_Mo_declare 151 = .ok (.aload_n 0, 1) := by decide +kernel
theorem d_Mo_declare_152 : decode b_Mo_declare 152 = .ok (.getfield 205, 3) := by decide +kernel
theorem d_Mo_declare_155 : decode b_Mo_declare 155 = .ok (.aload_n 0, 1) := by decide +kernel
theorem d_Mo_declare_156 : decode b_Mo_declare 156 = .ok (.getfield 208, 3) := by decide +kernel
theorem d_Mo_declare_159 : decode b_Mo_declare 159 = .ok (.iastore, 1) := by decide +kernel
theorem d_Mo_declare_160 : decode b_Mo_declare 160 = .ok (.aload_n 0, 1) := by decide +kernel
theorem d_Mo_declare_161 : decode b_Mo_declare 161 = .ok (.getfield 60, 3) := by decide +kernel
theorem d_Mo_declare_164 : decode b_Mo_declare 164 = .ok (.aload_n 0, 1) := by decide +kernel
theorem d_Mo_declare_165 : decode b_Mo_declare 165 = .ok (.getfield 205, 3) := by decide +kernel
theorem d_Mo_declare_168 : decode b_Mo_declare 168 = .ok (.iconst 0, 1) := by decide +kernel
theorem d_Mo_declare_169 : decode b_Mo_declare 169 = .ok (.iastore, 1) := by decide +kernel
theorem d_Mo_declare_170 : decode b_Mo_declare 170 = .ok (.iload_n 1, 1) := by decide +kernel
theorem d_Mo_declare_171 : decode b_Mo_declare 171 = .ok (.iconst 3, 1) := by decide +kernel
theorem d_Mo_declare_172 : decode b_Mo_declare 172 = .ok (.if_icmp .ne 13, 3) := by decide +kernel
theorem d_Mo_declare_175 : decode b_Mo_declare 175 = .ok (.aload_n 0, 1) := by decide +kernel
theorem d_Mo_declare_176 : decode b_Mo_declare 176 = .ok (.dup, 1) := by decide +kernel
theorem d_Mo_declare_177 : decode b_Mo_declare 177 = .ok (.getfield 199, 3) := by decide +kernel
theorem d_Mo_declare_180 : decode b_Mo_declare 180 = .ok (.iconst 1, 1) := by decide +kernel
theorem d_Mo_declare_181 : decode b_Mo_declare 181 = .ok (.iadd, 1) := by decide +kernel
theorem d_Mo_declare_182 : decode b_Mo_declare 182 = .ok (.putfield 199, 3) := by decide +kernel
theorem d_Mo_declare_185 : decode b_Mo_declare 185 = .ok (.iload_n 1, 1) := by decide +kernel
theorem d_Mo_declare_186 : decode b_Mo_declare 186 = .ok (.iconst 3, 1) := by decide +kernel
theorem d_Mo_declare_187 : decode b_Mo_declare 187 = .ok (.if_icmp .eq 13, 3) := by decide +kernel
theorem d_Mo_declare_190 : decode b_Mo_declare 190 = .ok (.aload_n 0, 1) := by decide +kernel
theorem d_Mo_declare_191 : decode b_Mo_declare 191 = .ok (.dup, 1) := by decide +kernel
theorem d_Mo_declare_192 : decode b_Mo_declare 192 = .ok (.getfield 202, 3) := by decide +kernel
theorem d_Mo_declare_195 : decode b_Mo_declare 195 = .ok (.iconst 1, 1) := by decide +kernel
theorem d_Mo_declare_196 : decode b_Mo_declare 196 = .ok (.iadd, 1) := by decide +kernel
theorem d_Mo_declare_197 : decode b_Mo_declare 197 = .ok (.putfield 202, 3) := by decide +kernel
theorem d_Mo_declare_200 : decode b_Mo_declare 200 = .ok (.aload_n 0, 1) := by decide +kernel
theorem d_Mo_declare_201 : decode b_Mo_declare 201 = .ok (.dup, 1) := by decide +kernel
theorem d_Mo_declare_202 : decode b_Mo_declare 202 = .ok (.getfield 205, 3) := by decide +kernel
theorem d_Mo_declare_205 : decode b_Mo_declare 205 = .ok (.iconst 1, 1) := by decide +kernel
theorem d_Mo_declare_206 : decode b_Mo_declare 206 = .ok (.iadd, 1) := by decide +kernel
theorem d_Mo_declare_207 : decode b_Mo_declare 207 = .ok (.putfield 205, 3) := by decide +kernel
theorem d_Mo_declare_210 : decode b_Mo_declare 210 = .ok (.aload_n 0, 1) := by decide +kernel
theorem d_Mo_declare_211 : decode b_Mo_declare 211 = .ok (.dup, 1) := by decide +kernel
theorem d_Mo_declare_212 : decode b_Mo_declare 212 = .ok (.getfield 190, 3) := by decide +kernel
theorem d_Mo_declare_215 : decode b_Mo_declare 215 = .ok (.iconst 1, 1) := by decide +kernel
theorem d_Mo_declare_216 : decode b_Mo_declare 216 = .ok (.iadd, 1) := by decide +kernel
theorem d_Mo_declare_217 : decode b_Mo_declare 217 = .ok (.putfield 190, 3) := by decide +kernel
theorem d_Mo_declare_220 : decode b_Mo_declare 220 = .ok (.return_, 1) := by decide +kernel
theorem d_Mo_find_0 : decode b_Mo_find 0 = .ok (.aload_n 0, 1) := by decide +kernel
theorem d_Mo_find_1 : decode b_Mo_find 1 = .ok (.getfield 208, 3) := by decide +kernel
theorem d_Mo_find_4 : decode b_Mo_find 4 = .ok (.istore_n 2, 1) := by decide +kernel
theorem d_Mo_find_5 : decode b_Mo_find 5 = .ok (.iload_n 2, 1) := by decide +kernel
theorem d_Mo_find_6 : decode b_Mo_find 6 = .ok (.ifCond .lt 57, 3) := by decide +kernel
theorem d_Mo_find_9 : decode b_Mo_find 9 = .ok (.iconst 0, 1) := by decide +kernel
theorem d_Mo_find_10 : decode b_Mo_find 10 = .ok (.istore_n 3, 1) := by decide +kernel
theorem d_Mo_find_11 : decode b_Mo_find 11 = .ok (.iload_n 3, 1) := by decide +kernel
theorem d_Mo_find_12 : decode b_Mo_find 12 = .ok (.aload_n 0, 1) := by decide +kernel
theorem d_Mo_find_13 : decode b_Mo_find 13 = .ok (.getfield 205, 3) := by decide +kernel
theorem d_Mo_find_16 : decode b_Mo_find 16 = .ok (.if_icmp .ge 37, 3) := by decide +kernel
theorem d_Mo_find_19 : decode b_Mo_find 19 = .ok (.aload_n 0, 1) := by decide +kernel
theorem d_Mo_find_20 : decode b_Mo_find 20 = .ok (.getfield 54, 3) := by decide +kernel
theorem d_Mo_find_23 : decode b_Mo_find 23 = .ok (.iload_n 3, 1) := by decide +kernel
theorem d_Mo_find_24 : decode b_Mo_find 24 = .ok (.iaload, 1) := by decide +kernel
theorem d_Mo_find_25 : decode b_Mo_find 25 = .ok (.iload_n 2, 1) := by decide +kernel
theorem d_Mo_find_26 : decode b_Mo_find 26 = .ok (.if_icmp .ne 21, 3) := by decide +kernel
theorem d_Mo_find_29 : decode b_Mo_find 29 = .ok (.aload_n 0, 1) := by decide +kernel
theorem d_Mo_find_30 : decode b_Mo_find 30 = .ok (.getfield 48, 3) := by decide +kernel
theorem d_Mo_find_33 : decode b_Mo_find 33 = .ok (.iload_n 3, 1) := by decide +kernel
theorem d_Mo_find_34 : decode b_Mo_find 34 = .ok (.laload, 1) := by decide +kernel
theorem d_Mo_find_35 : decode b_Mo_find 35 = .ok (.aload_n 0, 1) := by decide +kernel
theorem d_Mo_find_36 : decode b_Mo_find 36 = .ok (.getfield 16, 3) := by decide +kernel
theorem d_Mo_find_39 : decode b_Mo_find 39 = .ok (.iload_n 1, 1) := by decide +kernel
theorem d_Mo_find_40 : decode b_Mo_find 40 = .ok (.laload, 1) := by decide +kernel
theorem d_Mo_find_41 : decode b_Mo_find 41 = .ok (.lcmp, 1) := by decide +kernel
theorem d_Mo_find_42 : decode b_Mo_find 42 = .ok (.ifCond .ne 5, 3) := by decide +kernel
theorem d_Mo_find_45 : decode b_Mo_find 45 = .ok (.iload_n 3, 1) := by decide +kernel
theorem d_Mo_find_46 : decode b_Mo_find 46 = .ok (.ireturn, 1) := by decide +kernel
theorem d_Mo_find_47 : decode b_Mo_find 47 = .ok (.iinc 3 1, 3) := by decide +kernel
theorem d_Mo_find_50 : decode b_Mo_find 50 = .ok (.goto (-39), 3) := by decide +kernel
theorem d_Mo_find_53 : decode b_Mo_find 53 = .ok (.aload_n 0, 1) := by decide +kernel
theorem d_Mo_find_54 : decode b_Mo_find 54 = .ok (.getfield 63, 3) := by decide +kernel
theorem d_Mo_find_57 : decode b_Mo_find 57 = .ok (.iload_n 2, 1) := by decide +kernel
theorem d_Mo_find_58 : decode b_Mo_find 58 = .ok (.iaload, 1) := by decide +kernel
theorem d_Mo_find_59 : decode b_Mo_find 59 = .ok (.istore_n 2, 1) := by decide +kernel
theorem d_Mo_find_60 : decode b_Mo_find 60 = .ok (.goto (-55), 3) := by decide +kernel
theorem d_Mo_find_63 : decode b_Mo_find 63 = .ok (.iconst (-1), 1) := by decide +kernel
theorem d_Mo_find_64 : decode b_Mo_find 64 = .ok (.ireturn, 1) := by decide +kernel
theorem d_Mo_blockDepth_0 : decode b_Mo_blockDepth 0 = .ok (.iconst 0, 1) := by decide +kernel
theorem d_Mo_blockDepth_1 : decode b_Mo_blockDepth 1 = .ok (.istore_n 1, 1) := by decide +kernel
theorem d_Mo_blockDepth_2 : decode b_Mo_blockDepth 2 = .ok (.aload_n 0, 1) := by decide +kernel
theorem d_Mo_blockDepth_3 : decode b_Mo_blockDepth 3 = .ok (.getfield 208, 3) := by decide +kernel
theorem d_Mo_blockDepth_6 : decode b_Mo_blockDepth 6 = .ok (.istore_n 2, 1) := by decide +kernel
theorem d_Mo_blockDepth_7 : decode b_Mo_blockDepth 7 = .ok (.iload_n 2, 1) := by decide +kernel
theorem d_Mo_blockDepth_8 : decode b_Mo_blockDepth 8 = .ok (.ifCond .lt 16, 3) := by decide +kernel
theorem d_Mo_blockDepth_11 : decode b_Mo_blockDepth 11 = .ok (.iinc 1 1, 3) := by decide +kernel
theorem d_Mo_blockDepth_14 : decode b_Mo_blockDepth 14 = .ok (.aload_n 0, 1) := by decide +kernel
theorem d_Mo_blockDepth_15 : decode b_Mo_blockDepth 15 = .ok (.getfield 63, 3) := by decide +kernel
theorem d_Mo_blockDepth_18 : decode b_Mo_blockDepth 18 = .ok (.iload_n 2, 1) := by decide +kernel
theorem d_Mo_blockDepth_19 : decode b_Mo_blockDepth 19 = .ok (.iaload, 1) := by decide +kernel
theorem d_Mo_blockDepth_20 : decode b_Mo_blockDepth 20 = .ok (.istore_n 2, 1) := by decide +kernel
theorem d_Mo_blockDepth_21 : decode b_Mo_blockDepth 21 = .ok (.goto (-14), 3) := by decide +kernel
theorem d_Mo_blockDepth_24 : decode b_Mo_blockDepth 24 = .ok (.iload_n 1, 1) := by decide +kernel
theorem d_Mo_blockDepth_25 : decode b_Mo_blockDepth 25 = .ok (.ireturn, 1) := by decide +kernel
theorem d_Mo_enter_0 : decode b_Mo_enter 0 = .ok (.aload_n 0, 1) := by decide +kernel
theorem d_Mo_enter_1 : decode b_Mo_enter 1 = .ok (.aload_n 0, 1) := by decide +kernel
theorem d_Mo_enter_2 : decode b_Mo_enter 2 = .ok (.getfield 211, 3) := by decide +kernel
theorem d_Mo_enter_5 : decode b_Mo_enter 5 = .ok (.putfield 208, 3) := by decide +kernel
theorem d_Mo_enter_8 : decode b_Mo_enter 8 = .ok (.aload_n 0, 1) := by decide +kernel
theorem d_Mo_enter_9 : decode b_Mo_enter 9 = .ok (.dup, 1) := by decide +kernel
theorem d_Mo_enter_10 : decode b_Mo_enter 10 = .ok (.getfield 211, 3) := by decide +kernel
theorem d_Mo_enter_13 : decode b_Mo_enter 13 = .ok (.iconst 1, 1) := by decide +kernel
theorem d_Mo_enter_14 : decode b_Mo_enter 14 = .ok (.iadd, 1) := by decide +kernel
theorem d_Mo_enter_15 : decode b_Mo_enter 15 = .ok (.putfield 211, 3) := by decide +kernel
theorem d_Mo_enter_18 : decode b_Mo_enter 18 = .ok (.aload_n 0, 1) := by decide +kernel
theorem d_Mo_enter_19 : decode b_Mo_enter 19 = .ok (.getfield 63, 3) := by decide +kernel
theorem d_Mo_enter_22 : decode b_Mo_enter 22 = .ok (.aload_n 0, 1) := by decide +kernel
theorem d_Mo_enter_23 : decode b_Mo_enter 23 = .ok (.getfield 208, 3) := by decide +kernel
theorem d_Mo_enter_26 : decode b_Mo_enter 26 = .ok (.iload_n 1, 1) := by decide +kernel
theorem d_Mo_enter_27 : decode b_Mo_enter 27 = .ok (.iastore, 1) := by decide +kernel
theorem d_Mo_enter_28 : decode b_Mo_enter 28 = .ok (.return_, 1) := by decide +kernel
theorem d_Mo_parameter_0 : decode b_Mo_parameter 0 = .ok (.aload_n 0, 1) := by decide +kernel
theorem d_Mo_parameter_1 : decode b_Mo_parameter 1 = .ok (.bipush 64, 2) := by decide +kernel
theorem d_Mo_parameter_3 : decode b_Mo_parameter 3 = .ok (.invokevirtual 193, 3) := by decide +kernel
theorem d_Mo_parameter_6 : decode b_Mo_parameter 6 = .ok (.istore_n 2, 1) := by decide +kernel
theorem d_Mo_parameter_7 : decode b_Mo_parameter 7 = .ok (.aload_n 0, 1) := by decide +kernel
theorem d_Mo_parameter_8 : decode b_Mo_parameter 8 = .ok (.getfield 60, 3) := by decide +kernel
theorem d_Mo_parameter_11 : decode b_Mo_parameter 11 = .ok (.iload_n 1, 1) := by decide +kernel
theorem d_Mo_parameter_12 : decode b_Mo_parameter 12 = .ok (.iaload, 1) := by decide +kernel
theorem d_Mo_parameter_13 : decode b_Mo_parameter 13 = .ok (.iconst 3, 1) := by decide +kernel
theorem d_Mo_parameter_14 : decode b_Mo_parameter 14 = .ok (.if_icmp .ne 11, 3) := by decide +kernel
theorem d_Mo_parameter_17 : decode b_Mo_parameter 17 = .ok (.aload_n 0, 1) := by decide +kernel
theorem d_Mo_parameter_18 : decode b_Mo_parameter 18 = .ok (.aload_n 0, 1) := by decide +kernel
theorem d_Mo_parameter_19 : decode b_Mo_parameter 19 = .ok (.getfield 190, 3) := by decide +kernel
theorem d_Mo_parameter_22 : decode b_Mo_parameter 22 = .ok (.invokevirtual 196, 3) := by decide +kernel
theorem d_Mo_parameter_25 : decode b_Mo_parameter 25 = .ok (.aload_n 0, 1) := by decide +kernel
theorem d_Mo_parameter_26 : decode b_Mo_parameter 26 = .ok (.iload_n 2, 1) := by decide +kernel
theorem d_Mo_parameter_27 : decode b_Mo_parameter 27 = .ok (.ifCond .eq 7, 3) := by decide +kernel
theorem d_Mo_parameter_30 : decode b_Mo_parameter 30 = .ok (.iconst 2, 1) := by decide +kernel
theorem d_Mo_parameter_31 : decode b_Mo_parameter 31 = .ok (.goto 4, 3) := by decide +kernel
theorem d_Mo_parameter_34 : decode b_Mo_parameter 34 = .ok (.iconst 1, 1) := by decide +kernel
theorem d_Mo_parameter_35 : decode b_Mo_parameter 35 = .ok (.invokevirtual 214, 3) := by decide +kernel
theorem d_Mo_parameter_38 : decode b_Mo_parameter 38 = .ok (.aload_n 0, 1) := by decide +kernel
theorem d_Mo_parameter_39 : decode b_Mo_parameter 39 = .ok (.getfield 60, 3) := by decide +kernel
theorem d_Mo_parameter_42 : decode b_Mo_parameter 42 = .ok (.iload_n 1, 1) := by decide +kernel
theorem d_Mo_parameter_43 : decode b_Mo_parameter 43 = .ok (.dup2, 1) := by decide +kernel
theorem d_Mo_parameter_44 : decode b_Mo_parameter 44 = .ok (.iaload, 1) := by decide +kernel
theorem d_Mo_parameter_45 : decode b_Mo_parameter 45 = .ok (.iconst 1, 1) := by decide +kernel
theorem d_Mo_parameter_46 : decode b_Mo_parameter 46 = .ok (.iadd, 1) := by decide +kernel
theorem d_Mo_parameter_47 : decode b_Mo_parameter 47 = .ok (.iastore, 1) := by decide +kernel
theorem d_Mo_parameter_48 : decode b_Mo_parameter 48 = .ok (.return_, 1) := by decide +kernel
theorem d_Mo_procedure_0 : decode b_Mo_procedure 0 = .ok (.aload_n 0, 1) := by decide +kernel
theorem d_Mo_procedure_1 : decode b_Mo_procedure 1 = .ok (.invokevirtual 217, 3) := by decide +kernel
theorem d_Mo_procedure_4 : decode b_Mo_procedure 4 = .ok (.iconst 4, 1) := by decide +kernel
theorem d_Mo_procedure_5 : decode b_Mo_procedure 5 = .ok (.if_icmp .ne 14, 3) := by decide +kernel
theorem d_Mo_procedure_8 : decode b_Mo_procedure 8 = .ok (.aload_n 0, 1) := by decide +kernel
theorem d_Mo_procedure_9 : decode b_Mo_procedure 9 = .ok (.aload_n 0, 1) := by decide +kernel
theorem d_Mo_procedure_10 : decode b_Mo_procedure 10 = .ok (.getfield 190, 3) := by decide +kernel
theorem d_Mo_procedure_13 : decode b_Mo_procedure 13 = .ok (.iconst 1, 1) := by decide +kernel
theorem d_Mo_procedure_14 : decode b_Mo_procedure 14 = .ok (.isub, 1) := by decide +kernel
theorem d_Mo_procedure_15 : decode b_Mo_procedure 15 = .ok (.invokevirtual 196, 3) := by decide +kernel
theorem d_Mo_procedure_18 : decode b_Mo_procedure 18 = .ok (.return_, 1) := by decide +kernel
theorem d_Mo_procedure_19 : decode b_Mo_procedure 19 = .ok (.aload_n 0, 1) := by decide +kernel
theorem d_Mo_procedure_20 : decode b_Mo_procedure 20 = .ok (.getfield 205, 3) := by decide +kernel
theorem d_Mo_procedure_23 : decode b_Mo_procedure 23 = .ok (.istore_n 1, 1) := by decide +kernel
theorem d_Mo_procedure_24 : decode b_Mo_procedure 24 = .ok (.aload_n 0, 1) := by decide +kernel
theorem d_Mo_procedure_25 : decode b_Mo_procedure 25 = .ok (.iconst 3, 1) := by decide +kernel
theorem d_Mo_procedure_26 : decode b_Mo_procedure 26 = .ok (.invokevirtual 214, 3) := by decide +kernel
theorem d_Mo_procedure_29 : decode b_Mo_procedure 29 = .ok (.aload_n 0, 1) := by decide +kernel
theorem d_Mo_procedure_30 : decode b_Mo_procedure 30 = .ok (.getfield 187, 3) := by decide +kernel
theorem d_Mo_procedure_33 : decode b_Mo_procedure 33 = .ok (.ifCond .lt 4, 3) := by decide +kernel
theorem d_Mo_procedure_36 : decode b_Mo_procedure 36 = .ok (.return_, 1) := by decide +kernel
theorem d_Mo_procedure_37 : decode b_Mo_procedure 37 = .ok (.aload_n 0, 1) := by decide +kernel
theorem d_Mo_procedure_38 : decode b_Mo_procedure 38 = .ok (.aload_n 0, 1) := by decide +kernel
theorem d_Mo_procedure_39 : decode b_Mo_procedure 39 = .ok (.getfield 208, 3) := by decide +kernel
theorem d_Mo_procedure_42 : decode b_Mo_procedure 42 = .ok (.invokevirtual 221, 3) := by decide +kernel
theorem d_Mo_procedure_45 : decode b_Mo_procedure 45 = .ok (.aload_n 0, 1) := by decide +kernel
theorem d_Mo_procedure_46 : decode b_Mo_procedure 46 = .ok (.getfield 57, 3) := by decide +kernel
theorem d_Mo_procedure_49 : decode b_Mo_procedure 49 = .ok (.iload_n 1, 1) := by decide +kernel
theorem d_Mo_procedure_50 : decode b_Mo_procedure 50 = .ok (.aload_n 0, 1) := by decide +kernel
theorem d_Mo_procedure_51 : decode b_Mo_procedure 51 = .ok (.getfield 208, 3) := by decide +kernel
theorem d_Mo_procedure_54 : decode b_Mo_procedure 54 = .ok (.iastore, 1) := by decide +kernel
theorem d_Mo_procedure_55 : decode b_Mo_procedure 55 = .ok (.aload_n 0, 1) := by decide +kernel
theorem d_Mo_procedure_56 : decode b_Mo_procedure 56 = .ok (.bipush 40, 2) := by decide +kernel
theorem d_Mo_procedure_58 : decode b_Mo_procedure 58 = .ok (.invokevirtual 193, 3) := by decide +kernel
theorem d_Mo_procedure_61 : decode b_Mo_procedure 61 = .ok (.ifCond .eq 31, 3) := by decide +kernel
theorem d_Mo_procedure_64 : decode b_Mo_procedure 64 = .ok (.aload_n 0, 1) := by decide +kernel
theorem d_Mo_procedure_65 : decode b_Mo_procedure 65 = .ok (.iload_n 1, 1) := by decide +kernel
theorem d_Mo_procedure_66 : decode b_Mo_procedure 66 = .ok (.invokevirtual 224, 3) := by decide +kernel
theorem d_Mo_procedure_69 : decode b_Mo_procedure 69 = .ok (.aload_n 0, 1) := by decide +kernel
theorem d_Mo_procedure_70 : decode b_Mo_procedure 70 = .ok (.bipush 44, 2) := by decide +kernel
theorem d_Mo_procedure_72 : decode b_Mo_procedure 72 = .ok (.invokevirtual 193, 3) := by decide +kernel
theorem d_Mo_procedure_75 : decode b_Mo_procedure 75 = .ok (.ifCond .eq 11, 3) := by decide +kernel
theorem d_Mo_procedure_78 : decode b_Mo_procedure 78 = .ok (.aload_n 0, 1) := by decide +kernel
theorem d_Mo_procedure_79 : decode b_Mo_procedure 79 = .ok (.iload_n 1, 1) := by decide +kernel
theorem d_Mo_procedure_80 : decode b_Mo_procedure 80 = .ok (.invokevirtual 224, 3) := by decide +kernel
theorem d_Mo_procedure_83 : decode b_Mo_procedure 83 = .ok (.goto (-14), 3) := by decide +kernel
theorem d_Mo_procedure_86 : decode b_Mo_procedure 86 = .ok (.aload_n 0, 1) := by decide +kernel
theorem d_Mo_procedure_87 : decode b_Mo_procedure 87 = .ok (.bipush 41, 2) := by decide +kernel
theorem d_Mo_procedure_89 : decode b_Mo_procedure 89 = .ok (.invokevirtual 227, 3) := by decide +kernel
theorem d_Mo_procedure_92 : decode b_Mo_procedure 92 = .ok (.aload_n 0, 1) := by decide +kernel
theorem d_Mo_procedure_93 : decode b_Mo_procedure 93 = .ok (.bipush 59, 2) := by decide +kernel
theorem d_Mo_procedure_95 : decode b_Mo_procedure 95 = .ok (.invokevirtual 227, 3) := by decide +kernel
theorem d_Mo_procedure_98 : decode b_Mo_procedure 98 = .ok (.aload_n 0, 1) := by decide +kernel
theorem d_Mo_procedure_99 : decode b_Mo_procedure 99 = .ok (.invokevirtual 230, 3) := by decide +kernel
theorem d_Mo_procedure_102 : decode b_Mo_procedure 102 = .ok (.return_, 1) := by decide +kernel
theorem d_Mo_beginBlock_0 : decode b_Mo_beginBlock 0 = .ok (.aload_n 0, 1) := by decide +kernel
theorem d_Mo_beginBlock_1 : decode b_Mo_beginBlock 1 = .ok (.iconst 3, 1) := by decide +kernel
theorem d_Mo_beginBlock_2 : decode b_Mo_beginBlock 2 = .ok (.invokevirtual 193, 3) := by decide +kernel
theorem d_Mo_beginBlock_5 : decode b_Mo_beginBlock 5 = .ok (.ifCond .ne 4, 3) := by decide +kernel
theorem d_Mo_beginBlock_8 : decode b_Mo_beginBlock 8 = .ok (.return_, 1) := by decide +kernel
theorem d_Mo_beginBlock_9 : decode b_Mo_beginBlock 9 = .ok (.aload_n 0, 1) := by decide +kernel
theorem d_Mo_beginBlock_10 : decode b_Mo_beginBlock 10 = .ok (.iconst 0, 1) := by decide +kernel
theorem d_Mo_beginBlock_11 : decode b_Mo_beginBlock 11 = .ok (.invokevirtual 214, 3) := by decide +kernel
theorem d_Mo_beginBlock_14 : decode b_Mo_beginBlock 14 = .ok (.aload_n 0, 1) := by decide +kernel
theorem d_Mo_beginBlock_15 : decode b_Mo_beginBlock 15 = .ok (.bipush 44, 2) := by decide +kernel
theorem d_Mo_beginBlock_17 : decode b_Mo_beginBlock 17 = .ok (.invokevirtual 193, 3) := by decide +kernel
theorem d_Mo_beginBlock_20 : decode b_Mo_beginBlock 20 = .ok (.ifCond .eq 11, 3) := by decide +kernel
theorem d_Mo_beginBlock_23 : decode b_Mo_beginBlock 23 = .ok (.aload_n 0, 1) := by decide +kernel
theorem d_Mo_beginBlock_24 : decode b_Mo_beginBlock 24 = .ok (.iconst 0, 1) := by decide +kernel
theorem d_Mo_beginBlock_25 : decode b_Mo_beginBlock 25 = .ok (.invokevirtual 214, 3) := by decide +kernel
theorem d_Mo_beginBlock_28 : decode b_Mo_beginBlock 28 = .ok (.goto (-14), 3) := by decide +kernel
theorem d_Mo_beginBlock_31 : decode b_Mo_beginBlock 31 = .ok (.aload_n 0, 1) := by decide +kernel
theorem d_Mo_beginBlock_32 : decode b_Mo_beginBlock 32 = .ok (.bipush 59, 2) := by decide +kernel
theorem d_Mo_beginBlock_34 : decode b_Mo_beginBlock 34 = .ok (.invokevirtual 227, 3) := by decide +kernel
theorem d_Mo_beginBlock_37 : decode b_Mo_beginBlock 37 = .ok (.return_, 1) := by decide +kernel
theorem d_Mo_factor_0 : decode b_Mo_factor 0 = .ok (.aload_n 0, 1) := by decide +kernel
theorem d_Mo_factor_1 : decode b_Mo_factor 1 = .ok (.iconst 2, 1) := by decide +kernel
theorem d_Mo_factor_2 : decode b_Mo_factor 2 = .ok (.invokevirtual 193, 3) := by decide +kernel
theorem d_Mo_factor_5 : decode b_Mo_factor 5 = .ok (.ifCond .eq 4, 3) := by decide +kernel
theorem d_Mo_factor_8 : decode b_Mo_factor 8 = .ok (.return_, 1) := by decide +kernel
theorem d_Mo_factor_9 : decode b_Mo_factor 9 = .ok (.aload_n 0, 1) := by decide +kernel
theorem d_Mo_factor_10 : decode b_Mo_factor 10 = .ok (.getfield 187, 3) := by decide +kernel
theorem d_Mo_factor_13 : decode b_Mo_factor 13 = .ok (.ifCond .lt 4, 3) := by decide +kernel
theorem d_Mo_factor_16 : decode b_Mo_factor 16 = .ok (.return_, 1) := by decide +kernel
theorem d_Mo_factor_17 : decode b_Mo_factor 17 = .ok (.aload_n 0, 1) := by decide +kernel
theorem d_Mo_factor_18 : decode b_Mo_factor 18 = .ok (.getfield 13, 3) := by decide +kernel
theorem d_Mo_factor_21 : decode b_Mo_factor 21 = .ok (.aload_n 0, 1) := by decide +kernel
theorem d_Mo_factor_22 : decode b_Mo_factor 22 = .ok (.getfield 190, 3) := by decide +kernel
theorem d_Mo_factor_25 : decode b_Mo_factor 25 = .ok (.iaload, 1) := by decide +kernel
theorem d_Mo_factor_26 : decode b_Mo_factor 26 = .ok (.iconst 1, 1) := by decide +kernel
theorem d_Mo_factor_27 : decode b_Mo_factor 27 = .ok (.if_icmp .ne 14, 3) := by decide +kernel
theorem d_Mo_factor_30 : decode b_Mo_factor 30 = .ok (.aload_n 0, 1) := by decide +kernel
theorem d_Mo_factor_31 : decode b_Mo_factor 31 = .ok (.aload_n 0, 1) := by decide +kernel
theorem d_Mo_factor_32 : decode b_Mo_factor 32 = .ok (.getfield 190, 3) := by decide +kernel
theorem d_Mo_factor_35 : decode b_Mo_factor 35 = .ok (.invokevirtual 233, 3) := by decide +kernel
theorem d_Mo_factor_38 : decode b_Mo_factor 38 = .ok (.goto 4, 3) := by decide +kernel
theorem d_Mo_factor_41 : decode b_Mo_factor 41 = .ok (.iconst (-1), 1) := by decide +kernel
theorem d_Mo_factor_42 : decode b_Mo_factor 42 = .ok (.istore_n 1, 1) := by decide +kernel
theorem d_Mo_factor_43 : decode b_Mo_factor 43 = .ok (.iload_n 1, 1) := by decide +kernel
theorem d_Mo_factor_44 : decode b_Mo_factor 44 = .ok (.ifCond .lt 13, 3) := by decide +kernel
theorem d_Mo_factor_47 : decode b_Mo_factor 47 = .ok (.aload_n 0, 1) := by decide +kernel
theorem d_Mo_factor_48 : decode b_Mo_factor 48 = .ok (.getfield 51, 3) := by decide +kernel
theorem d_Mo_factor_51 : decode b_Mo_factor 51 = .ok (.iload_n 1, 1) := by decide +kernel
theorem d_Mo_factor_52 : decode b_Mo_factor 52 = .ok (.iaload, 1) := by decide +kernel
theorem d_Mo_factor_53 : decode b_Mo_factor 53 = .ok (.iconst 3, 1) := by decide +kernel
theorem d_Mo_factor_54 : decode b_Mo_factor 54 = .ok (.if_icmp .ne 12, 3) := by decide +kernel
theorem d_Mo_factor_57 : decode b_Mo_factor 57 = .ok (.aload_n 0, 1) := by decide +kernel
theorem d_Mo_factor_58 : decode b_Mo_factor 58 = .ok (.aload_n 0, 1) := by decide +kernel
theorem d_Mo_factor_59 : decode b_Mo_factor 59 = .ok (.getfield 190, 3) := by decide +kernel
theorem d_Mo_factor_62 : decode b_Mo_factor 62 = .ok (.invokevirtual 196, 3) := by decide +kernel
theorem d_Mo_factor_65 : decode b_Mo_factor 65 = .ok (.return_, 1) := by decide +kernel
theorem d_Mo_factor_66 : decode b_Mo_factor 66 = .ok (.aload_n 0, 1) := by decide +kernel
theorem d_Mo_factor_67 : decode b_Mo_factor 67 = .ok (.getfield 26, 3) := by decide +kernel
theorem d_Mo_factor_70 : decode b_Mo_factor 70 = .ok (.aload_n 0, 1) := by decide +kernel
theorem d_Mo_factor_71 : decode b_Mo_factor 71 = .ok (.getfield 190, 3) := by decide +kernel
theorem d_Mo_factor_74 : decode b_Mo_factor 74 = .ok (.iload_n 1, 1) := by decide +kernel
theorem d_Mo_factor_75 : decode b_Mo_factor 75 = .ok (.iastore, 1) := by decide +kernel
theorem d_Mo_factor_76 : decode b_Mo_factor 76 = .ok (.aload_n 0, 1) := by decide +kernel
theorem d_Mo_factor_77 : decode b_Mo_factor 77 = .ok (.dup, 1) := by decide +kernel
theorem d_Mo_factor_78 : decode b_Mo_factor 78 = .ok (.getfield 190, 3) := by decide +kernel
theorem d_Mo_factor_81 : decode b_Mo_factor 81 = .ok (.iconst 1, 1) := by decide +kernel
theorem d_Mo_factor_82 : decode b_Mo_factor 82 = .ok (.iadd, 1) := by decide +kernel
theorem d_Mo_factor_83 : decode b_Mo_factor 83 = .ok (.putfield 190, 3) := by decide +kernel
theorem d_Mo_factor_86 : decode b_Mo_factor 86 = .ok (.return_, 1) := by decide +kernel
theorem d_Mo_operator_0 : decode b_Mo_operator 0 = .ok (.iload_n 1, 1) := by decide +kernel
theorem d_Mo_operator_1 : decode b_Mo_operator 1 = .ok (.bipush 43, 2) := by decide +kernel
theorem d_Mo_operator_3 : decode b_Mo_operator 3 = .ok (.if_icmp .eq 27, 3) := by decide +kernel
theorem d_Mo_operator_6 : decode b_Mo_operator 6 = .ok (.iload_n 1, 1) := by decide +kernel
theorem d_Mo_operator_7 : decode b_Mo_operator 7 = .ok (.bipush 45, 2) := by decide +kernel
theorem d_Mo_operator_9 : decode b_Mo_operator 9 = .ok (.if_icmp .eq 21, 3) := by decide +kernel
theorem d_Mo_operator_12 : decode b_Mo_operator 12 = .ok (.iload_n 1, 1) := by decide +kernel
theorem d_Mo_operator_13 : decode b_Mo_operator 13 = .ok (.bipush 42, 2) := by decide +kernel
theorem d_Mo_operator_15 : decode b_Mo_operator 15 = .ok (.if_icmp .eq 15, 3) := by decide +kernel
theorem d_Mo_operator_18 : decode b_Mo_operator 18 = .ok (.iload_n 1, 1) := by decide +kernel
theorem d_Mo_operator_19 : decode b_Mo_operator 19 = .ok (.bipush 47, 2) := by decide +kernel
theorem d_Mo_operator_21 : decode b_Mo_operator 21 = .ok (.if_icmp .eq 9, 3) := by decide +kernel
theorem d_Mo_operator_24 : decode b_Mo_operator 24 = .ok (.iload_n 1, 1) := by decide +kernel
theorem d_Mo_operator_25 : decode b_Mo_operator 25 = .ok (.bipush 37, 2) := by decide +kernel
theorem d_Mo_operator_27 : decode b_Mo_operator 27 = .ok (.if_icmp .ne 7, 3) := by decide +kernel
theorem d_Mo_operator_30 : decode b_Mo_operator 30 = .ok (.iconst 1, 1) := by decide +kernel
