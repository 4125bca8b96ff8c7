theorem d_Mo_evaluate_129 : decode b_Mo_evaluate 129 = .ok (.ifCond .ne 37, 3) := by decide +kernel
theorem d_Mo_evaluate_132 : decode b_Mo_evaluate 132 = .ok (.aload_n 0, 1) := by decide +kernel
theorem d_Mo_evaluate_133 : decode b_Mo_evaluate 133 = .ok (.iload_n 1, 1) := by decide +kernel
theorem d_Mo_evaluate_134 : decode b_Mo_evaluate 134 = .ok (.invokevirtual 312, 3) := by decide +kernel
theorem d_Mo_evaluate_137 : decode b_Mo_evaluate 137 = .ok (.aload_n 0, 1) := by decide +kernel
theorem d_Mo_evaluate_138 : decode b_Mo_evaluate 138 = .ok (.dup, 1) := by decide +kernel
theorem d_Mo_evaluate_139 : decode b_Mo_evaluate 139 = .ok (.getfield 300, 3) := by decide +kernel
theorem d_Mo_evaluate_142 : decode b_Mo_evaluate 142 = .ok (.iconst 1, 1) := by decide +kernel
theorem d_Mo_evaluate_143 : decode b_Mo_evaluate 143 = .ok (.iadd, 1) := by decide +kernel
theorem d_Mo_evaluate_144 : decode b_Mo_evaluate 144 = .ok (.putfield 300, 3) := by decide +kernel
theorem d_Mo_evaluate_147 : decode b_Mo_evaluate 147 = .ok (.iinc 1 (-1), 3) := by decide +kernel
theorem d_Mo_evaluate_150 : decode b_Mo_evaluate 150 = .ok (.aload_n 0, 1) := by decide +kernel
theorem d_Mo_evaluate_151 : decode b_Mo_evaluate 151 = .ok (.iload_n 1, 1) := by decide +kernel
theorem d_Mo_evaluate_152 : decode b_Mo_evaluate 152 = .ok (.aload_n 0, 1) := by decide +kernel
theorem d_Mo_evaluate_153 : decode b_Mo_evaluate 153 = .ok (.getfield 117, 3) := by decide +kernel
theorem d_Mo_evaluate_156 : decode b_Mo_evaluate 156 = .ok (.iload_n 1, 1) := by decide +kernel
theorem d_Mo_evaluate_157 : decode b_Mo_evaluate 157 = .ok (.iconst 1, 1) := by decide +kernel
theorem d_Mo_evaluate_158 : decode b_Mo_evaluate 158 = .ok (.iadd, 1) := by decide +kernel
theorem d_Mo_evaluate_159 : decode b_Mo_evaluate 159 = .ok (.iaload, 1) := by decide +kernel
theorem d_Mo_evaluate_160 : decode b_Mo_evaluate 160 = .ok (.invokevirtual 309, 3) := by decide +kernel
theorem d_Mo_evaluate_163 : decode b_Mo_evaluate 163 = .ok (.goto (-56), 3) := by decide +kernel
theorem d_Mo_evaluate_166 : decode b_Mo_evaluate 166 = .ok (.aload_n 0, 1) := by decide +kernel
theorem d_Mo_evaluate_167 : decode b_Mo_evaluate 167 = .ok (.getfield 32, 3) := by decide +kernel
theorem d_Mo_evaluate_170 : decode b_Mo_evaluate 170 = .ok (.aload_n 0, 1) := by decide +kernel
theorem d_Mo_evaluate_171 : decode b_Mo_evaluate 171 = .ok (.getfield 300, 3) := by decide +kernel
theorem d_Mo_evaluate_174 : decode b_Mo_evaluate 174 = .ok (.iaload, 1) := by decide +kernel
theorem d_Mo_evaluate_175 : decode b_Mo_evaluate 175 = .ok (.istore_n 3, 1) := by decide +kernel
theorem d_Mo_evaluate_176 : decode b_Mo_evaluate 176 = .ok (.aload_n 0, 1) := by decide +kernel
theorem d_Mo_evaluate_177 : decode b_Mo_evaluate 177 = .ok (.iload_n 3, 1) := by decide +kernel
theorem d_Mo_evaluate_178 : decode b_Mo_evaluate 178 = .ok (.invokevirtual 239, 3) := by decide +kernel
theorem d_Mo_evaluate_181 : decode b_Mo_evaluate 181 = .ok (.istore_n 2, 1) := by decide +kernel
theorem d_Mo_evaluate_182 : decode b_Mo_evaluate 182 = .ok (.iload_n 2, 1) := by decide +kernel
theorem d_Mo_evaluate_183 : decode b_Mo_evaluate 183 = .ok (.ifCond .ne 6, 3) := by decide +kernel
theorem d_Mo_evaluate_186 : decode b_Mo_evaluate 186 = .ok (.goto (-177), 3) := by decide +kernel
theorem d_Mo_evaluate_189 : decode b_Mo_evaluate 189 = .ok (.iload_n 3, 1) := by decide +kernel
theorem d_Mo_evaluate_190 : decode b_Mo_evaluate 190 = .ok (.bipush 43, 2) := by decide +kernel
theorem d_Mo_evaluate_192 : decode b_Mo_evaluate 192 = .ok (.if_icmp .eq 9, 3) := by decide +kernel
theorem d_Mo_evaluate_195 : decode b_Mo_evaluate 195 = .ok (.iload_n 3, 1) := by decide +kernel
theorem d_Mo_evaluate_196 : decode b_Mo_evaluate 196 = .ok (.bipush 45, 2) := by decide +kernel
theorem d_Mo_evaluate_198 : decode b_Mo_evaluate 198 = .ok (.if_icmp .ne 25, 3) := by decide +kernel
theorem d_Mo_evaluate_201 : decode b_Mo_evaluate 201 = .ok (.aload_n 0, 1) := by decide +kernel
theorem d_Mo_evaluate_202 : decode b_Mo_evaluate 202 = .ok (.iload_n 1, 1) := by decide +kernel
theorem d_Mo_evaluate_203 : decode b_Mo_evaluate 203 = .ok (.invokevirtual 312, 3) := by decide +kernel
theorem d_Mo_evaluate_206 : decode b_Mo_evaluate 206 = .ok (.aload_n 0, 1) := by decide +kernel
theorem d_Mo_evaluate_207 : decode b_Mo_evaluate 207 = .ok (.getfield 123, 3) := by decide +kernel
theorem d_Mo_evaluate_210 : decode b_Mo_evaluate 210 = .ok (.iload_n 1, 1) := by decide +kernel
theorem d_Mo_evaluate_211 : decode b_Mo_evaluate 211 = .ok (.iload_n 3, 1) := by decide +kernel
theorem d_Mo_evaluate_212 : decode b_Mo_evaluate 212 = .ok (.iastore, 1) := by decide +kernel
theorem d_Mo_evaluate_213 : decode b_Mo_evaluate 213 = .ok (.aload_n 0, 1) := by decide +kernel
theorem d_Mo_evaluate_214 : decode b_Mo_evaluate 214 = .ok (.getfield 126, 3) := by decide +kernel
theorem d_Mo_evaluate_217 : decode b_Mo_evaluate 217 = .ok (.iload_n 1, 1) := by decide +kernel
theorem d_Mo_evaluate_218 : decode b_Mo_evaluate 218 = .ok (.iconst 0, 1) := by decide +kernel
theorem d_Mo_evaluate_219 : decode b_Mo_evaluate 219 = .ok (.iastore, 1) := by decide +kernel
theorem d_Mo_evaluate_220 : decode b_Mo_evaluate 220 = .ok (.goto 10, 3) := by decide +kernel
theorem d_Mo_evaluate_223 : decode b_Mo_evaluate 223 = .ok (.aload_n 0, 1) := by decide +kernel
theorem d_Mo_evaluate_224 : decode b_Mo_evaluate 224 = .ok (.getfield 126, 3) := by decide +kernel
theorem d_Mo_evaluate_227 : decode b_Mo_evaluate 227 = .ok (.iload_n 1, 1) := by decide +kernel
theorem d_Mo_evaluate_228 : decode b_Mo_evaluate 228 = .ok (.iload_n 3, 1) := by decide +kernel
theorem d_Mo_evaluate_229 : decode b_Mo_evaluate 229 = .ok (.iastore, 1) := by decide +kernel
theorem d_Mo_evaluate_230 : decode b_Mo_evaluate 230 = .ok (.aload_n 0, 1) := by decide +kernel
theorem d_Mo_evaluate_231 : decode b_Mo_evaluate 231 = .ok (.dup, 1) := by decide +kernel
theorem d_Mo_evaluate_232 : decode b_Mo_evaluate 232 = .ok (.getfield 300, 3) := by decide +kernel
theorem d_Mo_evaluate_235 : decode b_Mo_evaluate 235 = .ok (.iconst 1, 1) := by decide +kernel
theorem d_Mo_evaluate_236 : decode b_Mo_evaluate 236 = .ok (.iadd, 1) := by decide +kernel
theorem d_Mo_evaluate_237 : decode b_Mo_evaluate 237 = .ok (.putfield 300, 3) := by decide +kernel
theorem d_Mo_evaluate_240 : decode b_Mo_evaluate 240 = .ok (.goto (-231), 3) := by decide +kernel
theorem d_Mo_evaluate_243 : decode b_Mo_evaluate 243 = .ok (.aload_n 0, 1) := by decide +kernel
theorem d_Mo_evaluate_244 : decode b_Mo_evaluate 244 = .ok (.iload_n 1, 1) := by decide +kernel
theorem d_Mo_evaluate_245 : decode b_Mo_evaluate 245 = .ok (.invokevirtual 312, 3) := by decide +kernel
theorem d_Mo_evaluate_248 : decode b_Mo_evaluate 248 = .ok (.aload_n 0, 1) := by decide +kernel
theorem d_Mo_evaluate_249 : decode b_Mo_evaluate 249 = .ok (.getfield 117, 3) := by decide +kernel
theorem d_Mo_evaluate_252 : decode b_Mo_evaluate 252 = .ok (.iload_n 1, 1) := by decide +kernel
theorem d_Mo_evaluate_253 : decode b_Mo_evaluate 253 = .ok (.iaload, 1) := by decide +kernel
theorem d_Mo_evaluate_254 : decode b_Mo_evaluate 254 = .ok (.ireturn, 1) := by decide +kernel
theorem d_Mo_step_0 : decode b_Mo_step 0 = .ok (.aload_n 0, 1) := by decide +kernel
theorem d_Mo_step_1 : decode b_Mo_step 1 = .ok (.getfield 315, 3) := by decide +kernel
theorem d_Mo_step_4 : decode b_Mo_step 4 = .ok (.sipush 400, 3) := by decide +kernel
theorem d_Mo_step_7 : decode b_Mo_step 7 = .ok (.if_icmp .ne 11, 3) := by decide +kernel
theorem d_Mo_step_10 : decode b_Mo_step 10 = .ok (.aload_n 0, 1) := by decide +kernel
theorem d_Mo_step_11 : decode b_Mo_step 11 = .ok (.iconst 3, 1) := by decide +kernel
theorem d_Mo_step_12 : decode b_Mo_step 12 = .ok (.putfield 297, 3) := by decide +kernel
theorem d_Mo_step_15 : decode b_Mo_step 15 = .ok (.goto 13, 3) := by decide +kernel
theorem d_Mo_step_18 : decode b_Mo_step 18 = .ok (.aload_n 0, 1) := by decide +kernel
theorem d_Mo_step_19 : decode b_Mo_step 19 = .ok (.dup, 1) := by decide +kernel
theorem d_Mo_step_20 : decode b_Mo_step 20 = .ok (.getfield 315, 3) := by decide +kernel
theorem d_Mo_step_23 : decode b_Mo_step 23 = .ok (.iconst 1, 1) := by decide +kernel
theorem d_Mo_step_24 : decode b_Mo_step 24 = .ok (.iadd, 1) := by decide +kernel
theorem d_Mo_step_25 : decode b_Mo_step 25 = .ok (.putfield 315, 3) := by decide +kernel
theorem d_Mo_step_28 : decode b_Mo_step 28 = .ok (.return_, 1) := by decide +kernel
theorem d_Mo_push_0 : decode b_Mo_push 0 = .ok (.aload_n 0, 1) := by decide +kernel
theorem d_Mo_push_1 : decode b_Mo_push 1 = .ok (.getfield 108, 3) := by decide +kernel
theorem d_Mo_push_4 : decode b_Mo_push 4 = .ok (.bipush 10, 2) := by decide +kernel
theorem d_Mo_push_6 : decode b_Mo_push 6 = .ok (.aload_n 0, 1) := by decide +kernel
theorem d_Mo_push_7 : decode b_Mo_push 7 = .ok (.getfield 288, 3) := by decide +kernel
theorem d_Mo_push_10 : decode b_Mo_push 10 = .ok (.imul, 1) := by decide +kernel
theorem d_Mo_push_11 : decode b_Mo_push 11 = .ok (.aload_n 0, 1) := by decide +kernel
theorem d_Mo_push_12 : decode b_Mo_push 12 = .ok (.getfield 105, 3) := by decide +kernel
theorem d_Mo_push_15 : decode b_Mo_push 15 = .ok (.aload_n 0, 1) := by decide +kernel
theorem d_Mo_push_16 : decode b_Mo_push 16 = .ok (.getfield 288, 3) := by decide +kernel
theorem d_Mo_push_19 : decode b_Mo_push 19 = .ok (.iaload, 1) := by decide +kernel
theorem d_Mo_push_20 : decode b_Mo_push 20 = .ok (.iadd, 1) := by decide +kernel
theorem d_Mo_push_21 : decode b_Mo_push 21 = .ok (.iload_n 1, 1) := by decide +kernel
theorem d_Mo_push_22 : decode b_Mo_push 22 = .ok (.iastore, 1) := by decide +kernel
theorem d_Mo_push_23 : decode b_Mo_push 23 = .ok (.aload_n 0, 1) := by decide +kernel
theorem d_Mo_push_24 : decode b_Mo_push 24 = .ok (.getfield 111, 3) := by decide +kernel
theorem d_Mo_push_27 : decode b_Mo_push 27 = .ok (.bipush 10, 2) := by decide +kernel
theorem d_Mo_push_29 : decode b_Mo_push 29 = .ok (.aload_n 0, 1) := by decide +kernel
theorem d_Mo_push_30 : decode b_Mo_push 30 = .ok (.getfield 288, 3) := by decide +kernel
theorem d_Mo_push_33 : decode b_Mo_push 33 = .ok (.imul, 1) := by decide +kernel
theorem d_Mo_push_34 : decode b_Mo_push 34 = .ok (.aload_n 0, 1) := by decide +kernel
theorem d_Mo_push_35 : decode b_Mo_push 35 = .ok (.getfield 105, 3) := by decide +kernel
theorem d_Mo_push_38 : decode b_Mo_push 38 = .ok (.aload_n 0, 1) := by decide +kernel
theorem d_Mo_push_39 : decode b_Mo_push 39 = .ok (.getfield 288, 3) := by decide +kernel
theorem d_Mo_push_42 : decode b_Mo_push 42 = .ok (.iaload, 1) := by decide +kernel
theorem d_Mo_push_43 : decode b_Mo_push 43 = .ok (.iadd, 1) := by decide +kernel
theorem d_Mo_push_44 : decode b_Mo_push 44 = .ok (.iload_n 2, 1) := by decide +kernel
theorem d_Mo_push_45 : decode b_Mo_push 45 = .ok (.iastore, 1) := by decide +kernel
theorem d_Mo_push_46 : decode b_Mo_push 46 = .ok (.aload_n 0, 1) := by decide +kernel
theorem d_Mo_push_47 : decode b_Mo_push 47 = .ok (.getfield 105, 3) := by decide +kernel
theorem d_Mo_push_50 : decode b_Mo_push 50 = .ok (.aload_n 0, 1) := by decide +kernel
theorem d_Mo_push_51 : decode b_Mo_push 51 = .ok (.getfield 288, 3) := by decide +kernel
theorem d_Mo_push_54 : decode b_Mo_push 54 = .ok (.dup2, 1) := by decide +kernel
theorem d_Mo_push_55 : decode b_Mo_push 55 = .ok (.iaload, 1) := by decide +kernel
theorem d_Mo_push_56 : decode b_Mo_push 56 = .ok (.iconst 1, 1) := by decide +kernel
theorem d_Mo_push_57 : decode b_Mo_push 57 = .ok (.iadd, 1) := by decide +kernel
theorem d_Mo_push_58 : decode b_Mo_push 58 = .ok (.iastore, 1) := by decide +kernel
theorem d_Mo_push_59 : decode b_Mo_push 59 = .ok (.return_, 1) := by decide +kernel
theorem d_Mo_holds_0 : decode b_Mo_holds 0 = .ok (.aload_n 0, 1) := by decide +kernel
theorem d_Mo_holds_1 : decode b_Mo_holds 1 = .ok (.invokevirtual 318, 3) := by decide +kernel
theorem d_Mo_holds_4 : decode b_Mo_holds 4 = .ok (.istore_n 1, 1) := by decide +kernel
theorem d_Mo_holds_5 : decode b_Mo_holds 5 = .ok (.aload_n 0, 1) := by decide +kernel
theorem d_Mo_holds_6 : decode b_Mo_holds 6 = .ok (.getfield 32, 3) := by decide +kernel
theorem d_Mo_holds_9 : decode b_Mo_holds 9 = .ok (.aload_n 0, 1) := by decide +kernel
theorem d_Mo_holds_10 : decode b_Mo_holds 10 = .ok (.getfield 300, 3) := by decide +kernel
theorem d_Mo_holds_13 : decode b_Mo_holds 13 = .ok (.iaload, 1) := by decide +kernel
theorem d_Mo_holds_14 : decode b_Mo_holds 14 = .ok (.istore_n 2, 1) := by decide +kernel
theorem d_Mo_holds_15 : decode b_Mo_holds 15 = .ok (.aload_n 0, 1) := by decide +kernel
theorem d_Mo_holds_16 : decode b_Mo_holds 16 = .ok (.dup, 1) := by decide +kernel
theorem d_Mo_holds_17 : decode b_Mo_holds 17 = .ok (.getfield 300, 3) := by decide +kernel
theorem d_Mo_holds_20 : decode b_Mo_holds 20 = .ok (.iconst 1, 1) := by decide +kernel
theorem d_Mo_holds_21 : decode b_Mo_holds 21 = .ok (.iadd, 1) := by decide +kernel
theorem d_Mo_holds_22 : decode b_Mo_holds 22 = .ok (.putfield 300, 3) := by decide +kernel
theorem d_Mo_holds_25 : decode b_Mo_holds 25 = .ok (.aload_n 0, 1) := by decide +kernel
theorem d_Mo_holds_26 : decode b_Mo_holds 26 = .ok (.getfield 297, 3) := by decide +kernel
theorem d_Mo_holds_29 : decode b_Mo_holds 29 = .ok (.ifCond .eq 5, 3) := by decide +kernel
theorem d_Mo_holds_32 : decode b_Mo_holds 32 = .ok (.iconst 0, 1) := by decide +kernel
theorem d_Mo_holds_33 : decode b_Mo_holds 33 = .ok (.ireturn, 1) := by decide +kernel
theorem d_Mo_holds_34 : decode b_Mo_holds 34 = .ok (.aload_n 0, 1) := by decide +kernel
theorem d_Mo_holds_35 : decode b_Mo_holds 35 = .ok (.invokevirtual 318, 3) := by decide +kernel
theorem d_Mo_holds_38 : decode b_Mo_holds 38 = .ok (.istore_n 3, 1) := by decide +kernel
theorem d_Mo_holds_39 : decode b_Mo_holds 39 = .ok (.iload_n 2, 1) := by decide +kernel
theorem d_Mo_holds_40 : decode b_Mo_holds 40 = .ok (.bipush 61, 2) := by decide +kernel
theorem d_Mo_holds_42 : decode b_Mo_holds 42 = .ok (.if_icmp .ne 16, 3) := by decide +kernel
theorem d_Mo_holds_45 : decode b_Mo_holds 45 = .ok (.iload_n 1, 1) := by decide +kernel
theorem d_Mo_holds_46 : decode b_Mo_holds 46 = .ok (.iload_n 3, 1) := by decide +kernel
theorem d_Mo_holds_47 : decode b_Mo_holds 47 = .ok (.if_icmp .ne 7, 3) := by decide +kernel
theorem d_Mo_holds_50 : decode b_Mo_holds 50 = .ok (.iconst 1, 1) := by decide +kernel
theorem d_Mo_holds_51 : decode b_Mo_holds 51 = .ok (.goto 36, 3) := by decide +kernel
theorem d_Mo_holds_54 : decode b_Mo_holds 54 = .ok (.iconst 0, 1) := by decide +kernel
theorem d_Mo_holds_55 : decode b_Mo_holds 55 = .ok (.goto 32, 3) := by decide +kernel
theorem d_Mo_holds_58 : decode b_Mo_holds 58 = .ok (.iload_n 2, 1) := by decide +kernel
theorem d_Mo_holds_59 : decode b_Mo_holds 59 = .ok (.bipush 60, 2) := by decide +kernel
theorem d_Mo_holds_61 : decode b_Mo_holds 61 = .ok (.if_icmp .ne 16, 3) := by decide +kernel
theorem d_Mo_holds_64 : decode b_Mo_holds 64 = .ok (.iload_n 1, 1) := by decide +kernel
theorem d_Mo_holds_65 : decode b_Mo_holds 65 = .ok (.iload_n 3, 1) := by decide +kernel
theorem d_Mo_holds_66 : decode b_Mo_holds 66 = .ok (.if_icmp .ge 7, 3) := by decide +kernel
theorem d_Mo_holds_69 : decode b_Mo_holds 69 = .ok (.iconst 1, 1) := by decide +kernel
theorem d_Mo_holds_70 : decode b_Mo_holds 70 = .ok (.goto 17, 3) := by decide +kernel
theorem d_Mo_holds_73 : decode b_Mo_holds 73 = .ok (.iconst 0, 1) := by decide +kernel
theorem d_Mo_holds_74 : decode b_Mo_holds 74 = .ok (.goto 13, 3) := by decide +kernel
theorem d_Mo_holds_77 : decode b_Mo_holds 77 = .ok (.iload_n 1, 1) := by decide +kernel
theorem d_Mo_holds_78 : decode b_Mo_holds 78 = .ok (.iload_n 3, 1) := by decide +kernel
theorem d_Mo_holds_79 : decode b_Mo_holds 79 = .ok (.if_icmp .le 7, 3) := by decide +kernel
theorem d_Mo_holds_82 : decode b_Mo_holds 82 = .ok (.iconst 1, 1) := by decide +kernel
theorem d_Mo_holds_83 : decode b_Mo_holds 83 = .ok (.goto 4, 3) := by decide +kernel
theorem d_Mo_holds_86 : decode b_Mo_holds 86 = .ok (.iconst 0, 1) := by decide +kernel
theorem d_Mo_holds_87 : decode b_Mo_holds 87 = .ok (.ireturn, 1) := by decide +kernel
theorem d_Mo_enterCall_0 : decode b_Mo_enterCall 0 = .ok (.aload_n 0, 1) := by decide +kernel
theorem d_Mo_enterCall_1 : decode b_Mo_enterCall 1 = .ok (.getfield 78, 3) := by decide +kernel
theorem d_Mo_enterCall_4 : decode b_Mo_enterCall 4 = .ok (.iload_n 1, 1) := by decide +kernel
theorem d_Mo_enterCall_5 : decode b_Mo_enterCall 5 = .ok (.iaload, 1) := by decide +kernel
theorem d_Mo_enterCall_6 : decode b_Mo_enterCall 6 = .ok (.istore_n 2, 1) := by decide +kernel
theorem d_Mo_enterCall_7 : decode b_Mo_enterCall 7 = .ok (.iconst 0, 1) := by decide +kernel
theorem d_Mo_enterCall_8 : decode b_Mo_enterCall 8 = .ok (.istore_n 3, 1) := by decide +kernel
theorem d_Mo_enterCall_9 : decode b_Mo_enterCall 9 = .ok (.iload_n 3, 1) := by decide +kernel
theorem d_Mo_enterCall_10 : decode b_Mo_enterCall 10 = .ok (.iload_n 2, 1) := by decide +kernel
theorem d_Mo_enterCall_11 : decode b_Mo_enterCall 11 = .ok (.if_icmp .ge 82, 3) := by decide +kernel
theorem d_Mo_enterCall_14 : decode b_Mo_enterCall 14 = .ok (.aload_n 0, 1) := by decide +kernel
theorem d_Mo_enterCall_15 : decode b_Mo_enterCall 15 = .ok (.getfield 297, 3) := by decide +kernel
theorem d_Mo_enterCall_18 : decode b_Mo_enterCall 18 = .ok (.ifCond .ne 75, 3) := by decide +kernel
theorem d_Mo_enterCall_21 : decode b_Mo_enterCall 21 = .ok (.aload_n 0, 1) := by decide +kernel
theorem d_Mo_enterCall_22 : decode b_Mo_enterCall 22 = .ok (.dup, 1) := by decide +kernel
theorem d_Mo_enterCall_23 : decode b_Mo_enterCall 23 = .ok (.getfield 300, 3) := by decide +kernel
theorem d_Mo_enterCall_26 : decode b_Mo_enterCall 26 = .ok (.iconst 1, 1) := by decide +kernel
theorem d_Mo_enterCall_27 : decode b_Mo_enterCall 27 = .ok (.iadd, 1) := by decide +kernel
theorem d_Mo_enterCall_28 : decode b_Mo_enterCall 28 = .ok (.putfield 300, 3) := by decide +kernel
theorem d_Mo_enterCall_31 : decode b_Mo_enterCall 31 = .ok (.aload_n 0, 1) := by decide +kernel
theorem d_Mo_enterCall_32 : decode b_Mo_enterCall 32 = .ok (.getfield 69, 3) := by decide +kernel
theorem d_Mo_enterCall_35 : decode b_Mo_enterCall 35 = .ok (.iload_n 1, 1) := by decide +kernel
theorem d_Mo_enterCall_36 : decode b_Mo_enterCall 36 = .ok (.iconst 1, 1) := by decide +kernel
theorem d_Mo_enterCall_37 : decode b_Mo_enterCall 37 = .ok (.iadd, 1) := by decide +kernel
theorem d_Mo_enterCall_38 : decode b_Mo_enterCall 38 = .ok (.iload_n 3, 1) := by decide +kernel
theorem d_Mo_enterCall_39 : decode b_Mo_enterCall 39 = .ok (.iadd, 1) := by decide +kernel
theorem d_Mo_enterCall_40 : decode b_Mo_enterCall 40 = .ok (.iaload, 1) := by decide +kernel
theorem d_Mo_enterCall_41 : decode b_Mo_enterCall 41 = .ok (.iconst 2, 1) := by decide +kernel
theorem d_Mo_enterCall_42 : decode b_Mo_enterCall 42 = .ok (.if_icmp .ne 35, 3) := by decide +kernel
theorem d_Mo_enterCall_45 : decode b_Mo_enterCall 45 = .ok (.aload_n 0, 1) := by decide +kernel
theorem d_Mo_enterCall_46 : decode b_Mo_enterCall 46 = .ok (.getfield 129, 3) := by decide +kernel
theorem d_Mo_enterCall_49 : decode b_Mo_enterCall 49 = .ok (.iload_n 3, 1) := by decide +kernel
theorem d_Mo_enterCall_50 : decode b_Mo_enterCall 50 = .ok (.aload_n 0, 1) := by decide +kernel
theorem d_Mo_enterCall_51 : decode b_Mo_enterCall 51 = .ok (.aload_n 0, 1) := by decide +kernel
theorem d_Mo_enterCall_52 : decode b_Mo_enterCall 52 = .ok (.getfield 38, 3) := by decide +kernel
theorem d_Mo_enterCall_55 : decode b_Mo_enterCall 55 = .ok (.aload_n 0, 1) := by decide +kernel
theorem d_Mo_enterCall_56 : decode b_Mo_enterCall 56 = .ok (.getfield 300, 3) := by decide +kernel
theorem d_Mo_enterCall_59 : decode b_Mo_enterCall 59 = .ok (.iaload, 1) := by decide +kernel
theorem d_Mo_enterCall_60 : decode b_Mo_enterCall 60 = .ok (.invokevirtual 306, 3) := by decide +kernel
theorem d_Mo_enterCall_63 : decode b_Mo_enterCall 63 = .ok (.iastore, 1) := by decide +kernel
theorem d_Mo_enterCall_64 : decode b_Mo_enterCall 64 = .ok (.aload_n 0, 1) := by decide +kernel
theorem d_Mo_enterCall_65 : decode b_Mo_enterCall 65 = .ok (.dup, 1) := by decide +kernel
theorem d_Mo_enterCall_66 : decode b_Mo_enterCall 66 = .ok (.getfield 300, 3) := by decide +kernel
theorem d_Mo_enterCall_69 : decode b_Mo_enterCall 69 = .ok (.iconst 1, 1) := by decide +kernel
theorem d_Mo_enterCall_70 : decode b_Mo_enterCall 70 = .ok (.iadd, 1) := by decide +kernel
theorem d_Mo_enterCall_71 : decode b_Mo_enterCall 71 = .ok (.putfield 300, 3) := by decide +kernel
theorem d_Mo_enterCall_74 : decode b_Mo_enterCall 74 = .ok (.goto 13, 3) := by decide +kernel
theorem d_Mo_enterCall_77 : decode b_Mo_enterCall 77 = .ok (.aload_n 0, 1) := by decide +kernel
theorem d_Mo_enterCall_78 : decode b_Mo_enterCall 78 = .ok (.getfield 129, 3) := by decide +kernel
theorem d_Mo_enterCall_81 : decode b_Mo_enterCall 81 = .ok (.iload_n 3, 1) := by decide +kernel
theorem d_Mo_enterCall_82 : decode b_Mo_enterCall 82 = .ok (.aload_n 0, 1) := by decide +kernel
theorem d_Mo_enterCall_83 : decode b_Mo_enterCall 83 = .ok (.invokevirtual 318, 3) := by decide +kernel
theorem d_Mo_enterCall_86 : decode b_Mo_enterCall 86 = .ok (.iastore, 1) := by decide +kernel
theorem d_Mo_enterCall_87 : decode b_Mo_enterCall 87 = .ok (.iinc 3 1, 3) := by decide +kernel
theorem d_Mo_enterCall_90 : decode b_Mo_enterCall 90 = .ok (.goto (-81), 3) := by decide +kernel
theorem d_Mo_enterCall_93 : decode b_Mo_enterCall 93 = .ok (.iload_n 2, 1) := by decide +kernel
theorem d_Mo_enterCall_94 : decode b_Mo_enterCall 94 = .ok (.ifCond .le 13, 3) := by decide +kernel
theorem d_Mo_enterCall_97 : decode b_Mo_enterCall 97 = .ok (.aload_n 0, 1) := by decide +kernel
theorem d_Mo_enterCall_98 : decode b_Mo_enterCall 98 = .ok (.dup, 1) := by decide +kernel
theorem d_Mo_enterCall_99 : decode b_Mo_enterCall 99 = .ok (.getfield 300, 3) := by decide +kernel
theorem d_Mo_enterCall_102 : decode b_Mo_enterCall 102 = .ok (.iconst 1, 1) := by decide +kernel
theorem d_Mo_enterCall_103 : decode b_Mo_enterCall 103 = .ok (.iadd, 1) := by decide +kernel
theorem d_Mo_enterCall_104 : decode b_Mo_enterCall 104 = .ok (.putfield 300, 3) := by decide +kernel
theorem d_Mo_enterCall_107 : decode b_Mo_enterCall 107 = .ok (.aload_n 0, 1) := by decide +kernel
theorem d_Mo_enterCall_108 : decode b_Mo_enterCall 108 = .ok (.getfield 297, 3) := by decide +kernel
theorem d_Mo_enterCall_111 : decode b_Mo_enterCall 111 = .ok (.ifCond .ne 17, 3) := by decide +kernel
theorem d_Mo_enterCall_114 : decode b_Mo_enterCall 114 = .ok (.aload_n 0, 1) := by decide +kernel
theorem d_Mo_enterCall_115 : decode b_Mo_enterCall 115 = .ok (.getfield 288, 3) := by decide +kernel
theorem d_Mo_enterCall_118 : decode b_Mo_enterCall 118 = .ok (.bipush 10, 2) := by decide +kernel
theorem d_Mo_enterCall_120 : decode b_Mo_enterCall 120 = .ok (.if_icmp .ne 8, 3) := by decide +kernel
theorem d_Mo_enterCall_123 : decode b_Mo_enterCall 123 = .ok (.aload_n 0, 1) := by decide +kernel
theorem d_Mo_enterCall_124 : decode b_Mo_enterCall 124 = .ok (.iconst 4, 1) := by decide +kernel
theorem d_Mo_enterCall_125 : decode b_Mo_enterCall 125 = .ok (.putfield 297, 3) := by decide +kernel
theorem d_Mo_enterCall_128 : decode b_Mo_enterCall 128 = .ok (.aload_n 0, 1) := by decide +kernel
theorem d_Mo_enterCall_129 : decode b_Mo_enterCall 129 = .ok (.getfield 297, 3) := by decide +kernel
theorem d_Mo_enterCall_132 : decode b_Mo_enterCall 132 = .ok (.ifCond .eq 4, 3) := by decide +kernel
theorem d_Mo_enterCall_135 : decode b_Mo_enterCall 135 = .ok (.return_, 1) := by decide +kernel
theorem d_Mo_enterCall_136 : decode b_Mo_enterCall 136 = .ok (.aload_n 0, 1) := by decide +kernel
theorem d_Mo_enterCall_137 : decode b_Mo_enterCall 137 = .ok (.aload_n 0, 1) := by decide +kernel
theorem d_Mo_enterCall_138 : decode b_Mo_enterCall 138 = .ok (.getfield 72, 3) := by decide +kernel
theorem d_Mo_enterCall_141 : decode b_Mo_enterCall 141 = .ok (.iload_n 1, 1) := by decide +kernel
theorem d_Mo_enterCall_142 : decode b_Mo_enterCall 142 = .ok (.iaload, 1) := by decide +kernel
theorem d_Mo_enterCall_143 : decode b_Mo_enterCall 143 = .ok (.invokevirtual 291, 3) := by decide +kernel
theorem d_Mo_enterCall_146 : decode b_Mo_enterCall 146 = .ok (.istore_n 3, 1) := by decide +kernel
theorem d_Mo_enterCall_147 : decode b_Mo_enterCall 147 = .ok (.aload_n 0, 1) := by decide +kernel
theorem d_Mo_enterCall_148 : decode b_Mo_enterCall 148 = .ok (.dup, 1) := by decide +kernel
theorem d_Mo_enterCall_149 : decode b_Mo_enterCall 149 = .ok (.getfield 288, 3) := by decide +kernel
theorem d_Mo_enterCall_152 : decode b_Mo_enterCall 152 = .ok (.iconst 1, 1) := by decide +kernel
theorem d_Mo_enterCall_153 : decode b_Mo_enterCall 153 = .ok (.iadd, 1) := by decide +kernel
theorem d_Mo_enterCall_154 : decode b_Mo_enterCall 154 = .ok (.putfield 288, 3) := by decide +kernel
theorem d_Mo_enterCall_157 : decode b_Mo_enterCall 157 = .ok (.aload_n 0, 1) := by decide +kernel
theorem d_Mo_enterCall_158 : decode b_Mo_enterCall 158 = .ok (.getfield 288, 3) := by decide +kernel
theorem d_Mo_enterCall_161 : decode b_Mo_enterCall 161 = .ok (.aload_n 0, 1) := by decide +kernel
theorem d_Mo_enterCall_162 : decode b_Mo_enterCall 162 = .ok (.getfield 321, 3) := by decide +kernel
theorem d_Mo_enterCall_165 : decode b_Mo_enterCall 165 = .ok (.if_icmp .le 11, 3) := by decide +kernel
theorem d_Mo_enterCall_168 : decode b_Mo_enterCall 168 = .ok (.aload_n 0, 1) := by decide +kernel
theorem d_Mo_enterCall_169 : decode b_Mo_enterCall 169 = .ok (.aload_n 0, 1) := by decide +kernel
theorem d_Mo_enterCall_170 : decode b_Mo_enterCall 170 = .ok (.getfield 288, 3) := by decide +kernel
theorem d_Mo_enterCall_173 : decode b_Mo_enterCall 173 = .ok (.putfield 321, 3) := by decide +kernel
theorem d_Mo_enterCall_176 : decode b_Mo_enterCall 176 = .ok (.aload_n 0, 1) := by decide +kernel
theorem d_Mo_enterCall_177 : decode b_Mo_enterCall 177 = .ok (.getfield 96, 3) := by decide +kernel
theorem d_Mo_enterCall_180 : decode b_Mo_enterCall 180 = .ok (.aload_n 0, 1) := by decide +kernel
theorem d_Mo_enterCall_181 : decode b_Mo_enterCall 181 = .ok (.getfield 288, 3) := by decide +kernel
theorem d_Mo_enterCall_184 : decode b_Mo_enterCall 184 = .ok (.aload_n 0, 1) := by decide +kernel
theorem d_Mo_enterCall_185 : decode b_Mo_enterCall 185 = .ok (.getfield 75, 3) := by decide +kernel
theorem d_Mo_enterCall_188 : decode b_Mo_enterCall 188 = .ok (.iload_n 1, 1) := by decide +kernel
theorem d_Mo_enterCall_189 : decode b_Mo_enterCall 189 = .ok (.iaload, 1) := by decide +kernel
theorem d_Mo_enterCall_190 : decode b_Mo_enterCall 190 = .ok (.iastore, 1) := by decide +kernel
theorem d_Mo_enterCall_191 : decode b_Mo_enterCall 191 = .ok (.aload_n 0, 1) := by decide +kernel
theorem d_Mo_enterCall_192 : decode b_Mo_enterCall 192 = .ok (.getfield 99, 3) := by decide +kernel
theorem d_Mo_enterCall_195 : decode b_Mo_enterCall 195 = .ok (.aload_n 0, 1) := by decide +kernel
theorem d_Mo_enterCall_196 : decode b_Mo_enterCall 196 = .ok (.getfield 288, 3) := by decide +kernel
theorem d_Mo_enterCall_199 : decode b_Mo_enterCall 199 = .ok (.iload_n 3, 1) := by decide +kernel
theorem d_Mo_enterCall_200 : decode b_Mo_enterCall 200 = .ok (.iastore, 1) := by decide +kernel
theorem d_Mo_enterCall_201 : decode b_Mo_enterCall 201 = .ok (.aload_n 0, 1) := by decide +kernel
theorem d_Mo_enterCall_202 : decode b_Mo_enterCall 202 = .ok (.getfield 102, 3) := by decide +kernel
theorem d_Mo_enterCall_205 : decode b_Mo_enterCall 205 = .ok (.aload_n 0, 1) := by decide +kernel
theorem d_Mo_enterCall_206 : decode b_Mo_enterCall 206 = .ok (.getfield 288, 3) := by decide +kernel
theorem d_Mo_enterCall_209 : decode b_Mo_enterCall 209 = .ok (.aload_n 0, 1) := by decide +kernel
theorem d_Mo_enterCall_210 : decode b_Mo_enterCall 210 = .ok (.getfield 300, 3) := by decide +kernel
theorem d_Mo_enterCall_213 : decode b_Mo_enterCall 213 = .ok (.iastore, 1) := by decide +kernel
theorem d_Mo_enterCall_214 : decode b_Mo_enterCall 214 = .ok (.aload_n 0, 1) := by decide +kernel
theorem d_Mo_enterCall_215 : decode b_Mo_enterCall 215 = .ok (.getfield 105, 3) := by decide +kernel
theorem d_Mo_enterCall_218 : decode b_Mo_enterCall 218 = .ok (.aload_n 0, 1) := by decide +kernel
theorem d_Mo_enterCall_219 : decode b_Mo_enterCall 219 = .ok (.getfield 288, 3) := by decide +kernel
theorem d_Mo_enterCall_222 : decode b_Mo_enterCall 222 = .ok (.iconst 0, 1) := by decide +kernel
theorem d_Mo_enterCall_223 : decode b_Mo_enterCall 223 = .ok (.iastore, 1) := by decide +kernel
theorem d_Mo_enterCall_224 : decode b_Mo_enterCall 224 = .ok (.iconst 0, 1) := by decide +kernel
theorem d_Mo_enterCall_225 : decode b_Mo_enterCall 225 = .ok (.istore 4, 2) := by decide +kernel
theorem d_Mo_enterCall_227 : decode b_Mo_enterCall 227 = .ok (.iload 4, 2) := by decide +kernel
theorem d_Mo_enterCall_229 : decode b_Mo_enterCall 229 = .ok (.bipush 12, 2) := by decide +kernel
theorem d_Mo_enterCall_231 : decode b_Mo_enterCall 231 = .ok (.if_icmp .ge 25, 3) := by decide +kernel
theorem d_Mo_enterCall_234 : decode b_Mo_enterCall 234 = .ok (.aload_n 0, 1) := by decide +kernel
theorem d_Mo_enterCall_235 : decode b_Mo_enterCall 235 = .ok (.getfield 90, 3) := by decide +kernel
theorem d_Mo_enterCall_238 : decode b_Mo_enterCall 238 = .ok (.bipush 12, 2) := by decide +kernel
theorem d_Mo_enterCall_240 : decode b_Mo_enterCall 240 = .ok (.aload_n 0, 1) := by decide +kernel
theorem d_Mo_enterCall_241 : decode b_Mo_enterCall 241 = .ok (.getfield 288, 3) := by decide +kernel
theorem d_Mo_enterCall_244 : decode b_Mo_enterCall 244 = .ok (.imul, 1) := by decide +kernel
theorem d_Mo_enterCall_245 : decode b_Mo_enterCall 245 = .ok (.iload 4, 2) := by decide +kernel
theorem d_Mo_enterCall_247 : decode b_Mo_enterCall 247 = .ok (.iadd, 1) := by decide +kernel
theorem d_Mo_enterCall_248 : decode b_Mo_enterCall 248 = .ok (.iconst 0, 1) := by decide +kernel
theorem d_Mo_enterCall_249 : decode b_Mo_enterCall 249 = .ok (.iastore, 1) := by decide +kernel
theorem d_Mo_enterCall_250 : decode b_Mo_enterCall 250 = .ok (.iinc 4 1, 3) := by decide +kernel
theorem d_Mo_enterCall_253 : decode b_Mo_enterCall 253 = .ok (.goto (-26), 3) := by decide +kernel
theorem d_Mo_enterCall_256 : decode b_Mo_enterCall 256 = .ok (.iconst 0, 1) := by decide +kernel
theorem d_Mo_enterCall_257 : decode b_Mo_enterCall 257 = .ok (.istore 4, 2) := by decide +kernel
theorem d_Mo_enterCall_259 : decode b_Mo_enterCall 259 = .ok (.iload 4, 2) := by decide +kernel
theorem d_Mo_enterCall_261 : decode b_Mo_enterCall 261 = .ok (.iload_n 2, 1) := by decide +kernel
theorem d_Mo_enterCall_262 : decode b_Mo_enterCall 262 = .ok (.if_icmp .ge 57, 3) := by decide +kernel
theorem d_Mo_enterCall_265 : decode b_Mo_enterCall 265 = .ok (.bipush 12, 2) := by decide +kernel
theorem d_Mo_enterCall_267 : decode b_Mo_enterCall 267 = .ok (.aload_n 0, 1) := by decide +kernel
theorem d_Mo_enterCall_268 : decode b_Mo_enterCall 268 = .ok (.getfield 288, 3) := by decide +kernel
theorem d_Mo_enterCall_271 : decode b_Mo_enterCall 271 = .ok (.imul, 1) := by decide +kernel
theorem d_Mo_enterCall_272 : decode b_Mo_enterCall 272 = .ok (.aload_n 0, 1) := by decide +kernel
theorem d_Mo_enterCall_273 : decode b_Mo_enterCall 273 = .ok (.iload_n 1, 1) := by decide +kernel
theorem d_Mo_enterCall_274 : decode b_Mo_enterCall 274 = .ok (.iconst 1, 1) := by decide +kernel
theorem d_Mo_enterCall_275 : decode b_Mo_enterCall 275 = .ok (.iadd, 1) := by decide +kernel
theorem d_Mo_enterCall_276 : decode b_Mo_enterCall 276 = .ok (.iload 4, 2) := by decide +kernel
theorem d_Mo_enterCall_278 : decode b_Mo_enterCall 278 = .ok (.iadd, 1) := by decide +kernel
theorem d_Mo_enterCall_279 : decode b_Mo_enterCall 279 = .ok (.invokevirtual 294, 3) := by decide +kernel
theorem d_Mo_enterCall_282 : decode b_Mo_enterCall 282 = .ok (.iadd, 1) := by decide +kernel
theorem d_Mo_enterCall_283 : decode b_Mo_enterCall 283 = .ok (.istore 5, 2) := by decide +kernel
theorem d_Mo_enterCall_285 : decode b_Mo_enterCall 285 = .ok (.aload_n 0, 1) := by decide +kernel
theorem d_Mo_enterCall_286 : decode b_Mo_enterCall 286 = .ok (.getfield 90, 3) := by decide +kernel
theorem d_Mo_enterCall_289 : decode b_Mo_enterCall 289 = .ok (.iload 5, 2) := by decide +kernel
theorem d_Mo_enterCall_291 : decode b_Mo_enterCall 291 = .ok (.aload_n 0, 1) := by decide +kernel
theorem d_Mo_enterCall_292 : decode b_Mo_enterCall 292 = .ok (.getfield 129, 3) := by decide +kernel
theorem d_Mo_enterCall_295 : decode b_Mo_enterCall 295 = .ok (.iload 4, 2) := by decide +kernel
theorem d_Mo_enterCall_297 : decode b_Mo_enterCall 297 = .ok (.iaload, 1) := by decide +kernel
theorem d_Mo_enterCall_298 : decode b_Mo_enterCall 298 = .ok (.iastore, 1) := by decide +kernel
theorem d_Mo_enterCall_299 : decode b_Mo_enterCall 299 = .ok (.aload_n 0, 1) := by decide +kernel
theorem d_Mo_enterCall_300 : decode b_Mo_enterCall 300 = .ok (.getfield 93, 3) := by decide +kernel
theorem d_Mo_enterCall_303 : decode b_Mo_enterCall 303 = .ok (.iload 5, 2) := by decide +kernel
theorem d_Mo_enterCall_305 : decode b_Mo_enterCall 305 = .ok (.aload_n 0, 1) := by decide +kernel
theorem d_Mo_enterCall_306 : decode b_Mo_enterCall 306 = .ok (.getfield 129, 3) := by decide +kernel
theorem d_Mo_enterCall_309 : decode b_Mo_enterCall 309 = .ok (.iload 4, 2) := by decide +kernel
theorem d_Mo_enterCall_311 : decode b_Mo_enterCall 311 = .ok (.iaload, 1) := by decide +kernel
theorem d_Mo_enterCall_312 : decode b_Mo_enterCall 312 = .ok (.iastore, 1) := by decide +kernel
theorem d_Mo_enterCall_313 : decode b_Mo_enterCall 313 = .ok (.iinc 4 1, 3) := by decide +kernel
theorem d_Mo_enterCall_316 : decode b_Mo_enterCall 316 = .ok (.goto (-57), 3) := by decide +kernel
theorem d_Mo_enterCall_319 : decode b_Mo_enterCall 319 = .ok (.aload_n 0, 1) := by decide +kernel
theorem d_Mo_enterCall_320 : decode b_Mo_enterCall 320 = .ok (.aload_n 0, 1) := by decide +kernel
theorem d_Mo_enterCall_321 : decode b_Mo_enterCall 321 = .ok (.getfield 81, 3) := by decide +kernel
theorem d_Mo_enterCall_324 : decode b_Mo_enterCall 324 = .ok (.aload_n 0, 1) := by decide +kernel
theorem d_Mo_enterCall_325 : decode b_Mo_enterCall 325 = .ok (.getfield 75, 3) := by decide +kernel
theorem d_Mo_enterCall_328 : decode b_Mo_enterCall 328 = .ok (.iload_n 1, 1) := by decide +kernel
theorem d_Mo_enterCall_329 : decode b_Mo_enterCall 329 = .ok (.iaload, 1) := by decide +kernel
theorem d_Mo_enterCall_330 : decode b_Mo_enterCall 330 = .ok (.iaload, 1) := by decide +kernel
theorem d_Mo_enterCall_331 : decode b_Mo_enterCall 331 = .ok (.putfield 300, 3) := by decide +kernel
theorem d_Mo_enterCall_334 : decode b_Mo_enterCall 334 = .ok (.return_, 1) := by decide +kernel
theorem d_Mo_write_0 : decode b_Mo_write 0 = .ok (.aload_n 0, 1) := by decide +kernel
theorem d_Mo_write_1 : decode b_Mo_write 1 = .ok (.getfield 324, 3) := by decide +kernel
theorem d_Mo_write_4 : decode b_Mo_write 4 = .ok (.bipush 32, 2) := by decide +kernel
theorem d_Mo_write_6 : decode b_Mo_write 6 = .ok (.if_icmp .ne 14, 3) := by decide +kernel
theorem d_Mo_write_9 : decode b_Mo_write 9 = .ok (.aload_n 0, 1) := by decide +kernel
theorem d_Mo_write_10 : decode b_Mo_write 10 = .ok (.dup, 1) := by decide +kernel
theorem d_Mo_write_11 : decode b_Mo_write 11 = .ok (.getfield 327, 3) := by decide +kernel
theorem d_Mo_write_14 : decode b_Mo_write 14 = .ok (.iconst 1, 1) := by decide +kernel
theorem d_Mo_write_15 : decode b_Mo_write 15 = .ok (.iadd, 1) := by decide +kernel
theorem d_Mo_write_16 : decode b_Mo_write 16 = .ok (.putfield 327, 3) := by decide +kernel
theorem d_Mo_write_19 : decode b_Mo_write 19 = .ok (.return_, 1) := by decide +kernel
theorem d_Mo_write_20 : decode b_Mo_write 20 = .ok (.aload_n 0, 1) := by decide +kernel
theorem d_Mo_write_21 : decode b_Mo_write 21 = .ok (.getfield 114, 3) := by decide +kernel
theorem d_Mo_write_24 : decode b_Mo_write 24 = .ok (.aload_n 0, 1) := by decide +kernel
theorem d_Mo_write_25 : decode b_Mo_write 25 = .ok (.getfield 324, 3) := by decide +kernel
theorem d_Mo_write_28 : decode b_Mo_write 28 = .ok (.iload_n 1, 1) := by decide +kernel
theorem d_Mo_write_29 : decode b_Mo_write 29 = .ok (.iastore, 1) := by decide +kernel
theorem d_Mo_write_30 : decode b_Mo_write 30 = .ok (.aload_n 0, 1) := by decide +kernel
theorem d_Mo_write_31 : decode b_Mo_write 31 = .ok (.dup, 1) := by decide +kernel
theorem d_Mo_write_32 : decode b_Mo_write 32 = .ok (.getfield 324, 3) := by decide +kernel
theorem d_Mo_write_35 : decode b_Mo_write 35 = .ok (.iconst 1, 1) := by decide +kernel
theorem d_Mo_write_36 : decode b_Mo_write 36 = .ok (.iadd, 1) := by decide +kernel
theorem d_Mo_write_37 : decode b_Mo_write 37 = .ok (.putfield 324, 3) := by decide +kernel
theorem d_Mo_write_40 : decode b_Mo_write 40 = .ok (.return_, 1) := by decide +kernel
theorem d_Mo_test_0 : decode b_Mo_test 0 = .ok (.aload_n 0, 1) := by decide +kernel
theorem d_Mo_test_1 : decode b_Mo_test 1 = .ok (.invokevirtual 330, 3) := by decide +kernel
theorem d_Mo_test_4 : decode b_Mo_test 4 = .ok (.aload_n 0, 1) := by decide +kernel
theorem d_Mo_test_5 : decode b_Mo_test 5 = .ok (.getfield 297, 3) := by decide +kernel
theorem d_Mo_test_8 : decode b_Mo_test 8 = .ok (.ifCond .eq 4, 3) := by decide +kernel
theorem d_Mo_test_11 : decode b_Mo_test 11 = .ok (.return_, 1) := by decide +kernel
theorem d_Mo_test_12 : decode b_Mo_test 12 = .ok (.aload_n 0, 1) := by decide +kernel
theorem d_Mo_test_13 : decode b_Mo_test 13 = .ok (.iload_n 1, 1) := by decide +kernel
theorem d_Mo_test_14 : decode b_Mo_test 14 = .ok (.iconst 1, 1) := by decide +kernel
theorem d_Mo_test_15 : decode b_Mo_test 15 = .ok (.iadd, 1) := by decide +kernel
theorem d_Mo_test_16 : decode b_Mo_test 16 = .ok (.putfield 300, 3) := by decide +kernel
theorem d_Mo_test_19 : decode b_Mo_test 19 = .ok (.aload_n 0, 1) := by decide +kernel
theorem d_Mo_test_20 : decode b_Mo_test 20 = .ok (.invokevirtual 333, 3) := by decide +kernel
theorem d_Mo_test_23 : decode b_Mo_test 23 = .ok (.istore_n 2, 1) := by decide +kernel
theorem d_Mo_test_24 : decode b_Mo_test 24 = .ok (.aload_n 0, 1) := by decide +kernel
theorem d_Mo_test_25 : decode b_Mo_test 25 = .ok (.getfield 297, 3) := by decide +kernel
theorem d_Mo_test_28 : decode b_Mo_test 28 = .ok (.ifCond .eq 4, 3) := by decide +kernel
theorem d_Mo_test_31 : decode b_Mo_test 31 = .ok (.return_, 1) := by decide +kernel
theorem d_Mo_test_32 : decode b_Mo_test 32 = .ok (.aload_n 0, 1) := by decide +kernel
theorem d_Mo_test_33 : decode b_Mo_test 33 = .ok (.dup, 1) := by decide +kernel
theorem d_Mo_test_34 : decode b_Mo_test 34 = .ok (.getfield 300, 3) := by decide +kernel
theorem d_Mo_test_37 : decode b_Mo_test 37 = .ok (.iconst 1, 1) := by decide +kernel
theorem d_Mo_test_38 : decode b_Mo_test 38 = .ok (.iadd, 1) := by decide +kernel
theorem d_Mo_test_39 : decode b_Mo_test 39 = .ok (.putfield 300, 3) := by decide +kernel
theorem d_Mo_test_42 : decode b_Mo_test 42 = .ok (.iload_n 2, 1) := by decide +kernel
theorem d_Mo_test_43 : decode b_Mo_test 43 = .ok (.ifCond .eq 17, 3) := by decide +kernel
theorem d_Mo_test_46 : decode b_Mo_test 46 = .ok (.aload_n 0, 1) := by decide +kernel
theorem d_Mo_test_47 : decode b_Mo_test 47 = .ok (.aload_n 0, 1) := by decide +kernel
theorem d_Mo_test_48 : decode b_Mo_test 48 = .ok (.getfield 32, 3) := by decide +kernel
theorem d_Mo_test_51 : decode b_Mo_test 51 = .ok (.iload_n 1, 1) := by decide +kernel
theorem d_Mo_test_52 : decode b_Mo_test 52 = .ok (.iaload, 1) := by decide +kernel
theorem d_Mo_test_53 : decode b_Mo_test 53 = .ok (.iload_n 1, 1) := by decide +kernel
theorem d_Mo_test_54 : decode b_Mo_test 54 = .ok (.invokevirtual 336, 3) := by decide +kernel
theorem d_Mo_test_57 : decode b_Mo_test 57 = .ok (.goto 71, 3) := by decide +kernel
theorem d_Mo_test_60 : decode b_Mo_test 60 = .ok (.aload_n 0, 1) := by decide +kernel
theorem d_Mo_test_61 : decode b_Mo_test 61 = .ok (.getfield 32, 3) := by decide +kernel
theorem d_Mo_test_64 : decode b_Mo_test 64 = .ok (.iload_n 1, 1) := by decide +kernel
theorem d_Mo_test_65 : decode b_Mo_test 65 = .ok (.iaload, 1) := by decide +kernel
theorem d_Mo_test_66 : decode b_Mo_test 66 = .ok (.bipush 7, 2) := by decide +kernel
theorem d_Mo_test_68 : decode b_Mo_test 68 = .ok (.if_icmp .ne 46, 3) := by decide +kernel
theorem d_Mo_test_71 : decode b_Mo_test 71 = .ok (.aload_n 0, 1) := by decide +kernel
theorem d_Mo_test_72 : decode b_Mo_test 72 = .ok (.getfield 32, 3) := by decide +kernel
theorem d_Mo_test_75 : decode b_Mo_test 75 = .ok (.aload_n 0, 1) := by decide +kernel
theorem d_Mo_test_76 : decode b_Mo_test 76 = .ok (.getfield 41, 3) := by decide +kernel
theorem d_Mo_test_79 : decode b_Mo_test 79 = .ok (.iload_n 1, 1) := by decide +kernel
theorem d_Mo_test_80 : decode b_Mo_test 80 = .ok (.iaload, 1) := by decide +kernel
theorem d_Mo_test_81 : decode b_Mo_test 81 = .ok (.iaload, 1) := by decide +kernel
theorem d_Mo_test_82 : decode b_Mo_test 82 = .ok (.bipush 9, 2) := by decide +kernel
theorem d_Mo_test_84 : decode b_Mo_test 84 = .ok (.if_icmp .ne 30, 3) := by decide +kernel
theorem d_Mo_test_87 : decode b_Mo_test 87 = .ok (.aload_n 0, 1) := by decide +kernel
theorem d_Mo_test_88 : decode b_Mo_test 88 = .ok (.bipush 9, 2) := by decide +kernel
theorem d_Mo_test_90 : decode b_Mo_test 90 = .ok (.aload_n 0, 1) := by decide +kernel
theorem d_Mo_test_91 : decode b_Mo_test 91 = .ok (.getfield 41, 3) := by decide +kernel
theorem d_Mo_test_94 : decode b_Mo_test 94 = .ok (.iload_n 1, 1) := by decide +kernel
theorem d_Mo_test_95 : decode b_Mo_test 95 = .ok (.iaload, 1) := by decide +kernel
theorem d_Mo_test_96 : decode b_Mo_test 96 = .ok (.invokevirtual 336, 3) := by decide +kernel
theorem d_Mo_test_99 : decode b_Mo_test 99 = .ok (.aload_n 0, 1) := by decide +kernel
theorem d_Mo_test_100 : decode b_Mo_test 100 = .ok (.aload_n 0, 1) := by decide +kernel
theorem d_Mo_test_101 : decode b_Mo_test 101 = .ok (.getfield 41, 3) := by decide +kernel
theorem d_Mo_test_104 : decode b_Mo_test 104 = .ok (.iload_n 1, 1) := by decide +kernel
theorem d_Mo_test_105 : decode b_Mo_test 105 = .ok (.iaload, 1) := by decide +kernel
theorem d_Mo_test_106 : decode b_Mo_test 106 = .ok (.iconst 1, 1) := by decide +kernel
theorem d_Mo_test_107 : decode b_Mo_test 107 = .ok (.iadd, 1) := by decide +kernel
theorem d_Mo_test_108 : decode b_Mo_test 108 = .ok (.putfield 300, 3) := by decide +kernel
theorem d_Mo_test_111 : decode b_Mo_test 111 = .ok (.goto 17, 3) := by decide +kernel
theorem d_Mo_test_114 : decode b_Mo_test 114 = .ok (.aload_n 0, 1) := by decide +kernel
theorem d_Mo_test_115 : decode b_Mo_test 115 = .ok (.aload_n 0, 1) := by decide +kernel
theorem d_Mo_test_116 : decode b_Mo_test 116 = .ok (.getfield 41, 3) := by decide +kernel
theorem d_Mo_test_119 : decode b_Mo_test 119 = .ok (.iload_n 1, 1) := by decide +kernel
theorem d_Mo_test_120 : decode b_Mo_test 120 = .ok (.iaload, 1) := by decide +kernel
theorem d_Mo_test_121 : decode b_Mo_test 121 = .ok (.putfield 300, 3) := by decide +kernel
theorem d_Mo_test_124 : decode b_Mo_test 124 = .ok (.aload_n 0, 1) := by decide +kernel
theorem d_Mo_test_125 : decode b_Mo_test 125 = .ok (.invokevirtual 339, 3) := by decide +kernel
theorem d_Mo_test_128 : decode b_Mo_test 128 = .ok (.return_, 1) := by decide +kernel
theorem d_Mo_over_0 : decode b_Mo_over 0 = .ok (.iconst 1, 1) := by decide +kernel
theorem d_Mo_over_1 : decode b_Mo_over 1 = .ok (.istore_n 1, 1) := by decide +kernel
theorem d_Mo_over_2 : decode b_Mo_over 2 = .ok (.iload_n 1, 1) := by decide +kernel
theorem d_Mo_over_3 : decode b_Mo_over 3 = .ok (.ifCond .eq 229, 3) := by decide +kernel
theorem d_Mo_over_6 : decode b_Mo_over 6 = .ok (.aload_n 0, 1) := by decide +kernel
theorem d_Mo_over_7 : decode b_Mo_over 7 = .ok (.getfield 288, 3) := by decide +kernel
theorem d_Mo_over_10 : decode b_Mo_over 10 = .ok (.ifCond .lt 222, 3) := by decide +kernel
theorem d_Mo_over_13 : decode b_Mo_over 13 = .ok (.aload_n 0, 1) := by decide +kernel
theorem d_Mo_over_14 : decode b_Mo_over 14 = .ok (.getfield 288, 3) := by decide +kernel
theorem d_Mo_over_17 : decode b_Mo_over 17 = .ok (.istore_n 2, 1) := by decide +kernel
theorem d_Mo_over_18 : decode b_Mo_over 18 = .ok (.aload_n 0, 1) := by decide +kernel
theorem d_Mo_over_19 : decode b_Mo_over 19 = .ok (.getfield 105, 3) := by decide +kernel
theorem d_Mo_over_22 : decode b_Mo_over 22 = .ok (.iload_n 2, 1) := by decide +kernel
theorem d_Mo_over_23 : decode b_Mo_over 23 = .ok (.iaload, 1) := by decide +kernel
theorem d_Mo_over_24 : decode b_Mo_over 24 = .ok (.ifCond .ne 51, 3) := by decide +kernel
theorem d_Mo_over_27 : decode b_Mo_over 27 = .ok (.aload_n 0, 1) := by decide +kernel
theorem d_Mo_over_28 : decode b_Mo_over 28 = .ok (.getfield 32, 3) := by decide +kernel
theorem d_Mo_over_31 : decode b_Mo_over 31 = .ok (.aload_n 0, 1) := by decide +kernel
theorem d_Mo_over_32 : decode b_Mo_over 32 = .ok (.getfield 300, 3) := by decide +kernel
theorem d_Mo_over_35 : decode b_Mo_over 35 = .ok (.iaload, 1) := by decide +kernel
theorem d_Mo_over_36 : decode b_Mo_over 36 = .ok (.bipush 59, 2) := by decide +kernel
theorem d_Mo_over_38 : decode b_Mo_over 38 = .ok (.if_icmp .ne 14, 3) := by decide +kernel
theorem d_Mo_over_41 : decode b_Mo_over 41 = .ok (.aload_n 0, 1) := by decide +kernel
theorem d_Mo_over_42 : decode b_Mo_over 42 = .ok (.dup, 1) := by decide +kernel
theorem d_Mo_over_43 : decode b_Mo_over 43 = .ok (.getfield 300, 3) := by decide +kernel
theorem d_Mo_over_46 : decode b_Mo_over 46 = .ok (.iconst 1, 1) := by decide +kernel
theorem d_Mo_over_47 : decode b_Mo_over 47 = .ok (.iadd, 1) := by decide +kernel
theorem d_Mo_over_48 : decode b_Mo_over 48 = .ok (.putfield 300, 3) := by decide +kernel
theorem d_Mo_over_51 : decode b_Mo_over 51 = .ok (.return_, 1) := by decide +kernel
theorem d_Mo_over_52 : decode b_Mo_over 52 = .ok (.aload_n 0, 1) := by decide +kernel
theorem d_Mo_over_53 : decode b_Mo_over 53 = .ok (.aload_n 0, 1) := by decide +kernel
theorem d_Mo_over_54 : decode b_Mo_over 54 = .ok (.getfield 102, 3) := by decide +kernel
theorem d_Mo_over_57 : decode b_Mo_over 57 = .ok (.iload_n 2, 1) := by decide +kernel
theorem d_Mo_over_58 : decode b_Mo_over 58 = .ok (.iaload, 1) := by decide +kernel
theorem d_Mo_over_59 : decode b_Mo_over 59 = .ok (.putfield 300, 3) := by decide +kernel
theorem d_Mo_over_62 : decode b_Mo_over 62 = .ok (.aload_n 0, 1) := by decide +kernel
theorem d_Mo_over_63 : decode b_Mo_over 63 = .ok (.dup, 1) := by decide +kernel
theorem d_Mo_over_64 : decode b_Mo_over 64 = .ok (.getfield 288, 3) := by decide +kernel
theorem d_Mo_over_67 : decode b_Mo_over 67 = .ok (.iconst 1, 1) := by decide +kernel
theorem d_Mo_over_68 : decode b_Mo_over 68 = .ok (.isub, 1) := by decide +kernel
theorem d_Mo_over_69 : decode b_Mo_over 69 = .ok (.putfield 288, 3) := by decide +kernel
theorem d_Mo_over_72 : decode b_Mo_over 72 = .ok (.goto (-70), 3) := by decide +kernel
theorem d_Mo_over_75 : decode b_Mo_over 75 = .ok (.aload_n 0, 1) := by decide +kernel
theorem d_Mo_over_76 : decode b_Mo_over 76 = .ok (.getfield 108, 3) := by decide +kernel
theorem d_Mo_over_79 : decode b_Mo_over 79 = .ok (.bipush 10, 2) := by decide +kernel
theorem d_Mo_over_81 : decode b_Mo_over 81 = .ok (.iload_n 2, 1) := by decide +kernel
theorem d_Mo_over_82 : decode b_Mo_over 82 = .ok (.imul, 1) := by decide +kernel
theorem d_Mo_over_83 : decode b_Mo_over 83 = .ok (.aload_n 0, 1) := by decide +kernel
theorem d_Mo_over_84 : decode b_Mo_over 84 = .ok (.getfield 105, 3) := by decide +kernel
theorem d_Mo_over_87 : decode b_Mo_over 87 = .ok (.iload_n 2, 1) := by decide +kernel
theorem d_Mo_over_88 : decode b_Mo_over 88 = .ok (.iaload, 1) := by decide +kernel
theorem d_Mo_over_89 : decode b_Mo_over 89 = .ok (.iadd, 1) := by decide +kernel
theorem d_Mo_over_90 : decode b_Mo_over 90 = .ok (.iconst 1, 1) := by decide +kernel
theorem d_Mo_over_91 : decode b_Mo_over 91 = .ok (.isub, 1) := by decide +kernel
theorem d_Mo_over_92 : decode b_Mo_over 92 = .ok (.iaload, 1) := by decide +kernel
theorem d_Mo_over_93 : decode b_Mo_over 93 = .ok (.istore_n 3, 1) := by decide +kernel
theorem d_Mo_over_94 : decode b_Mo_over 94 = .ok (.aload_n 0, 1) := by decide +kernel
theorem d_Mo_over_95 : decode b_Mo_over 95 = .ok (.getfield 111, 3) := by decide +kernel
theorem d_Mo_over_98 : decode b_Mo_over 98 = .ok (.bipush 10, 2) := by decide +kernel
theorem d_Mo_over_100 : decode b_Mo_over 100 = .ok (.iload_n 2, 1) := by decide +kernel
theorem d_Mo_over_101 : decode b_Mo_over 101 = .ok (.imul, 1) := by decide +kernel
theorem d_Mo_over_102 : decode b_Mo_over 102 = .ok (.aload_n 0, 1) := by decide +kernel
theorem d_Mo_over_103 : decode b_Mo_over 103 = .ok (.getfield 105, 3) := by decide +kernel
theorem d_Mo_over_106 : decode b_Mo_over 106 = .ok (.iload_n 2, 1) := by decide +kernel
theorem d_Mo_over_107 : decode b_Mo_over 107 = .ok (.iaload, 1) := by decide +kernel
theorem d_Mo_over_108 : decode b_Mo_over 108 = .ok (.iadd, 1) := by decide +kernel
theorem d_Mo_over_109 : decode b_Mo_over 109 = .ok (.iconst 1, 1) := by decide +kernel
theorem d_Mo_over_110 : decode b_Mo_over 110 = .ok (.isub, 1) := by decide +kernel
theorem d_Mo_over_111 : decode b_Mo_over 111 = .ok (.iaload, 1) := by decide +kernel
theorem d_Mo_over_112 : decode b_Mo_over 112 = .ok (.istore 4, 2) := by decide +kernel
theorem d_Mo_over_114 : decode b_Mo_over 114 = .ok (.iload_n 3, 1) := by decide +kernel
theorem d_Mo_over_115 : decode b_Mo_over 115 = .ok (.iconst 5, 1) := by decide +kernel
theorem d_Mo_over_116 : decode b_Mo_over 116 = .ok (.if_icmp .ne 28, 3) := by decide +kernel
theorem d_Mo_over_119 : decode b_Mo_over 119 = .ok (.aload_n 0, 1) := by decide +kernel
theorem d_Mo_over_120 : decode b_Mo_over 120 = .ok (.getfield 32, 3) := by decide +kernel
theorem d_Mo_over_123 : decode b_Mo_over 123 = .ok (.aload_n 0, 1) := by decide +kernel
theorem d_Mo_over_124 : decode b_Mo_over 124 = .ok (.getfield 300, 3) := by decide +kernel
theorem d_Mo_over_127 : decode b_Mo_over 127 = .ok (.iaload, 1) := by decide +kernel
theorem d_Mo_over_128 : decode b_Mo_over 128 = .ok (.bipush 59, 2) := by decide +kernel
theorem d_Mo_over_130 : decode b_Mo_over 130 = .ok (.if_icmp .ne 14, 3) := by decide +kernel
theorem d_Mo_over_133 : decode b_Mo_over 133 = .ok (.aload_n 0, 1) := by decide +kernel
theorem d_Mo_over_134 : decode b_Mo_over 134 = .ok (.dup, 1) := by decide +kernel
theorem d_Mo_over_135 : decode b_Mo_over 135 = .ok (.getfield 300, 3) := by decide +kernel
theorem d_Mo_over_138 : decode b_Mo_over 138 = .ok (.iconst 1, 1) := by decide +kernel
theorem d_Mo_over_139 : decode b_Mo_over 139 = .ok (.iadd, 1) := by decide +kernel
theorem d_Mo_over_140 : decode b_Mo_over 140 = .ok (.putfield 300, 3) := by decide +kernel
theorem d_Mo_over_143 : decode b_Mo_over 143 = .ok (.return_, 1) := by decide +kernel
theorem d_Mo_over_144 : decode b_Mo_over 144 = .ok (.aload_n 0, 1) := by decide +kernel
theorem d_Mo_over_145 : decode b_Mo_over 145 = .ok (.getfield 105, 3) := by decide +kernel
theorem d_Mo_over_148 : decode b_Mo_over 148 = .ok (.iload_n 2, 1) := by decide +kernel
theorem d_Mo_over_149 : decode b_Mo_over 149 = .ok (.dup2, 1) := by decide +kernel
theorem d_Mo_over_150 : decode b_Mo_over 150 = .ok (.iaload, 1) := by decide +kernel
theorem d_Mo_over_151 : decode b_Mo_over 151 = .ok (.iconst 1, 1) := by decide +kernel
theorem d_Mo_over_152 : decode b_Mo_over 152 = .ok (.isub, 1) := by decide +kernel
theorem d_Mo_over_153 : decode b_Mo_over 153 = .ok (.iastore, 1) := by decide +kernel
theorem d_Mo_over_154 : decode b_Mo_over 154 = .ok (.iload_n 3, 1) := by decide +kernel
theorem d_Mo_over_155 : decode b_Mo_over 155 = .ok (.bipush 10, 2) := by decide +kernel
theorem d_Mo_over_157 : decode b_Mo_over 157 = .ok (.if_icmp .ne 10, 3) := by decide +kernel
theorem d_Mo_over_160 : decode b_Mo_over 160 = .ok (.aload_n 0, 1) := by decide +kernel
theorem d_Mo_over_161 : decode b_Mo_over 161 = .ok (.iload 4, 2) := by decide +kernel
theorem d_Mo_over_163 : decode b_Mo_over 163 = .ok (.putfield 300, 3) := by decide +kernel
theorem d_Mo_over_166 : decode b_Mo_over 166 = .ok (.return_, 1) := by decide +kernel
theorem d_Mo_over_167 : decode b_Mo_over 167 = .ok (.iload_n 3, 1) := by decide +kernel
theorem d_Mo_over_168 : decode b_Mo_over 168 = .ok (.iconst 5, 1) := by decide +kernel
theorem d_Mo_over_169 : decode b_Mo_over 169 = .ok (.if_icmp .ne 13, 3) := by decide +kernel
theorem d_Mo_over_172 : decode b_Mo_over 172 = .ok (.aload_n 0, 1) := by decide +kernel
theorem d_Mo_over_173 : decode b_Mo_over 173 = .ok (.dup, 1) := by decide +kernel
theorem d_Mo_over_174 : decode b_Mo_over 174 = .ok (.getfield 300, 3) := by decide +kernel
theorem d_Mo_over_177 : decode b_Mo_over 177 = .ok (.iconst 1, 1) := by decide +kernel
theorem d_Mo_over_178 : decode b_Mo_over 178 = .ok (.iadd, 1) := by decide +kernel
theorem d_Mo_over_179 : decode b_Mo_over 179 = .ok (.putfield 300, 3) := by decide +kernel
theorem d_Mo_over_182 : decode b_Mo_over 182 = .ok (.iload_n 3, 1) := by decide +kernel
theorem d_Mo_over_183 : decode b_Mo_over 183 = .ok (.bipush 7, 2) := by decide +kernel
theorem d_Mo_over_185 : decode b_Mo_over 185 = .ok (.if_icmp .ne 44, 3) := by decide +kernel
theorem d_Mo_over_188 : decode b_Mo_over 188 = .ok (.aload_n 0, 1) := by decide +kernel
theorem d_Mo_over_189 : decode b_Mo_over 189 = .ok (.getfield 32, 3) := by decide +kernel
theorem d_Mo_over_192 : decode b_Mo_over 192 = .ok (.aload_n 0, 1) := by decide +kernel
theorem d_Mo_over_193 : decode b_Mo_over 193 = .ok (.getfield 300, 3) := by decide +kernel
theorem d_Mo_over_196 : decode b_Mo_over 196 = .ok (.iaload, 1) := by decide +kernel
theorem d_Mo_over_197 : decode b_Mo_over 197 = .ok (.bipush 9, 2) := by decide +kernel
theorem d_Mo_over_199 : decode b_Mo_over 199 = .ok (.if_icmp .ne 30, 3) := by decide +kernel
theorem d_Mo_over_202 : decode b_Mo_over 202 = .ok (.aload_n 0, 1) := by decide +kernel
theorem d_Mo_over_203 : decode b_Mo_over 203 = .ok (.getfield 41, 3) := by decide +kernel
theorem d_Mo_over_206 : decode b_Mo_over 206 = .ok (.iload 4, 2) := by decide +kernel
theorem d_Mo_over_208 : decode b_Mo_over 208 = .ok (.iaload, 1) := by decide +kernel
theorem d_Mo_over_209 : decode b_Mo_over 209 = .ok (.aload_n 0, 1) := by decide +kernel
theorem d_Mo_over_210 : decode b_Mo_over 210 = .ok (.getfield 300, 3) := by decide +kernel
theorem d_Mo_over_213 : decode b_Mo_over 213 = .ok (.if_icmp .ne 16, 3) := by decide +kernel
theorem d_Mo_over_216 : decode b_Mo_over 216 = .ok (.aload_n 0, 1) := by decide +kernel
theorem d_Mo_over_217 : decode b_Mo_over 217 = .ok (.aload_n 0, 1) := by decide +kernel
theorem d_Mo_over_218 : decode b_Mo_over 218 = .ok (.getfield 41, 3) := by decide +kernel
theorem d_Mo_over_221 : decode b_Mo_over 221 = .ok (.aload_n 0, 1) := by decide +kernel
theorem d_Mo_over_222 : decode b_Mo_over 222 = .ok (.getfield 300, 3) := by decide +kernel
theorem d_Mo_over_225 : decode b_Mo_over 225 = .ok (.iaload, 1) := by decide +kernel
theorem d_Mo_over_226 : decode b_Mo_over 226 = .ok (.putfield 300, 3) := by decide +kernel
theorem d_Mo_over_229 : decode b_Mo_over 229 = .ok (.goto (-227), 3) := by decide +kernel
theorem d_Mo_over_232 : decode b_Mo_over 232 = .ok (.return_, 1) := by decide +kernel
theorem d_Mo_statement_0 : decode b_Mo_statement 0 = .ok (.aload_n 0, 1) := by decide +kernel
theorem d_Mo_statement_1 : decode b_Mo_statement 1 = .ok (.getfield 300, 3) := by decide +kernel
theorem d_Mo_statement_4 : decode b_Mo_statement 4 = .ok (.istore_n 1, 1) := by decide +kernel
theorem d_Mo_statement_5 : decode b_Mo_statement 5 = .ok (.aload_n 0, 1) := by decide +kernel
theorem d_Mo_statement_6 : decode b_Mo_statement 6 = .ok (.getfield 32, 3) := by decide +kernel
theorem d_Mo_statement_9 : decode b_Mo_statement 9 = .ok (.iload_n 1, 1) := by decide +kernel
theorem d_Mo_statement_10 : decode b_Mo_statement 10 = .ok (.iaload, 1) := by decide +kernel
theorem d_Mo_statement_11 : decode b_Mo_statement 11 = .ok (.tableswitch 222 1 12 #[61, 222, 222, 222, 199, 222, 216, 222, 222, 216, 222, 147], 61) := by decide +kernel
theorem d_Mo_statement_72 : decode b_Mo_statement 72 = .ok (.aload_n 0, 1) := by decide +kernel
theorem d_Mo_statement_73 : decode b_Mo_statement 73 = .ok (.invokevirtual 330, 3) := by decide +kernel
theorem d_Mo_statement_76 : decode b_Mo_statement 76 = .ok (.aload_n 0, 1) := by decide +kernel
theorem d_Mo_statement_77 : decode b_Mo_statement 77 = .ok (.getfield 297, 3) := by decide +kernel
theorem d_Mo_statement_80 : decode b_Mo_statement 80 = .ok (.ifCond .eq 4, 3) := by decide +kernel
theorem d_Mo_statement_83 : decode b_Mo_statement 83 = .ok (.return_, 1) := by decide +kernel
theorem d_Mo_statement_84 : decode b_Mo_statement 84 = .ok (.aload_n 0, 1) := by decide +kernel
theorem d_Mo_statement_85 : decode b_Mo_statement 85 = .ok (.getfield 69, 3) := by decide +kernel
theorem d_Mo_statement_88 : decode b_Mo_statement 88 = .ok (.aload_n 0, 1) := by decide +kernel
theorem d_Mo_statement_89 : decode b_Mo_statement 89 = .ok (.getfield 38, 3) := by decide +kernel
theorem d_Mo_statement_92 : decode b_Mo_statement 92 = .ok (.iload_n 1, 1) := by decide +kernel
theorem d_Mo_statement_93 : decode b_Mo_statement 93 = .ok (.iaload, 1) := by decide +kernel
theorem d_Mo_statement_94 : decode b_Mo_statement 94 = .ok (.iaload, 1) := by decide +kernel
theorem d_Mo_statement_95 : decode b_Mo_statement 95 = .ok (.iconst 3, 1) := by decide +kernel
theorem d_Mo_statement_96 : decode b_Mo_statement 96 = .ok (.if_icmp .ne 21, 3) := by decide +kernel
theorem d_Mo_statement_99 : decode b_Mo_statement 99 = .ok (.aload_n 0, 1) := by decide +kernel
theorem d_Mo_statement_100 : decode b_Mo_statement 100 = .ok (.iload_n 1, 1) := by decide +kernel
theorem d_Mo_statement_101 : decode b_Mo_statement 101 = .ok (.iconst 1, 1) := by decide +kernel
theorem d_Mo_statement_102 : decode b_Mo_statement 102 = .ok (.iadd, 1) := by decide +kernel
theorem d_Mo_statement_103 : decode b_Mo_statement 103 = .ok (.putfield 300, 3) := by decide +kernel
theorem d_Mo_statement_106 : decode b_Mo_statement 106 = .ok (.aload_n 0, 1) := by decide +kernel
theorem d_Mo_statement_107 : decode b_Mo_statement 107 = .ok (.aload_n 0, 1) := by decide +kernel
theorem d_Mo_statement_108 : decode b_Mo_statement 108 = .ok (.getfield 38, 3) := by decide +kernel
theorem d_Mo_statement_111 : decode b_Mo_statement 111 = .ok (.iload_n 1, 1) := by decide +kernel
theorem d_Mo_statement_112 : decode b_Mo_statement 112 = .ok (.iaload, 1) := by decide +kernel
theorem d_Mo_statement_113 : decode b_Mo_statement 113 = .ok (.invokevirtual 342, 3) := by decide +kernel
theorem d_Mo_statement_116 : decode b_Mo_statement 116 = .ok (.return_, 1) := by decide +kernel
theorem d_Mo_statement_117 : decode b_Mo_statement 117 = .ok (.aload_n 0, 1) := by decide +kernel
theorem d_Mo_statement_118 : decode b_Mo_statement 118 = .ok (.iload_n 1, 1) := by decide +kernel
theorem d_Mo_statement_119 : decode b_Mo_statement 119 = .ok (.iconst 2, 1) := by decide +kernel
theorem d_Mo_statement_120 : decode b_Mo_statement 120 = .ok (.iadd, 1) := by decide +kernel
theorem d_Mo_statement_121 : decode b_Mo_statement 121 = .ok (.putfield 300, 3) := by decide +kernel
theorem d_Mo_statement_124 : decode b_Mo_statement 124 = .ok (.aload_n 0, 1) := by decide +kernel
theorem d_Mo_statement_125 : decode b_Mo_statement 125 = .ok (.invokevirtual 318, 3) := by decide +kernel
theorem d_Mo_statement_128 : decode b_Mo_statement 128 = .ok (.istore_n 2, 1) := by decide +kernel
theorem d_Mo_statement_129 : decode b_Mo_statement 129 = .ok (.aload_n 0, 1) := by decide +kernel
theorem d_Mo_statement_130 : decode b_Mo_statement 130 = .ok (.getfield 297, 3) := by decide +kernel
theorem d_Mo_statement_133 : decode b_Mo_statement 133 = .ok (.ifCond .eq 4, 3) := by decide +kernel
theorem d_Mo_statement_136 : decode b_Mo_statement 136 = .ok (.return_, 1) := by decide +kernel
theorem d_Mo_statement_137 : decode b_Mo_statement 137 = .ok (.aload_n 0, 1) := by decide +kernel
theorem d_Mo_statement_138 : decode b_Mo_statement 138 = .ok (.getfield 90, 3) := by decide +kernel
theorem d_Mo_statement_141 : decode b_Mo_statement 141 = .ok (.aload_n 0, 1) := by decide +kernel
theorem d_Mo_statement_142 : decode b_Mo_statement 142 = .ok (.aload_n 0, 1) := by decide +kernel
theorem d_Mo_statement_143 : decode b_Mo_statement 143 = .ok (.getfield 38, 3) := by decide +kernel
theorem d_Mo_statement_146 : decode b_Mo_statement 146 = .ok (.iload_n 1, 1) := by decide +kernel
theorem d_Mo_statement_147 : decode b_Mo_statement 147 = .ok (.iaload, 1) := by decide +kernel
theorem d_Mo_statement_148 : decode b_Mo_statement 148 = .ok (.invokevirtual 306, 3) := by decide +kernel
theorem d_Mo_statement_151 : decode b_Mo_statement 151 = .ok (.iload_n 2, 1) := by decide +kernel
theorem d_Mo_statement_152 : decode b_Mo_statement 152 = .ok (.iastore, 1) := by decide +kernel
theorem d_Mo_statement_153 : decode b_Mo_statement 153 = .ok (.aload_n 0, 1) := by decide +kernel
theorem d_Mo_statement_154 : decode b_Mo_statement 154 = .ok (.invokevirtual 339, 3) := by decide +kernel
theorem d_Mo_statement_157 : decode b_Mo_statement 157 = .ok (.return_, 1) := by decide +kernel
theorem d_Mo_statement_158 : decode b_Mo_statement 158 = .ok (.aload_n 0, 1) := by decide +kernel
theorem d_Mo_statement_159 : decode b_Mo_statement 159 = .ok (.invokevirtual 330, 3) := by decide +kernel
theorem d_Mo_statement_162 : decode b_Mo_statement 162 = .ok (.aload_n 0, 1) := by decide +kernel
theorem d_Mo_statement_163 : decode b_Mo_statement 163 = .ok (.getfield 297, 3) := by decide +kernel
theorem d_Mo_statement_166 : decode b_Mo_statement 166 = .ok (.ifCond .eq 4, 3) := by decide +kernel
theorem d_Mo_statement_169 : decode b_Mo_statement 169 = .ok (.return_, 1) := by decide +kernel
theorem d_Mo_statement_170 : decode b_Mo_statement 170 = .ok (.aload_n 0, 1) := by decide +kernel
theorem d_Mo_statement_171 : decode b_Mo_statement 171 = .ok (.iload_n 1, 1) := by decide +kernel
theorem d_Mo_statement_172 : decode b_Mo_statement 172 = .ok (.iconst 2, 1) := by decide +kernel
theorem d_Mo_statement_173 : decode b_Mo_statement 173 = .ok (.iadd, 1) := by decide +kernel
theorem d_Mo_statement_174 : decode b_Mo_statement 174 = .ok (.putfield 300, 3) := by decide +kernel
theorem d_Mo_statement_177 : decode b_Mo_statement 177 = .ok (.aload_n 0, 1) := by decide +kernel
theorem d_Mo_statement_178 : decode b_Mo_statement 178 = .ok (.invokevirtual 318, 3) := by decide +kernel
theorem d_Mo_statement_181 : decode b_Mo_statement 181 = .ok (.istore_n 3, 1) := by decide +kernel
theorem d_Mo_statement_182 : decode b_Mo_statement 182 = .ok (.aload_n 0, 1) := by decide +kernel
theorem d_Mo_statement_183 : decode b_Mo_statement 183 = .ok (.getfield 297, 3) := by decide +kernel
theorem d_Mo_statement_186 : decode b_Mo_statement 186 = .ok (.ifCond .eq 4, 3) := by decide +kernel
theorem d_Mo_statement_189 : decode b_Mo_statement 189 = .ok (.return_, 1) := by decide +kernel
theorem d_Mo_statement_190 : decode b_Mo_statement 190 = .ok (.aload_n 0, 1) := by decide +kernel
theorem d_Mo_statement_191 : decode b_Mo_statement 191 = .ok (.iload_n 3, 1) := by decide +kernel
theorem d_Mo_statement_192 : decode b_Mo_statement 192 = .ok (.invokevirtual 345, 3) := by decide +kernel
theorem d_Mo_statement_195 : decode b_Mo_statement 195 = .ok (.aload_n 0, 1) := by decide +kernel
theorem d_Mo_statement_196 : decode b_Mo_statement 196 = .ok (.dup, 1) := by decide +kernel
theorem d_Mo_statement_197 : decode b_Mo_statement 197 = .ok (.getfield 300, 3) := by decide +kernel
theorem d_Mo_statement_200 : decode b_Mo_statement 200 = .ok (.iconst 1, 1) := by decide +kernel
theorem d_Mo_statement_201 : decode b_Mo_statement 201 = .ok (.iadd, 1) := by decide +kernel
theorem d_Mo_statement_202 : decode b_Mo_statement 202 = .ok (.putfield 300, 3) := by decide +kernel
theorem d_Mo_statement_205 : decode b_Mo_statement 205 = .ok (.aload_n 0, 1) := by decide +kernel
theorem d_Mo_statement_206 : decode b_Mo_statement 206 = .ok (.invokevirtual 339, 3) := by decide +kernel
theorem d_Mo_statement_209 : decode b_Mo_statement 209 = .ok (.return_, 1) := by decide +kernel
theorem d_Mo_statement_210 : decode b_Mo_statement 210 = .ok (.aload_n 0, 1) := by decide +kernel
theorem d_Mo_statement_211 : decode b_Mo_statement 211 = .ok (.iconst 5, 1) := by decide +kernel
theorem d_Mo_statement_212 : decode b_Mo_statement 212 = .ok (.iload_n 1, 1) := by decide +kernel
theorem d_Mo_statement_213 : decode b_Mo_statement 213 = .ok (.invokevirtual 336, 3) := by decide +kernel
theorem d_Mo_statement_216 : decode b_Mo_statement 216 = .ok (.aload_n 0, 1) := by decide +kernel
theorem d_Mo_statement_217 : decode b_Mo_statement 217 = .ok (.dup, 1) := by decide +kernel
theorem d_Mo_statement_218 : decode b_Mo_statement 218 = .ok (.getfield 300, 3) := by decide +kernel
theorem d_Mo_statement_221 : decode b_Mo_statement 221 = .ok (.iconst 1, 1) := by decide +kernel
theorem d_Mo_statement_222 : decode b_Mo_statement 222 = .ok (.iadd, 1) := by decide +kernel
theorem d_Mo_statement_223 : decode b_Mo_statement 223 = .ok (.putfield 300, 3) := by decide +kernel
theorem d_Mo_statement_226 : decode b_Mo_statement 226 = .ok (.return_, 1) := by decide +kernel
theorem d_Mo_statement_227 : decode b_Mo_statement 227 = .ok (.aload_n 0, 1) := by decide +kernel
theorem d_Mo_statement_228 : decode b_Mo_statement 228 = .ok (.iload_n 1, 1) := by decide +kernel
theorem d_Mo_statement_229 : decode b_Mo_statement 229 = .ok (.invokevirtual 348, 3) := by decide +kernel
theorem d_Mo_statement_232 : decode b_Mo_statement 232 = .ok (.return_, 1) := by decide +kernel
theorem d_Mo_statement_233 : decode b_Mo_statement 233 = .ok (.aload_n 0, 1) := by decide +kernel
theorem d_Mo_statement_234 : decode b_Mo_statement 234 = .ok (.invokevirtual 339, 3) := by decide +kernel
theorem d_Mo_statement_237 : decode b_Mo_statement 237 = .ok (.return_, 1) := by decide +kernel
theorem d_Mo_run_0 : decode b_Mo_run 0 = .ok (.aload_n 0, 1) := by decide +kernel
theorem d_Mo_run_1 : decode b_Mo_run 1 = .ok (.iconst 0, 1) := by decide +kernel
theorem d_Mo_run_2 : decode b_Mo_run 2 = .ok (.putfield 132, 3) := by decide +kernel
theorem d_Mo_run_5 : decode b_Mo_run 5 = .ok (.aload_n 0, 1) := by decide +kernel
theorem d_Mo_run_6 : decode b_Mo_run 6 = .ok (.getfield 284, 3) := by decide +kernel
theorem d_Mo_run_9 : decode b_Mo_run 9 = .ok (.ifCond .ne 9, 3) := by decide +kernel
theorem d_Mo_run_12 : decode b_Mo_run 12 = .ok (.aload_n 0, 1) := by decide +kernel
theorem d_Mo_run_13 : decode b_Mo_run 13 = .ok (.iconst 1, 1) := by decide +kernel
theorem d_Mo_run_14 : decode b_Mo_run 14 = .ok (.invokevirtual 135, 3) := by decide +kernel
theorem d_Mo_run_17 : decode b_Mo_run 17 = .ok (.ireturn, 1) := by decide +kernel
theorem d_Mo_run_18 : decode b_Mo_run 18 = .ok (.aload_n 0, 1) := by decide +kernel
theorem d_Mo_run_19 : decode b_Mo_run 19 = .ok (.iconst 0, 1) := by decide +kernel
theorem d_Mo_run_20 : decode b_Mo_run 20 = .ok (.putfield 315, 3) := by decide +kernel
theorem d_Mo_run_23 : decode b_Mo_run 23 = .ok (.aload_n 0, 1) := by decide +kernel
theorem d_Mo_run_24 : decode b_Mo_run 24 = .ok (.iconst 0, 1) := by decide +kernel
theorem d_Mo_run_25 : decode b_Mo_run 25 = .ok (.putfield 321, 3) := by decide +kernel
theorem d_Mo_run_28 : decode b_Mo_run 28 = .ok (.aload_n 0, 1) := by decide +kernel
theorem d_Mo_run_29 : decode b_Mo_run 29 = .ok (.iconst 0, 1) := by decide +kernel
theorem d_Mo_run_30 : decode b_Mo_run 30 = .ok (.putfield 327, 3) := by decide +kernel
theorem d_Mo_run_33 : decode b_Mo_run 33 = .ok (.aload_n 0, 1) := by decide +kernel
theorem d_Mo_run_34 : decode b_Mo_run 34 = .ok (.iconst 0, 1) := by decide +kernel
theorem d_Mo_run_35 : decode b_Mo_run 35 = .ok (.putfield 324, 3) := by decide +kernel
theorem d_Mo_run_38 : decode b_Mo_run 38 = .ok (.aload_n 0, 1) := by decide +kernel
theorem d_Mo_run_39 : decode b_Mo_run 39 = .ok (.iconst 0, 1) := by decide +kernel
theorem d_Mo_run_40 : decode b_Mo_run 40 = .ok (.putfield 297, 3) := by decide +kernel
theorem d_Mo_run_43 : decode b_Mo_run 43 = .ok (.aload_n 0, 1) := by decide +kernel
theorem d_Mo_run_44 : decode b_Mo_run 44 = .ok (.iconst 0, 1) := by decide +kernel
theorem d_Mo_run_45 : decode b_Mo_run 45 = .ok (.putfield 288, 3) := by decide +kernel
theorem d_Mo_run_48 : decode b_Mo_run 48 = .ok (.aload_n 0, 1) := by decide +kernel
theorem d_Mo_run_49 : decode b_Mo_run 49 = .ok (.getfield 96, 3) := by decide +kernel
theorem d_Mo_run_52 : decode b_Mo_run 52 = .ok (.iconst 0, 1) := by decide +kernel
theorem d_Mo_run_53 : decode b_Mo_run 53 = .ok (.iconst 0, 1) := by decide +kernel
theorem d_Mo_run_54 : decode b_Mo_run 54 = .ok (.iastore, 1) := by decide +kernel
theorem d_Mo_run_55 : decode b_Mo_run 55 = .ok (.aload_n 0, 1) := by decide +kernel
theorem d_Mo_run_56 : decode b_Mo_run 56 = .ok (.getfield 99, 3) := by decide +kernel
theorem d_Mo_run_59 : decode b_Mo_run 59 = .ok (.iconst 0, 1) := by decide +kernel
theorem d_Mo_run_60 : decode b_Mo_run 60 = .ok (.iconst (-1), 1) := by decide +kernel
theorem d_Mo_run_61 : decode b_Mo_run 61 = .ok (.iastore, 1) := by decide +kernel
theorem d_Mo_run_62 : decode b_Mo_run 62 = .ok (.aload_n 0, 1) := by decide +kernel
theorem d_Mo_run_63 : decode b_Mo_run 63 = .ok (.getfield 102, 3) := by decide +kernel
theorem d_Mo_run_66 : decode b_Mo_run 66 = .ok (.iconst 0, 1) := by decide +kernel
theorem d_Mo_run_67 : decode b_Mo_run 67 = .ok (.iconst 0, 1) := by decide +kernel
theorem d_Mo_run_68 : decode b_Mo_run 68 = .ok (.iastore, 1) := by decide +kernel
theorem d_Mo_run_69 : decode b_Mo_run 69 = .ok (.aload_n 0, 1) := by decide +kernel
theorem d_Mo_run_70 : decode b_Mo_run 70 = .ok (.getfield 105, 3) := by decide +kernel
theorem d_Mo_run_73 : decode b_Mo_run 73 = .ok (.iconst 0, 1) := by decide +kernel
theorem d_Mo_run_74 : decode b_Mo_run 74 = .ok (.iconst 0, 1) := by decide +kernel
theorem d_Mo_run_75 : decode b_Mo_run 75 = .ok (.iastore, 1) := by decide +kernel
theorem d_Mo_run_76 : decode b_Mo_run 76 = .ok (.iconst 0, 1) := by decide +kernel
theorem d_Mo_run_77 : decode b_Mo_run 77 = .ok (.istore_n 1, 1) := by decide +kernel
theorem d_Mo_run_78 : decode b_Mo_run 78 = .ok (.iload_n 1, 1) := by decide +kernel
theorem d_Mo_run_79 : decode b_Mo_run 79 = .ok (.bipush 12, 2) := by decide +kernel
theorem d_Mo_run_81 : decode b_Mo_run 81 = .ok (.if_icmp .ge 16, 3) := by decide +kernel
theorem d_Mo_run_84 : decode b_Mo_run 84 = .ok (.aload_n 0, 1) := by decide +kernel
theorem d_Mo_run_85 : decode b_Mo_run 85 = .ok (.getfield 90, 3) := by decide +kernel
theorem d_Mo_run_88 : decode b_Mo_run 88 = .ok (.iload_n 1, 1) := by decide +kernel
theorem d_Mo_run_89 : decode b_Mo_run 89 = .ok (.iconst 0, 1) := by decide +kernel
theorem d_Mo_run_90 : decode b_Mo_run 90 = .ok (.iastore, 1) := by decide +kernel
theorem d_Mo_run_91 : decode b_Mo_run 91 = .ok (.iinc 1 1, 3) := by decide +kernel
theorem d_Mo_run_94 : decode b_Mo_run 94 = .ok (.goto (-16), 3) := by decide +kernel
theorem d_Mo_run_97 : decode b_Mo_run 97 = .ok (.aload_n 0, 1) := by decide +kernel
theorem d_Mo_run_98 : decode b_Mo_run 98 = .ok (.aload_n 0, 1) := by decide +kernel
theorem d_Mo_run_99 : decode b_Mo_run 99 = .ok (.getfield 81, 3) := by decide +kernel
theorem d_Mo_run_102 : decode b_Mo_run 102 = .ok (.iconst 0, 1) := by decide +kernel
theorem d_Mo_run_103 : decode b_Mo_run 103 = .ok (.iaload, 1) := by decide +kernel
theorem d_Mo_run_104 : decode b_Mo_run 104 = .ok (.putfield 300, 3) := by decide +kernel
theorem d_Mo_run_107 : decode b_Mo_run 107 = .ok (.aload_n 0, 1) := by decide +kernel
theorem d_Mo_run_108 : decode b_Mo_run 108 = .ok (.getfield 288, 3) := by decide +kernel
theorem d_Mo_run_111 : decode b_Mo_run 111 = .ok (.ifCond .lt 17, 3) := by decide +kernel
theorem d_Mo_run_114 : decode b_Mo_run 114 = .ok (.aload_n 0, 1) := by decide +kernel
theorem d_Mo_run_115 : decode b_Mo_run 115 = .ok (.getfield 297, 3) := by decide +kernel
theorem d_Mo_run_118 : decode b_Mo_run 118 = .ok (.ifCond .ne 10, 3) := by decide +kernel
theorem d_Mo_run_121 : decode b_Mo_run 121 = .ok (.aload_n 0, 1) := by decide +kernel
theorem d_Mo_run_122 : decode b_Mo_run 122 = .ok (.invokevirtual 351, 3) := by decide +kernel
theorem d_Mo_run_125 : decode b_Mo_run 125 = .ok (.goto (-18), 3) := by decide +kernel
theorem d_Mo_run_128 : decode b_Mo_run 128 = .ok (.aload_n 0, 1) := by decide +kernel
theorem d_Mo_run_129 : decode b_Mo_run 129 = .ok (.getfield 297, 3) := by decide +kernel
theorem d_Mo_run_132 : decode b_Mo_run 132 = .ok (.ifCond .ne 10, 3) := by decide +kernel
theorem d_Mo_run_135 : decode b_Mo_run 135 = .ok (.aload_n 0, 1) := by decide +kernel
theorem d_Mo_run_136 : decode b_Mo_run 136 = .ok (.getfield 324, 3) := by decide +kernel
theorem d_Mo_run_139 : decode b_Mo_run 139 = .ok (.goto 11, 3) := by decide +kernel
theorem d_Mo_run_142 : decode b_Mo_run 142 = .ok (.aload_n 0, 1) := by decide +kernel
theorem d_Mo_run_143 : decode b_Mo_run 143 = .ok (.aload_n 0, 1) := by decide +kernel
theorem d_Mo_run_144 : decode b_Mo_run 144 = .ok (.getfield 297, 3) := by decide +kernel
theorem d_Mo_run_147 : decode b_Mo_run 147 = .ok (.invokevirtual 135, 3) := by decide +kernel
theorem d_Mo_run_150 : decode b_Mo_run 150 = .ok (.ireturn, 1) := by decide +kernel
theorem d_Mo_output_0 : decode b_Mo_output 0 = .ok (.aload_n 0, 1) := by decide +kernel
theorem d_Mo_output_1 : decode b_Mo_output 1 = .ok (.iconst 0, 1) := by decide +kernel
theorem d_Mo_output_2 : decode b_Mo_output 2 = .ok (.putfield 132, 3) := by decide +kernel
theorem d_Mo_output_5 : decode b_Mo_output 5 = .ok (.iload_n 1, 1) := by decide +kernel
theorem d_Mo_output_6 : decode b_Mo_output 6 = .ok (.ifCond .lt 11, 3) := by decide +kernel
theorem d_Mo_output_9 : decode b_Mo_output 9 = .ok (.iload_n 1, 1) := by decide +kernel
theorem d_Mo_output_10 : decode b_Mo_output 10 = .ok (.aload_n 0, 1) := by decide +kernel
theorem d_Mo_output_11 : decode b_Mo_output 11 = .ok (.getfield 324, 3) := by decide +kernel
theorem d_Mo_output_14 : decode b_Mo_output 14 = .ok (.if_icmp .lt 11, 3) := by decide +kernel
theorem d_Mo_output_17 : decode b_Mo_output 17 = .ok (.aload_n 0, 1) := by decide +kernel
theorem d_Mo_output_18 : decode b_Mo_output 18 = .ok (.iconst 1, 1) := by decide +kernel
theorem d_Mo_output_19 : decode b_Mo_output 19 = .ok (.invokevirtual 135, 3) := by decide +kernel
theorem d_Mo_output_22 : decode b_Mo_output 22 = .ok (.goto 9, 3) := by decide +kernel
theorem d_Mo_output_25 : decode b_Mo_output 25 = .ok (.aload_n 0, 1) := by decide +kernel
theorem d_Mo_output_26 : decode b_Mo_output 26 = .ok (.getfield 114, 3) := by decide +kernel
theorem d_Mo_output_29 : decode b_Mo_output 29 = .ok (.iload_n 1, 1) := by decide +kernel
theorem d_Mo_output_30 : decode b_Mo_output 30 = .ok (.iaload, 1) := by decide +kernel
theorem d_Mo_output_31 : decode b_Mo_output 31 = .ok (.ireturn, 1) := by decide +kernel
theorem d_Mo_count_0 : decode b_Mo_count 0 = .ok (.aload_n 0, 1) := by decide +kernel
theorem d_Mo_count_1 : decode b_Mo_count 1 = .ok (.iconst 0, 1) := by decide +kernel
theorem d_Mo_count_2 : decode b_Mo_count 2 = .ok (.putfield 132, 3) := by decide +kernel
theorem d_Mo_count_5 : decode b_Mo_count 5 = .ok (.iload_n 1, 1) := by decide +kernel
theorem d_Mo_count_6 : decode b_Mo_count 6 = .ok (.tableswitch 59 0 4 #[34, 39, 44, 49, 54], 34) := by decide +kernel
theorem d_Mo_count_40 : decode b_Mo_count 40 = .ok (.aload_n 0, 1) := by decide +kernel
theorem d_Mo_count_41 : decode b_Mo_count 41 = .ok (.getfield 324, 3) := by decide +kernel
theorem d_Mo_count_44 : decode b_Mo_count 44 = .ok (.ireturn, 1) := by decide +kernel
theorem d_Mo_count_45 : decode b_Mo_count 45 = .ok (.aload_n 0, 1) := by decide +kernel
theorem d_Mo_count_46 : decode b_Mo_count 46 = .ok (.getfield 327, 3) := by decide +kernel
theorem d_Mo_count_49 : decode b_Mo_count 49 = .ok (.ireturn, 1) := by decide +kernel
theorem d_Mo_count_50 : decode b_Mo_count 50 = .ok (.aload_n 0, 1) := by decide +kernel
theorem d_Mo_count_51 : decode b_Mo_count 51 = .ok (.getfield 315, 3) := by decide +kernel
theorem d_Mo_count_54 : decode b_Mo_count 54 = .ok (.ireturn, 1) := by decide +kernel
theorem d_Mo_count_55 : decode b_Mo_count 55 = .ok (.aload_n 0, 1) := by decide +kernel
theorem d_Mo_count_56 : decode b_Mo_count 56 = .ok (.getfield 321, 3) := by decide +kernel
theorem d_Mo_count_59 : decode b_Mo_count 59 = .ok (.ireturn, 1) := by decide +kernel
theorem d_Mo_count_60 : decode b_Mo_count 60 = .ok (.aload_n 0, 1) := by decide +kernel
theorem d_Mo_count_61 : decode b_Mo_count 61 = .ok (.getfield 139, 3) := by decide +kernel
theorem d_Mo_count_64 : decode b_Mo_count 64 = .ok (.ireturn, 1) := by decide +kernel
theorem d_Mo_count_65 : decode b_Mo_count 65 = .ok (.aload_n 0, 1) := by decide +kernel
theorem d_Mo_count_66 : decode b_Mo_count 66 = .ok (.iconst 1, 1) := by decide +kernel
theorem d_Mo_count_67 : decode b_Mo_count 67 = .ok (.invokevirtual 135, 3) := by decide +kernel
theorem d_Mo_count_70 : decode b_Mo_count 70 = .ok (.ireturn, 1) := by decide +kernel
