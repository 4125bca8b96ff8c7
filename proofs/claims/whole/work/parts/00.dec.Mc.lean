theorem d_Mc_init_0 : decode b_Mc_init 0 = .ok (.aload_n 0, 1) := by decide +kernel
theorem d_Mc_init_1 : decode b_Mc_init 1 = .ok (.invokespecial 5, 3) := by decide +kernel
theorem d_Mc_init_4 : decode b_Mc_init 4 = .ok (.aload_n 0, 1) := by decide +kernel
theorem d_Mc_init_5 : decode b_Mc_init 5 = .ok (.new 11, 3) := by decide +kernel
theorem d_Mc_init_8 : decode b_Mc_init 8 = .ok (.dup, 1) := by decide +kernel
theorem d_Mc_init_9 : decode b_Mc_init 9 = .ok (.invokespecial 13, 3) := by decide +kernel
theorem d_Mc_init_12 : decode b_Mc_init 12 = .ok (.putfield 14, 3) := by decide +kernel
theorem d_Mc_init_15 : decode b_Mc_init 15 = .ok (.aload_n 0, 1) := by decide +kernel
theorem d_Mc_init_16 : decode b_Mc_init 16 = .ok (.sipush 132, 3) := by decide +kernel
theorem d_Mc_init_19 : decode b_Mc_init 19 = .ok (.newarray .int, 2) := by decide +kernel
theorem d_Mc_init_21 : decode b_Mc_init 21 = .ok (.putfield 18, 3) := by decide +kernel
theorem d_Mc_init_24 : decode b_Mc_init 24 = .ok (.aload_n 0, 1) := by decide +kernel
theorem d_Mc_init_25 : decode b_Mc_init 25 = .ok (.bipush 11, 2) := by decide +kernel
theorem d_Mc_init_27 : decode b_Mc_init 27 = .ok (.newarray .int, 2) := by decide +kernel
theorem d_Mc_init_29 : decode b_Mc_init 29 = .ok (.putfield 22, 3) := by decide +kernel
theorem d_Mc_init_32 : decode b_Mc_init 32 = .ok (.aload_n 0, 1) := by decide +kernel
theorem d_Mc_init_33 : decode b_Mc_init 33 = .ok (.bipush 11, 2) := by decide +kernel
theorem d_Mc_init_35 : decode b_Mc_init 35 = .ok (.newarray .int, 2) := by decide +kernel
theorem d_Mc_init_37 : decode b_Mc_init 37 = .ok (.putfield 25, 3) := by decide +kernel
theorem d_Mc_init_40 : decode b_Mc_init 40 = .ok (.aload_n 0, 1) := by decide +kernel
theorem d_Mc_init_41 : decode b_Mc_init 41 = .ok (.bipush 21, 2) := by decide +kernel
theorem d_Mc_init_43 : decode b_Mc_init 43 = .ok (.newarray .int, 2) := by decide +kernel
theorem d_Mc_init_45 : decode b_Mc_init 45 = .ok (.putfield 28, 3) := by decide +kernel
theorem d_Mc_init_48 : decode b_Mc_init 48 = .ok (.aload_n 0, 1) := by decide +kernel
theorem d_Mc_init_49 : decode b_Mc_init 49 = .ok (.iconst 0, 1) := by decide +kernel
theorem d_Mc_init_50 : decode b_Mc_init 50 = .ok (.putfield 31, 3) := by decide +kernel
theorem d_Mc_init_53 : decode b_Mc_init 53 = .ok (.aload_n 0, 1) := by decide +kernel
theorem d_Mc_init_54 : decode b_Mc_init 54 = .ok (.iconst 0, 1) := by decide +kernel
theorem d_Mc_init_55 : decode b_Mc_init 55 = .ok (.putfield 35, 3) := by decide +kernel
theorem d_Mc_init_58 : decode b_Mc_init 58 = .ok (.aload_n 0, 1) := by decide +kernel
theorem d_Mc_init_59 : decode b_Mc_init 59 = .ok (.iconst 0, 1) := by decide +kernel
theorem d_Mc_init_60 : decode b_Mc_init 60 = .ok (.putfield 38, 3) := by decide +kernel
theorem d_Mc_init_63 : decode b_Mc_init 63 = .ok (.aload_n 0, 1) := by decide +kernel
theorem d_Mc_init_64 : decode b_Mc_init 64 = .ok (.bipush 32, 2) := by decide +kernel
theorem d_Mc_init_66 : decode b_Mc_init 66 = .ok (.newarray .int, 2) := by decide +kernel
theorem d_Mc_init_68 : decode b_Mc_init 68 = .ok (.putfield 41, 3) := by decide +kernel
theorem d_Mc_init_71 : decode b_Mc_init 71 = .ok (.aload_n 0, 1) := by decide +kernel
theorem d_Mc_init_72 : decode b_Mc_init 72 = .ok (.iconst 0, 1) := by decide +kernel
theorem d_Mc_init_73 : decode b_Mc_init 73 = .ok (.putfield 44, 3) := by decide +kernel
theorem d_Mc_init_76 : decode b_Mc_init 76 = .ok (.aload_n 0, 1) := by decide +kernel
theorem d_Mc_init_77 : decode b_Mc_init 77 = .ok (.iconst 0, 1) := by decide +kernel
theorem d_Mc_init_78 : decode b_Mc_init 78 = .ok (.putfield 47, 3) := by decide +kernel
theorem d_Mc_init_81 : decode b_Mc_init 81 = .ok (.aload_n 0, 1) := by decide +kernel
theorem d_Mc_init_82 : decode b_Mc_init 82 = .ok (.iconst 0, 1) := by decide +kernel
theorem d_Mc_init_83 : decode b_Mc_init 83 = .ok (.putfield 50, 3) := by decide +kernel
theorem d_Mc_init_86 : decode b_Mc_init 86 = .ok (.aload_n 0, 1) := by decide +kernel
theorem d_Mc_init_87 : decode b_Mc_init 87 = .ok (.iconst 0, 1) := by decide +kernel
theorem d_Mc_init_88 : decode b_Mc_init 88 = .ok (.putfield 53, 3) := by decide +kernel
theorem d_Mc_init_91 : decode b_Mc_init 91 = .ok (.return_, 1) := by decide +kernel
theorem d_Mc_execute_0 : decode b_Mc_execute 0 = .ok (.aload_n 0, 1) := by decide +kernel
theorem d_Mc_execute_1 : decode b_Mc_execute 1 = .ok (.invokevirtual 56, 3) := by decide +kernel
theorem d_Mc_execute_4 : decode b_Mc_execute 4 = .ok (.iconst 0, 1) := by decide +kernel
theorem d_Mc_execute_5 : decode b_Mc_execute 5 = .ok (.istore_n 1, 1) := by decide +kernel
theorem d_Mc_execute_6 : decode b_Mc_execute 6 = .ok (.iload_n 1, 1) := by decide +kernel
theorem d_Mc_execute_7 : decode b_Mc_execute 7 = .ok (.ldc 59, 2) := by decide +kernel
theorem d_Mc_execute_9 : decode b_Mc_execute 9 = .ok (.if_icmp .ge 69, 3) := by decide +kernel
theorem d_Mc_execute_12 : decode b_Mc_execute 12 = .ok (.aload_n 0, 1) := by decide +kernel
theorem d_Mc_execute_13 : decode b_Mc_execute 13 = .ok (.getfield 38, 3) := by decide +kernel
theorem d_Mc_execute_16 : decode b_Mc_execute 16 = .ok (.aload_n 0, 1) := by decide +kernel
theorem d_Mc_execute_17 : decode b_Mc_execute 17 = .ok (.getfield 14, 3) := by decide +kernel
theorem d_Mc_execute_20 : decode b_Mc_execute 20 = .ok (.getfield 60, 3) := by decide +kernel
theorem d_Mc_execute_23 : decode b_Mc_execute 23 = .ok (.if_icmp .ge 55, 3) := by decide +kernel
theorem d_Mc_execute_26 : decode b_Mc_execute 26 = .ok (.aload_n 0, 1) := by decide +kernel
theorem d_Mc_execute_27 : decode b_Mc_execute 27 = .ok (.getfield 38, 3) := by decide +kernel
theorem d_Mc_execute_30 : decode b_Mc_execute 30 = .ok (.istore_n 2, 1) := by decide +kernel
theorem d_Mc_execute_31 : decode b_Mc_execute 31 = .ok (.aload_n 0, 1) := by decide +kernel
theorem d_Mc_execute_32 : decode b_Mc_execute 32 = .ok (.dup, 1) := by decide +kernel
theorem d_Mc_execute_33 : decode b_Mc_execute 33 = .ok (.getfield 38, 3) := by decide +kernel
theorem d_Mc_execute_36 : decode b_Mc_execute 36 = .ok (.iconst 1, 1) := by decide +kernel
theorem d_Mc_execute_37 : decode b_Mc_execute 37 = .ok (.iadd, 1) := by decide +kernel
theorem d_Mc_execute_38 : decode b_Mc_execute 38 = .ok (.putfield 38, 3) := by decide +kernel
theorem d_Mc_execute_41 : decode b_Mc_execute 41 = .ok (.aload_n 0, 1) := by decide +kernel
theorem d_Mc_execute_42 : decode b_Mc_execute 42 = .ok (.aload_n 0, 1) := by decide +kernel
theorem d_Mc_execute_43 : decode b_Mc_execute 43 = .ok (.getfield 14, 3) := by decide +kernel
theorem d_Mc_execute_46 : decode b_Mc_execute 46 = .ok (.getfield 63, 3) := by decide +kernel
theorem d_Mc_execute_49 : decode b_Mc_execute 49 = .ok (.iload_n 2, 1) := by decide +kernel
theorem d_Mc_execute_50 : decode b_Mc_execute 50 = .ok (.iaload, 1) := by decide +kernel
theorem d_Mc_execute_51 : decode b_Mc_execute 51 = .ok (.aload_n 0, 1) := by decide +kernel
theorem d_Mc_execute_52 : decode b_Mc_execute 52 = .ok (.getfield 14, 3) := by decide +kernel
theorem d_Mc_execute_55 : decode b_Mc_execute 55 = .ok (.getfield 66, 3) := by decide +kernel
theorem d_Mc_execute_58 : decode b_Mc_execute 58 = .ok (.iload_n 2, 1) := by decide +kernel
theorem d_Mc_execute_59 : decode b_Mc_execute 59 = .ok (.iaload, 1) := by decide +kernel
theorem d_Mc_execute_60 : decode b_Mc_execute 60 = .ok (.aload_n 0, 1) := by decide +kernel
theorem d_Mc_execute_61 : decode b_Mc_execute 61 = .ok (.getfield 14, 3) := by decide +kernel
theorem d_Mc_execute_64 : decode b_Mc_execute 64 = .ok (.getfield 69, 3) := by decide +kernel
theorem d_Mc_execute_67 : decode b_Mc_execute 67 = .ok (.iload_n 2, 1) := by decide +kernel
theorem d_Mc_execute_68 : decode b_Mc_execute 68 = .ok (.iaload, 1) := by decide +kernel
theorem d_Mc_execute_69 : decode b_Mc_execute 69 = .ok (.invokevirtual 72, 3) := by decide +kernel
theorem d_Mc_execute_72 : decode b_Mc_execute 72 = .ok (.iinc 1 1, 3) := by decide +kernel
theorem d_Mc_execute_75 : decode b_Mc_execute 75 = .ok (.goto (-69), 3) := by decide +kernel
theorem d_Mc_execute_78 : decode b_Mc_execute 78 = .ok (.return_, 1) := by decide +kernel
theorem d_Mc_begin_0 : decode b_Mc_begin 0 = .ok (.aload_n 0, 1) := by decide +kernel
theorem d_Mc_begin_1 : decode b_Mc_begin 1 = .ok (.aload_n 0, 1) := by decide +kernel
theorem d_Mc_begin_2 : decode b_Mc_begin 2 = .ok (.getfield 14, 3) := by decide +kernel
theorem d_Mc_begin_5 : decode b_Mc_begin 5 = .ok (.getfield 76, 3) := by decide +kernel
theorem d_Mc_begin_8 : decode b_Mc_begin 8 = .ok (.putfield 38, 3) := by decide +kernel
theorem d_Mc_begin_11 : decode b_Mc_begin 11 = .ok (.aload_n 0, 1) := by decide +kernel
theorem d_Mc_begin_12 : decode b_Mc_begin 12 = .ok (.iconst 0, 1) := by decide +kernel
theorem d_Mc_begin_13 : decode b_Mc_begin 13 = .ok (.putfield 31, 3) := by decide +kernel
theorem d_Mc_begin_16 : decode b_Mc_begin 16 = .ok (.aload_n 0, 1) := by decide +kernel
theorem d_Mc_begin_17 : decode b_Mc_begin 17 = .ok (.iconst 0, 1) := by decide +kernel
theorem d_Mc_begin_18 : decode b_Mc_begin 18 = .ok (.putfield 35, 3) := by decide +kernel
theorem d_Mc_begin_21 : decode b_Mc_begin 21 = .ok (.aload_n 0, 1) := by decide +kernel
theorem d_Mc_begin_22 : decode b_Mc_begin 22 = .ok (.iconst 0, 1) := by decide +kernel
theorem d_Mc_begin_23 : decode b_Mc_begin 23 = .ok (.putfield 44, 3) := by decide +kernel
theorem d_Mc_begin_26 : decode b_Mc_begin 26 = .ok (.aload_n 0, 1) := by decide +kernel
theorem d_Mc_begin_27 : decode b_Mc_begin 27 = .ok (.iconst 0, 1) := by decide +kernel
theorem d_Mc_begin_28 : decode b_Mc_begin 28 = .ok (.putfield 47, 3) := by decide +kernel
theorem d_Mc_begin_31 : decode b_Mc_begin 31 = .ok (.aload_n 0, 1) := by decide +kernel
theorem d_Mc_begin_32 : decode b_Mc_begin 32 = .ok (.iconst 0, 1) := by decide +kernel
theorem d_Mc_begin_33 : decode b_Mc_begin 33 = .ok (.putfield 50, 3) := by decide +kernel
theorem d_Mc_begin_36 : decode b_Mc_begin 36 = .ok (.aload_n 0, 1) := by decide +kernel
theorem d_Mc_begin_37 : decode b_Mc_begin 37 = .ok (.iconst 0, 1) := by decide +kernel
theorem d_Mc_begin_38 : decode b_Mc_begin 38 = .ok (.putfield 53, 3) := by decide +kernel
theorem d_Mc_begin_41 : decode b_Mc_begin 41 = .ok (.aload_n 0, 1) := by decide +kernel
theorem d_Mc_begin_42 : decode b_Mc_begin 42 = .ok (.invokevirtual 79, 3) := by decide +kernel
theorem d_Mc_begin_45 : decode b_Mc_begin 45 = .ok (.return_, 1) := by decide +kernel
theorem d_Mc_clearFrame_0 : decode b_Mc_clearFrame 0 = .ok (.iconst 0, 1) := by decide +kernel
theorem d_Mc_clearFrame_1 : decode b_Mc_clearFrame 1 = .ok (.istore_n 1, 1) := by decide +kernel
theorem d_Mc_clearFrame_2 : decode b_Mc_clearFrame 2 = .ok (.iload_n 1, 1) := by decide +kernel
theorem d_Mc_clearFrame_3 : decode b_Mc_clearFrame 3 = .ok (.bipush 12, 2) := by decide +kernel
theorem d_Mc_clearFrame_5 : decode b_Mc_clearFrame 5 = .ok (.if_icmp .ge 23, 3) := by decide +kernel
theorem d_Mc_clearFrame_8 : decode b_Mc_clearFrame 8 = .ok (.aload_n 0, 1) := by decide +kernel
theorem d_Mc_clearFrame_9 : decode b_Mc_clearFrame 9 = .ok (.aload_n 0, 1) := by decide +kernel
theorem d_Mc_clearFrame_10 : decode b_Mc_clearFrame 10 = .ok (.getfield 35, 3) := by decide +kernel
theorem d_Mc_clearFrame_13 : decode b_Mc_clearFrame 13 = .ok (.bipush 12, 2) := by decide +kernel
theorem d_Mc_clearFrame_15 : decode b_Mc_clearFrame 15 = .ok (.imul, 1) := by decide +kernel
theorem d_Mc_clearFrame_16 : decode b_Mc_clearFrame 16 = .ok (.iload_n 1, 1) := by decide +kernel
theorem d_Mc_clearFrame_17 : decode b_Mc_clearFrame 17 = .ok (.iadd, 1) := by decide +kernel
theorem d_Mc_clearFrame_18 : decode b_Mc_clearFrame 18 = .ok (.iconst 0, 1) := by decide +kernel
theorem d_Mc_clearFrame_19 : decode b_Mc_clearFrame 19 = .ok (.invokevirtual 82, 3) := by decide +kernel
theorem d_Mc_clearFrame_22 : decode b_Mc_clearFrame 22 = .ok (.iinc 1 1, 3) := by decide +kernel
theorem d_Mc_clearFrame_25 : decode b_Mc_clearFrame 25 = .ok (.goto (-23), 3) := by decide +kernel
theorem d_Mc_clearFrame_28 : decode b_Mc_clearFrame 28 = .ok (.return_, 1) := by decide +kernel
theorem d_Mc_perform_0 : decode b_Mc_perform 0 = .ok (.iload_n 1, 1) := by decide +kernel
theorem d_Mc_perform_1 : decode b_Mc_perform 1 = .ok (.tableswitch 276 0 20 #[99, 106, 114, 131, 152, 165, 182, 203, 276, 276, 276, 276, 276, 276, 276, 276, 215, 223, 245, 258, 265], 99) := by decide +kernel
theorem d_Mc_perform_100 : decode b_Mc_perform 100 = .ok (.aload_n 0, 1) := by decide +kernel
theorem d_Mc_perform_101 : decode b_Mc_perform 101 = .ok (.invokevirtual 86, 3) := by decide +kernel
theorem d_Mc_perform_104 : decode b_Mc_perform 104 = .ok (.goto 178, 3) := by decide +kernel
theorem d_Mc_perform_107 : decode b_Mc_perform 107 = .ok (.aload_n 0, 1) := by decide +kernel
theorem d_Mc_perform_108 : decode b_Mc_perform 108 = .ok (.iload_n 2, 1) := by decide +kernel
theorem d_Mc_perform_109 : decode b_Mc_perform 109 = .ok (.invokevirtual 89, 3) := by decide +kernel
theorem d_Mc_perform_112 : decode b_Mc_perform 112 = .ok (.goto 170, 3) := by decide +kernel
theorem d_Mc_perform_115 : decode b_Mc_perform 115 = .ok (.aload_n 0, 1) := by decide +kernel
theorem d_Mc_perform_116 : decode b_Mc_perform 116 = .ok (.aload_n 0, 1) := by decide +kernel
theorem d_Mc_perform_117 : decode b_Mc_perform 117 = .ok (.aload_n 0, 1) := by decide +kernel
theorem d_Mc_perform_118 : decode b_Mc_perform 118 = .ok (.iload_n 2, 1) := by decide +kernel
theorem d_Mc_perform_119 : decode b_Mc_perform 119 = .ok (.iload_n 3, 1) := by decide +kernel
theorem d_Mc_perform_120 : decode b_Mc_perform 120 = .ok (.invokevirtual 93, 3) := by decide +kernel
theorem d_Mc_perform_123 : decode b_Mc_perform 123 = .ok (.invokevirtual 97, 3) := by decide +kernel
theorem d_Mc_perform_126 : decode b_Mc_perform 126 = .ok (.invokevirtual 89, 3) := by decide +kernel
theorem d_Mc_perform_129 : decode b_Mc_perform 129 = .ok (.goto 153, 3) := by decide +kernel
theorem d_Mc_perform_132 : decode b_Mc_perform 132 = .ok (.aload_n 0, 1) := by decide +kernel
theorem d_Mc_perform_133 : decode b_Mc_perform 133 = .ok (.aload_n 0, 1) := by decide +kernel
theorem d_Mc_perform_134 : decode b_Mc_perform 134 = .ok (.aload_n 0, 1) := by decide +kernel
theorem d_Mc_perform_135 : decode b_Mc_perform 135 = .ok (.aload_n 0, 1) := by decide +kernel
theorem d_Mc_perform_136 : decode b_Mc_perform 136 = .ok (.iload_n 2, 1) := by decide +kernel
theorem d_Mc_perform_137 : decode b_Mc_perform 137 = .ok (.iload_n 3, 1) := by decide +kernel
theorem d_Mc_perform_138 : decode b_Mc_perform 138 = .ok (.invokevirtual 93, 3) := by decide +kernel
theorem d_Mc_perform_141 : decode b_Mc_perform 141 = .ok (.invokevirtual 97, 3) := by decide +kernel
theorem d_Mc_perform_144 : decode b_Mc_perform 144 = .ok (.invokevirtual 97, 3) := by decide +kernel
theorem d_Mc_perform_147 : decode b_Mc_perform 147 = .ok (.invokevirtual 89, 3) := by decide +kernel
theorem d_Mc_perform_150 : decode b_Mc_perform 150 = .ok (.goto 132, 3) := by decide +kernel
theorem d_Mc_perform_153 : decode b_Mc_perform 153 = .ok (.aload_n 0, 1) := by decide +kernel
theorem d_Mc_perform_154 : decode b_Mc_perform 154 = .ok (.aload_n 0, 1) := by decide +kernel
theorem d_Mc_perform_155 : decode b_Mc_perform 155 = .ok (.iload_n 2, 1) := by decide +kernel
theorem d_Mc_perform_156 : decode b_Mc_perform 156 = .ok (.iload_n 3, 1) := by decide +kernel
theorem d_Mc_perform_157 : decode b_Mc_perform 157 = .ok (.invokevirtual 93, 3) := by decide +kernel
theorem d_Mc_perform_160 : decode b_Mc_perform 160 = .ok (.invokevirtual 89, 3) := by decide +kernel
theorem d_Mc_perform_163 : decode b_Mc_perform 163 = .ok (.goto 119, 3) := by decide +kernel
theorem d_Mc_perform_166 : decode b_Mc_perform 166 = .ok (.aload_n 0, 1) := by decide +kernel
theorem d_Mc_perform_167 : decode b_Mc_perform 167 = .ok (.aload_n 0, 1) := by decide +kernel
theorem d_Mc_perform_168 : decode b_Mc_perform 168 = .ok (.iload_n 2, 1) := by decide +kernel
theorem d_Mc_perform_169 : decode b_Mc_perform 169 = .ok (.iload_n 3, 1) := by decide +kernel
theorem d_Mc_perform_170 : decode b_Mc_perform 170 = .ok (.invokevirtual 93, 3) := by decide +kernel
theorem d_Mc_perform_173 : decode b_Mc_perform 173 = .ok (.aload_n 0, 1) := by decide +kernel
theorem d_Mc_perform_174 : decode b_Mc_perform 174 = .ok (.invokevirtual 101, 3) := by decide +kernel
theorem d_Mc_perform_177 : decode b_Mc_perform 177 = .ok (.invokevirtual 82, 3) := by decide +kernel
theorem d_Mc_perform_180 : decode b_Mc_perform 180 = .ok (.goto 102, 3) := by decide +kernel
theorem d_Mc_perform_183 : decode b_Mc_perform 183 = .ok (.aload_n 0, 1) := by decide +kernel
theorem d_Mc_perform_184 : decode b_Mc_perform 184 = .ok (.aload_n 0, 1) := by decide +kernel
theorem d_Mc_perform_185 : decode b_Mc_perform 185 = .ok (.aload_n 0, 1) := by decide +kernel
theorem d_Mc_perform_186 : decode b_Mc_perform 186 = .ok (.iload_n 2, 1) := by decide +kernel
theorem d_Mc_perform_187 : decode b_Mc_perform 187 = .ok (.iload_n 3, 1) := by decide +kernel
theorem d_Mc_perform_188 : decode b_Mc_perform 188 = .ok (.invokevirtual 93, 3) := by decide +kernel
theorem d_Mc_perform_191 : decode b_Mc_perform 191 = .ok (.invokevirtual 97, 3) := by decide +kernel
theorem d_Mc_perform_194 : decode b_Mc_perform 194 = .ok (.aload_n 0, 1) := by decide +kernel
theorem d_Mc_perform_195 : decode b_Mc_perform 195 = .ok (.invokevirtual 101, 3) := by decide +kernel
theorem d_Mc_perform_198 : decode b_Mc_perform 198 = .ok (.invokevirtual 82, 3) := by decide +kernel
theorem d_Mc_perform_201 : decode b_Mc_perform 201 = .ok (.goto 81, 3) := by decide +kernel
theorem d_Mc_perform_204 : decode b_Mc_perform 204 = .ok (.aload_n 0, 1) := by decide +kernel
theorem d_Mc_perform_205 : decode b_Mc_perform 205 = .ok (.aload_n 0, 1) := by decide +kernel
theorem d_Mc_perform_206 : decode b_Mc_perform 206 = .ok (.invokevirtual 101, 3) := by decide +kernel
theorem d_Mc_perform_209 : decode b_Mc_perform 209 = .ok (.ineg, 1) := by decide +kernel
theorem d_Mc_perform_210 : decode b_Mc_perform 210 = .ok (.invokevirtual 89, 3) := by decide +kernel
theorem d_Mc_perform_213 : decode b_Mc_perform 213 = .ok (.goto 69, 3) := by decide +kernel
theorem d_Mc_perform_216 : decode b_Mc_perform 216 = .ok (.aload_n 0, 1) := by decide +kernel
theorem d_Mc_perform_217 : decode b_Mc_perform 217 = .ok (.iload_n 2, 1) := by decide +kernel
theorem d_Mc_perform_218 : decode b_Mc_perform 218 = .ok (.putfield 38, 3) := by decide +kernel
theorem d_Mc_perform_221 : decode b_Mc_perform 221 = .ok (.goto 61, 3) := by decide +kernel
theorem d_Mc_perform_224 : decode b_Mc_perform 224 = .ok (.aload_n 0, 1) := by decide +kernel
theorem d_Mc_perform_225 : decode b_Mc_perform 225 = .ok (.aload_n 0, 1) := by decide +kernel
theorem d_Mc_perform_226 : decode b_Mc_perform 226 = .ok (.invokevirtual 101, 3) := by decide +kernel
theorem d_Mc_perform_229 : decode b_Mc_perform 229 = .ok (.ifCond .ne 7, 3) := by decide +kernel
theorem d_Mc_perform_232 : decode b_Mc_perform 232 = .ok (.iload_n 2, 1) := by decide +kernel
theorem d_Mc_perform_233 : decode b_Mc_perform 233 = .ok (.goto 7, 3) := by decide +kernel
theorem d_Mc_perform_236 : decode b_Mc_perform 236 = .ok (.aload_n 0, 1) := by decide +kernel
theorem d_Mc_perform_237 : decode b_Mc_perform 237 = .ok (.getfield 38, 3) := by decide +kernel
theorem d_Mc_perform_240 : decode b_Mc_perform 240 = .ok (.putfield 38, 3) := by decide +kernel
theorem d_Mc_perform_243 : decode b_Mc_perform 243 = .ok (.goto 39, 3) := by decide +kernel
theorem d_Mc_perform_246 : decode b_Mc_perform 246 = .ok (.aload_n 0, 1) := by decide +kernel
theorem d_Mc_perform_247 : decode b_Mc_perform 247 = .ok (.aload_n 0, 1) := by decide +kernel
theorem d_Mc_perform_248 : decode b_Mc_perform 248 = .ok (.iload_n 2, 1) := by decide +kernel
theorem d_Mc_perform_249 : decode b_Mc_perform 249 = .ok (.invokevirtual 105, 3) := by decide +kernel
theorem d_Mc_perform_252 : decode b_Mc_perform 252 = .ok (.iload_n 3, 1) := by decide +kernel
theorem d_Mc_perform_253 : decode b_Mc_perform 253 = .ok (.invokevirtual 108, 3) := by decide +kernel
theorem d_Mc_perform_256 : decode b_Mc_perform 256 = .ok (.goto 26, 3) := by decide +kernel
theorem d_Mc_perform_259 : decode b_Mc_perform 259 = .ok (.aload_n 0, 1) := by decide +kernel
theorem d_Mc_perform_260 : decode b_Mc_perform 260 = .ok (.invokevirtual 111, 3) := by decide +kernel
theorem d_Mc_perform_263 : decode b_Mc_perform 263 = .ok (.goto 19, 3) := by decide +kernel
theorem d_Mc_perform_266 : decode b_Mc_perform 266 = .ok (.aload_n 0, 1) := by decide +kernel
theorem d_Mc_perform_267 : decode b_Mc_perform 267 = .ok (.aload_n 0, 1) := by decide +kernel
theorem d_Mc_perform_268 : decode b_Mc_perform 268 = .ok (.invokevirtual 101, 3) := by decide +kernel
theorem d_Mc_perform_271 : decode b_Mc_perform 271 = .ok (.invokevirtual 114, 3) := by decide +kernel
theorem d_Mc_perform_274 : decode b_Mc_perform 274 = .ok (.goto 8, 3) := by decide +kernel
theorem d_Mc_perform_277 : decode b_Mc_perform 277 = .ok (.aload_n 0, 1) := by decide +kernel
theorem d_Mc_perform_278 : decode b_Mc_perform 278 = .ok (.iload_n 1, 1) := by decide +kernel
theorem d_Mc_perform_279 : decode b_Mc_perform 279 = .ok (.invokevirtual 117, 3) := by decide +kernel
theorem d_Mc_perform_282 : decode b_Mc_perform 282 = .ok (.return_, 1) := by decide +kernel
theorem d_Mc_takeStep_0 : decode b_Mc_takeStep 0 = .ok (.aload_n 0, 1) := by decide +kernel
theorem d_Mc_takeStep_1 : decode b_Mc_takeStep 1 = .ok (.getfield 50, 3) := by decide +kernel
theorem d_Mc_takeStep_4 : decode b_Mc_takeStep 4 = .ok (.sipush 400, 3) := by decide +kernel
theorem d_Mc_takeStep_7 : decode b_Mc_takeStep 7 = .ok (.if_icmp .ne 11, 3) := by decide +kernel
theorem d_Mc_takeStep_10 : decode b_Mc_takeStep 10 = .ok (.new 120, 3) := by decide +kernel
theorem d_Mc_takeStep_13 : decode b_Mc_takeStep 13 = .ok (.dup, 1) := by decide +kernel
theorem d_Mc_takeStep_14 : decode b_Mc_takeStep 14 = .ok (.invokespecial 122, 3) := by decide +kernel
theorem d_Mc_takeStep_17 : decode b_Mc_takeStep 17 = .ok (.athrow, 1) := by decide +kernel
theorem d_Mc_takeStep_18 : decode b_Mc_takeStep 18 = .ok (.aload_n 0, 1) := by decide +kernel
theorem d_Mc_takeStep_19 : decode b_Mc_takeStep 19 = .ok (.dup, 1) := by decide +kernel
theorem d_Mc_takeStep_20 : decode b_Mc_takeStep 20 = .ok (.getfield 50, 3) := by decide +kernel
theorem d_Mc_takeStep_23 : decode b_Mc_takeStep 23 = .ok (.iconst 1, 1) := by decide +kernel
theorem d_Mc_takeStep_24 : decode b_Mc_takeStep 24 = .ok (.iadd, 1) := by decide +kernel
theorem d_Mc_takeStep_25 : decode b_Mc_takeStep 25 = .ok (.putfield 50, 3) := by decide +kernel
theorem d_Mc_takeStep_28 : decode b_Mc_takeStep 28 = .ok (.return_, 1) := by decide +kernel
theorem d_Mc_combine_0 : decode b_Mc_combine 0 = .ok (.aload_n 0, 1) := by decide +kernel
theorem d_Mc_combine_1 : decode b_Mc_combine 1 = .ok (.invokevirtual 101, 3) := by decide +kernel
theorem d_Mc_combine_4 : decode b_Mc_combine 4 = .ok (.istore_n 2, 1) := by decide +kernel
theorem d_Mc_combine_5 : decode b_Mc_combine 5 = .ok (.aload_n 0, 1) := by decide +kernel
theorem d_Mc_combine_6 : decode b_Mc_combine 6 = .ok (.invokevirtual 101, 3) := by decide +kernel
theorem d_Mc_combine_9 : decode b_Mc_combine 9 = .ok (.istore_n 3, 1) := by decide +kernel
theorem d_Mc_combine_10 : decode b_Mc_combine 10 = .ok (.iload_n 1, 1) := by decide +kernel
theorem d_Mc_combine_11 : decode b_Mc_combine 11 = .ok (.bipush 13, 2) := by decide +kernel
theorem d_Mc_combine_13 : decode b_Mc_combine 13 = .ok (.if_icmp .lt 24, 3) := by decide +kernel
theorem d_Mc_combine_16 : decode b_Mc_combine 16 = .ok (.aload_n 0, 1) := by decide +kernel
theorem d_Mc_combine_17 : decode b_Mc_combine 17 = .ok (.iload_n 1, 1) := by decide +kernel
theorem d_Mc_combine_18 : decode b_Mc_combine 18 = .ok (.iload_n 3, 1) := by decide +kernel
theorem d_Mc_combine_19 : decode b_Mc_combine 19 = .ok (.iload_n 2, 1) := by decide +kernel
theorem d_Mc_combine_20 : decode b_Mc_combine 20 = .ok (.invokestatic 123, 3) := by decide +kernel
theorem d_Mc_combine_23 : decode b_Mc_combine 23 = .ok (.ifCond .eq 7, 3) := by decide +kernel
theorem d_Mc_combine_26 : decode b_Mc_combine 26 = .ok (.iconst 1, 1) := by decide +kernel
theorem d_Mc_combine_27 : decode b_Mc_combine 27 = .ok (.goto 4, 3) := by decide +kernel
theorem d_Mc_combine_30 : decode b_Mc_combine 30 = .ok (.iconst 0, 1) := by decide +kernel
theorem d_Mc_combine_31 : decode b_Mc_combine 31 = .ok (.invokevirtual 89, 3) := by decide +kernel
theorem d_Mc_combine_34 : decode b_Mc_combine 34 = .ok (.goto 13, 3) := by decide +kernel
theorem d_Mc_combine_37 : decode b_Mc_combine 37 = .ok (.aload_n 0, 1) := by decide +kernel
theorem d_Mc_combine_38 : decode b_Mc_combine 38 = .ok (.iload_n 1, 1) := by decide +kernel
theorem d_Mc_combine_39 : decode b_Mc_combine 39 = .ok (.iload_n 3, 1) := by decide +kernel
theorem d_Mc_combine_40 : decode b_Mc_combine 40 = .ok (.iload_n 2, 1) := by decide +kernel
theorem d_Mc_combine_41 : decode b_Mc_combine 41 = .ok (.invokestatic 127, 3) := by decide +kernel
theorem d_Mc_combine_44 : decode b_Mc_combine 44 = .ok (.invokevirtual 89, 3) := by decide +kernel
theorem d_Mc_combine_47 : decode b_Mc_combine 47 = .ok (.return_, 1) := by decide +kernel
theorem d_Mc_isTrue_0 : decode b_Mc_isTrue 0 = .ok (.iload_n 0, 1) := by decide +kernel
theorem d_Mc_isTrue_1 : decode b_Mc_isTrue 1 = .ok (.lookupswitch 49 #[(13, 27), (14, 38)], 27) := by decide +kernel
theorem d_Mc_isTrue_28 : decode b_Mc_isTrue 28 = .ok (.iload_n 1, 1) := by decide +kernel
theorem d_Mc_isTrue_29 : decode b_Mc_isTrue 29 = .ok (.iload_n 2, 1) := by decide +kernel
theorem d_Mc_isTrue_30 : decode b_Mc_isTrue 30 = .ok (.if_icmp .ne 7, 3) := by decide +kernel
theorem d_Mc_isTrue_33 : decode b_Mc_isTrue 33 = .ok (.iconst 1, 1) := by decide +kernel
theorem d_Mc_isTrue_34 : decode b_Mc_isTrue 34 = .ok (.goto 4, 3) := by decide +kernel
theorem d_Mc_isTrue_37 : decode b_Mc_isTrue 37 = .ok (.iconst 0, 1) := by decide +kernel
theorem d_Mc_isTrue_38 : decode b_Mc_isTrue 38 = .ok (.ireturn, 1) := by decide +kernel
theorem d_Mc_isTrue_39 : decode b_Mc_isTrue 39 = .ok (.iload_n 1, 1) := by decide +kernel
theorem d_Mc_isTrue_40 : decode b_Mc_isTrue 40 = .ok (.iload_n 2, 1) := by decide +kernel
theorem d_Mc_isTrue_41 : decode b_Mc_isTrue 41 = .ok (.if_icmp .ge 7, 3) := by decide +kernel
theorem d_Mc_isTrue_44 : decode b_Mc_isTrue 44 = .ok (.iconst 1, 1) := by decide +kernel
theorem d_Mc_isTrue_45 : decode b_Mc_isTrue 45 = .ok (.goto 4, 3) := by decide +kernel
theorem d_Mc_isTrue_48 : decode b_Mc_isTrue 48 = .ok (.iconst 0, 1) := by decide +kernel
theorem d_Mc_isTrue_49 : decode b_Mc_isTrue 49 = .ok (.ireturn, 1) := by decide +kernel
theorem d_Mc_isTrue_50 : decode b_Mc_isTrue 50 = .ok (.iload_n 1, 1) := by decide +kernel
theorem d_Mc_isTrue_51 : decode b_Mc_isTrue 51 = .ok (.iload_n 2, 1) := by decide +kernel
theorem d_Mc_isTrue_52 : decode b_Mc_isTrue 52 = .ok (.if_icmp .le 7, 3) := by decide +kernel
theorem d_Mc_isTrue_55 : decode b_Mc_isTrue 55 = .ok (.iconst 1, 1) := by decide +kernel
theorem d_Mc_isTrue_56 : decode b_Mc_isTrue 56 = .ok (.goto 4, 3) := by decide +kernel
theorem d_Mc_isTrue_59 : decode b_Mc_isTrue 59 = .ok (.iconst 0, 1) := by decide +kernel
theorem d_Mc_isTrue_60 : decode b_Mc_isTrue 60 = .ok (.ireturn, 1) := by decide +kernel
theorem d_Mc_calculate_0 : decode b_Mc_calculate 0 = .ok (.iload_n 0, 1) := by decide +kernel
theorem d_Mc_calculate_1 : decode b_Mc_calculate 1 = .ok (.tableswitch 39 8 10 #[27, 31, 35], 27) := by decide +kernel
theorem d_Mc_calculate_28 : decode b_Mc_calculate 28 = .ok (.iload_n 1, 1) := by decide +kernel
theorem d_Mc_calculate_29 : decode b_Mc_calculate 29 = .ok (.iload_n 2, 1) := by decide +kernel
theorem d_Mc_calculate_30 : decode b_Mc_calculate 30 = .ok (.iadd, 1) := by decide +kernel
theorem d_Mc_calculate_31 : decode b_Mc_calculate 31 = .ok (.ireturn, 1) := by decide +kernel
theorem d_Mc_calculate_32 : decode b_Mc_calculate 32 = .ok (.iload_n 1, 1) := by decide +kernel
theorem d_Mc_calculate_33 : decode b_Mc_calculate 33 = .ok (.iload_n 2, 1) := by decide +kernel
theorem d_Mc_calculate_34 : decode b_Mc_calculate 34 = .ok (.isub, 1) := by decide +kernel
theorem d_Mc_calculate_35 : decode b_Mc_calculate 35 = .ok (.ireturn, 1) := by decide +kernel
theorem d_Mc_calculate_36 : decode b_Mc_calculate 36 = .ok (.iload_n 1, 1) := by decide +kernel
theorem d_Mc_calculate_37 : decode b_Mc_calculate 37 = .ok (.iload_n 2, 1) := by decide +kernel
theorem d_Mc_calculate_38 : decode b_Mc_calculate 38 = .ok (.imul, 1) := by decide +kernel
theorem d_Mc_calculate_39 : decode b_Mc_calculate 39 = .ok (.ireturn, 1) := by decide +kernel
theorem d_Mc_calculate_40 : decode b_Mc_calculate 40 = .ok (.iload_n 0, 1) := by decide +kernel
theorem d_Mc_calculate_41 : decode b_Mc_calculate 41 = .ok (.bipush 11, 2) := by decide +kernel
theorem d_Mc_calculate_43 : decode b_Mc_calculate 43 = .ok (.if_icmp .ne 7, 3) := by decide +kernel
theorem d_Mc_calculate_46 : decode b_Mc_calculate 46 = .ok (.iconst 1, 1) := by decide +kernel
theorem d_Mc_calculate_47 : decode b_Mc_calculate 47 = .ok (.goto 4, 3) := by decide +kernel
theorem d_Mc_calculate_50 : decode b_Mc_calculate 50 = .ok (.iconst 0, 1) := by decide +kernel
theorem d_Mc_calculate_51 : decode b_Mc_calculate 51 = .ok (.iload_n 1, 1) := by decide +kernel
theorem d_Mc_calculate_52 : decode b_Mc_calculate 52 = .ok (.iload_n 2, 1) := by decide +kernel
theorem d_Mc_calculate_53 : decode b_Mc_calculate 53 = .ok (.invokestatic 131, 3) := by decide +kernel
theorem d_Mc_calculate_56 : decode b_Mc_calculate 56 = .ok (.ireturn, 1) := by decide +kernel
theorem d_Mc_divide_0 : decode b_Mc_divide 0 = .ok (.iload_n 2, 1) := by decide +kernel
theorem d_Mc_divide_1 : decode b_Mc_divide 1 = .ok (.ifCond .ne 11, 3) := by decide +kernel
theorem d_Mc_divide_4 : decode b_Mc_divide 4 = .ok (.new 135, 3) := by decide +kernel
theorem d_Mc_divide_7 : decode b_Mc_divide 7 = .ok (.dup, 1) := by decide +kernel
theorem d_Mc_divide_8 : decode b_Mc_divide 8 = .ok (.invokespecial 137, 3) := by decide +kernel
theorem d_Mc_divide_11 : decode b_Mc_divide 11 = .ok (.athrow, 1) := by decide +kernel
theorem d_Mc_divide_12 : decode b_Mc_divide 12 = .ok (.iload_n 0, 1) := by decide +kernel
theorem d_Mc_divide_13 : decode b_Mc_divide 13 = .ok (.ifCond .eq 9, 3) := by decide +kernel
theorem d_Mc_divide_16 : decode b_Mc_divide 16 = .ok (.iload_n 1, 1) := by decide +kernel
theorem d_Mc_divide_17 : decode b_Mc_divide 17 = .ok (.iload_n 2, 1) := by decide +kernel
theorem d_Mc_divide_18 : decode b_Mc_divide 18 = .ok (.idiv, 1) := by decide +kernel
theorem d_Mc_divide_19 : decode b_Mc_divide 19 = .ok (.goto 6, 3) := by decide +kernel
theorem d_Mc_divide_22 : decode b_Mc_divide 22 = .ok (.iload_n 1, 1) := by decide +kernel
theorem d_Mc_divide_23 : decode b_Mc_divide 23 = .ok (.iload_n 2, 1) := by decide +kernel
theorem d_Mc_divide_24 : decode b_Mc_divide 24 = .ok (.irem, 1) := by decide +kernel
theorem d_Mc_divide_25 : decode b_Mc_divide 25 = .ok (.ireturn, 1) := by decide +kernel
theorem d_Mc_enter_0 : decode b_Mc_enter 0 = .ok (.aload_n 0, 1) := by decide +kernel
theorem d_Mc_enter_1 : decode b_Mc_enter 1 = .ok (.getfield 35, 3) := by decide +kernel
theorem d_Mc_enter_4 : decode b_Mc_enter 4 = .ok (.bipush 10, 2) := by decide +kernel
theorem d_Mc_enter_6 : decode b_Mc_enter 6 = .ok (.if_icmp .ne 11, 3) := by decide +kernel
theorem d_Mc_enter_9 : decode b_Mc_enter 9 = .ok (.new 138, 3) := by decide +kernel
theorem d_Mc_enter_12 : decode b_Mc_enter 12 = .ok (.dup, 1) := by decide +kernel
theorem d_Mc_enter_13 : decode b_Mc_enter 13 = .ok (.invokespecial 140, 3) := by decide +kernel
theorem d_Mc_enter_16 : decode b_Mc_enter 16 = .ok (.athrow, 1) := by decide +kernel
theorem d_Mc_enter_17 : decode b_Mc_enter 17 = .ok (.aload_n 0, 1) := by decide +kernel
theorem d_Mc_enter_18 : decode b_Mc_enter 18 = .ok (.dup, 1) := by decide +kernel
theorem d_Mc_enter_19 : decode b_Mc_enter 19 = .ok (.getfield 35, 3) := by decide +kernel
theorem d_Mc_enter_22 : decode b_Mc_enter 22 = .ok (.iconst 1, 1) := by decide +kernel
theorem d_Mc_enter_23 : decode b_Mc_enter 23 = .ok (.iadd, 1) := by decide +kernel
theorem d_Mc_enter_24 : decode b_Mc_enter 24 = .ok (.putfield 35, 3) := by decide +kernel
theorem d_Mc_enter_27 : decode b_Mc_enter 27 = .ok (.aload_n 0, 1) := by decide +kernel
theorem d_Mc_enter_28 : decode b_Mc_enter 28 = .ok (.aload_n 0, 1) := by decide +kernel
theorem d_Mc_enter_29 : decode b_Mc_enter 29 = .ok (.getfield 53, 3) := by decide +kernel
theorem d_Mc_enter_32 : decode b_Mc_enter 32 = .ok (.aload_n 0, 1) := by decide +kernel
theorem d_Mc_enter_33 : decode b_Mc_enter 33 = .ok (.getfield 35, 3) := by decide +kernel
theorem d_Mc_enter_36 : decode b_Mc_enter 36 = .ok (.invokestatic 141, 3) := by decide +kernel
theorem d_Mc_enter_39 : decode b_Mc_enter 39 = .ok (.putfield 53, 3) := by decide +kernel
theorem d_Mc_enter_42 : decode b_Mc_enter 42 = .ok (.aload_n 0, 1) := by decide +kernel
theorem d_Mc_enter_43 : decode b_Mc_enter 43 = .ok (.getfield 22, 3) := by decide +kernel
theorem d_Mc_enter_46 : decode b_Mc_enter 46 = .ok (.aload_n 0, 1) := by decide +kernel
theorem d_Mc_enter_47 : decode b_Mc_enter 47 = .ok (.getfield 35, 3) := by decide +kernel
theorem d_Mc_enter_50 : decode b_Mc_enter 50 = .ok (.iload_n 1, 1) := by decide +kernel
theorem d_Mc_enter_51 : decode b_Mc_enter 51 = .ok (.iastore, 1) := by decide +kernel
theorem d_Mc_enter_52 : decode b_Mc_enter 52 = .ok (.aload_n 0, 1) := by decide +kernel
theorem d_Mc_enter_53 : decode b_Mc_enter 53 = .ok (.getfield 25, 3) := by decide +kernel
theorem d_Mc_enter_56 : decode b_Mc_enter 56 = .ok (.aload_n 0, 1) := by decide +kernel
theorem d_Mc_enter_57 : decode b_Mc_enter 57 = .ok (.getfield 35, 3) := by decide +kernel
theorem d_Mc_enter_60 : decode b_Mc_enter 60 = .ok (.aload_n 0, 1) := by decide +kernel
theorem d_Mc_enter_61 : decode b_Mc_enter 61 = .ok (.getfield 38, 3) := by decide +kernel
theorem d_Mc_enter_64 : decode b_Mc_enter 64 = .ok (.iastore, 1) := by decide +kernel
theorem d_Mc_enter_65 : decode b_Mc_enter 65 = .ok (.aload_n 0, 1) := by decide +kernel
theorem d_Mc_enter_66 : decode b_Mc_enter 66 = .ok (.invokevirtual 79, 3) := by decide +kernel
theorem d_Mc_enter_69 : decode b_Mc_enter 69 = .ok (.aload_n 0, 1) := by decide +kernel
theorem d_Mc_enter_70 : decode b_Mc_enter 70 = .ok (.getfield 14, 3) := by decide +kernel
theorem d_Mc_enter_73 : decode b_Mc_enter 73 = .ok (.getfield 146, 3) := by decide +kernel
theorem d_Mc_enter_76 : decode b_Mc_enter 76 = .ok (.iload_n 2, 1) := by decide +kernel
theorem d_Mc_enter_77 : decode b_Mc_enter 77 = .ok (.iaload, 1) := by decide +kernel
theorem d_Mc_enter_78 : decode b_Mc_enter 78 = .ok (.iconst 1, 1) := by decide +kernel
theorem d_Mc_enter_79 : decode b_Mc_enter 79 = .ok (.isub, 1) := by decide +kernel
theorem d_Mc_enter_80 : decode b_Mc_enter 80 = .ok (.istore_n 3, 1) := by decide +kernel
theorem d_Mc_enter_81 : decode b_Mc_enter 81 = .ok (.iload_n 3, 1) := by decide +kernel
theorem d_Mc_enter_82 : decode b_Mc_enter 82 = .ok (.ifCond .lt 26, 3) := by decide +kernel
theorem d_Mc_enter_85 : decode b_Mc_enter 85 = .ok (.aload_n 0, 1) := by decide +kernel
theorem d_Mc_enter_86 : decode b_Mc_enter 86 = .ok (.aload_n 0, 1) := by decide +kernel
theorem d_Mc_enter_87 : decode b_Mc_enter 87 = .ok (.getfield 35, 3) := by decide +kernel
theorem d_Mc_enter_90 : decode b_Mc_enter 90 = .ok (.bipush 12, 2) := by decide +kernel
theorem d_Mc_enter_92 : decode b_Mc_enter 92 = .ok (.imul, 1) := by decide +kernel
theorem d_Mc_enter_93 : decode b_Mc_enter 93 = .ok (.iload_n 3, 1) := by decide +kernel
theorem d_Mc_enter_94 : decode b_Mc_enter 94 = .ok (.iadd, 1) := by decide +kernel
theorem d_Mc_enter_95 : decode b_Mc_enter 95 = .ok (.aload_n 0, 1) := by decide +kernel
theorem d_Mc_enter_96 : decode b_Mc_enter 96 = .ok (.invokevirtual 101, 3) := by decide +kernel
theorem d_Mc_enter_99 : decode b_Mc_enter 99 = .ok (.invokevirtual 82, 3) := by decide +kernel
theorem d_Mc_enter_102 : decode b_Mc_enter 102 = .ok (.iinc 3 (-1), 3) := by decide +kernel
theorem d_Mc_enter_105 : decode b_Mc_enter 105 = .ok (.goto (-24), 3) := by decide +kernel
theorem d_Mc_enter_108 : decode b_Mc_enter 108 = .ok (.aload_n 0, 1) := by decide +kernel
theorem d_Mc_enter_109 : decode b_Mc_enter 109 = .ok (.aload_n 0, 1) := by decide +kernel
theorem d_Mc_enter_110 : decode b_Mc_enter 110 = .ok (.getfield 14, 3) := by decide +kernel
theorem d_Mc_enter_113 : decode b_Mc_enter 113 = .ok (.getfield 149, 3) := by decide +kernel
theorem d_Mc_enter_116 : decode b_Mc_enter 116 = .ok (.iload_n 2, 1) := by decide +kernel
theorem d_Mc_enter_117 : decode b_Mc_enter 117 = .ok (.iaload, 1) := by decide +kernel
theorem d_Mc_enter_118 : decode b_Mc_enter 118 = .ok (.putfield 38, 3) := by decide +kernel
theorem d_Mc_enter_121 : decode b_Mc_enter 121 = .ok (.return_, 1) := by decide +kernel
theorem d_Mc_leave_0 : decode b_Mc_leave 0 = .ok (.aload_n 0, 1) := by decide +kernel
theorem d_Mc_leave_1 : decode b_Mc_leave 1 = .ok (.getfield 35, 3) := by decide +kernel
theorem d_Mc_leave_4 : decode b_Mc_leave 4 = .ok (.ifCond .ne 17, 3) := by decide +kernel
theorem d_Mc_leave_7 : decode b_Mc_leave 7 = .ok (.aload_n 0, 1) := by decide +kernel
theorem d_Mc_leave_8 : decode b_Mc_leave 8 = .ok (.aload_n 0, 1) := by decide +kernel
theorem d_Mc_leave_9 : decode b_Mc_leave 9 = .ok (.getfield 14, 3) := by decide +kernel
theorem d_Mc_leave_12 : decode b_Mc_leave 12 = .ok (.getfield 60, 3) := by decide +kernel
theorem d_Mc_leave_15 : decode b_Mc_leave 15 = .ok (.putfield 38, 3) := by decide +kernel
theorem d_Mc_leave_18 : decode b_Mc_leave 18 = .ok (.goto 26, 3) := by decide +kernel
theorem d_Mc_leave_21 : decode b_Mc_leave 21 = .ok (.aload_n 0, 1) := by decide +kernel
theorem d_Mc_leave_22 : decode b_Mc_leave 22 = .ok (.aload_n 0, 1) := by decide +kernel
theorem d_Mc_leave_23 : decode b_Mc_leave 23 = .ok (.getfield 25, 3) := by decide +kernel
theorem d_Mc_leave_26 : decode b_Mc_leave 26 = .ok (.aload_n 0, 1) := by decide +kernel
theorem d_Mc_leave_27 : decode b_Mc_leave 27 = .ok (.getfield 35, 3) := by decide +kernel
theorem d_Mc_leave_30 : decode b_Mc_leave 30 = .ok (.iaload, 1) := by decide +kernel
theorem d_Mc_leave_31 : decode b_Mc_leave 31 = .ok (.putfield 38, 3) := by decide +kernel
theorem d_Mc_leave_34 : decode b_Mc_leave 34 = .ok (.aload_n 0, 1) := by decide +kernel
theorem d_Mc_leave_35 : decode b_Mc_leave 35 = .ok (.dup, 1) := by decide +kernel
theorem d_Mc_leave_36 : decode b_Mc_leave 36 = .ok (.getfield 35, 3) := by decide +kernel
theorem d_Mc_leave_39 : decode b_Mc_leave 39 = .ok (.iconst 1, 1) := by decide +kernel
theorem d_Mc_leave_40 : decode b_Mc_leave 40 = .ok (.isub, 1) := by decide +kernel
theorem d_Mc_leave_41 : decode b_Mc_leave 41 = .ok (.putfield 35, 3) := by decide +kernel
theorem d_Mc_leave_44 : decode b_Mc_leave 44 = .ok (.return_, 1) := by decide +kernel
theorem d_Mc_put_0 : decode b_Mc_put 0 = .ok (.aload_n 0, 1) := by decide +kernel
theorem d_Mc_put_1 : decode b_Mc_put 1 = .ok (.getfield 44, 3) := by decide +kernel
theorem d_Mc_put_4 : decode b_Mc_put 4 = .ok (.bipush 32, 2) := by decide +kernel
theorem d_Mc_put_6 : decode b_Mc_put 6 = .ok (.if_icmp .ge 26, 3) := by decide +kernel
theorem d_Mc_put_9 : decode b_Mc_put 9 = .ok (.aload_n 0, 1) := by decide +kernel
theorem d_Mc_put_10 : decode b_Mc_put 10 = .ok (.getfield 41, 3) := by decide +kernel
theorem d_Mc_put_13 : decode b_Mc_put 13 = .ok (.aload_n 0, 1) := by decide +kernel
theorem d_Mc_put_14 : decode b_Mc_put 14 = .ok (.getfield 44, 3) := by decide +kernel
theorem d_Mc_put_17 : decode b_Mc_put 17 = .ok (.iload_n 1, 1) := by decide +kernel
theorem d_Mc_put_18 : decode b_Mc_put 18 = .ok (.iastore, 1) := by decide +kernel
theorem d_Mc_put_19 : decode b_Mc_put 19 = .ok (.aload_n 0, 1) := by decide +kernel
theorem d_Mc_put_20 : decode b_Mc_put 20 = .ok (.dup, 1) := by decide +kernel
theorem d_Mc_put_21 : decode b_Mc_put 21 = .ok (.getfield 44, 3) := by decide +kernel
theorem d_Mc_put_24 : decode b_Mc_put 24 = .ok (.iconst 1, 1) := by decide +kernel
theorem d_Mc_put_25 : decode b_Mc_put 25 = .ok (.iadd, 1) := by decide +kernel
theorem d_Mc_put_26 : decode b_Mc_put 26 = .ok (.putfield 44, 3) := by decide +kernel
theorem d_Mc_put_29 : decode b_Mc_put 29 = .ok (.goto 13, 3) := by decide +kernel
theorem d_Mc_put_32 : decode b_Mc_put 32 = .ok (.aload_n 0, 1) := by decide +kernel
theorem d_Mc_put_33 : decode b_Mc_put 33 = .ok (.dup, 1) := by decide +kernel
theorem d_Mc_put_34 : decode b_Mc_put 34 = .ok (.getfield 47, 3) := by decide +kernel
theorem d_Mc_put_37 : decode b_Mc_put 37 = .ok (.iconst 1, 1) := by decide +kernel
theorem d_Mc_put_38 : decode b_Mc_put 38 = .ok (.iadd, 1) := by decide +kernel
theorem d_Mc_put_39 : decode b_Mc_put 39 = .ok (.putfield 47, 3) := by decide +kernel
theorem d_Mc_put_42 : decode b_Mc_put 42 = .ok (.return_, 1) := by decide +kernel
theorem d_Mc_frameOutward_0 : decode b_Mc_frameOutward 0 = .ok (.aload_n 0, 1) := by decide +kernel
theorem d_Mc_frameOutward_1 : decode b_Mc_frameOutward 1 = .ok (.getfield 35, 3) := by decide +kernel
theorem d_Mc_frameOutward_4 : decode b_Mc_frameOutward 4 = .ok (.istore_n 2, 1) := by decide +kernel
theorem d_Mc_frameOutward_5 : decode b_Mc_frameOutward 5 = .ok (.iconst 0, 1) := by decide +kernel
theorem d_Mc_frameOutward_6 : decode b_Mc_frameOutward 6 = .ok (.istore_n 3, 1) := by decide +kernel
theorem d_Mc_frameOutward_7 : decode b_Mc_frameOutward 7 = .ok (.iload_n 3, 1) := by decide +kernel
theorem d_Mc_frameOutward_8 : decode b_Mc_frameOutward 8 = .ok (.iload_n 1, 1) := by decide +kernel
theorem d_Mc_frameOutward_9 : decode b_Mc_frameOutward 9 = .ok (.if_icmp .ge 16, 3) := by decide +kernel
theorem d_Mc_frameOutward_12 : decode b_Mc_frameOutward 12 = .ok (.aload_n 0, 1) := by decide +kernel
theorem d_Mc_frameOutward_13 : decode b_Mc_frameOutward 13 = .ok (.getfield 22, 3) := by decide +kernel
theorem d_Mc_frameOutward_16 : decode b_Mc_frameOutward 16 = .ok (.iload_n 2, 1) := by decide +kernel
theorem d_Mc_frameOutward_17 : decode b_Mc_frameOutward 17 = .ok (.iaload, 1) := by decide +kernel
theorem d_Mc_frameOutward_18 : decode b_Mc_frameOutward 18 = .ok (.istore_n 2, 1) := by decide +kernel
theorem d_Mc_frameOutward_19 : decode b_Mc_frameOutward 19 = .ok (.iinc 3 1, 3) := by decide +kernel
theorem d_Mc_frameOutward_22 : decode b_Mc_frameOutward 22 = .ok (.goto (-15), 3) := by decide +kernel
theorem d_Mc_frameOutward_25 : decode b_Mc_frameOutward 25 = .ok (.iload_n 2, 1) := by decide +kernel
theorem d_Mc_frameOutward_26 : decode b_Mc_frameOutward 26 = .ok (.ireturn, 1) := by decide +kernel
theorem d_Mc_address_0 : decode b_Mc_address 0 = .ok (.aload_n 0, 1) := by decide +kernel
theorem d_Mc_address_1 : decode b_Mc_address 1 = .ok (.iload_n 1, 1) := by decide +kernel
theorem d_Mc_address_2 : decode b_Mc_address 2 = .ok (.invokevirtual 105, 3) := by decide +kernel
theorem d_Mc_address_5 : decode b_Mc_address 5 = .ok (.bipush 12, 2) := by decide +kernel
theorem d_Mc_address_7 : decode b_Mc_address 7 = .ok (.imul, 1) := by decide +kernel
theorem d_Mc_address_8 : decode b_Mc_address 8 = .ok (.iload_n 2, 1) := by decide +kernel
theorem d_Mc_address_9 : decode b_Mc_address 9 = .ok (.iadd, 1) := by decide +kernel
theorem d_Mc_address_10 : decode b_Mc_address 10 = .ok (.ireturn, 1) := by decide +kernel
theorem d_Mc_load_0 : decode b_Mc_load 0 = .ok (.iload_n 1, 1) := by decide +kernel
theorem d_Mc_load_1 : decode b_Mc_load 1 = .ok (.ifCond .lt 19, 3) := by decide +kernel
theorem d_Mc_load_4 : decode b_Mc_load 4 = .ok (.iload_n 1, 1) := by decide +kernel
theorem d_Mc_load_5 : decode b_Mc_load 5 = .ok (.sipush 132, 3) := by decide +kernel
theorem d_Mc_load_8 : decode b_Mc_load 8 = .ok (.if_icmp .ge 12, 3) := by decide +kernel
theorem d_Mc_load_11 : decode b_Mc_load 11 = .ok (.aload_n 0, 1) := by decide +kernel
theorem d_Mc_load_12 : decode b_Mc_load 12 = .ok (.getfield 18, 3) := by decide +kernel
theorem d_Mc_load_15 : decode b_Mc_load 15 = .ok (.iload_n 1, 1) := by decide +kernel
theorem d_Mc_load_16 : decode b_Mc_load 16 = .ok (.iaload, 1) := by decide +kernel
theorem d_Mc_load_17 : decode b_Mc_load 17 = .ok (.goto 4, 3) := by decide +kernel
theorem d_Mc_load_20 : decode b_Mc_load 20 = .ok (.iconst 0, 1) := by decide +kernel
theorem d_Mc_load_21 : decode b_Mc_load 21 = .ok (.ireturn, 1) := by decide +kernel
theorem d_Mc_store_0 : decode b_Mc_store 0 = .ok (.iload_n 1, 1) := by decide +kernel
theorem d_Mc_store_1 : decode b_Mc_store 1 = .ok (.ifCond .lt 17, 3) := by decide +kernel
theorem d_Mc_store_4 : decode b_Mc_store 4 = .ok (.iload_n 1, 1) := by decide +kernel
theorem d_Mc_store_5 : decode b_Mc_store 5 = .ok (.sipush 132, 3) := by decide +kernel
theorem d_Mc_store_8 : decode b_Mc_store 8 = .ok (.if_icmp .ge 10, 3) := by decide +kernel
theorem d_Mc_store_11 : decode b_Mc_store 11 = .ok (.aload_n 0, 1) := by decide +kernel
theorem d_Mc_store_12 : decode b_Mc_store 12 = .ok (.getfield 18, 3) := by decide +kernel
theorem d_Mc_store_15 : decode b_Mc_store 15 = .ok (.iload_n 1, 1) := by decide +kernel
theorem d_Mc_store_16 : decode b_Mc_store 16 = .ok (.iload_n 2, 1) := by decide +kernel
theorem d_Mc_store_17 : decode b_Mc_store 17 = .ok (.iastore, 1) := by decide +kernel
theorem d_Mc_store_18 : decode b_Mc_store 18 = .ok (.return_, 1) := by decide +kernel
theorem d_Mc_push_0 : decode b_Mc_push 0 = .ok (.aload_n 0, 1) := by decide +kernel
theorem d_Mc_push_1 : decode b_Mc_push 1 = .ok (.getfield 31, 3) := by decide +kernel
theorem d_Mc_push_4 : decode b_Mc_push 4 = .ok (.bipush 21, 2) := by decide +kernel
theorem d_Mc_push_6 : decode b_Mc_push 6 = .ok (.if_icmp .ge 23, 3) := by decide +kernel
theorem d_Mc_push_9 : decode b_Mc_push 9 = .ok (.aload_n 0, 1) := by decide +kernel
theorem d_Mc_push_10 : decode b_Mc_push 10 = .ok (.getfield 28, 3) := by decide +kernel
theorem d_Mc_push_13 : decode b_Mc_push 13 = .ok (.aload_n 0, 1) := by decide +kernel
theorem d_Mc_push_14 : decode b_Mc_push 14 = .ok (.getfield 31, 3) := by decide +kernel
theorem d_Mc_push_17 : decode b_Mc_push 17 = .ok (.iload_n 1, 1) := by decide +kernel
theorem d_Mc_push_18 : decode b_Mc_push 18 = .ok (.iastore, 1) := by decide +kernel
theorem d_Mc_push_19 : decode b_Mc_push 19 = .ok (.aload_n 0, 1) := by decide +kernel
theorem d_Mc_push_20 : decode b_Mc_push 20 = .ok (.dup, 1) := by decide +kernel
theorem d_Mc_push_21 : decode b_Mc_push 21 = .ok (.getfield 31, 3) := by decide +kernel
theorem d_Mc_push_24 : decode b_Mc_push 24 = .ok (.iconst 1, 1) := by decide +kernel
theorem d_Mc_push_25 : decode b_Mc_push 25 = .ok (.iadd, 1) := by decide +kernel
theorem d_Mc_push_26 : decode b_Mc_push 26 = .ok (.putfield 31, 3) := by decide +kernel
theorem d_Mc_push_29 : decode b_Mc_push 29 = .ok (.return_, 1) := by decide +kernel
theorem d_Mc_pop_0 : decode b_Mc_pop 0 = .ok (.aload_n 0, 1) := by decide +kernel
theorem d_Mc_pop_1 : decode b_Mc_pop 1 = .ok (.getfield 31, 3) := by decide +kernel
theorem d_Mc_pop_4 : decode b_Mc_pop 4 = .ok (.ifCond .ne 5, 3) := by decide +kernel
theorem d_Mc_pop_7 : decode b_Mc_pop 7 = .ok (.iconst 0, 1) := by decide +kernel
theorem d_Mc_pop_8 : decode b_Mc_pop 8 = .ok (.ireturn, 1) := by decide +kernel
theorem d_Mc_pop_9 : decode b_Mc_pop 9 = .ok (.aload_n 0, 1) := by decide +kernel
theorem d_Mc_pop_10 : decode b_Mc_pop 10 = .ok (.dup, 1) := by decide +kernel
theorem d_Mc_pop_11 : decode b_Mc_pop 11 = .ok (.getfield 31, 3) := by decide +kernel
theorem d_Mc_pop_14 : decode b_Mc_pop 14 = .ok (.iconst 1, 1) := by decide +kernel
theorem d_Mc_pop_15 : decode b_Mc_pop 15 = .ok (.isub, 1) := by decide +kernel
theorem d_Mc_pop_16 : decode b_Mc_pop 16 = .ok (.putfield 31, 3) := by decide +kernel
theorem d_Mc_pop_19 : decode b_Mc_pop 19 = .ok (.aload_n 0, 1) := by decide +kernel
theorem d_Mc_pop_20 : decode b_Mc_pop 20 = .ok (.getfield 28, 3) := by decide +kernel
theorem d_Mc_pop_23 : decode b_Mc_pop 23 = .ok (.aload_n 0, 1) := by decide +kernel
theorem d_Mc_pop_24 : decode b_Mc_pop 24 = .ok (.getfield 31, 3) := by decide +kernel
theorem d_Mc_pop_27 : decode b_Mc_pop 27 = .ok (.iaload, 1) := by decide +kernel
theorem d_Mc_pop_28 : decode b_Mc_pop 28 = .ok (.ireturn, 1) := by decide +kernel
