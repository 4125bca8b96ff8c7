abbrev b_Lw_append : ByteArray := method_3_code
theorem d_Lw_append_0 : decode b_Lw_append 0 = .ok (.aload 4, 2) := by decide +kernel
theorem d_Lw_append_2 : decode b_Lw_append 2 = .ok (.iconst 0, 1) := by decide +kernel
theorem d_Lw_append_3 : decode b_Lw_append 3 = .ok (.aload_n 0, 1) := by decide +kernel
theorem d_Lw_append_4 : decode b_Lw_append 4 = .ok (.lload_n 1, 1) := by decide +kernel
theorem d_Lw_append_5 : decode b_Lw_append 5 = .ok (.iload_n 3, 1) := by decide +kernel
theorem d_Lw_append_6 : decode b_Lw_append 6 = .ok (.invokevirtual 7, 3) := by decide +kernel
theorem d_Lw_append_9 : decode b_Lw_append 9 = .ok (.i2l, 1) := by decide +kernel
theorem d_Lw_append_10 : decode b_Lw_append 10 = .ok (.lastore, 1) := by decide +kernel
theorem d_Lw_append_11 : decode b_Lw_append 11 = .ok (.goto 11, 3) := by decide +kernel
theorem d_Lw_append_14 : decode b_Lw_append 14 = .ok (.astore 5, 2) := by decide +kernel
theorem d_Lw_append_16 : decode b_Lw_append 16 = .ok (.iconst 1, 1) := by decide +kernel
theorem d_Lw_append_17 : decode b_Lw_append 17 = .ok (.ireturn, 1) := by decide +kernel
theorem d_Lw_append_18 : decode b_Lw_append 18 = .ok (.astore 5, 2) := by decide +kernel
theorem d_Lw_append_20 : decode b_Lw_append 20 = .ok (.iconst 2, 1) := by decide +kernel
theorem d_Lw_append_21 : decode b_Lw_append 21 = .ok (.ireturn, 1) := by decide +kernel
theorem d_Lw_append_22 : decode b_Lw_append 22 = .ok (.iconst 0, 1) := by decide +kernel
theorem d_Lw_append_23 : decode b_Lw_append 23 = .ok (.ireturn, 1) := by decide +kernel
abbrev b_Lw_cut : ByteArray := method_4_code
theorem d_Lw_cut_0 : decode b_Lw_cut 0 = .ok (.aload_n 2, 1) := by decide +kernel
theorem d_Lw_cut_1 : decode b_Lw_cut 1 = .ok (.iconst 0, 1) := by decide +kernel
theorem d_Lw_cut_2 : decode b_Lw_cut 2 = .ok (.aload_n 0, 1) := by decide +kernel
theorem d_Lw_cut_3 : decode b_Lw_cut 3 = .ok (.iload_n 1, 1) := by decide +kernel
theorem d_Lw_cut_4 : decode b_Lw_cut 4 = .ok (.invokevirtual 17, 3) := by decide +kernel
theorem d_Lw_cut_7 : decode b_Lw_cut 7 = .ok (.i2l, 1) := by decide +kernel
theorem d_Lw_cut_8 : decode b_Lw_cut 8 = .ok (.lastore, 1) := by decide +kernel
theorem d_Lw_cut_9 : decode b_Lw_cut 9 = .ok (.goto 6, 3) := by decide +kernel
theorem d_Lw_cut_12 : decode b_Lw_cut 12 = .ok (.astore_n 3, 1) := by decide +kernel
theorem d_Lw_cut_13 : decode b_Lw_cut 13 = .ok (.iconst 1, 1) := by decide +kernel
theorem d_Lw_cut_14 : decode b_Lw_cut 14 = .ok (.ireturn, 1) := by decide +kernel
theorem d_Lw_cut_15 : decode b_Lw_cut 15 = .ok (.iconst 0, 1) := by decide +kernel
theorem d_Lw_cut_16 : decode b_Lw_cut 16 = .ok (.ireturn, 1) := by decide +kernel
abbrev b_Lw_compile : ByteArray := method_5_code
theorem d_Lw_compile_0 : decode b_Lw_compile 0 = .ok (.aload_n 1, 1) := by decide +kernel
theorem d_Lw_compile_1 : decode b_Lw_compile 1 = .ok (.iconst 0, 1) := by decide +kernel
theorem d_Lw_compile_2 : decode b_Lw_compile 2 = .ok (.aload_n 0, 1) := by decide +kernel
theorem d_Lw_compile_3 : decode b_Lw_compile 3 = .ok (.invokevirtual 21, 3) := by decide +kernel
theorem d_Lw_compile_6 : decode b_Lw_compile 6 = .ok (.i2l, 1) := by decide +kernel
theorem d_Lw_compile_7 : decode b_Lw_compile 7 = .ok (.lastore, 1) := by decide +kernel
theorem d_Lw_compile_8 : decode b_Lw_compile 8 = .ok (.goto 6, 3) := by decide +kernel
theorem d_Lw_compile_11 : decode b_Lw_compile 11 = .ok (.astore_n 2, 1) := by decide +kernel
theorem d_Lw_compile_12 : decode b_Lw_compile 12 = .ok (.iconst 1, 1) := by decide +kernel
theorem d_Lw_compile_13 : decode b_Lw_compile 13 = .ok (.ireturn, 1) := by decide +kernel
theorem d_Lw_compile_14 : decode b_Lw_compile 14 = .ok (.iconst 0, 1) := by decide +kernel
theorem d_Lw_compile_15 : decode b_Lw_compile 15 = .ok (.ireturn, 1) := by decide +kernel
abbrev b_Lw_run : ByteArray := method_6_code
theorem d_Lw_run_0 : decode b_Lw_run 0 = .ok (.aload_n 1, 1) := by decide +kernel
theorem d_Lw_run_1 : decode b_Lw_run 1 = .ok (.iconst 0, 1) := by decide +kernel
theorem d_Lw_run_2 : decode b_Lw_run 2 = .ok (.aload_n 0, 1) := by decide +kernel
theorem d_Lw_run_3 : decode b_Lw_run 3 = .ok (.invokevirtual 25, 3) := by decide +kernel
theorem d_Lw_run_6 : decode b_Lw_run 6 = .ok (.i2l, 1) := by decide +kernel
theorem d_Lw_run_7 : decode b_Lw_run 7 = .ok (.lastore, 1) := by decide +kernel
theorem d_Lw_run_8 : decode b_Lw_run 8 = .ok (.goto 15, 3) := by decide +kernel
theorem d_Lw_run_11 : decode b_Lw_run 11 = .ok (.astore_n 2, 1) := by decide +kernel
theorem d_Lw_run_12 : decode b_Lw_run 12 = .ok (.iconst 1, 1) := by decide +kernel
theorem d_Lw_run_13 : decode b_Lw_run 13 = .ok (.ireturn, 1) := by decide +kernel
theorem d_Lw_run_14 : decode b_Lw_run 14 = .ok (.astore_n 2, 1) := by decide +kernel
theorem d_Lw_run_15 : decode b_Lw_run 15 = .ok (.iconst 2, 1) := by decide +kernel
theorem d_Lw_run_16 : decode b_Lw_run 16 = .ok (.ireturn, 1) := by decide +kernel
theorem d_Lw_run_17 : decode b_Lw_run 17 = .ok (.astore_n 2, 1) := by decide +kernel
theorem d_Lw_run_18 : decode b_Lw_run 18 = .ok (.iconst 3, 1) := by decide +kernel
theorem d_Lw_run_19 : decode b_Lw_run 19 = .ok (.ireturn, 1) := by decide +kernel
theorem d_Lw_run_20 : decode b_Lw_run 20 = .ok (.astore_n 2, 1) := by decide +kernel
theorem d_Lw_run_21 : decode b_Lw_run 21 = .ok (.iconst 4, 1) := by decide +kernel
theorem d_Lw_run_22 : decode b_Lw_run 22 = .ok (.ireturn, 1) := by decide +kernel
theorem d_Lw_run_23 : decode b_Lw_run 23 = .ok (.iconst 0, 1) := by decide +kernel
theorem d_Lw_run_24 : decode b_Lw_run 24 = .ok (.ireturn, 1) := by decide +kernel
abbrev b_Lw_output : ByteArray := method_7_code
theorem d_Lw_output_0 : decode b_Lw_output 0 = .ok (.aload_n 2, 1) := by decide +kernel
theorem d_Lw_output_1 : decode b_Lw_output 1 = .ok (.iconst 0, 1) := by decide +kernel
theorem d_Lw_output_2 : decode b_Lw_output 2 = .ok (.aload_n 0, 1) := by decide +kernel
theorem d_Lw_output_3 : decode b_Lw_output 3 = .ok (.iload_n 1, 1) := by decide +kernel
theorem d_Lw_output_4 : decode b_Lw_output 4 = .ok (.invokevirtual 34, 3) := by decide +kernel
theorem d_Lw_output_7 : decode b_Lw_output 7 = .ok (.i2l, 1) := by decide +kernel
theorem d_Lw_output_8 : decode b_Lw_output 8 = .ok (.lastore, 1) := by decide +kernel
theorem d_Lw_output_9 : decode b_Lw_output 9 = .ok (.goto 6, 3) := by decide +kernel
theorem d_Lw_output_12 : decode b_Lw_output 12 = .ok (.astore_n 3, 1) := by decide +kernel
theorem d_Lw_output_13 : decode b_Lw_output 13 = .ok (.iconst 1, 1) := by decide +kernel
theorem d_Lw_output_14 : decode b_Lw_output 14 = .ok (.ireturn, 1) := by decide +kernel
theorem d_Lw_output_15 : decode b_Lw_output 15 = .ok (.iconst 0, 1) := by decide +kernel
theorem d_Lw_output_16 : decode b_Lw_output 16 = .ok (.ireturn, 1) := by decide +kernel
abbrev b_Lw_count : ByteArray := method_8_code
theorem d_Lw_count_0 : decode b_Lw_count 0 = .ok (.aload_n 2, 1) := by decide +kernel
theorem d_Lw_count_1 : decode b_Lw_count 1 = .ok (.iconst 0, 1) := by decide +kernel
theorem d_Lw_count_2 : decode b_Lw_count 2 = .ok (.aload_n 0, 1) := by decide +kernel
theorem d_Lw_count_3 : decode b_Lw_count 3 = .ok (.iload_n 1, 1) := by decide +kernel
theorem d_Lw_count_4 : decode b_Lw_count 4 = .ok (.invokevirtual 37, 3) := by decide +kernel
theorem d_Lw_count_7 : decode b_Lw_count 7 = .ok (.i2l, 1) := by decide +kernel
theorem d_Lw_count_8 : decode b_Lw_count 8 = .ok (.lastore, 1) := by decide +kernel
theorem d_Lw_count_9 : decode b_Lw_count 9 = .ok (.goto 6, 3) := by decide +kernel
theorem d_Lw_count_12 : decode b_Lw_count 12 = .ok (.astore_n 3, 1) := by decide +kernel
theorem d_Lw_count_13 : decode b_Lw_count 13 = .ok (.iconst 1, 1) := by decide +kernel
theorem d_Lw_count_14 : decode b_Lw_count 14 = .ok (.ireturn, 1) := by decide +kernel
theorem d_Lw_count_15 : decode b_Lw_count 15 = .ok (.iconst 0, 1) := by decide +kernel
theorem d_Lw_count_16 : decode b_Lw_count 16 = .ok (.ireturn, 1) := by decide +kernel
abbrev b_Lw_law : ByteArray := code
theorem d_Lw_law_0 : decode b_Lw_law 0 = .ok (.new 8, 3) := by decide +kernel
theorem d_Lw_law_3 : decode b_Lw_law 3 = .ok (.dup, 1) := by decide +kernel
theorem d_Lw_law_4 : decode b_Lw_law 4 = .ok (.invokespecial 40, 3) := by decide +kernel
theorem d_Lw_law_7 : decode b_Lw_law 7 = .ok (.astore_n 1, 1) := by decide +kernel
theorem d_Lw_law_8 : decode b_Lw_law 8 = .ok (.new 41, 3) := by decide +kernel
theorem d_Lw_law_11 : decode b_Lw_law 11 = .ok (.dup, 1) := by decide +kernel
theorem d_Lw_law_12 : decode b_Lw_law 12 = .ok (.invokespecial 43, 3) := by decide +kernel
theorem d_Lw_law_15 : decode b_Lw_law 15 = .ok (.astore_n 2, 1) := by decide +kernel
theorem d_Lw_law_16 : decode b_Lw_law 16 = .ok (.iconst 1, 1) := by decide +kernel
theorem d_Lw_law_17 : decode b_Lw_law 17 = .ok (.newarray .long, 2) := by decide +kernel
theorem d_Lw_law_19 : decode b_Lw_law 19 = .ok (.astore_n 3, 1) := by decide +kernel
theorem d_Lw_law_20 : decode b_Lw_law 20 = .ok (.iconst 0, 1) := by decide +kernel
theorem d_Lw_law_21 : decode b_Lw_law 21 = .ok (.istore 4, 2) := by decide +kernel
theorem d_Lw_law_23 : decode b_Lw_law 23 = .ok (.iload 4, 2) := by decide +kernel
theorem d_Lw_law_25 : decode b_Lw_law 25 = .ok (.aload_n 0, 1) := by decide +kernel
theorem d_Lw_law_26 : decode b_Lw_law 26 = .ok (.arraylength, 1) := by decide +kernel
theorem d_Lw_law_27 : decode b_Lw_law 27 = .ok (.iconst 4, 1) := by decide +kernel
theorem d_Lw_law_28 : decode b_Lw_law 28 = .ok (.isub, 1) := by decide +kernel
theorem d_Lw_law_29 : decode b_Lw_law 29 = .ok (.if_icmp .gt 426, 3) := by decide +kernel
theorem d_Lw_law_32 : decode b_Lw_law 32 = .ok (.aload_n 0, 1) := by decide +kernel
theorem d_Lw_law_33 : decode b_Lw_law 33 = .ok (.iload 4, 2) := by decide +kernel
theorem d_Lw_law_35 : decode b_Lw_law 35 = .ok (.iaload, 1) := by decide +kernel
theorem d_Lw_law_36 : decode b_Lw_law 36 = .ok (.bipush 7, 2) := by decide +kernel
theorem d_Lw_law_38 : decode b_Lw_law 38 = .ok (.iand, 1) := by decide +kernel
theorem d_Lw_law_39 : decode b_Lw_law 39 = .ok (.tableswitch 410 0 6 #[41, 141, 197, 241, 254, 298, 354], 41) := by decide +kernel
theorem d_Lw_law_80 : decode b_Lw_law 80 = .ok (.aload_n 1, 1) := by decide +kernel
theorem d_Lw_law_81 : decode b_Lw_law 81 = .ok (.aload_n 0, 1) := by decide +kernel
theorem d_Lw_law_82 : decode b_Lw_law 82 = .ok (.iload 4, 2) := by decide +kernel
theorem d_Lw_law_84 : decode b_Lw_law 84 = .ok (.iconst 1, 1) := by decide +kernel
theorem d_Lw_law_85 : decode b_Lw_law 85 = .ok (.iadd, 1) := by decide +kernel
theorem d_Lw_law_86 : decode b_Lw_law 86 = .ok (.iaload, 1) := by decide +kernel
theorem d_Lw_law_87 : decode b_Lw_law 87 = .ok (.i2l, 1) := by decide +kernel
theorem d_Lw_law_88 : decode b_Lw_law 88 = .ok (.bipush 32, 2) := by decide +kernel
theorem d_Lw_law_90 : decode b_Lw_law 90 = .ok (.lshl, 1) := by decide +kernel
theorem d_Lw_law_91 : decode b_Lw_law 91 = .ok (.aload_n 0, 1) := by decide +kernel
theorem d_Lw_law_92 : decode b_Lw_law 92 = .ok (.iload 4, 2) := by decide +kernel
theorem d_Lw_law_94 : decode b_Lw_law 94 = .ok (.iconst 2, 1) := by decide +kernel
theorem d_Lw_law_95 : decode b_Lw_law 95 = .ok (.iadd, 1) := by decide +kernel
theorem d_Lw_law_96 : decode b_Lw_law 96 = .ok (.iaload, 1) := by decide +kernel
theorem d_Lw_law_97 : decode b_Lw_law 97 = .ok (.i2l, 1) := by decide +kernel
theorem d_Lw_law_98 : decode b_Lw_law 98 = .ok (.ldc2_w 44, 3) := by decide +kernel
theorem d_Lw_law_101 : decode b_Lw_law 101 = .ok (.land, 1) := by decide +kernel
theorem d_Lw_law_102 : decode b_Lw_law 102 = .ok (.lor, 1) := by decide +kernel
theorem d_Lw_law_103 : decode b_Lw_law 103 = .ok (.aload_n 0, 1) := by decide +kernel
theorem d_Lw_law_104 : decode b_Lw_law 104 = .ok (.iload 4, 2) := by decide +kernel
theorem d_Lw_law_106 : decode b_Lw_law 106 = .ok (.iconst 3, 1) := by decide +kernel
theorem d_Lw_law_107 : decode b_Lw_law 107 = .ok (.iadd, 1) := by decide +kernel
theorem d_Lw_law_108 : decode b_Lw_law 108 = .ok (.iaload, 1) := by decide +kernel
theorem d_Lw_law_109 : decode b_Lw_law 109 = .ok (.aload_n 3, 1) := by decide +kernel
theorem d_Lw_law_110 : decode b_Lw_law 110 = .ok (.invokestatic 46, 3) := by decide +kernel
theorem d_Lw_law_113 : decode b_Lw_law 113 = .ok (.istore 5, 2) := by decide +kernel
theorem d_Lw_law_115 : decode b_Lw_law 115 = .ok (.aload_n 2, 1) := by decide +kernel
theorem d_Lw_law_116 : decode b_Lw_law 116 = .ok (.aload_n 0, 1) := by decide +kernel
theorem d_Lw_law_117 : decode b_Lw_law 117 = .ok (.iload 4, 2) := by decide +kernel
theorem d_Lw_law_119 : decode b_Lw_law 119 = .ok (.iconst 1, 1) := by decide +kernel
theorem d_Lw_law_120 : decode b_Lw_law 120 = .ok (.iadd, 1) := by decide +kernel
theorem d_Lw_law_121 : decode b_Lw_law 121 = .ok (.iaload, 1) := by decide +kernel
theorem d_Lw_law_122 : decode b_Lw_law 122 = .ok (.i2l, 1) := by decide +kernel
theorem d_Lw_law_123 : decode b_Lw_law 123 = .ok (.bipush 32, 2) := by decide +kernel
theorem d_Lw_law_125 : decode b_Lw_law 125 = .ok (.lshl, 1) := by decide +kernel
theorem d_Lw_law_126 : decode b_Lw_law 126 = .ok (.aload_n 0, 1) := by decide +kernel
theorem d_Lw_law_127 : decode b_Lw_law 127 = .ok (.iload 4, 2) := by decide +kernel
theorem d_Lw_law_129 : decode b_Lw_law 129 = .ok (.iconst 2, 1) := by decide +kernel
theorem d_Lw_law_130 : decode b_Lw_law 130 = .ok (.iadd, 1) := by decide +kernel
theorem d_Lw_law_131 : decode b_Lw_law 131 = .ok (.iaload, 1) := by decide +kernel
theorem d_Lw_law_132 : decode b_Lw_law 132 = .ok (.i2l, 1) := by decide +kernel
theorem d_Lw_law_133 : decode b_Lw_law 133 = .ok (.ldc2_w 44, 3) := by decide +kernel
theorem d_Lw_law_136 : decode b_Lw_law 136 = .ok (.land, 1) := by decide +kernel
theorem d_Lw_law_137 : decode b_Lw_law 137 = .ok (.lor, 1) := by decide +kernel
theorem d_Lw_law_138 : decode b_Lw_law 138 = .ok (.aload_n 0, 1) := by decide +kernel
theorem d_Lw_law_139 : decode b_Lw_law 139 = .ok (.iload 4, 2) := by decide +kernel
theorem d_Lw_law_141 : decode b_Lw_law 141 = .ok (.iconst 3, 1) := by decide +kernel
theorem d_Lw_law_142 : decode b_Lw_law 142 = .ok (.iadd, 1) := by decide +kernel
theorem d_Lw_law_143 : decode b_Lw_law 143 = .ok (.iaload, 1) := by decide +kernel
theorem d_Lw_law_144 : decode b_Lw_law 144 = .ok (.invokevirtual 51, 3) := by decide +kernel
theorem d_Lw_law_147 : decode b_Lw_law 147 = .ok (.istore 6, 2) := by decide +kernel
theorem d_Lw_law_149 : decode b_Lw_law 149 = .ok (.aload_n 2, 1) := by decide +kernel
theorem d_Lw_law_150 : decode b_Lw_law 150 = .ok (.invokevirtual 52, 3) := by decide +kernel
theorem d_Lw_law_153 : decode b_Lw_law 153 = .ok (.iload 5, 2) := by decide +kernel
theorem d_Lw_law_155 : decode b_Lw_law 155 = .ok (.if_icmp .eq 5, 3) := by decide +kernel
theorem d_Lw_law_158 : decode b_Lw_law 158 = .ok (.iconst 0, 1) := by decide +kernel
theorem d_Lw_law_159 : decode b_Lw_law 159 = .ok (.ireturn, 1) := by decide +kernel
theorem d_Lw_law_160 : decode b_Lw_law 160 = .ok (.iload 5, 2) := by decide +kernel
theorem d_Lw_law_162 : decode b_Lw_law 162 = .ok (.ifCond .ne 15, 3) := by decide +kernel
theorem d_Lw_law_165 : decode b_Lw_law 165 = .ok (.aload_n 3, 1) := by decide +kernel
theorem d_Lw_law_166 : decode b_Lw_law 166 = .ok (.iconst 0, 1) := by decide +kernel
theorem d_Lw_law_167 : decode b_Lw_law 167 = .ok (.laload, 1) := by decide +kernel
theorem d_Lw_law_168 : decode b_Lw_law 168 = .ok (.iload 6, 2) := by decide +kernel
theorem d_Lw_law_170 : decode b_Lw_law 170 = .ok (.i2l, 1) := by decide +kernel
theorem d_Lw_law_171 : decode b_Lw_law 171 = .ok (.lcmp, 1) := by decide +kernel
theorem d_Lw_law_172 : decode b_Lw_law 172 = .ok (.ifCond .eq 5, 3) := by decide +kernel
theorem d_Lw_law_175 : decode b_Lw_law 175 = .ok (.iconst 0, 1) := by decide +kernel
theorem d_Lw_law_176 : decode b_Lw_law 176 = .ok (.ireturn, 1) := by decide +kernel
theorem d_Lw_law_177 : decode b_Lw_law 177 = .ok (.goto 272, 3) := by decide +kernel
theorem d_Lw_law_180 : decode b_Lw_law 180 = .ok (.aload_n 1, 1) := by decide +kernel
theorem d_Lw_law_181 : decode b_Lw_law 181 = .ok (.aload_n 0, 1) := by decide +kernel
theorem d_Lw_law_182 : decode b_Lw_law 182 = .ok (.iload 4, 2) := by decide +kernel
theorem d_Lw_law_184 : decode b_Lw_law 184 = .ok (.iconst 1, 1) := by decide +kernel
theorem d_Lw_law_185 : decode b_Lw_law 185 = .ok (.iadd, 1) := by decide +kernel
theorem d_Lw_law_186 : decode b_Lw_law 186 = .ok (.iaload, 1) := by decide +kernel
theorem d_Lw_law_187 : decode b_Lw_law 187 = .ok (.aload_n 3, 1) := by decide +kernel
theorem d_Lw_law_188 : decode b_Lw_law 188 = .ok (.invokestatic 55, 3) := by decide +kernel
theorem d_Lw_law_191 : decode b_Lw_law 191 = .ok (.istore 5, 2) := by decide +kernel
theorem d_Lw_law_193 : decode b_Lw_law 193 = .ok (.aload_n 2, 1) := by decide +kernel
theorem d_Lw_law_194 : decode b_Lw_law 194 = .ok (.aload_n 0, 1) := by decide +kernel
theorem d_Lw_law_195 : decode b_Lw_law 195 = .ok (.iload 4, 2) := by decide +kernel
theorem d_Lw_law_197 : decode b_Lw_law 197 = .ok (.iconst 1, 1) := by decide +kernel
theorem d_Lw_law_198 : decode b_Lw_law 198 = .ok (.iadd, 1) := by decide +kernel
theorem d_Lw_law_199 : decode b_Lw_law 199 = .ok (.iaload, 1) := by decide +kernel
theorem d_Lw_law_200 : decode b_Lw_law 200 = .ok (.invokevirtual 58, 3) := by decide +kernel
theorem d_Lw_law_203 : decode b_Lw_law 203 = .ok (.istore 6, 2) := by decide +kernel
theorem d_Lw_law_205 : decode b_Lw_law 205 = .ok (.aload_n 2, 1) := by decide +kernel
theorem d_Lw_law_206 : decode b_Lw_law 206 = .ok (.invokevirtual 52, 3) := by decide +kernel
theorem d_Lw_law_209 : decode b_Lw_law 209 = .ok (.iload 5, 2) := by decide +kernel
theorem d_Lw_law_211 : decode b_Lw_law 211 = .ok (.if_icmp .eq 5, 3) := by decide +kernel
theorem d_Lw_law_214 : decode b_Lw_law 214 = .ok (.iconst 0, 1) := by decide +kernel
theorem d_Lw_law_215 : decode b_Lw_law 215 = .ok (.ireturn, 1) := by decide +kernel
theorem d_Lw_law_216 : decode b_Lw_law 216 = .ok (.iload 5, 2) := by decide +kernel
theorem d_Lw_law_218 : decode b_Lw_law 218 = .ok (.ifCond .ne 15, 3) := by decide +kernel
theorem d_Lw_law_221 : decode b_Lw_law 221 = .ok (.aload_n 3, 1) := by decide +kernel
theorem d_Lw_law_222 : decode b_Lw_law 222 = .ok (.iconst 0, 1) := by decide +kernel
theorem d_Lw_law_223 : decode b_Lw_law 223 = .ok (.laload, 1) := by decide +kernel
theorem d_Lw_law_224 : decode b_Lw_law 224 = .ok (.iload 6, 2) := by decide +kernel
theorem d_Lw_law_226 : decode b_Lw_law 226 = .ok (.i2l, 1) := by decide +kernel
theorem d_Lw_law_227 : decode b_Lw_law 227 = .ok (.lcmp, 1) := by decide +kernel
theorem d_Lw_law_228 : decode b_Lw_law 228 = .ok (.ifCond .eq 5, 3) := by decide +kernel
theorem d_Lw_law_231 : decode b_Lw_law 231 = .ok (.iconst 0, 1) := by decide +kernel
theorem d_Lw_law_232 : decode b_Lw_law 232 = .ok (.ireturn, 1) := by decide +kernel
theorem d_Lw_law_233 : decode b_Lw_law 233 = .ok (.goto 216, 3) := by decide +kernel
theorem d_Lw_law_236 : decode b_Lw_law 236 = .ok (.aload_n 1, 1) := by decide +kernel
theorem d_Lw_law_237 : decode b_Lw_law 237 = .ok (.aload_n 3, 1) := by decide +kernel
theorem d_Lw_law_238 : decode b_Lw_law 238 = .ok (.invokestatic 59, 3) := by decide +kernel
theorem d_Lw_law_241 : decode b_Lw_law 241 = .ok (.istore 5, 2) := by decide +kernel
theorem d_Lw_law_243 : decode b_Lw_law 243 = .ok (.aload_n 2, 1) := by decide +kernel
theorem d_Lw_law_244 : decode b_Lw_law 244 = .ok (.invokevirtual 62, 3) := by decide +kernel
theorem d_Lw_law_247 : decode b_Lw_law 247 = .ok (.istore 6, 2) := by decide +kernel
theorem d_Lw_law_249 : decode b_Lw_law 249 = .ok (.aload_n 2, 1) := by decide +kernel
theorem d_Lw_law_250 : decode b_Lw_law 250 = .ok (.invokevirtual 52, 3) := by decide +kernel
theorem d_Lw_law_253 : decode b_Lw_law 253 = .ok (.iload 5, 2) := by decide +kernel
theorem d_Lw_law_255 : decode b_Lw_law 255 = .ok (.if_icmp .eq 5, 3) := by decide +kernel
theorem d_Lw_law_258 : decode b_Lw_law 258 = .ok (.iconst 0, 1) := by decide +kernel
theorem d_Lw_law_259 : decode b_Lw_law 259 = .ok (.ireturn, 1) := by decide +kernel
theorem d_Lw_law_260 : decode b_Lw_law 260 = .ok (.iload 5, 2) := by decide +kernel
theorem d_Lw_law_262 : decode b_Lw_law 262 = .ok (.ifCond .ne 15, 3) := by decide +kernel
theorem d_Lw_law_265 : decode b_Lw_law 265 = .ok (.aload_n 3, 1) := by decide +kernel
theorem d_Lw_law_266 : decode b_Lw_law 266 = .ok (.iconst 0, 1) := by decide +kernel
theorem d_Lw_law_267 : decode b_Lw_law 267 = .ok (.laload, 1) := by decide +kernel
theorem d_Lw_law_268 : decode b_Lw_law 268 = .ok (.iload 6, 2) := by decide +kernel
theorem d_Lw_law_270 : decode b_Lw_law 270 = .ok (.i2l, 1) := by decide +kernel
theorem d_Lw_law_271 : decode b_Lw_law 271 = .ok (.lcmp, 1) := by decide +kernel
theorem d_Lw_law_272 : decode b_Lw_law 272 = .ok (.ifCond .eq 5, 3) := by decide +kernel
theorem d_Lw_law_275 : decode b_Lw_law 275 = .ok (.iconst 0, 1) := by decide +kernel
theorem d_Lw_law_276 : decode b_Lw_law 276 = .ok (.ireturn, 1) := by decide +kernel
theorem d_Lw_law_277 : decode b_Lw_law 277 = .ok (.goto 172, 3) := by decide +kernel
theorem d_Lw_law_280 : decode b_Lw_law 280 = .ok (.aload_n 1, 1) := by decide +kernel
theorem d_Lw_law_281 : decode b_Lw_law 281 = .ok (.invokevirtual 63, 3) := by decide +kernel
theorem d_Lw_law_284 : decode b_Lw_law 284 = .ok (.aload_n 2, 1) := by decide +kernel
theorem d_Lw_law_285 : decode b_Lw_law 285 = .ok (.invokevirtual 66, 3) := by decide +kernel
theorem d_Lw_law_288 : decode b_Lw_law 288 = .ok (.if_icmp .eq 161, 3) := by decide +kernel
theorem d_Lw_law_291 : decode b_Lw_law 291 = .ok (.iconst 0, 1) := by decide +kernel
theorem d_Lw_law_292 : decode b_Lw_law 292 = .ok (.ireturn, 1) := by decide +kernel
theorem d_Lw_law_293 : decode b_Lw_law 293 = .ok (.aload_n 1, 1) := by decide +kernel
theorem d_Lw_law_294 : decode b_Lw_law 294 = .ok (.aload_n 3, 1) := by decide +kernel
theorem d_Lw_law_295 : decode b_Lw_law 295 = .ok (.invokestatic 67, 3) := by decide +kernel
theorem d_Lw_law_298 : decode b_Lw_law 298 = .ok (.istore 5, 2) := by decide +kernel
theorem d_Lw_law_300 : decode b_Lw_law 300 = .ok (.aload_n 2, 1) := by decide +kernel
theorem d_Lw_law_301 : decode b_Lw_law 301 = .ok (.invokevirtual 69, 3) := by decide +kernel
theorem d_Lw_law_304 : decode b_Lw_law 304 = .ok (.istore 6, 2) := by decide +kernel
theorem d_Lw_law_306 : decode b_Lw_law 306 = .ok (.aload_n 2, 1) := by decide +kernel
theorem d_Lw_law_307 : decode b_Lw_law 307 = .ok (.invokevirtual 52, 3) := by decide +kernel
theorem d_Lw_law_310 : decode b_Lw_law 310 = .ok (.iload 5, 2) := by decide +kernel
theorem d_Lw_law_312 : decode b_Lw_law 312 = .ok (.if_icmp .eq 5, 3) := by decide +kernel
theorem d_Lw_law_315 : decode b_Lw_law 315 = .ok (.iconst 0, 1) := by decide +kernel
theorem d_Lw_law_316 : decode b_Lw_law 316 = .ok (.ireturn, 1) := by decide +kernel
theorem d_Lw_law_317 : decode b_Lw_law 317 = .ok (.iload 5, 2) := by decide +kernel
theorem d_Lw_law_319 : decode b_Lw_law 319 = .ok (.ifCond .ne 15, 3) := by decide +kernel
theorem d_Lw_law_322 : decode b_Lw_law 322 = .ok (.aload_n 3, 1) := by decide +kernel
theorem d_Lw_law_323 : decode b_Lw_law 323 = .ok (.iconst 0, 1) := by decide +kernel
theorem d_Lw_law_324 : decode b_Lw_law 324 = .ok (.laload, 1) := by decide +kernel
theorem d_Lw_law_325 : decode b_Lw_law 325 = .ok (.iload 6, 2) := by decide +kernel
theorem d_Lw_law_327 : decode b_Lw_law 327 = .ok (.i2l, 1) := by decide +kernel
theorem d_Lw_law_328 : decode b_Lw_law 328 = .ok (.lcmp, 1) := by decide +kernel
theorem d_Lw_law_329 : decode b_Lw_law 329 = .ok (.ifCond .eq 5, 3) := by decide +kernel
theorem d_Lw_law_332 : decode b_Lw_law 332 = .ok (.iconst 0, 1) := by decide +kernel
theorem d_Lw_law_333 : decode b_Lw_law 333 = .ok (.ireturn, 1) := by decide +kernel
theorem d_Lw_law_334 : decode b_Lw_law 334 = .ok (.goto 115, 3) := by decide +kernel
theorem d_Lw_law_337 : decode b_Lw_law 337 = .ok (.aload_n 1, 1) := by decide +kernel
theorem d_Lw_law_338 : decode b_Lw_law 338 = .ok (.aload_n 0, 1) := by decide +kernel
theorem d_Lw_law_339 : decode b_Lw_law 339 = .ok (.iload 4, 2) := by decide +kernel
theorem d_Lw_law_341 : decode b_Lw_law 341 = .ok (.iconst 1, 1) := by decide +kernel
theorem d_Lw_law_342 : decode b_Lw_law 342 = .ok (.iadd, 1) := by decide +kernel
theorem d_Lw_law_343 : decode b_Lw_law 343 = .ok (.iaload, 1) := by decide +kernel
theorem d_Lw_law_344 : decode b_Lw_law 344 = .ok (.aload_n 3, 1) := by decide +kernel
theorem d_Lw_law_345 : decode b_Lw_law 345 = .ok (.invokestatic 70, 3) := by decide +kernel
theorem d_Lw_law_348 : decode b_Lw_law 348 = .ok (.istore 5, 2) := by decide +kernel
theorem d_Lw_law_350 : decode b_Lw_law 350 = .ok (.aload_n 2, 1) := by decide +kernel
theorem d_Lw_law_351 : decode b_Lw_law 351 = .ok (.aload_n 0, 1) := by decide +kernel
theorem d_Lw_law_352 : decode b_Lw_law 352 = .ok (.iload 4, 2) := by decide +kernel
theorem d_Lw_law_354 : decode b_Lw_law 354 = .ok (.iconst 1, 1) := by decide +kernel
theorem d_Lw_law_355 : decode b_Lw_law 355 = .ok (.iadd, 1) := by decide +kernel
theorem d_Lw_law_356 : decode b_Lw_law 356 = .ok (.iaload, 1) := by decide +kernel
theorem d_Lw_law_357 : decode b_Lw_law 357 = .ok (.invokevirtual 72, 3) := by decide +kernel
theorem d_Lw_law_360 : decode b_Lw_law 360 = .ok (.istore 6, 2) := by decide +kernel
theorem d_Lw_law_362 : decode b_Lw_law 362 = .ok (.aload_n 2, 1) := by decide +kernel
theorem d_Lw_law_363 : decode b_Lw_law 363 = .ok (.invokevirtual 52, 3) := by decide +kernel
theorem d_Lw_law_366 : decode b_Lw_law 366 = .ok (.iload 5, 2) := by decide +kernel
theorem d_Lw_law_368 : decode b_Lw_law 368 = .ok (.if_icmp .eq 5, 3) := by decide +kernel
theorem d_Lw_law_371 : decode b_Lw_law 371 = .ok (.iconst 0, 1) := by decide +kernel
theorem d_Lw_law_372 : decode b_Lw_law 372 = .ok (.ireturn, 1) := by decide +kernel
theorem d_Lw_law_373 : decode b_Lw_law 373 = .ok (.iload 5, 2) := by decide +kernel
theorem d_Lw_law_375 : decode b_Lw_law 375 = .ok (.ifCond .ne 15, 3) := by decide +kernel
theorem d_Lw_law_378 : decode b_Lw_law 378 = .ok (.aload_n 3, 1) := by decide +kernel
theorem d_Lw_law_379 : decode b_Lw_law 379 = .ok (.iconst 0, 1) := by decide +kernel
theorem d_Lw_law_380 : decode b_Lw_law 380 = .ok (.laload, 1) := by decide +kernel
theorem d_Lw_law_381 : decode b_Lw_law 381 = .ok (.iload 6, 2) := by decide +kernel
theorem d_Lw_law_383 : decode b_Lw_law 383 = .ok (.i2l, 1) := by decide +kernel
theorem d_Lw_law_384 : decode b_Lw_law 384 = .ok (.lcmp, 1) := by decide +kernel
theorem d_Lw_law_385 : decode b_Lw_law 385 = .ok (.ifCond .eq 5, 3) := by decide +kernel
theorem d_Lw_law_388 : decode b_Lw_law 388 = .ok (.iconst 0, 1) := by decide +kernel
theorem d_Lw_law_389 : decode b_Lw_law 389 = .ok (.ireturn, 1) := by decide +kernel
theorem d_Lw_law_390 : decode b_Lw_law 390 = .ok (.goto 59, 3) := by decide +kernel
theorem d_Lw_law_393 : decode b_Lw_law 393 = .ok (.aload_n 1, 1) := by decide +kernel
theorem d_Lw_law_394 : decode b_Lw_law 394 = .ok (.aload_n 0, 1) := by decide +kernel
theorem d_Lw_law_395 : decode b_Lw_law 395 = .ok (.iload 4, 2) := by decide +kernel
theorem d_Lw_law_397 : decode b_Lw_law 397 = .ok (.iconst 1, 1) := by decide +kernel
theorem d_Lw_law_398 : decode b_Lw_law 398 = .ok (.iadd, 1) := by decide +kernel
theorem d_Lw_law_399 : decode b_Lw_law 399 = .ok (.iaload, 1) := by decide +kernel
theorem d_Lw_law_400 : decode b_Lw_law 400 = .ok (.aload_n 3, 1) := by decide +kernel
theorem d_Lw_law_401 : decode b_Lw_law 401 = .ok (.invokestatic 73, 3) := by decide +kernel
theorem d_Lw_law_404 : decode b_Lw_law 404 = .ok (.istore 5, 2) := by decide +kernel
theorem d_Lw_law_406 : decode b_Lw_law 406 = .ok (.aload_n 2, 1) := by decide +kernel
theorem d_Lw_law_407 : decode b_Lw_law 407 = .ok (.aload_n 0, 1) := by decide +kernel
theorem d_Lw_law_408 : decode b_Lw_law 408 = .ok (.iload 4, 2) := by decide +kernel
theorem d_Lw_law_410 : decode b_Lw_law 410 = .ok (.iconst 1, 1) := by decide +kernel
theorem d_Lw_law_411 : decode b_Lw_law 411 = .ok (.iadd, 1) := by decide +kernel
theorem d_Lw_law_412 : decode b_Lw_law 412 = .ok (.iaload, 1) := by decide +kernel
theorem d_Lw_law_413 : decode b_Lw_law 413 = .ok (.invokevirtual 75, 3) := by decide +kernel
theorem d_Lw_law_416 : decode b_Lw_law 416 = .ok (.istore 6, 2) := by decide +kernel
theorem d_Lw_law_418 : decode b_Lw_law 418 = .ok (.aload_n 2, 1) := by decide +kernel
theorem d_Lw_law_419 : decode b_Lw_law 419 = .ok (.invokevirtual 52, 3) := by decide +kernel
theorem d_Lw_law_422 : decode b_Lw_law 422 = .ok (.iload 5, 2) := by decide +kernel
theorem d_Lw_law_424 : decode b_Lw_law 424 = .ok (.if_icmp .eq 5, 3) := by decide +kernel
theorem d_Lw_law_427 : decode b_Lw_law 427 = .ok (.iconst 0, 1) := by decide +kernel
theorem d_Lw_law_428 : decode b_Lw_law 428 = .ok (.ireturn, 1) := by decide +kernel
theorem d_Lw_law_429 : decode b_Lw_law 429 = .ok (.iload 5, 2) := by decide +kernel
theorem d_Lw_law_431 : decode b_Lw_law 431 = .ok (.ifCond .ne 15, 3) := by decide +kernel
theorem d_Lw_law_434 : decode b_Lw_law 434 = .ok (.aload_n 3, 1) := by decide +kernel
theorem d_Lw_law_435 : decode b_Lw_law 435 = .ok (.iconst 0, 1) := by decide +kernel
theorem d_Lw_law_436 : decode b_Lw_law 436 = .ok (.laload, 1) := by decide +kernel
theorem d_Lw_law_437 : decode b_Lw_law 437 = .ok (.iload 6, 2) := by decide +kernel
theorem d_Lw_law_439 : decode b_Lw_law 439 = .ok (.i2l, 1) := by decide +kernel
theorem d_Lw_law_440 : decode b_Lw_law 440 = .ok (.lcmp, 1) := by decide +kernel
theorem d_Lw_law_441 : decode b_Lw_law 441 = .ok (.ifCond .eq 5, 3) := by decide +kernel
theorem d_Lw_law_444 : decode b_Lw_law 444 = .ok (.iconst 0, 1) := by decide +kernel
theorem d_Lw_law_445 : decode b_Lw_law 445 = .ok (.ireturn, 1) := by decide +kernel
theorem d_Lw_law_446 : decode b_Lw_law 446 = .ok (.goto 3, 3) := by decide +kernel
theorem d_Lw_law_449 : decode b_Lw_law 449 = .ok (.iinc 4 4, 3) := by decide +kernel
theorem d_Lw_law_452 : decode b_Lw_law 452 = .ok (.goto (-429), 3) := by decide +kernel
theorem d_Lw_law_455 : decode b_Lw_law 455 = .ok (.iconst 1, 1) := by decide +kernel
theorem d_Lw_law_456 : decode b_Lw_law 456 = .ok (.ireturn, 1) := by decide +kernel
