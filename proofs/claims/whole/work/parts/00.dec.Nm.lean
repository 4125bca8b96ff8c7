theorem d_Nm_init_0 : decode b_Nm_init 0 = .ok (.aload_n 0, 1) := by decide +kernel
theorem d_Nm_init_1 : decode b_Nm_init 1 = .ok (.invokespecial 3, 3) := by decide +kernel
theorem d_Nm_init_4 : decode b_Nm_init 4 = .ok (.aload_n 0, 1) := by decide +kernel
theorem d_Nm_init_5 : decode b_Nm_init 5 = .ok (.bipush 18, 2) := by decide +kernel
theorem d_Nm_init_7 : decode b_Nm_init 7 = .ok (.newarray .long, 2) := by decide +kernel
theorem d_Nm_init_9 : decode b_Nm_init 9 = .ok (.putfield 9, 3) := by decide +kernel
theorem d_Nm_init_12 : decode b_Nm_init 12 = .ok (.aload_n 0, 1) := by decide +kernel
theorem d_Nm_init_13 : decode b_Nm_init 13 = .ok (.bipush 18, 2) := by decide +kernel
theorem d_Nm_init_15 : decode b_Nm_init 15 = .ok (.newarray .int, 2) := by decide +kernel
theorem d_Nm_init_17 : decode b_Nm_init 17 = .ok (.putfield 15, 3) := by decide +kernel
theorem d_Nm_init_20 : decode b_Nm_init 20 = .ok (.aload_n 0, 1) := by decide +kernel
theorem d_Nm_init_21 : decode b_Nm_init 21 = .ok (.bipush 18, 2) := by decide +kernel
theorem d_Nm_init_23 : decode b_Nm_init 23 = .ok (.newarray .int, 2) := by decide +kernel
theorem d_Nm_init_25 : decode b_Nm_init 25 = .ok (.putfield 19, 3) := by decide +kernel
theorem d_Nm_init_28 : decode b_Nm_init 28 = .ok (.aload_n 0, 1) := by decide +kernel
theorem d_Nm_init_29 : decode b_Nm_init 29 = .ok (.bipush 18, 2) := by decide +kernel
theorem d_Nm_init_31 : decode b_Nm_init 31 = .ok (.newarray .int, 2) := by decide +kernel
theorem d_Nm_init_33 : decode b_Nm_init 33 = .ok (.putfield 22, 3) := by decide +kernel
theorem d_Nm_init_36 : decode b_Nm_init 36 = .ok (.aload_n 0, 1) := by decide +kernel
theorem d_Nm_init_37 : decode b_Nm_init 37 = .ok (.iconst 4, 1) := by decide +kernel
theorem d_Nm_init_38 : decode b_Nm_init 38 = .ok (.newarray .int, 2) := by decide +kernel
theorem d_Nm_init_40 : decode b_Nm_init 40 = .ok (.putfield 25, 3) := by decide +kernel
theorem d_Nm_init_43 : decode b_Nm_init 43 = .ok (.aload_n 0, 1) := by decide +kernel
theorem d_Nm_init_44 : decode b_Nm_init 44 = .ok (.iconst 0, 1) := by decide +kernel
theorem d_Nm_init_45 : decode b_Nm_init 45 = .ok (.putfield 28, 3) := by decide +kernel
theorem d_Nm_init_48 : decode b_Nm_init 48 = .ok (.aload_n 0, 1) := by decide +kernel
theorem d_Nm_init_49 : decode b_Nm_init 49 = .ok (.iconst 0, 1) := by decide +kernel
theorem d_Nm_init_50 : decode b_Nm_init 50 = .ok (.putfield 32, 3) := by decide +kernel
theorem d_Nm_init_53 : decode b_Nm_init 53 = .ok (.aload_n 0, 1) := by decide +kernel
theorem d_Nm_init_54 : decode b_Nm_init 54 = .ok (.iconst 0, 1) := by decide +kernel
theorem d_Nm_init_55 : decode b_Nm_init 55 = .ok (.putfield 35, 3) := by decide +kernel
theorem d_Nm_init_58 : decode b_Nm_init 58 = .ok (.aload_n 0, 1) := by decide +kernel
theorem d_Nm_init_59 : decode b_Nm_init 59 = .ok (.iconst 0, 1) := by decide +kernel
theorem d_Nm_init_60 : decode b_Nm_init 60 = .ok (.putfield 38, 3) := by decide +kernel
theorem d_Nm_init_63 : decode b_Nm_init 63 = .ok (.return_, 1) := by decide +kernel
theorem d_Nm_clear_0 : decode b_Nm_clear 0 = .ok (.aload_n 0, 1) := by decide +kernel
theorem d_Nm_clear_1 : decode b_Nm_clear 1 = .ok (.iconst 0, 1) := by decide +kernel
theorem d_Nm_clear_2 : decode b_Nm_clear 2 = .ok (.putfield 28, 3) := by decide +kernel
theorem d_Nm_clear_5 : decode b_Nm_clear 5 = .ok (.aload_n 0, 1) := by decide +kernel
theorem d_Nm_clear_6 : decode b_Nm_clear 6 = .ok (.iconst 0, 1) := by decide +kernel
theorem d_Nm_clear_7 : decode b_Nm_clear 7 = .ok (.putfield 32, 3) := by decide +kernel
theorem d_Nm_clear_10 : decode b_Nm_clear 10 = .ok (.aload_n 0, 1) := by decide +kernel
theorem d_Nm_clear_11 : decode b_Nm_clear 11 = .ok (.getfield 25, 3) := by decide +kernel
theorem d_Nm_clear_14 : decode b_Nm_clear 14 = .ok (.aload_n 0, 1) := by decide +kernel
theorem d_Nm_clear_15 : decode b_Nm_clear 15 = .ok (.getfield 32, 3) := by decide +kernel
theorem d_Nm_clear_18 : decode b_Nm_clear 18 = .ok (.iconst 0, 1) := by decide +kernel
theorem d_Nm_clear_19 : decode b_Nm_clear 19 = .ok (.iastore, 1) := by decide +kernel
theorem d_Nm_clear_20 : decode b_Nm_clear 20 = .ok (.aload_n 0, 1) := by decide +kernel
theorem d_Nm_clear_21 : decode b_Nm_clear 21 = .ok (.iconst 0, 1) := by decide +kernel
theorem d_Nm_clear_22 : decode b_Nm_clear 22 = .ok (.putfield 35, 3) := by decide +kernel
theorem d_Nm_clear_25 : decode b_Nm_clear 25 = .ok (.aload_n 0, 1) := by decide +kernel
theorem d_Nm_clear_26 : decode b_Nm_clear 26 = .ok (.iconst 0, 1) := by decide +kernel
theorem d_Nm_clear_27 : decode b_Nm_clear 27 = .ok (.putfield 38, 3) := by decide +kernel
theorem d_Nm_clear_30 : decode b_Nm_clear 30 = .ok (.return_, 1) := by decide +kernel
theorem d_Nm_declared_0 : decode b_Nm_declared 0 = .ok (.aload_n 0, 1) := by decide +kernel
theorem d_Nm_declared_1 : decode b_Nm_declared 1 = .ok (.getfield 35, 3) := by decide +kernel
theorem d_Nm_declared_4 : decode b_Nm_declared 4 = .ok (.aload_n 0, 1) := by decide +kernel
theorem d_Nm_declared_5 : decode b_Nm_declared 5 = .ok (.getfield 38, 3) := by decide +kernel
theorem d_Nm_declared_8 : decode b_Nm_declared 8 = .ok (.iadd, 1) := by decide +kernel
theorem d_Nm_declared_9 : decode b_Nm_declared 9 = .ok (.ireturn, 1) := by decide +kernel
theorem d_Nm_open_0 : decode b_Nm_open 0 = .ok (.aload_n 0, 1) := by decide +kernel
theorem d_Nm_open_1 : decode b_Nm_open 1 = .ok (.getfield 32, 3) := by decide +kernel
theorem d_Nm_open_4 : decode b_Nm_open 4 = .ok (.iconst 3, 1) := by decide +kernel
theorem d_Nm_open_5 : decode b_Nm_open 5 = .ok (.if_icmp .ge 23, 3) := by decide +kernel
theorem d_Nm_open_8 : decode b_Nm_open 8 = .ok (.aload_n 0, 1) := by decide +kernel
theorem d_Nm_open_9 : decode b_Nm_open 9 = .ok (.dup, 1) := by decide +kernel
theorem d_Nm_open_10 : decode b_Nm_open 10 = .ok (.getfield 32, 3) := by decide +kernel
theorem d_Nm_open_13 : decode b_Nm_open 13 = .ok (.iconst 1, 1) := by decide +kernel
theorem d_Nm_open_14 : decode b_Nm_open 14 = .ok (.iadd, 1) := by decide +kernel
theorem d_Nm_open_15 : decode b_Nm_open 15 = .ok (.putfield 32, 3) := by decide +kernel
theorem d_Nm_open_18 : decode b_Nm_open 18 = .ok (.aload_n 0, 1) := by decide +kernel
theorem d_Nm_open_19 : decode b_Nm_open 19 = .ok (.getfield 25, 3) := by decide +kernel
theorem d_Nm_open_22 : decode b_Nm_open 22 = .ok (.aload_n 0, 1) := by decide +kernel
theorem d_Nm_open_23 : decode b_Nm_open 23 = .ok (.getfield 32, 3) := by decide +kernel
theorem d_Nm_open_26 : decode b_Nm_open 26 = .ok (.iconst 0, 1) := by decide +kernel
theorem d_Nm_open_27 : decode b_Nm_open 27 = .ok (.iastore, 1) := by decide +kernel
theorem d_Nm_open_28 : decode b_Nm_open 28 = .ok (.return_, 1) := by decide +kernel
theorem d_Nm_close_0 : decode b_Nm_close 0 = .ok (.aload_n 0, 1) := by decide +kernel
theorem d_Nm_close_1 : decode b_Nm_close 1 = .ok (.getfield 28, 3) := by decide +kernel
theorem d_Nm_close_4 : decode b_Nm_close 4 = .ok (.ifCond .le 34, 3) := by decide +kernel
theorem d_Nm_close_7 : decode b_Nm_close 7 = .ok (.aload_n 0, 1) := by decide +kernel
theorem d_Nm_close_8 : decode b_Nm_close 8 = .ok (.getfield 19, 3) := by decide +kernel
theorem d_Nm_close_11 : decode b_Nm_close 11 = .ok (.aload_n 0, 1) := by decide +kernel
theorem d_Nm_close_12 : decode b_Nm_close 12 = .ok (.getfield 28, 3) := by decide +kernel
theorem d_Nm_close_15 : decode b_Nm_close 15 = .ok (.iconst 1, 1) := by decide +kernel
theorem d_Nm_close_16 : decode b_Nm_close 16 = .ok (.isub, 1) := by decide +kernel
theorem d_Nm_close_17 : decode b_Nm_close 17 = .ok (.iaload, 1) := by decide +kernel
theorem d_Nm_close_18 : decode b_Nm_close 18 = .ok (.aload_n 0, 1) := by decide +kernel
theorem d_Nm_close_19 : decode b_Nm_close 19 = .ok (.getfield 32, 3) := by decide +kernel
theorem d_Nm_close_22 : decode b_Nm_close 22 = .ok (.if_icmp .ne 16, 3) := by decide +kernel
theorem d_Nm_close_25 : decode b_Nm_close 25 = .ok (.aload_n 0, 1) := by decide +kernel
theorem d_Nm_close_26 : decode b_Nm_close 26 = .ok (.dup, 1) := by decide +kernel
theorem d_Nm_close_27 : decode b_Nm_close 27 = .ok (.getfield 28, 3) := by decide +kernel
theorem d_Nm_close_30 : decode b_Nm_close 30 = .ok (.iconst 1, 1) := by decide +kernel
theorem d_Nm_close_31 : decode b_Nm_close 31 = .ok (.isub, 1) := by decide +kernel
theorem d_Nm_close_32 : decode b_Nm_close 32 = .ok (.putfield 28, 3) := by decide +kernel
theorem d_Nm_close_35 : decode b_Nm_close 35 = .ok (.goto (-35), 3) := by decide +kernel
theorem d_Nm_close_38 : decode b_Nm_close 38 = .ok (.aload_n 0, 1) := by decide +kernel
theorem d_Nm_close_39 : decode b_Nm_close 39 = .ok (.dup, 1) := by decide +kernel
theorem d_Nm_close_40 : decode b_Nm_close 40 = .ok (.getfield 32, 3) := by decide +kernel
theorem d_Nm_close_43 : decode b_Nm_close 43 = .ok (.iconst 1, 1) := by decide +kernel
theorem d_Nm_close_44 : decode b_Nm_close 44 = .ok (.isub, 1) := by decide +kernel
theorem d_Nm_close_45 : decode b_Nm_close 45 = .ok (.putfield 32, 3) := by decide +kernel
theorem d_Nm_close_48 : decode b_Nm_close 48 = .ok (.return_, 1) := by decide +kernel
theorem d_Nm_declare_0 : decode b_Nm_declare 0 = .ok (.aload_n 0, 1) := by decide +kernel
theorem d_Nm_declare_1 : decode b_Nm_declare 1 = .ok (.lload_n 1, 1) := by decide +kernel
theorem d_Nm_declare_2 : decode b_Nm_declare 2 = .ok (.invokevirtual 41, 3) := by decide +kernel
theorem d_Nm_declare_5 : decode b_Nm_declare 5 = .ok (.istore 4, 2) := by decide +kernel
theorem d_Nm_declare_7 : decode b_Nm_declare 7 = .ok (.iload 4, 2) := by decide +kernel
theorem d_Nm_declare_9 : decode b_Nm_declare 9 = .ok (.ifCond .lt 21, 3) := by decide +kernel
theorem d_Nm_declare_12 : decode b_Nm_declare 12 = .ok (.aload_n 0, 1) := by decide +kernel
theorem d_Nm_declare_13 : decode b_Nm_declare 13 = .ok (.getfield 19, 3) := by decide +kernel
theorem d_Nm_declare_16 : decode b_Nm_declare 16 = .ok (.iload 4, 2) := by decide +kernel
theorem d_Nm_declare_18 : decode b_Nm_declare 18 = .ok (.iaload, 1) := by decide +kernel
theorem d_Nm_declare_19 : decode b_Nm_declare 19 = .ok (.aload_n 0, 1) := by decide +kernel
theorem d_Nm_declare_20 : decode b_Nm_declare 20 = .ok (.getfield 32, 3) := by decide +kernel
theorem d_Nm_declare_23 : decode b_Nm_declare 23 = .ok (.if_icmp .ne 7, 3) := by decide +kernel
theorem d_Nm_declare_26 : decode b_Nm_declare 26 = .ok (.iconst 1, 1) := by decide +kernel
theorem d_Nm_declare_27 : decode b_Nm_declare 27 = .ok (.goto 4, 3) := by decide +kernel
theorem d_Nm_declare_30 : decode b_Nm_declare 30 = .ok (.iconst 0, 1) := by decide +kernel
theorem d_Nm_declare_31 : decode b_Nm_declare 31 = .ok (.istore 5, 2) := by decide +kernel
theorem d_Nm_declare_33 : decode b_Nm_declare 33 = .ok (.iload 5, 2) := by decide +kernel
theorem d_Nm_declare_35 : decode b_Nm_declare 35 = .ok (.ifCond .ne 11, 3) := by decide +kernel
theorem d_Nm_declare_38 : decode b_Nm_declare 38 = .ok (.aload_n 0, 1) := by decide +kernel
theorem d_Nm_declare_39 : decode b_Nm_declare 39 = .ok (.iload_n 3, 1) := by decide +kernel
theorem d_Nm_declare_40 : decode b_Nm_declare 40 = .ok (.invokevirtual 45, 3) := by decide +kernel
theorem d_Nm_declare_43 : decode b_Nm_declare 43 = .ok (.ifCond .eq 5, 3) := by decide +kernel
theorem d_Nm_declare_46 : decode b_Nm_declare 46 = .ok (.iconst 0, 1) := by decide +kernel
theorem d_Nm_declare_47 : decode b_Nm_declare 47 = .ok (.ireturn, 1) := by decide +kernel
theorem d_Nm_declare_48 : decode b_Nm_declare 48 = .ok (.aload_n 0, 1) := by decide +kernel
theorem d_Nm_declare_49 : decode b_Nm_declare 49 = .ok (.getfield 9, 3) := by decide +kernel
theorem d_Nm_declare_52 : decode b_Nm_declare 52 = .ok (.aload_n 0, 1) := by decide +kernel
theorem d_Nm_declare_53 : decode b_Nm_declare 53 = .ok (.getfield 28, 3) := by decide +kernel
theorem d_Nm_declare_56 : decode b_Nm_declare 56 = .ok (.lload_n 1, 1) := by decide +kernel
theorem d_Nm_declare_57 : decode b_Nm_declare 57 = .ok (.lastore, 1) := by decide +kernel
theorem d_Nm_declare_58 : decode b_Nm_declare 58 = .ok (.aload_n 0, 1) := by decide +kernel
theorem d_Nm_declare_59 : decode b_Nm_declare 59 = .ok (.getfield 15, 3) := by decide +kernel
theorem d_Nm_declare_62 : decode b_Nm_declare 62 = .ok (.aload_n 0, 1) := by decide +kernel
theorem d_Nm_declare_63 : decode b_Nm_declare 63 = .ok (.getfield 28, 3) := by decide +kernel
theorem d_Nm_declare_66 : decode b_Nm_declare 66 = .ok (.iload_n 3, 1) := by decide +kernel
theorem d_Nm_declare_67 : decode b_Nm_declare 67 = .ok (.iastore, 1) := by decide +kernel
theorem d_Nm_declare_68 : decode b_Nm_declare 68 = .ok (.aload_n 0, 1) := by decide +kernel
theorem d_Nm_declare_69 : decode b_Nm_declare 69 = .ok (.getfield 19, 3) := by decide +kernel
theorem d_Nm_declare_72 : decode b_Nm_declare 72 = .ok (.aload_n 0, 1) := by decide +kernel
theorem d_Nm_declare_73 : decode b_Nm_declare 73 = .ok (.getfield 28, 3) := by decide +kernel
theorem d_Nm_declare_76 : decode b_Nm_declare 76 = .ok (.aload_n 0, 1) := by decide +kernel
theorem d_Nm_declare_77 : decode b_Nm_declare 77 = .ok (.getfield 32, 3) := by decide +kernel
theorem d_Nm_declare_80 : decode b_Nm_declare 80 = .ok (.iastore, 1) := by decide +kernel
theorem d_Nm_declare_81 : decode b_Nm_declare 81 = .ok (.aload_n 0, 1) := by decide +kernel
theorem d_Nm_declare_82 : decode b_Nm_declare 82 = .ok (.getfield 22, 3) := by decide +kernel
theorem d_Nm_declare_85 : decode b_Nm_declare 85 = .ok (.aload_n 0, 1) := by decide +kernel
theorem d_Nm_declare_86 : decode b_Nm_declare 86 = .ok (.getfield 28, 3) := by decide +kernel
theorem d_Nm_declare_89 : decode b_Nm_declare 89 = .ok (.iload_n 3, 1) := by decide +kernel
theorem d_Nm_declare_90 : decode b_Nm_declare 90 = .ok (.iconst 2, 1) := by decide +kernel
theorem d_Nm_declare_91 : decode b_Nm_declare 91 = .ok (.if_icmp .ne 10, 3) := by decide +kernel
theorem d_Nm_declare_94 : decode b_Nm_declare 94 = .ok (.aload_n 0, 1) := by decide +kernel
theorem d_Nm_declare_95 : decode b_Nm_declare 95 = .ok (.getfield 38, 3) := by decide +kernel
theorem d_Nm_declare_98 : decode b_Nm_declare 98 = .ok (.goto 12, 3) := by decide +kernel
theorem d_Nm_declare_101 : decode b_Nm_declare 101 = .ok (.aload_n 0, 1) := by decide +kernel
theorem d_Nm_declare_102 : decode b_Nm_declare 102 = .ok (.getfield 25, 3) := by decide +kernel
theorem d_Nm_declare_105 : decode b_Nm_declare 105 = .ok (.aload_n 0, 1) := by decide +kernel
theorem d_Nm_declare_106 : decode b_Nm_declare 106 = .ok (.getfield 32, 3) := by decide +kernel
theorem d_Nm_declare_109 : decode b_Nm_declare 109 = .ok (.iaload, 1) := by decide +kernel
theorem d_Nm_declare_110 : decode b_Nm_declare 110 = .ok (.iastore, 1) := by decide +kernel
theorem d_Nm_declare_111 : decode b_Nm_declare 111 = .ok (.aload_n 0, 1) := by decide +kernel
theorem d_Nm_declare_112 : decode b_Nm_declare 112 = .ok (.dup, 1) := by decide +kernel
theorem d_Nm_declare_113 : decode b_Nm_declare 113 = .ok (.getfield 28, 3) := by decide +kernel
theorem d_Nm_declare_116 : decode b_Nm_declare 116 = .ok (.iconst 1, 1) := by decide +kernel
theorem d_Nm_declare_117 : decode b_Nm_declare 117 = .ok (.iadd, 1) := by decide +kernel
theorem d_Nm_declare_118 : decode b_Nm_declare 118 = .ok (.putfield 28, 3) := by decide +kernel
theorem d_Nm_declare_121 : decode b_Nm_declare 121 = .ok (.iload_n 3, 1) := by decide +kernel
theorem d_Nm_declare_122 : decode b_Nm_declare 122 = .ok (.iconst 2, 1) := by decide +kernel
theorem d_Nm_declare_123 : decode b_Nm_declare 123 = .ok (.if_icmp .ne 16, 3) := by decide +kernel
theorem d_Nm_declare_126 : decode b_Nm_declare 126 = .ok (.aload_n 0, 1) := by decide +kernel
theorem d_Nm_declare_127 : decode b_Nm_declare 127 = .ok (.dup, 1) := by decide +kernel
theorem d_Nm_declare_128 : decode b_Nm_declare 128 = .ok (.getfield 38, 3) := by decide +kernel
theorem d_Nm_declare_131 : decode b_Nm_declare 131 = .ok (.iconst 1, 1) := by decide +kernel
theorem d_Nm_declare_132 : decode b_Nm_declare 132 = .ok (.iadd, 1) := by decide +kernel
theorem d_Nm_declare_133 : decode b_Nm_declare 133 = .ok (.putfield 38, 3) := by decide +kernel
theorem d_Nm_declare_136 : decode b_Nm_declare 136 = .ok (.goto 26, 3) := by decide +kernel
theorem d_Nm_declare_139 : decode b_Nm_declare 139 = .ok (.aload_n 0, 1) := by decide +kernel
theorem d_Nm_declare_140 : decode b_Nm_declare 140 = .ok (.dup, 1) := by decide +kernel
theorem d_Nm_declare_141 : decode b_Nm_declare 141 = .ok (.getfield 35, 3) := by decide +kernel
theorem d_Nm_declare_144 : decode b_Nm_declare 144 = .ok (.iconst 1, 1) := by decide +kernel
theorem d_Nm_declare_145 : decode b_Nm_declare 145 = .ok (.iadd, 1) := by decide +kernel
theorem d_Nm_declare_146 : decode b_Nm_declare 146 = .ok (.putfield 35, 3) := by decide +kernel
theorem d_Nm_declare_149 : decode b_Nm_declare 149 = .ok (.aload_n 0, 1) := by decide +kernel
theorem d_Nm_declare_150 : decode b_Nm_declare 150 = .ok (.getfield 25, 3) := by decide +kernel
theorem d_Nm_declare_153 : decode b_Nm_declare 153 = .ok (.aload_n 0, 1) := by decide +kernel
theorem d_Nm_declare_154 : decode b_Nm_declare 154 = .ok (.getfield 32, 3) := by decide +kernel
theorem d_Nm_declare_157 : decode b_Nm_declare 157 = .ok (.dup2, 1) := by decide +kernel
theorem d_Nm_declare_158 : decode b_Nm_declare 158 = .ok (.iaload, 1) := by decide +kernel
theorem d_Nm_declare_159 : decode b_Nm_declare 159 = .ok (.iconst 1, 1) := by decide +kernel
theorem d_Nm_declare_160 : decode b_Nm_declare 160 = .ok (.iadd, 1) := by decide +kernel
theorem d_Nm_declare_161 : decode b_Nm_declare 161 = .ok (.iastore, 1) := by decide +kernel
theorem d_Nm_declare_162 : decode b_Nm_declare 162 = .ok (.iconst 1, 1) := by decide +kernel
theorem d_Nm_declare_163 : decode b_Nm_declare 163 = .ok (.ireturn, 1) := by decide +kernel
theorem d_Nm_isFull_0 : decode b_Nm_isFull 0 = .ok (.iload_n 1, 1) := by decide +kernel
theorem d_Nm_isFull_1 : decode b_Nm_isFull 1 = .ok (.iconst 2, 1) := by decide +kernel
theorem d_Nm_isFull_2 : decode b_Nm_isFull 2 = .ok (.if_icmp .ne 20, 3) := by decide +kernel
theorem d_Nm_isFull_5 : decode b_Nm_isFull 5 = .ok (.aload_n 0, 1) := by decide +kernel
theorem d_Nm_isFull_6 : decode b_Nm_isFull 6 = .ok (.getfield 38, 3) := by decide +kernel
theorem d_Nm_isFull_9 : decode b_Nm_isFull 9 = .ok (.bipush 6, 2) := by decide +kernel
theorem d_Nm_isFull_11 : decode b_Nm_isFull 11 = .ok (.if_icmp .ne 7, 3) := by decide +kernel
theorem d_Nm_isFull_14 : decode b_Nm_isFull 14 = .ok (.iconst 1, 1) := by decide +kernel
theorem d_Nm_isFull_15 : decode b_Nm_isFull 15 = .ok (.goto 21, 3) := by decide +kernel
theorem d_Nm_isFull_18 : decode b_Nm_isFull 18 = .ok (.iconst 0, 1) := by decide +kernel
theorem d_Nm_isFull_19 : decode b_Nm_isFull 19 = .ok (.goto 17, 3) := by decide +kernel
theorem d_Nm_isFull_22 : decode b_Nm_isFull 22 = .ok (.aload_n 0, 1) := by decide +kernel
theorem d_Nm_isFull_23 : decode b_Nm_isFull 23 = .ok (.getfield 35, 3) := by decide +kernel
theorem d_Nm_isFull_26 : decode b_Nm_isFull 26 = .ok (.bipush 12, 2) := by decide +kernel
theorem d_Nm_isFull_28 : decode b_Nm_isFull 28 = .ok (.if_icmp .ne 7, 3) := by decide +kernel
theorem d_Nm_isFull_31 : decode b_Nm_isFull 31 = .ok (.iconst 1, 1) := by decide +kernel
theorem d_Nm_isFull_32 : decode b_Nm_isFull 32 = .ok (.goto 4, 3) := by decide +kernel
theorem d_Nm_isFull_35 : decode b_Nm_isFull 35 = .ok (.iconst 0, 1) := by decide +kernel
theorem d_Nm_isFull_36 : decode b_Nm_isFull 36 = .ok (.ireturn, 1) := by decide +kernel
theorem d_Nm_find_0 : decode b_Nm_find 0 = .ok (.aload_n 0, 1) := by decide +kernel
theorem d_Nm_find_1 : decode b_Nm_find 1 = .ok (.getfield 28, 3) := by decide +kernel
theorem d_Nm_find_4 : decode b_Nm_find 4 = .ok (.iconst 1, 1) := by decide +kernel
theorem d_Nm_find_5 : decode b_Nm_find 5 = .ok (.isub, 1) := by decide +kernel
theorem d_Nm_find_6 : decode b_Nm_find 6 = .ok (.istore_n 3, 1) := by decide +kernel
theorem d_Nm_find_7 : decode b_Nm_find 7 = .ok (.iload_n 3, 1) := by decide +kernel
theorem d_Nm_find_8 : decode b_Nm_find 8 = .ok (.ifCond .lt 22, 3) := by decide +kernel
theorem d_Nm_find_11 : decode b_Nm_find 11 = .ok (.aload_n 0, 1) := by decide +kernel
theorem d_Nm_find_12 : decode b_Nm_find 12 = .ok (.getfield 9, 3) := by decide +kernel
theorem d_Nm_find_15 : decode b_Nm_find 15 = .ok (.iload_n 3, 1) := by decide +kernel
theorem d_Nm_find_16 : decode b_Nm_find 16 = .ok (.laload, 1) := by decide +kernel
theorem d_Nm_find_17 : decode b_Nm_find 17 = .ok (.lload_n 1, 1) := by decide +kernel
theorem d_Nm_find_18 : decode b_Nm_find 18 = .ok (.lcmp, 1) := by decide +kernel
theorem d_Nm_find_19 : decode b_Nm_find 19 = .ok (.ifCond .ne 5, 3) := by decide +kernel
theorem d_Nm_find_22 : decode b_Nm_find 22 = .ok (.iload_n 3, 1) := by decide +kernel
theorem d_Nm_find_23 : decode b_Nm_find 23 = .ok (.ireturn, 1) := by decide +kernel
theorem d_Nm_find_24 : decode b_Nm_find 24 = .ok (.iinc 3 (-1), 3) := by decide +kernel
theorem d_Nm_find_27 : decode b_Nm_find 27 = .ok (.goto (-20), 3) := by decide +kernel
theorem d_Nm_find_30 : decode b_Nm_find 30 = .ok (.iconst (-1), 1) := by decide +kernel
theorem d_Nm_find_31 : decode b_Nm_find 31 = .ok (.ireturn, 1) := by decide +kernel
theorem d_Nm_isProcedure_0 : decode b_Nm_isProcedure 0 = .ok (.aload_n 0, 1) := by decide +kernel
theorem d_Nm_isProcedure_1 : decode b_Nm_isProcedure 1 = .ok (.getfield 15, 3) := by decide +kernel
theorem d_Nm_isProcedure_4 : decode b_Nm_isProcedure 4 = .ok (.iload_n 1, 1) := by decide +kernel
theorem d_Nm_isProcedure_5 : decode b_Nm_isProcedure 5 = .ok (.iaload, 1) := by decide +kernel
theorem d_Nm_isProcedure_6 : decode b_Nm_isProcedure 6 = .ok (.iconst 2, 1) := by decide +kernel
theorem d_Nm_isProcedure_7 : decode b_Nm_isProcedure 7 = .ok (.if_icmp .ne 7, 3) := by decide +kernel
theorem d_Nm_isProcedure_10 : decode b_Nm_isProcedure 10 = .ok (.iconst 1, 1) := by decide +kernel
theorem d_Nm_isProcedure_11 : decode b_Nm_isProcedure 11 = .ok (.goto 4, 3) := by decide +kernel
theorem d_Nm_isProcedure_14 : decode b_Nm_isProcedure 14 = .ok (.iconst 0, 1) := by decide +kernel
theorem d_Nm_isProcedure_15 : decode b_Nm_isProcedure 15 = .ok (.ireturn, 1) := by decide +kernel
theorem d_Nm_isReference_0 : decode b_Nm_isReference 0 = .ok (.aload_n 0, 1) := by decide +kernel
theorem d_Nm_isReference_1 : decode b_Nm_isReference 1 = .ok (.getfield 15, 3) := by decide +kernel
theorem d_Nm_isReference_4 : decode b_Nm_isReference 4 = .ok (.iload_n 1, 1) := by decide +kernel
theorem d_Nm_isReference_5 : decode b_Nm_isReference 5 = .ok (.iaload, 1) := by decide +kernel
theorem d_Nm_isReference_6 : decode b_Nm_isReference 6 = .ok (.iconst 1, 1) := by decide +kernel
theorem d_Nm_isReference_7 : decode b_Nm_isReference 7 = .ok (.if_icmp .ne 7, 3) := by decide +kernel
theorem d_Nm_isReference_10 : decode b_Nm_isReference 10 = .ok (.iconst 1, 1) := by decide +kernel
theorem d_Nm_isReference_11 : decode b_Nm_isReference 11 = .ok (.goto 4, 3) := by decide +kernel
theorem d_Nm_isReference_14 : decode b_Nm_isReference 14 = .ok (.iconst 0, 1) := by decide +kernel
theorem d_Nm_isReference_15 : decode b_Nm_isReference 15 = .ok (.ireturn, 1) := by decide +kernel
theorem d_Nm_hops_0 : decode b_Nm_hops 0 = .ok (.aload_n 0, 1) := by decide +kernel
theorem d_Nm_hops_1 : decode b_Nm_hops 1 = .ok (.getfield 32, 3) := by decide +kernel
theorem d_Nm_hops_4 : decode b_Nm_hops 4 = .ok (.aload_n 0, 1) := by decide +kernel
theorem d_Nm_hops_5 : decode b_Nm_hops 5 = .ok (.getfield 19, 3) := by decide +kernel
theorem d_Nm_hops_8 : decode b_Nm_hops 8 = .ok (.iload_n 1, 1) := by decide +kernel
theorem d_Nm_hops_9 : decode b_Nm_hops 9 = .ok (.iaload, 1) := by decide +kernel
theorem d_Nm_hops_10 : decode b_Nm_hops 10 = .ok (.isub, 1) := by decide +kernel
theorem d_Nm_hops_11 : decode b_Nm_hops 11 = .ok (.ireturn, 1) := by decide +kernel
theorem d_Nm_number_0 : decode b_Nm_number 0 = .ok (.aload_n 0, 1) := by decide +kernel
theorem d_Nm_number_1 : decode b_Nm_number 1 = .ok (.getfield 22, 3) := by decide +kernel
theorem d_Nm_number_4 : decode b_Nm_number 4 = .ok (.iload_n 1, 1) := by decide +kernel
theorem d_Nm_number_5 : decode b_Nm_number 5 = .ok (.iaload, 1) := by decide +kernel
theorem d_Nm_number_6 : decode b_Nm_number 6 = .ok (.ireturn, 1) := by decide +kernel
theorem d_Nm_lastProcedure_0 : decode b_Nm_lastProcedure 0 = .ok (.aload_n 0, 1) := by decide +kernel
theorem d_Nm_lastProcedure_1 : decode b_Nm_lastProcedure 1 = .ok (.getfield 38, 3) := by decide +kernel
theorem d_Nm_lastProcedure_4 : decode b_Nm_lastProcedure 4 = .ok (.iconst 1, 1) := by decide +kernel
theorem d_Nm_lastProcedure_5 : decode b_Nm_lastProcedure 5 = .ok (.isub, 1) := by decide +kernel
theorem d_Nm_lastProcedure_6 : decode b_Nm_lastProcedure 6 = .ok (.ireturn, 1) := by decide +kernel
