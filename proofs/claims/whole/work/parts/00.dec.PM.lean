theorem d_PM_init_0 : decode b_PM_init 0 = .ok (.aload_n 0, 1) := by decide +kernel
theorem d_PM_init_1 : decode b_PM_init 1 = .ok (.invokespecial 1, 3) := by decide +kernel
theorem d_PM_init_4 : decode b_PM_init 4 = .ok (.aload_n 0, 1) := by decide +kernel
theorem d_PM_init_5 : decode b_PM_init 5 = .ok (.sipush 300, 3) := by decide +kernel
theorem d_PM_init_8 : decode b_PM_init 8 = .ok (.newarray .char, 2) := by decide +kernel
theorem d_PM_init_10 : decode b_PM_init 10 = .ok (.putfield 9, 3) := by decide +kernel
theorem d_PM_init_13 : decode b_PM_init 13 = .ok (.aload_n 0, 1) := by decide +kernel
theorem d_PM_init_14 : decode b_PM_init 14 = .ok (.iconst 0, 1) := by decide +kernel
theorem d_PM_init_15 : decode b_PM_init 15 = .ok (.putfield 13, 3) := by decide +kernel
theorem d_PM_init_18 : decode b_PM_init 18 = .ok (.aload_n 0, 1) := by decide +kernel
theorem d_PM_init_19 : decode b_PM_init 19 = .ok (.new 17, 3) := by decide +kernel
theorem d_PM_init_22 : decode b_PM_init 22 = .ok (.dup, 1) := by decide +kernel
theorem d_PM_init_23 : decode b_PM_init 23 = .ok (.invokespecial 19, 3) := by decide +kernel
theorem d_PM_init_26 : decode b_PM_init 26 = .ok (.putfield 20, 3) := by decide +kernel
theorem d_PM_init_29 : decode b_PM_init 29 = .ok (.aload_n 0, 1) := by decide +kernel
theorem d_PM_init_30 : decode b_PM_init 30 = .ok (.new 24, 3) := by decide +kernel
theorem d_PM_init_33 : decode b_PM_init 33 = .ok (.dup, 1) := by decide +kernel
theorem d_PM_init_34 : decode b_PM_init 34 = .ok (.invokespecial 26, 3) := by decide +kernel
theorem d_PM_init_37 : decode b_PM_init 37 = .ok (.putfield 27, 3) := by decide +kernel
theorem d_PM_init_40 : decode b_PM_init 40 = .ok (.aload_n 0, 1) := by decide +kernel
theorem d_PM_init_41 : decode b_PM_init 41 = .ok (.iconst 0, 1) := by decide +kernel
theorem d_PM_init_42 : decode b_PM_init 42 = .ok (.putfield 31, 3) := by decide +kernel
theorem d_PM_init_45 : decode b_PM_init 45 = .ok (.return_, 1) := by decide +kernel
theorem d_PM_append_0 : decode b_PM_append 0 = .ok (.iload_n 3, 1) := by decide +kernel
theorem d_PM_append_1 : decode b_PM_append 1 = .ok (.iconst 1, 1) := by decide +kernel
theorem d_PM_append_2 : decode b_PM_append 2 = .ok (.if_icmp .lt 17, 3) := by decide +kernel
theorem d_PM_append_5 : decode b_PM_append 5 = .ok (.iload_n 3, 1) := by decide +kernel
theorem d_PM_append_6 : decode b_PM_append 6 = .ok (.bipush 8, 2) := by decide +kernel
theorem d_PM_append_8 : decode b_PM_append 8 = .ok (.if_icmp .gt 11, 3) := by decide +kernel
theorem d_PM_append_11 : decode b_PM_append 11 = .ok (.lload_n 1, 1) := by decide +kernel
theorem d_PM_append_12 : decode b_PM_append 12 = .ok (.iload_n 3, 1) := by decide +kernel
theorem d_PM_append_13 : decode b_PM_append 13 = .ok (.invokestatic 35, 3) := by decide +kernel
theorem d_PM_append_16 : decode b_PM_append 16 = .ok (.ifCond .ne 11, 3) := by decide +kernel
theorem d_PM_append_19 : decode b_PM_append 19 = .ok (.new 39, 3) := by decide +kernel
theorem d_PM_append_22 : decode b_PM_append 22 = .ok (.dup, 1) := by decide +kernel
theorem d_PM_append_23 : decode b_PM_append 23 = .ok (.invokespecial 41, 3) := by decide +kernel
theorem d_PM_append_26 : decode b_PM_append 26 = .ok (.athrow, 1) := by decide +kernel
theorem d_PM_append_27 : decode b_PM_append 27 = .ok (.aload_n 0, 1) := by decide +kernel
theorem d_PM_append_28 : decode b_PM_append 28 = .ok (.getfield 13, 3) := by decide +kernel
theorem d_PM_append_31 : decode b_PM_append 31 = .ok (.iload_n 3, 1) := by decide +kernel
theorem d_PM_append_32 : decode b_PM_append 32 = .ok (.iadd, 1) := by decide +kernel
theorem d_PM_append_33 : decode b_PM_append 33 = .ok (.sipush 300, 3) := by decide +kernel
theorem d_PM_append_36 : decode b_PM_append 36 = .ok (.if_icmp .le 11, 3) := by decide +kernel
theorem d_PM_append_39 : decode b_PM_append 39 = .ok (.new 42, 3) := by decide +kernel
theorem d_PM_append_42 : decode b_PM_append 42 = .ok (.dup, 1) := by decide +kernel
theorem d_PM_append_43 : decode b_PM_append 43 = .ok (.invokespecial 44, 3) := by decide +kernel
theorem d_PM_append_46 : decode b_PM_append 46 = .ok (.athrow, 1) := by decide +kernel
theorem d_PM_append_47 : decode b_PM_append 47 = .ok (.iload_n 3, 1) := by decide +kernel
theorem d_PM_append_48 : decode b_PM_append 48 = .ok (.iconst 1, 1) := by decide +kernel
theorem d_PM_append_49 : decode b_PM_append 49 = .ok (.isub, 1) := by decide +kernel
theorem d_PM_append_50 : decode b_PM_append 50 = .ok (.istore 4, 2) := by decide +kernel
theorem d_PM_append_52 : decode b_PM_append 52 = .ok (.iload 4, 2) := by decide +kernel
theorem d_PM_append_54 : decode b_PM_append 54 = .ok (.ifCond .lt 35, 3) := by decide +kernel
theorem d_PM_append_57 : decode b_PM_append 57 = .ok (.aload_n 0, 1) := by decide +kernel
theorem d_PM_append_58 : decode b_PM_append 58 = .ok (.getfield 9, 3) := by decide +kernel
theorem d_PM_append_61 : decode b_PM_append 61 = .ok (.aload_n 0, 1) := by decide +kernel
theorem d_PM_append_62 : decode b_PM_append 62 = .ok (.getfield 13, 3) := by decide +kernel
theorem d_PM_append_65 : decode b_PM_append 65 = .ok (.lload_n 1, 1) := by decide +kernel
theorem d_PM_append_66 : decode b_PM_append 66 = .ok (.iload 4, 2) := by decide +kernel
theorem d_PM_append_68 : decode b_PM_append 68 = .ok (.invokestatic 45, 3) := by decide +kernel
theorem d_PM_append_71 : decode b_PM_append 71 = .ok (.i2c, 1) := by decide +kernel
theorem d_PM_append_72 : decode b_PM_append 72 = .ok (.castore, 1) := by decide +kernel
theorem d_PM_append_73 : decode b_PM_append 73 = .ok (.aload_n 0, 1) := by decide +kernel
theorem d_PM_append_74 : decode b_PM_append 74 = .ok (.dup, 1) := by decide +kernel
theorem d_PM_append_75 : decode b_PM_append 75 = .ok (.getfield 13, 3) := by decide +kernel
theorem d_PM_append_78 : decode b_PM_append 78 = .ok (.iconst 1, 1) := by decide +kernel
theorem d_PM_append_79 : decode b_PM_append 79 = .ok (.iadd, 1) := by decide +kernel
theorem d_PM_append_80 : decode b_PM_append 80 = .ok (.putfield 13, 3) := by decide +kernel
theorem d_PM_append_83 : decode b_PM_append 83 = .ok (.iinc 4 (-1), 3) := by decide +kernel
theorem d_PM_append_86 : decode b_PM_append 86 = .ok (.goto (-34), 3) := by decide +kernel
theorem d_PM_append_89 : decode b_PM_append 89 = .ok (.aload_n 0, 1) := by decide +kernel
theorem d_PM_append_90 : decode b_PM_append 90 = .ok (.getfield 13, 3) := by decide +kernel
theorem d_PM_append_93 : decode b_PM_append 93 = .ok (.ireturn, 1) := by decide +kernel
theorem d_PM_cut_0 : decode b_PM_cut 0 = .ok (.iload_n 1, 1) := by decide +kernel
theorem d_PM_cut_1 : decode b_PM_cut 1 = .ok (.ifCond .lt 11, 3) := by decide +kernel
theorem d_PM_cut_4 : decode b_PM_cut 4 = .ok (.iload_n 1, 1) := by decide +kernel
theorem d_PM_cut_5 : decode b_PM_cut 5 = .ok (.aload_n 0, 1) := by decide +kernel
theorem d_PM_cut_6 : decode b_PM_cut 6 = .ok (.getfield 13, 3) := by decide +kernel
theorem d_PM_cut_9 : decode b_PM_cut 9 = .ok (.if_icmp .le 11, 3) := by decide +kernel
theorem d_PM_cut_12 : decode b_PM_cut 12 = .ok (.new 39, 3) := by decide +kernel
theorem d_PM_cut_15 : decode b_PM_cut 15 = .ok (.dup, 1) := by decide +kernel
theorem d_PM_cut_16 : decode b_PM_cut 16 = .ok (.invokespecial 41, 3) := by decide +kernel
theorem d_PM_cut_19 : decode b_PM_cut 19 = .ok (.athrow, 1) := by decide +kernel
theorem d_PM_cut_20 : decode b_PM_cut 20 = .ok (.aload_n 0, 1) := by decide +kernel
theorem d_PM_cut_21 : decode b_PM_cut 21 = .ok (.dup, 1) := by decide +kernel
theorem d_PM_cut_22 : decode b_PM_cut 22 = .ok (.getfield 13, 3) := by decide +kernel
theorem d_PM_cut_25 : decode b_PM_cut 25 = .ok (.iload_n 1, 1) := by decide +kernel
theorem d_PM_cut_26 : decode b_PM_cut 26 = .ok (.isub, 1) := by decide +kernel
theorem d_PM_cut_27 : decode b_PM_cut 27 = .ok (.putfield 13, 3) := by decide +kernel
theorem d_PM_cut_30 : decode b_PM_cut 30 = .ok (.aload_n 0, 1) := by decide +kernel
theorem d_PM_cut_31 : decode b_PM_cut 31 = .ok (.getfield 13, 3) := by decide +kernel
theorem d_PM_cut_34 : decode b_PM_cut 34 = .ok (.ireturn, 1) := by decide +kernel
theorem d_PM_compile_0 : decode b_PM_compile 0 = .ok (.aload_n 0, 1) := by decide +kernel
theorem d_PM_compile_1 : decode b_PM_compile 1 = .ok (.getfield 20, 3) := by decide +kernel
theorem d_PM_compile_4 : decode b_PM_compile 4 = .ok (.aload_n 0, 1) := by decide +kernel
theorem d_PM_compile_5 : decode b_PM_compile 5 = .ok (.getfield 9, 3) := by decide +kernel
theorem d_PM_compile_8 : decode b_PM_compile 8 = .ok (.aload_n 0, 1) := by decide +kernel
theorem d_PM_compile_9 : decode b_PM_compile 9 = .ok (.getfield 13, 3) := by decide +kernel
theorem d_PM_compile_12 : decode b_PM_compile 12 = .ok (.invokevirtual 49, 3) := by decide +kernel
theorem d_PM_compile_15 : decode b_PM_compile 15 = .ok (.istore_n 1, 1) := by decide +kernel
theorem d_PM_compile_16 : decode b_PM_compile 16 = .ok (.aload_n 0, 1) := by decide +kernel
theorem d_PM_compile_17 : decode b_PM_compile 17 = .ok (.getfield 27, 3) := by decide +kernel
theorem d_PM_compile_20 : decode b_PM_compile 20 = .ok (.getfield 53, 3) := by decide +kernel
theorem d_PM_compile_23 : decode b_PM_compile 23 = .ok (.astore_n 2, 1) := by decide +kernel
theorem d_PM_compile_24 : decode b_PM_compile 24 = .ok (.aload_n 0, 1) := by decide +kernel
theorem d_PM_compile_25 : decode b_PM_compile 25 = .ok (.getfield 27, 3) := by decide +kernel
theorem d_PM_compile_28 : decode b_PM_compile 28 = .ok (.aload_n 0, 1) := by decide +kernel
theorem d_PM_compile_29 : decode b_PM_compile 29 = .ok (.getfield 20, 3) := by decide +kernel
theorem d_PM_compile_32 : decode b_PM_compile 32 = .ok (.getfield 57, 3) := by decide +kernel
theorem d_PM_compile_35 : decode b_PM_compile 35 = .ok (.putfield 53, 3) := by decide +kernel
theorem d_PM_compile_38 : decode b_PM_compile 38 = .ok (.aload_n 0, 1) := by decide +kernel
theorem d_PM_compile_39 : decode b_PM_compile 39 = .ok (.getfield 20, 3) := by decide +kernel
theorem d_PM_compile_42 : decode b_PM_compile 42 = .ok (.aload_n 2, 1) := by decide +kernel
theorem d_PM_compile_43 : decode b_PM_compile 43 = .ok (.putfield 57, 3) := by decide +kernel
theorem d_PM_compile_46 : decode b_PM_compile 46 = .ok (.aload_n 0, 1) := by decide +kernel
theorem d_PM_compile_47 : decode b_PM_compile 47 = .ok (.iconst 1, 1) := by decide +kernel
theorem d_PM_compile_48 : decode b_PM_compile 48 = .ok (.putfield 31, 3) := by decide +kernel
theorem d_PM_compile_51 : decode b_PM_compile 51 = .ok (.iload_n 1, 1) := by decide +kernel
theorem d_PM_compile_52 : decode b_PM_compile 52 = .ok (.ireturn, 1) := by decide +kernel
theorem d_PM_fault_0 : decode b_PM_fault 0 = .ok (.aload_n 0, 1) := by decide +kernel
theorem d_PM_fault_1 : decode b_PM_fault 1 = .ok (.getfield 20, 3) := by decide +kernel
theorem d_PM_fault_4 : decode b_PM_fault 4 = .ok (.getfield 60, 3) := by decide +kernel
theorem d_PM_fault_7 : decode b_PM_fault 7 = .ok (.ireturn, 1) := by decide +kernel
theorem d_PM_run_0 : decode b_PM_run 0 = .ok (.aload_n 0, 1) := by decide +kernel
theorem d_PM_run_1 : decode b_PM_run 1 = .ok (.getfield 31, 3) := by decide +kernel
theorem d_PM_run_4 : decode b_PM_run 4 = .ok (.ifCond .ne 11, 3) := by decide +kernel
theorem d_PM_run_7 : decode b_PM_run 7 = .ok (.new 63, 3) := by decide +kernel
theorem d_PM_run_10 : decode b_PM_run 10 = .ok (.dup, 1) := by decide +kernel
theorem d_PM_run_11 : decode b_PM_run 11 = .ok (.invokespecial 65, 3) := by decide +kernel
theorem d_PM_run_14 : decode b_PM_run 14 = .ok (.athrow, 1) := by decide +kernel
theorem d_PM_run_15 : decode b_PM_run 15 = .ok (.aload_n 0, 1) := by decide +kernel
theorem d_PM_run_16 : decode b_PM_run 16 = .ok (.getfield 27, 3) := by decide +kernel
theorem d_PM_run_19 : decode b_PM_run 19 = .ok (.invokevirtual 66, 3) := by decide +kernel
theorem d_PM_run_22 : decode b_PM_run 22 = .ok (.aload_n 0, 1) := by decide +kernel
theorem d_PM_run_23 : decode b_PM_run 23 = .ok (.getfield 27, 3) := by decide +kernel
theorem d_PM_run_26 : decode b_PM_run 26 = .ok (.getfield 69, 3) := by decide +kernel
theorem d_PM_run_29 : decode b_PM_run 29 = .ok (.ireturn, 1) := by decide +kernel
theorem d_PM_output_0 : decode b_PM_output 0 = .ok (.iload_n 1, 1) := by decide +kernel
theorem d_PM_output_1 : decode b_PM_output 1 = .ok (.ifCond .lt 14, 3) := by decide +kernel
theorem d_PM_output_4 : decode b_PM_output 4 = .ok (.iload_n 1, 1) := by decide +kernel
theorem d_PM_output_5 : decode b_PM_output 5 = .ok (.aload_n 0, 1) := by decide +kernel
theorem d_PM_output_6 : decode b_PM_output 6 = .ok (.getfield 27, 3) := by decide +kernel
theorem d_PM_output_9 : decode b_PM_output 9 = .ok (.getfield 69, 3) := by decide +kernel
theorem d_PM_output_12 : decode b_PM_output 12 = .ok (.if_icmp .lt 11, 3) := by decide +kernel
theorem d_PM_output_15 : decode b_PM_output 15 = .ok (.new 63, 3) := by decide +kernel
theorem d_PM_output_18 : decode b_PM_output 18 = .ok (.dup, 1) := by decide +kernel
theorem d_PM_output_19 : decode b_PM_output 19 = .ok (.invokespecial 65, 3) := by decide +kernel
theorem d_PM_output_22 : decode b_PM_output 22 = .ok (.athrow, 1) := by decide +kernel
theorem d_PM_output_23 : decode b_PM_output 23 = .ok (.aload_n 0, 1) := by decide +kernel
theorem d_PM_output_24 : decode b_PM_output 24 = .ok (.getfield 27, 3) := by decide +kernel
theorem d_PM_output_27 : decode b_PM_output 27 = .ok (.getfield 72, 3) := by decide +kernel
theorem d_PM_output_30 : decode b_PM_output 30 = .ok (.iload_n 1, 1) := by decide +kernel
theorem d_PM_output_31 : decode b_PM_output 31 = .ok (.iaload, 1) := by decide +kernel
theorem d_PM_output_32 : decode b_PM_output 32 = .ok (.ireturn, 1) := by decide +kernel
theorem d_PM_count_0 : decode b_PM_count 0 = .ok (.iload_n 1, 1) := by decide +kernel
theorem d_PM_count_1 : decode b_PM_count 1 = .ok (.tableswitch 72 0 4 #[35, 43, 51, 59, 67], 35) := by decide +kernel
theorem d_PM_count_36 : decode b_PM_count 36 = .ok (.aload_n 0, 1) := by decide +kernel
theorem d_PM_count_37 : decode b_PM_count 37 = .ok (.getfield 27, 3) := by decide +kernel
theorem d_PM_count_40 : decode b_PM_count 40 = .ok (.getfield 69, 3) := by decide +kernel
theorem d_PM_count_43 : decode b_PM_count 43 = .ok (.ireturn, 1) := by decide +kernel
theorem d_PM_count_44 : decode b_PM_count 44 = .ok (.aload_n 0, 1) := by decide +kernel
theorem d_PM_count_45 : decode b_PM_count 45 = .ok (.getfield 27, 3) := by decide +kernel
theorem d_PM_count_48 : decode b_PM_count 48 = .ok (.getfield 76, 3) := by decide +kernel
theorem d_PM_count_51 : decode b_PM_count 51 = .ok (.ireturn, 1) := by decide +kernel
theorem d_PM_count_52 : decode b_PM_count 52 = .ok (.aload_n 0, 1) := by decide +kernel
theorem d_PM_count_53 : decode b_PM_count 53 = .ok (.getfield 27, 3) := by decide +kernel
theorem d_PM_count_56 : decode b_PM_count 56 = .ok (.getfield 79, 3) := by decide +kernel
theorem d_PM_count_59 : decode b_PM_count 59 = .ok (.ireturn, 1) := by decide +kernel
theorem d_PM_count_60 : decode b_PM_count 60 = .ok (.aload_n 0, 1) := by decide +kernel
theorem d_PM_count_61 : decode b_PM_count 61 = .ok (.getfield 27, 3) := by decide +kernel
theorem d_PM_count_64 : decode b_PM_count 64 = .ok (.getfield 82, 3) := by decide +kernel
theorem d_PM_count_67 : decode b_PM_count 67 = .ok (.ireturn, 1) := by decide +kernel
theorem d_PM_count_68 : decode b_PM_count 68 = .ok (.aload_n 0, 1) := by decide +kernel
theorem d_PM_count_69 : decode b_PM_count 69 = .ok (.getfield 13, 3) := by decide +kernel
theorem d_PM_count_72 : decode b_PM_count 72 = .ok (.ireturn, 1) := by decide +kernel
theorem d_PM_count_73 : decode b_PM_count 73 = .ok (.new 39, 3) := by decide +kernel
theorem d_PM_count_76 : decode b_PM_count 76 = .ok (.dup, 1) := by decide +kernel
theorem d_PM_count_77 : decode b_PM_count 77 = .ok (.invokespecial 41, 3) := by decide +kernel
theorem d_PM_count_80 : decode b_PM_count 80 = .ok (.athrow, 1) := by decide +kernel
theorem d_PM_hasOnlyCodes_0 : decode b_PM_hasOnlyCodes 0 = .ok (.iconst 0, 1) := by decide +kernel
theorem d_PM_hasOnlyCodes_1 : decode b_PM_hasOnlyCodes 1 = .ok (.istore_n 3, 1) := by decide +kernel
theorem d_PM_hasOnlyCodes_2 : decode b_PM_hasOnlyCodes 2 = .ok (.iload_n 3, 1) := by decide +kernel
theorem d_PM_hasOnlyCodes_3 : decode b_PM_hasOnlyCodes 3 = .ok (.iload_n 2, 1) := by decide +kernel
theorem d_PM_hasOnlyCodes_4 : decode b_PM_hasOnlyCodes 4 = .ok (.if_icmp .ge 32, 3) := by decide +kernel
theorem d_PM_hasOnlyCodes_7 : decode b_PM_hasOnlyCodes 7 = .ok (.lload_n 0, 1) := by decide +kernel
theorem d_PM_hasOnlyCodes_8 : decode b_PM_hasOnlyCodes 8 = .ok (.iload_n 3, 1) := by decide +kernel
theorem d_PM_hasOnlyCodes_9 : decode b_PM_hasOnlyCodes 9 = .ok (.invokestatic 45, 3) := by decide +kernel
theorem d_PM_hasOnlyCodes_12 : decode b_PM_hasOnlyCodes 12 = .ok (.istore 4, 2) := by decide +kernel
theorem d_PM_hasOnlyCodes_14 : decode b_PM_hasOnlyCodes 14 = .ok (.iload 4, 2) := by decide +kernel
theorem d_PM_hasOnlyCodes_16 : decode b_PM_hasOnlyCodes 16 = .ok (.bipush 32, 2) := by decide +kernel
theorem d_PM_hasOnlyCodes_18 : decode b_PM_hasOnlyCodes 18 = .ok (.if_icmp .lt 10, 3) := by decide +kernel
theorem d_PM_hasOnlyCodes_21 : decode b_PM_hasOnlyCodes 21 = .ok (.iload 4, 2) := by decide +kernel
theorem d_PM_hasOnlyCodes_23 : decode b_PM_hasOnlyCodes 23 = .ok (.bipush 126, 2) := by decide +kernel
theorem d_PM_hasOnlyCodes_25 : decode b_PM_hasOnlyCodes 25 = .ok (.if_icmp .le 5, 3) := by decide +kernel
theorem d_PM_hasOnlyCodes_28 : decode b_PM_hasOnlyCodes 28 = .ok (.iconst 0, 1) := by decide +kernel
theorem d_PM_hasOnlyCodes_29 : decode b_PM_hasOnlyCodes 29 = .ok (.ireturn, 1) := by decide +kernel
theorem d_PM_hasOnlyCodes_30 : decode b_PM_hasOnlyCodes 30 = .ok (.iinc 3 1, 3) := by decide +kernel
theorem d_PM_hasOnlyCodes_33 : decode b_PM_hasOnlyCodes 33 = .ok (.goto (-31), 3) := by decide +kernel
theorem d_PM_hasOnlyCodes_36 : decode b_PM_hasOnlyCodes 36 = .ok (.iconst 1, 1) := by decide +kernel
theorem d_PM_hasOnlyCodes_37 : decode b_PM_hasOnlyCodes 37 = .ok (.ireturn, 1) := by decide +kernel
theorem d_PM_byteAt_0 : decode b_PM_byteAt 0 = .ok (.lload_n 0, 1) := by decide +kernel
theorem d_PM_byteAt_1 : decode b_PM_byteAt 1 = .ok (.bipush 8, 2) := by decide +kernel
theorem d_PM_byteAt_3 : decode b_PM_byteAt 3 = .ok (.iload_n 2, 1) := by decide +kernel
theorem d_PM_byteAt_4 : decode b_PM_byteAt 4 = .ok (.imul, 1) := by decide +kernel
theorem d_PM_byteAt_5 : decode b_PM_byteAt 5 = .ok (.lushr, 1) := by decide +kernel
theorem d_PM_byteAt_6 : decode b_PM_byteAt 6 = .ok (.l2i, 1) := by decide +kernel
theorem d_PM_byteAt_7 : decode b_PM_byteAt 7 = .ok (.sipush 255, 3) := by decide +kernel
theorem d_PM_byteAt_10 : decode b_PM_byteAt 10 = .ok (.iand, 1) := by decide +kernel
theorem d_PM_byteAt_11 : decode b_PM_byteAt 11 = .ok (.ireturn, 1) := by decide +kernel
