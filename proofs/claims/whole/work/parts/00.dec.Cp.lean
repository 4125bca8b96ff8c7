theorem d_Cp_init_0 : decode b_Cp_init 0 = .ok (.aload_n 0, 1) := by decide +kernel
theorem d_Cp_init_1 : decode b_Cp_init 1 = .ok (.invokespecial 3, 3) := by decide +kernel
theorem d_Cp_init_4 : decode b_Cp_init 4 = .ok (.aload_n 0, 1) := by decide +kernel
theorem d_Cp_init_5 : decode b_Cp_init 5 = .ok (.new 9, 3) := by decide +kernel
theorem d_Cp_init_8 : decode b_Cp_init 8 = .ok (.dup, 1) := by decide +kernel
theorem d_Cp_init_9 : decode b_Cp_init 9 = .ok (.invokespecial 11, 3) := by decide +kernel
theorem d_Cp_init_12 : decode b_Cp_init 12 = .ok (.putfield 12, 3) := by decide +kernel
theorem d_Cp_init_15 : decode b_Cp_init 15 = .ok (.aload_n 0, 1) := by decide +kernel
theorem d_Cp_init_16 : decode b_Cp_init 16 = .ok (.new 18, 3) := by decide +kernel
theorem d_Cp_init_19 : decode b_Cp_init 19 = .ok (.dup, 1) := by decide +kernel
theorem d_Cp_init_20 : decode b_Cp_init 20 = .ok (.invokespecial 20, 3) := by decide +kernel
theorem d_Cp_init_23 : decode b_Cp_init 23 = .ok (.putfield 21, 3) := by decide +kernel
theorem d_Cp_init_26 : decode b_Cp_init 26 = .ok (.aload_n 0, 1) := by decide +kernel
theorem d_Cp_init_27 : decode b_Cp_init 27 = .ok (.new 25, 3) := by decide +kernel
theorem d_Cp_init_30 : decode b_Cp_init 30 = .ok (.dup, 1) := by decide +kernel
theorem d_Cp_init_31 : decode b_Cp_init 31 = .ok (.invokespecial 27, 3) := by decide +kernel
theorem d_Cp_init_34 : decode b_Cp_init 34 = .ok (.putfield 28, 3) := by decide +kernel
theorem d_Cp_init_37 : decode b_Cp_init 37 = .ok (.aload_n 0, 1) := by decide +kernel
theorem d_Cp_init_38 : decode b_Cp_init 38 = .ok (.iconst (-1), 1) := by decide +kernel
theorem d_Cp_init_39 : decode b_Cp_init 39 = .ok (.putfield 32, 3) := by decide +kernel
theorem d_Cp_init_42 : decode b_Cp_init 42 = .ok (.return_, 1) := by decide +kernel
theorem d_Cp_translate_0 : decode b_Cp_translate 0 = .ok (.aload_n 0, 1) := by decide +kernel
theorem d_Cp_translate_1 : decode b_Cp_translate 1 = .ok (.getfield 12, 3) := by decide +kernel
theorem d_Cp_translate_4 : decode b_Cp_translate 4 = .ok (.aload_n 1, 1) := by decide +kernel
theorem d_Cp_translate_5 : decode b_Cp_translate 5 = .ok (.iload_n 2, 1) := by decide +kernel
theorem d_Cp_translate_6 : decode b_Cp_translate 6 = .ok (.invokevirtual 36, 3) := by decide +kernel
theorem d_Cp_translate_9 : decode b_Cp_translate 9 = .ok (.aload_n 0, 1) := by decide +kernel
theorem d_Cp_translate_10 : decode b_Cp_translate 10 = .ok (.getfield 21, 3) := by decide +kernel
theorem d_Cp_translate_13 : decode b_Cp_translate 13 = .ok (.invokevirtual 40, 3) := by decide +kernel
theorem d_Cp_translate_16 : decode b_Cp_translate 16 = .ok (.aload_n 0, 1) := by decide +kernel
theorem d_Cp_translate_17 : decode b_Cp_translate 17 = .ok (.getfield 28, 3) := by decide +kernel
theorem d_Cp_translate_20 : decode b_Cp_translate 20 = .ok (.iconst 0, 1) := by decide +kernel
theorem d_Cp_translate_21 : decode b_Cp_translate 21 = .ok (.putfield 43, 3) := by decide +kernel
theorem d_Cp_translate_24 : decode b_Cp_translate 24 = .ok (.aload_n 0, 1) := by decide +kernel
theorem d_Cp_translate_25 : decode b_Cp_translate 25 = .ok (.getfield 28, 3) := by decide +kernel
theorem d_Cp_translate_28 : decode b_Cp_translate 28 = .ok (.aload_n 0, 1) := by decide +kernel
theorem d_Cp_translate_29 : decode b_Cp_translate 29 = .ok (.iconst 1, 1) := by decide +kernel
theorem d_Cp_translate_30 : decode b_Cp_translate 30 = .ok (.invokevirtual 46, 3) := by decide +kernel
theorem d_Cp_translate_33 : decode b_Cp_translate 33 = .ok (.putfield 50, 3) := by decide +kernel
theorem d_Cp_translate_36 : decode b_Cp_translate 36 = .ok (.aload_n 0, 1) := by decide +kernel
theorem d_Cp_translate_37 : decode b_Cp_translate 37 = .ok (.getstatic 53, 3) := by decide +kernel
theorem d_Cp_translate_40 : decode b_Cp_translate 40 = .ok (.invokevirtual 59, 3) := by decide +kernel
theorem d_Cp_translate_43 : decode b_Cp_translate 43 = .ok (.aload_n 0, 1) := by decide +kernel
theorem d_Cp_translate_44 : decode b_Cp_translate 44 = .ok (.getfield 12, 3) := by decide +kernel
theorem d_Cp_translate_47 : decode b_Cp_translate 47 = .ok (.invokevirtual 63, 3) := by decide +kernel
theorem d_Cp_translate_50 : decode b_Cp_translate 50 = .ok (.getstatic 67, 3) := by decide +kernel
theorem d_Cp_translate_53 : decode b_Cp_translate 53 = .ok (.if_acmp .eq 14, 3) := by decide +kernel
theorem d_Cp_translate_56 : decode b_Cp_translate 56 = .ok (.aload_n 0, 1) := by decide +kernel
theorem d_Cp_translate_57 : decode b_Cp_translate 57 = .ok (.aload_n 0, 1) := by decide +kernel
theorem d_Cp_translate_58 : decode b_Cp_translate 58 = .ok (.getfield 12, 3) := by decide +kernel
theorem d_Cp_translate_61 : decode b_Cp_translate 61 = .ok (.invokevirtual 70, 3) := by decide +kernel
theorem d_Cp_translate_64 : decode b_Cp_translate 64 = .ok (.invokevirtual 74, 3) := by decide +kernel
theorem d_Cp_translate_67 : decode b_Cp_translate 67 = .ok (.aload_n 0, 1) := by decide +kernel
theorem d_Cp_translate_68 : decode b_Cp_translate 68 = .ok (.iconst (-1), 1) := by decide +kernel
theorem d_Cp_translate_69 : decode b_Cp_translate 69 = .ok (.putfield 32, 3) := by decide +kernel
theorem d_Cp_translate_72 : decode b_Cp_translate 72 = .ok (.aload_n 0, 1) := by decide +kernel
theorem d_Cp_translate_73 : decode b_Cp_translate 73 = .ok (.getfield 21, 3) := by decide +kernel
theorem d_Cp_translate_76 : decode b_Cp_translate 76 = .ok (.invokevirtual 78, 3) := by decide +kernel
theorem d_Cp_translate_79 : decode b_Cp_translate 79 = .ok (.ireturn, 1) := by decide +kernel
theorem d_Cp_refuse_0 : decode b_Cp_refuse 0 = .ok (.aload_n 0, 1) := by decide +kernel
theorem d_Cp_refuse_1 : decode b_Cp_refuse 1 = .ok (.iload_n 1, 1) := by decide +kernel
theorem d_Cp_refuse_2 : decode b_Cp_refuse 2 = .ok (.putfield 32, 3) := by decide +kernel
theorem d_Cp_refuse_5 : decode b_Cp_refuse 5 = .ok (.new 81, 3) := by decide +kernel
theorem d_Cp_refuse_8 : decode b_Cp_refuse 8 = .ok (.dup, 1) := by decide +kernel
theorem d_Cp_refuse_9 : decode b_Cp_refuse 9 = .ok (.invokespecial 83, 3) := by decide +kernel
theorem d_Cp_refuse_12 : decode b_Cp_refuse 12 = .ok (.athrow, 1) := by decide +kernel
theorem d_Cp_expect_0 : decode b_Cp_expect 0 = .ok (.aload_n 0, 1) := by decide +kernel
theorem d_Cp_expect_1 : decode b_Cp_expect 1 = .ok (.getfield 12, 3) := by decide +kernel
theorem d_Cp_expect_4 : decode b_Cp_expect 4 = .ok (.aload_n 1, 1) := by decide +kernel
theorem d_Cp_expect_5 : decode b_Cp_expect 5 = .ok (.invokevirtual 84, 3) := by decide +kernel
theorem d_Cp_expect_8 : decode b_Cp_expect 8 = .ok (.ifCond .ne 14, 3) := by decide +kernel
theorem d_Cp_expect_11 : decode b_Cp_expect 11 = .ok (.aload_n 0, 1) := by decide +kernel
theorem d_Cp_expect_12 : decode b_Cp_expect 12 = .ok (.aload_n 0, 1) := by decide +kernel
theorem d_Cp_expect_13 : decode b_Cp_expect 13 = .ok (.getfield 12, 3) := by decide +kernel
theorem d_Cp_expect_16 : decode b_Cp_expect 16 = .ok (.invokevirtual 70, 3) := by decide +kernel
theorem d_Cp_expect_19 : decode b_Cp_expect 19 = .ok (.invokevirtual 74, 3) := by decide +kernel
theorem d_Cp_expect_22 : decode b_Cp_expect 22 = .ok (.return_, 1) := by decide +kernel
theorem d_Cp_declareName_0 : decode b_Cp_declareName 0 = .ok (.aload_n 0, 1) := by decide +kernel
theorem d_Cp_declareName_1 : decode b_Cp_declareName 1 = .ok (.getfield 12, 3) := by decide +kernel
theorem d_Cp_declareName_4 : decode b_Cp_declareName 4 = .ok (.invokevirtual 63, 3) := by decide +kernel
theorem d_Cp_declareName_7 : decode b_Cp_declareName 7 = .ok (.getstatic 88, 3) := by decide +kernel
theorem d_Cp_declareName_10 : decode b_Cp_declareName 10 = .ok (.if_acmp .ne 21, 3) := by decide +kernel
theorem d_Cp_declareName_13 : decode b_Cp_declareName 13 = .ok (.aload_n 0, 1) := by decide +kernel
theorem d_Cp_declareName_14 : decode b_Cp_declareName 14 = .ok (.getfield 21, 3) := by decide +kernel
theorem d_Cp_declareName_17 : decode b_Cp_declareName 17 = .ok (.aload_n 0, 1) := by decide +kernel
theorem d_Cp_declareName_18 : decode b_Cp_declareName 18 = .ok (.getfield 12, 3) := by decide +kernel
theorem d_Cp_declareName_21 : decode b_Cp_declareName 21 = .ok (.invokevirtual 91, 3) := by decide +kernel
theorem d_Cp_declareName_24 : decode b_Cp_declareName 24 = .ok (.iload_n 1, 1) := by decide +kernel
theorem d_Cp_declareName_25 : decode b_Cp_declareName 25 = .ok (.invokevirtual 95, 3) := by decide +kernel
theorem d_Cp_declareName_28 : decode b_Cp_declareName 28 = .ok (.ifCond .ne 14, 3) := by decide +kernel
theorem d_Cp_declareName_31 : decode b_Cp_declareName 31 = .ok (.aload_n 0, 1) := by decide +kernel
theorem d_Cp_declareName_32 : decode b_Cp_declareName 32 = .ok (.aload_n 0, 1) := by decide +kernel
theorem d_Cp_declareName_33 : decode b_Cp_declareName 33 = .ok (.getfield 12, 3) := by decide +kernel
theorem d_Cp_declareName_36 : decode b_Cp_declareName 36 = .ok (.invokevirtual 70, 3) := by decide +kernel
theorem d_Cp_declareName_39 : decode b_Cp_declareName 39 = .ok (.invokevirtual 74, 3) := by decide +kernel
theorem d_Cp_declareName_42 : decode b_Cp_declareName 42 = .ok (.aload_n 0, 1) := by decide +kernel
theorem d_Cp_declareName_43 : decode b_Cp_declareName 43 = .ok (.getfield 12, 3) := by decide +kernel
theorem d_Cp_declareName_46 : decode b_Cp_declareName 46 = .ok (.invokevirtual 99, 3) := by decide +kernel
theorem d_Cp_declareName_49 : decode b_Cp_declareName 49 = .ok (.return_, 1) := by decide +kernel
theorem d_Cp_block_0 : decode b_Cp_block 0 = .ok (.aload_n 0, 1) := by decide +kernel
theorem d_Cp_block_1 : decode b_Cp_block 1 = .ok (.getfield 12, 3) := by decide +kernel
theorem d_Cp_block_4 : decode b_Cp_block 4 = .ok (.getstatic 102, 3) := by decide +kernel
theorem d_Cp_block_7 : decode b_Cp_block 7 = .ok (.invokevirtual 84, 3) := by decide +kernel
theorem d_Cp_block_10 : decode b_Cp_block 10 = .ok (.ifCond .eq 7, 3) := by decide +kernel
theorem d_Cp_block_13 : decode b_Cp_block 13 = .ok (.aload_n 0, 1) := by decide +kernel
theorem d_Cp_block_14 : decode b_Cp_block 14 = .ok (.invokevirtual 105, 3) := by decide +kernel
theorem d_Cp_block_17 : decode b_Cp_block 17 = .ok (.iconst 0, 1) := by decide +kernel
theorem d_Cp_block_18 : decode b_Cp_block 18 = .ok (.istore_n 2, 1) := by decide +kernel
theorem d_Cp_block_19 : decode b_Cp_block 19 = .ok (.iload_n 2, 1) := by decide +kernel
theorem d_Cp_block_20 : decode b_Cp_block 20 = .ok (.sipush 150, 3) := by decide +kernel
theorem d_Cp_block_23 : decode b_Cp_block 23 = .ok (.if_icmp .ge 27, 3) := by decide +kernel
theorem d_Cp_block_26 : decode b_Cp_block 26 = .ok (.aload_n 0, 1) := by decide +kernel
theorem d_Cp_block_27 : decode b_Cp_block 27 = .ok (.getfield 12, 3) := by decide +kernel
theorem d_Cp_block_30 : decode b_Cp_block 30 = .ok (.invokevirtual 63, 3) := by decide +kernel
theorem d_Cp_block_33 : decode b_Cp_block 33 = .ok (.getstatic 108, 3) := by decide +kernel
theorem d_Cp_block_36 : decode b_Cp_block 36 = .ok (.if_acmp .ne 14, 3) := by decide +kernel
theorem d_Cp_block_39 : decode b_Cp_block 39 = .ok (.aload_n 0, 1) := by decide +kernel
theorem d_Cp_block_40 : decode b_Cp_block 40 = .ok (.iload_n 1, 1) := by decide +kernel
theorem d_Cp_block_41 : decode b_Cp_block 41 = .ok (.invokevirtual 111, 3) := by decide +kernel
theorem d_Cp_block_44 : decode b_Cp_block 44 = .ok (.iinc 2 1, 3) := by decide +kernel
theorem d_Cp_block_47 : decode b_Cp_block 47 = .ok (.goto (-28), 3) := by decide +kernel
theorem d_Cp_block_50 : decode b_Cp_block 50 = .ok (.aload_n 0, 1) := by decide +kernel
theorem d_Cp_block_51 : decode b_Cp_block 51 = .ok (.getfield 28, 3) := by decide +kernel
theorem d_Cp_block_54 : decode b_Cp_block 54 = .ok (.getfield 43, 3) := by decide +kernel
theorem d_Cp_block_57 : decode b_Cp_block 57 = .ok (.istore_n 2, 1) := by decide +kernel
theorem d_Cp_block_58 : decode b_Cp_block 58 = .ok (.aload_n 0, 1) := by decide +kernel
theorem d_Cp_block_59 : decode b_Cp_block 59 = .ok (.getstatic 114, 3) := by decide +kernel
theorem d_Cp_block_62 : decode b_Cp_block 62 = .ok (.invokevirtual 59, 3) := by decide +kernel
theorem d_Cp_block_65 : decode b_Cp_block 65 = .ok (.aload_n 0, 1) := by decide +kernel
theorem d_Cp_block_66 : decode b_Cp_block 66 = .ok (.iconst 0, 1) := by decide +kernel
theorem d_Cp_block_67 : decode b_Cp_block 67 = .ok (.invokevirtual 117, 3) := by decide +kernel
theorem d_Cp_block_70 : decode b_Cp_block 70 = .ok (.aload_n 0, 1) := by decide +kernel
theorem d_Cp_block_71 : decode b_Cp_block 71 = .ok (.getfield 28, 3) := by decide +kernel
theorem d_Cp_block_74 : decode b_Cp_block 74 = .ok (.bipush 19, 2) := by decide +kernel
theorem d_Cp_block_76 : decode b_Cp_block 76 = .ok (.iconst 0, 1) := by decide +kernel
theorem d_Cp_block_77 : decode b_Cp_block 77 = .ok (.iconst 0, 1) := by decide +kernel
theorem d_Cp_block_78 : decode b_Cp_block 78 = .ok (.invokevirtual 120, 3) := by decide +kernel
theorem d_Cp_block_81 : decode b_Cp_block 81 = .ok (.pop, 1) := by decide +kernel
theorem d_Cp_block_82 : decode b_Cp_block 82 = .ok (.iload_n 2, 1) := by decide +kernel
theorem d_Cp_block_83 : decode b_Cp_block 83 = .ok (.ireturn, 1) := by decide +kernel
theorem d_Cp_variables_0 : decode b_Cp_variables 0 = .ok (.aload_n 0, 1) := by decide +kernel
theorem d_Cp_variables_1 : decode b_Cp_variables 1 = .ok (.iconst 0, 1) := by decide +kernel
theorem d_Cp_variables_2 : decode b_Cp_variables 2 = .ok (.invokevirtual 124, 3) := by decide +kernel
theorem d_Cp_variables_5 : decode b_Cp_variables 5 = .ok (.iconst 0, 1) := by decide +kernel
theorem d_Cp_variables_6 : decode b_Cp_variables 6 = .ok (.istore_n 1, 1) := by decide +kernel
theorem d_Cp_variables_7 : decode b_Cp_variables 7 = .ok (.iload_n 1, 1) := by decide +kernel
theorem d_Cp_variables_8 : decode b_Cp_variables 8 = .ok (.sipush 150, 3) := by decide +kernel
theorem d_Cp_variables_11 : decode b_Cp_variables 11 = .ok (.if_icmp .ge 27, 3) := by decide +kernel
theorem d_Cp_variables_14 : decode b_Cp_variables 14 = .ok (.aload_n 0, 1) := by decide +kernel
theorem d_Cp_variables_15 : decode b_Cp_variables 15 = .ok (.getfield 12, 3) := by decide +kernel
theorem d_Cp_variables_18 : decode b_Cp_variables 18 = .ok (.getstatic 127, 3) := by decide +kernel
theorem d_Cp_variables_21 : decode b_Cp_variables 21 = .ok (.invokevirtual 84, 3) := by decide +kernel
theorem d_Cp_variables_24 : decode b_Cp_variables 24 = .ok (.ifCond .eq 14, 3) := by decide +kernel
theorem d_Cp_variables_27 : decode b_Cp_variables 27 = .ok (.aload_n 0, 1) := by decide +kernel
theorem d_Cp_variables_28 : decode b_Cp_variables 28 = .ok (.iconst 0, 1) := by decide +kernel
theorem d_Cp_variables_29 : decode b_Cp_variables 29 = .ok (.invokevirtual 124, 3) := by decide +kernel
theorem d_Cp_variables_32 : decode b_Cp_variables 32 = .ok (.iinc 1 1, 3) := by decide +kernel
theorem d_Cp_variables_35 : decode b_Cp_variables 35 = .ok (.goto (-28), 3) := by decide +kernel
theorem d_Cp_variables_38 : decode b_Cp_variables 38 = .ok (.aload_n 0, 1) := by decide +kernel
theorem d_Cp_variables_39 : decode b_Cp_variables 39 = .ok (.getstatic 130, 3) := by decide +kernel
theorem d_Cp_variables_42 : decode b_Cp_variables 42 = .ok (.invokevirtual 59, 3) := by decide +kernel
theorem d_Cp_variables_45 : decode b_Cp_variables 45 = .ok (.return_, 1) := by decide +kernel
theorem d_Cp_procedure_0 : decode b_Cp_procedure 0 = .ok (.iload_n 1, 1) := by decide +kernel
theorem d_Cp_procedure_1 : decode b_Cp_procedure 1 = .ok (.iconst 4, 1) := by decide +kernel
theorem d_Cp_procedure_2 : decode b_Cp_procedure 2 = .ok (.if_icmp .ne 14, 3) := by decide +kernel
theorem d_Cp_procedure_5 : decode b_Cp_procedure 5 = .ok (.aload_n 0, 1) := by decide +kernel
theorem d_Cp_procedure_6 : decode b_Cp_procedure 6 = .ok (.aload_n 0, 1) := by decide +kernel
theorem d_Cp_procedure_7 : decode b_Cp_procedure 7 = .ok (.getfield 12, 3) := by decide +kernel
theorem d_Cp_procedure_10 : decode b_Cp_procedure 10 = .ok (.invokevirtual 70, 3) := by decide +kernel
theorem d_Cp_procedure_13 : decode b_Cp_procedure 13 = .ok (.invokevirtual 74, 3) := by decide +kernel
theorem d_Cp_procedure_16 : decode b_Cp_procedure 16 = .ok (.aload_n 0, 1) := by decide +kernel
theorem d_Cp_procedure_17 : decode b_Cp_procedure 17 = .ok (.getfield 12, 3) := by decide +kernel
theorem d_Cp_procedure_20 : decode b_Cp_procedure 20 = .ok (.invokevirtual 99, 3) := by decide +kernel
theorem d_Cp_procedure_23 : decode b_Cp_procedure 23 = .ok (.aload_n 0, 1) := by decide +kernel
theorem d_Cp_procedure_24 : decode b_Cp_procedure 24 = .ok (.iconst 2, 1) := by decide +kernel
theorem d_Cp_procedure_25 : decode b_Cp_procedure 25 = .ok (.invokevirtual 124, 3) := by decide +kernel
theorem d_Cp_procedure_28 : decode b_Cp_procedure 28 = .ok (.aload_n 0, 1) := by decide +kernel
theorem d_Cp_procedure_29 : decode b_Cp_procedure 29 = .ok (.getfield 21, 3) := by decide +kernel
theorem d_Cp_procedure_32 : decode b_Cp_procedure 32 = .ok (.invokevirtual 133, 3) := by decide +kernel
theorem d_Cp_procedure_35 : decode b_Cp_procedure 35 = .ok (.istore_n 2, 1) := by decide +kernel
theorem d_Cp_procedure_36 : decode b_Cp_procedure 36 = .ok (.aload_n 0, 1) := by decide +kernel
theorem d_Cp_procedure_37 : decode b_Cp_procedure 37 = .ok (.getfield 28, 3) := by decide +kernel
theorem d_Cp_procedure_40 : decode b_Cp_procedure 40 = .ok (.getfield 136, 3) := by decide +kernel
theorem d_Cp_procedure_43 : decode b_Cp_procedure 43 = .ok (.iload_n 2, 1) := by decide +kernel
theorem d_Cp_procedure_44 : decode b_Cp_procedure 44 = .ok (.iconst 0, 1) := by decide +kernel
theorem d_Cp_procedure_45 : decode b_Cp_procedure 45 = .ok (.iastore, 1) := by decide +kernel
theorem d_Cp_procedure_46 : decode b_Cp_procedure 46 = .ok (.aload_n 0, 1) := by decide +kernel
theorem d_Cp_procedure_47 : decode b_Cp_procedure 47 = .ok (.getfield 28, 3) := by decide +kernel
theorem d_Cp_procedure_50 : decode b_Cp_procedure 50 = .ok (.getfield 140, 3) := by decide +kernel
theorem d_Cp_procedure_53 : decode b_Cp_procedure 53 = .ok (.iload_n 2, 1) := by decide +kernel
theorem d_Cp_procedure_54 : decode b_Cp_procedure 54 = .ok (.iconst 0, 1) := by decide +kernel
theorem d_Cp_procedure_55 : decode b_Cp_procedure 55 = .ok (.iastore, 1) := by decide +kernel
theorem d_Cp_procedure_56 : decode b_Cp_procedure 56 = .ok (.aload_n 0, 1) := by decide +kernel
theorem d_Cp_procedure_57 : decode b_Cp_procedure 57 = .ok (.getfield 21, 3) := by decide +kernel
theorem d_Cp_procedure_60 : decode b_Cp_procedure 60 = .ok (.invokevirtual 143, 3) := by decide +kernel
theorem d_Cp_procedure_63 : decode b_Cp_procedure 63 = .ok (.aload_n 0, 1) := by decide +kernel
theorem d_Cp_procedure_64 : decode b_Cp_procedure 64 = .ok (.getfield 12, 3) := by decide +kernel
theorem d_Cp_procedure_67 : decode b_Cp_procedure 67 = .ok (.getstatic 146, 3) := by decide +kernel
theorem d_Cp_procedure_70 : decode b_Cp_procedure 70 = .ok (.invokevirtual 84, 3) := by decide +kernel
theorem d_Cp_procedure_73 : decode b_Cp_procedure 73 = .ok (.ifCond .eq 8, 3) := by decide +kernel
theorem d_Cp_procedure_76 : decode b_Cp_procedure 76 = .ok (.aload_n 0, 1) := by decide +kernel
theorem d_Cp_procedure_77 : decode b_Cp_procedure 77 = .ok (.iload_n 2, 1) := by decide +kernel
theorem d_Cp_procedure_78 : decode b_Cp_procedure 78 = .ok (.invokevirtual 149, 3) := by decide +kernel
theorem d_Cp_procedure_81 : decode b_Cp_procedure 81 = .ok (.aload_n 0, 1) := by decide +kernel
theorem d_Cp_procedure_82 : decode b_Cp_procedure 82 = .ok (.getstatic 130, 3) := by decide +kernel
theorem d_Cp_procedure_85 : decode b_Cp_procedure 85 = .ok (.invokevirtual 59, 3) := by decide +kernel
theorem d_Cp_procedure_88 : decode b_Cp_procedure 88 = .ok (.aload_n 0, 1) := by decide +kernel
theorem d_Cp_procedure_89 : decode b_Cp_procedure 89 = .ok (.getfield 28, 3) := by decide +kernel
theorem d_Cp_procedure_92 : decode b_Cp_procedure 92 = .ok (.getfield 151, 3) := by decide +kernel
theorem d_Cp_procedure_95 : decode b_Cp_procedure 95 = .ok (.iload_n 2, 1) := by decide +kernel
theorem d_Cp_procedure_96 : decode b_Cp_procedure 96 = .ok (.aload_n 0, 1) := by decide +kernel
theorem d_Cp_procedure_97 : decode b_Cp_procedure 97 = .ok (.iload_n 1, 1) := by decide +kernel
theorem d_Cp_procedure_98 : decode b_Cp_procedure 98 = .ok (.iconst 1, 1) := by decide +kernel
theorem d_Cp_procedure_99 : decode b_Cp_procedure 99 = .ok (.iadd, 1) := by decide +kernel
theorem d_Cp_procedure_100 : decode b_Cp_procedure 100 = .ok (.invokevirtual 46, 3) := by decide +kernel
theorem d_Cp_procedure_103 : decode b_Cp_procedure 103 = .ok (.iastore, 1) := by decide +kernel
theorem d_Cp_procedure_104 : decode b_Cp_procedure 104 = .ok (.aload_n 0, 1) := by decide +kernel
theorem d_Cp_procedure_105 : decode b_Cp_procedure 105 = .ok (.getfield 21, 3) := by decide +kernel
theorem d_Cp_procedure_108 : decode b_Cp_procedure 108 = .ok (.invokevirtual 154, 3) := by decide +kernel
theorem d_Cp_procedure_111 : decode b_Cp_procedure 111 = .ok (.aload_n 0, 1) := by decide +kernel
theorem d_Cp_procedure_112 : decode b_Cp_procedure 112 = .ok (.getstatic 130, 3) := by decide +kernel
theorem d_Cp_procedure_115 : decode b_Cp_procedure 115 = .ok (.invokevirtual 59, 3) := by decide +kernel
theorem d_Cp_procedure_118 : decode b_Cp_procedure 118 = .ok (.return_, 1) := by decide +kernel
theorem d_Cp_parameters_0 : decode b_Cp_parameters 0 = .ok (.aload_n 0, 1) := by decide +kernel
theorem d_Cp_parameters_1 : decode b_Cp_parameters 1 = .ok (.iload_n 1, 1) := by decide +kernel
theorem d_Cp_parameters_2 : decode b_Cp_parameters 2 = .ok (.invokevirtual 157, 3) := by decide +kernel
theorem d_Cp_parameters_5 : decode b_Cp_parameters 5 = .ok (.iconst 0, 1) := by decide +kernel
theorem d_Cp_parameters_6 : decode b_Cp_parameters 6 = .ok (.istore_n 2, 1) := by decide +kernel
theorem d_Cp_parameters_7 : decode b_Cp_parameters 7 = .ok (.iload_n 2, 1) := by decide +kernel
theorem d_Cp_parameters_8 : decode b_Cp_parameters 8 = .ok (.sipush 150, 3) := by decide +kernel
theorem d_Cp_parameters_11 : decode b_Cp_parameters 11 = .ok (.if_icmp .ge 27, 3) := by decide +kernel
theorem d_Cp_parameters_14 : decode b_Cp_parameters 14 = .ok (.aload_n 0, 1) := by decide +kernel
theorem d_Cp_parameters_15 : decode b_Cp_parameters 15 = .ok (.getfield 12, 3) := by decide +kernel
theorem d_Cp_parameters_18 : decode b_Cp_parameters 18 = .ok (.getstatic 127, 3) := by decide +kernel
theorem d_Cp_parameters_21 : decode b_Cp_parameters 21 = .ok (.invokevirtual 84, 3) := by decide +kernel
theorem d_Cp_parameters_24 : decode b_Cp_parameters 24 = .ok (.ifCond .eq 14, 3) := by decide +kernel
theorem d_Cp_parameters_27 : decode b_Cp_parameters 27 = .ok (.aload_n 0, 1) := by decide +kernel
theorem d_Cp_parameters_28 : decode b_Cp_parameters 28 = .ok (.iload_n 1, 1) := by decide +kernel
theorem d_Cp_parameters_29 : decode b_Cp_parameters 29 = .ok (.invokevirtual 157, 3) := by decide +kernel
theorem d_Cp_parameters_32 : decode b_Cp_parameters 32 = .ok (.iinc 2 1, 3) := by decide +kernel
theorem d_Cp_parameters_35 : decode b_Cp_parameters 35 = .ok (.goto (-28), 3) := by decide +kernel
theorem d_Cp_parameters_38 : decode b_Cp_parameters 38 = .ok (.aload_n 0, 1) := by decide +kernel
theorem d_Cp_parameters_39 : decode b_Cp_parameters 39 = .ok (.getstatic 160, 3) := by decide +kernel
theorem d_Cp_parameters_42 : decode b_Cp_parameters 42 = .ok (.invokevirtual 59, 3) := by decide +kernel
theorem d_Cp_parameters_45 : decode b_Cp_parameters 45 = .ok (.return_, 1) := by decide +kernel
theorem d_Cp_parameter_0 : decode b_Cp_parameter 0 = .ok (.aload_n 0, 1) := by decide +kernel
theorem d_Cp_parameter_1 : decode b_Cp_parameter 1 = .ok (.getfield 12, 3) := by decide +kernel
theorem d_Cp_parameter_4 : decode b_Cp_parameter 4 = .ok (.getstatic 163, 3) := by decide +kernel
theorem d_Cp_parameter_7 : decode b_Cp_parameter 7 = .ok (.invokevirtual 84, 3) := by decide +kernel
theorem d_Cp_parameter_10 : decode b_Cp_parameter 10 = .ok (.istore_n 2, 1) := by decide +kernel
theorem d_Cp_parameter_11 : decode b_Cp_parameter 11 = .ok (.aload_n 0, 1) := by decide +kernel
theorem d_Cp_parameter_12 : decode b_Cp_parameter 12 = .ok (.getfield 28, 3) := by decide +kernel
theorem d_Cp_parameter_15 : decode b_Cp_parameter 15 = .ok (.getfield 136, 3) := by decide +kernel
theorem d_Cp_parameter_18 : decode b_Cp_parameter 18 = .ok (.iload_n 1, 1) := by decide +kernel
theorem d_Cp_parameter_19 : decode b_Cp_parameter 19 = .ok (.iaload, 1) := by decide +kernel
theorem d_Cp_parameter_20 : decode b_Cp_parameter 20 = .ok (.istore_n 3, 1) := by decide +kernel
theorem d_Cp_parameter_21 : decode b_Cp_parameter 21 = .ok (.iload_n 3, 1) := by decide +kernel
theorem d_Cp_parameter_22 : decode b_Cp_parameter 22 = .ok (.iconst 3, 1) := by decide +kernel
theorem d_Cp_parameter_23 : decode b_Cp_parameter 23 = .ok (.if_icmp .ne 14, 3) := by decide +kernel
theorem d_Cp_parameter_26 : decode b_Cp_parameter 26 = .ok (.aload_n 0, 1) := by decide +kernel
theorem d_Cp_parameter_27 : decode b_Cp_parameter 27 = .ok (.aload_n 0, 1) := by decide +kernel
theorem d_Cp_parameter_28 : decode b_Cp_parameter 28 = .ok (.getfield 12, 3) := by decide +kernel
theorem d_Cp_parameter_31 : decode b_Cp_parameter 31 = .ok (.invokevirtual 70, 3) := by decide +kernel
theorem d_Cp_parameter_34 : decode b_Cp_parameter 34 = .ok (.invokevirtual 74, 3) := by decide +kernel
theorem d_Cp_parameter_37 : decode b_Cp_parameter 37 = .ok (.aload_n 0, 1) := by decide +kernel
theorem d_Cp_parameter_38 : decode b_Cp_parameter 38 = .ok (.iload_n 2, 1) := by decide +kernel
theorem d_Cp_parameter_39 : decode b_Cp_parameter 39 = .ok (.ifCond .eq 7, 3) := by decide +kernel
theorem d_Cp_parameter_42 : decode b_Cp_parameter 42 = .ok (.iconst 1, 1) := by decide +kernel
theorem d_Cp_parameter_43 : decode b_Cp_parameter 43 = .ok (.goto 4, 3) := by decide +kernel
theorem d_Cp_parameter_46 : decode b_Cp_parameter 46 = .ok (.iconst 0, 1) := by decide +kernel
theorem d_Cp_parameter_47 : decode b_Cp_parameter 47 = .ok (.invokevirtual 124, 3) := by decide +kernel
theorem d_Cp_parameter_50 : decode b_Cp_parameter 50 = .ok (.iload_n 2, 1) := by decide +kernel
theorem d_Cp_parameter_51 : decode b_Cp_parameter 51 = .ok (.ifCond .eq 18, 3) := by decide +kernel
theorem d_Cp_parameter_54 : decode b_Cp_parameter 54 = .ok (.aload_n 0, 1) := by decide +kernel
theorem d_Cp_parameter_55 : decode b_Cp_parameter 55 = .ok (.getfield 28, 3) := by decide +kernel
theorem d_Cp_parameter_58 : decode b_Cp_parameter 58 = .ok (.getfield 140, 3) := by decide +kernel
theorem d_Cp_parameter_61 : decode b_Cp_parameter 61 = .ok (.iload_n 1, 1) := by decide +kernel
theorem d_Cp_parameter_62 : decode b_Cp_parameter 62 = .ok (.dup2, 1) := by decide +kernel
theorem d_Cp_parameter_63 : decode b_Cp_parameter 63 = .ok (.iaload, 1) := by decide +kernel
theorem d_Cp_parameter_64 : decode b_Cp_parameter 64 = .ok (.iconst 1, 1) := by decide +kernel
theorem d_Cp_parameter_65 : decode b_Cp_parameter 65 = .ok (.iload_n 3, 1) := by decide +kernel
theorem d_Cp_parameter_66 : decode b_Cp_parameter 66 = .ok (.ishl, 1) := by decide +kernel
theorem d_Cp_parameter_67 : decode b_Cp_parameter 67 = .ok (.ior, 1) := by decide +kernel
theorem d_Cp_parameter_68 : decode b_Cp_parameter 68 = .ok (.iastore, 1) := by decide +kernel
theorem d_Cp_parameter_69 : decode b_Cp_parameter 69 = .ok (.aload_n 0, 1) := by decide +kernel
theorem d_Cp_parameter_70 : decode b_Cp_parameter 70 = .ok (.getfield 28, 3) := by decide +kernel
theorem d_Cp_parameter_73 : decode b_Cp_parameter 73 = .ok (.getfield 136, 3) := by decide +kernel
theorem d_Cp_parameter_76 : decode b_Cp_parameter 76 = .ok (.iload_n 1, 1) := by decide +kernel
theorem d_Cp_parameter_77 : decode b_Cp_parameter 77 = .ok (.dup2, 1) := by decide +kernel
theorem d_Cp_parameter_78 : decode b_Cp_parameter 78 = .ok (.iaload, 1) := by decide +kernel
theorem d_Cp_parameter_79 : decode b_Cp_parameter 79 = .ok (.iconst 1, 1) := by decide +kernel
theorem d_Cp_parameter_80 : decode b_Cp_parameter 80 = .ok (.iadd, 1) := by decide +kernel
theorem d_Cp_parameter_81 : decode b_Cp_parameter 81 = .ok (.iastore, 1) := by decide +kernel
theorem d_Cp_parameter_82 : decode b_Cp_parameter 82 = .ok (.return_, 1) := by decide +kernel
theorem d_Cp_statements_0 : decode b_Cp_statements 0 = .ok (.aload_n 0, 1) := by decide +kernel
theorem d_Cp_statements_1 : decode b_Cp_statements 1 = .ok (.iload_n 1, 1) := by decide +kernel
theorem d_Cp_statements_2 : decode b_Cp_statements 2 = .ok (.invokevirtual 166, 3) := by decide +kernel
theorem d_Cp_statements_5 : decode b_Cp_statements 5 = .ok (.iconst 0, 1) := by decide +kernel
theorem d_Cp_statements_6 : decode b_Cp_statements 6 = .ok (.istore_n 2, 1) := by decide +kernel
theorem d_Cp_statements_7 : decode b_Cp_statements 7 = .ok (.iload_n 2, 1) := by decide +kernel
theorem d_Cp_statements_8 : decode b_Cp_statements 8 = .ok (.sipush 150, 3) := by decide +kernel
theorem d_Cp_statements_11 : decode b_Cp_statements 11 = .ok (.if_icmp .ge 27, 3) := by decide +kernel
theorem d_Cp_statements_14 : decode b_Cp_statements 14 = .ok (.aload_n 0, 1) := by decide +kernel
theorem d_Cp_statements_15 : decode b_Cp_statements 15 = .ok (.getfield 12, 3) := by decide +kernel
theorem d_Cp_statements_18 : decode b_Cp_statements 18 = .ok (.getstatic 130, 3) := by decide +kernel
theorem d_Cp_statements_21 : decode b_Cp_statements 21 = .ok (.invokevirtual 84, 3) := by decide +kernel
theorem d_Cp_statements_24 : decode b_Cp_statements 24 = .ok (.ifCond .eq 14, 3) := by decide +kernel
theorem d_Cp_statements_27 : decode b_Cp_statements 27 = .ok (.aload_n 0, 1) := by decide +kernel
theorem d_Cp_statements_28 : decode b_Cp_statements 28 = .ok (.iload_n 1, 1) := by decide +kernel
theorem d_Cp_statements_29 : decode b_Cp_statements 29 = .ok (.invokevirtual 166, 3) := by decide +kernel
theorem d_Cp_statements_32 : decode b_Cp_statements 32 = .ok (.iinc 2 1, 3) := by decide +kernel
theorem d_Cp_statements_35 : decode b_Cp_statements 35 = .ok (.goto (-28), 3) := by decide +kernel
theorem d_Cp_statements_38 : decode b_Cp_statements 38 = .ok (.aload_n 0, 1) := by decide +kernel
theorem d_Cp_statements_39 : decode b_Cp_statements 39 = .ok (.getstatic 169, 3) := by decide +kernel
theorem d_Cp_statements_42 : decode b_Cp_statements 42 = .ok (.invokevirtual 59, 3) := by decide +kernel
theorem d_Cp_statements_45 : decode b_Cp_statements 45 = .ok (.return_, 1) := by decide +kernel
theorem d_Cp_statement_0 : decode b_Cp_statement 0 = .ok (.getstatic 172, 3) := by decide +kernel
theorem d_Cp_statement_3 : decode b_Cp_statement 3 = .ok (.aload_n 0, 1) := by decide +kernel
theorem d_Cp_statement_4 : decode b_Cp_statement 4 = .ok (.getfield 12, 3) := by decide +kernel
theorem d_Cp_statement_7 : decode b_Cp_statement 7 = .ok (.invokevirtual 63, 3) := by decide +kernel
theorem d_Cp_statement_10 : decode b_Cp_statement 10 = .ok (.invokevirtual 177, 3) := by decide +kernel
theorem d_Cp_statement_13 : decode b_Cp_statement 13 = .ok (.iaload, 1) := by decide +kernel
theorem d_Cp_statement_14 : decode b_Cp_statement 14 = .ok (.tableswitch 120 1 5 #[34, 61, 76, 91, 106], 34) := by decide +kernel
theorem d_Cp_statement_48 : decode b_Cp_statement 48 = .ok (.aload_n 0, 1) := by decide +kernel
theorem d_Cp_statement_49 : decode b_Cp_statement 49 = .ok (.getfield 12, 3) := by decide +kernel
theorem d_Cp_statement_52 : decode b_Cp_statement 52 = .ok (.getstatic 180, 3) := by decide +kernel
theorem d_Cp_statement_55 : decode b_Cp_statement 55 = .ok (.invokevirtual 183, 3) := by decide +kernel
theorem d_Cp_statement_58 : decode b_Cp_statement 58 = .ok (.ifCond .eq 10, 3) := by decide +kernel
theorem d_Cp_statement_61 : decode b_Cp_statement 61 = .ok (.aload_n 0, 1) := by decide +kernel
theorem d_Cp_statement_62 : decode b_Cp_statement 62 = .ok (.invokevirtual 186, 3) := by decide +kernel
theorem d_Cp_statement_65 : decode b_Cp_statement 65 = .ok (.goto 69, 3) := by decide +kernel
theorem d_Cp_statement_68 : decode b_Cp_statement 68 = .ok (.aload_n 0, 1) := by decide +kernel
theorem d_Cp_statement_69 : decode b_Cp_statement 69 = .ok (.invokevirtual 189, 3) := by decide +kernel
theorem d_Cp_statement_72 : decode b_Cp_statement 72 = .ok (.goto 62, 3) := by decide +kernel
theorem d_Cp_statement_75 : decode b_Cp_statement 75 = .ok (.aload_n 0, 1) := by decide +kernel
theorem d_Cp_statement_76 : decode b_Cp_statement 76 = .ok (.iload_n 1, 1) := by decide +kernel
theorem d_Cp_statement_77 : decode b_Cp_statement 77 = .ok (.invokevirtual 192, 3) := by decide +kernel
theorem d_Cp_statement_80 : decode b_Cp_statement 80 = .ok (.aload_n 0, 1) := by decide +kernel
theorem d_Cp_statement_81 : decode b_Cp_statement 81 = .ok (.iload_n 1, 1) := by decide +kernel
theorem d_Cp_statement_82 : decode b_Cp_statement 82 = .ok (.iconst 1, 1) := by decide +kernel
theorem d_Cp_statement_83 : decode b_Cp_statement 83 = .ok (.iadd, 1) := by decide +kernel
theorem d_Cp_statement_84 : decode b_Cp_statement 84 = .ok (.invokevirtual 117, 3) := by decide +kernel
theorem d_Cp_statement_87 : decode b_Cp_statement 87 = .ok (.goto 47, 3) := by decide +kernel
theorem d_Cp_statement_90 : decode b_Cp_statement 90 = .ok (.aload_n 0, 1) := by decide +kernel
theorem d_Cp_statement_91 : decode b_Cp_statement 91 = .ok (.iload_n 1, 1) := by decide +kernel
theorem d_Cp_statement_92 : decode b_Cp_statement 92 = .ok (.invokevirtual 192, 3) := by decide +kernel
theorem d_Cp_statement_95 : decode b_Cp_statement 95 = .ok (.aload_n 0, 1) := by decide +kernel
theorem d_Cp_statement_96 : decode b_Cp_statement 96 = .ok (.iload_n 1, 1) := by decide +kernel
theorem d_Cp_statement_97 : decode b_Cp_statement 97 = .ok (.iconst 1, 1) := by decide +kernel
theorem d_Cp_statement_98 : decode b_Cp_statement 98 = .ok (.iadd, 1) := by decide +kernel
theorem d_Cp_statement_99 : decode b_Cp_statement 99 = .ok (.invokevirtual 195, 3) := by decide +kernel
theorem d_Cp_statement_102 : decode b_Cp_statement 102 = .ok (.goto 32, 3) := by decide +kernel
theorem d_Cp_statement_105 : decode b_Cp_statement 105 = .ok (.aload_n 0, 1) := by decide +kernel
theorem d_Cp_statement_106 : decode b_Cp_statement 106 = .ok (.iload_n 1, 1) := by decide +kernel
theorem d_Cp_statement_107 : decode b_Cp_statement 107 = .ok (.invokevirtual 192, 3) := by decide +kernel
theorem d_Cp_statement_110 : decode b_Cp_statement 110 = .ok (.aload_n 0, 1) := by decide +kernel
theorem d_Cp_statement_111 : decode b_Cp_statement 111 = .ok (.iload_n 1, 1) := by decide +kernel
theorem d_Cp_statement_112 : decode b_Cp_statement 112 = .ok (.iconst 1, 1) := by decide +kernel
theorem d_Cp_statement_113 : decode b_Cp_statement 113 = .ok (.iadd, 1) := by decide +kernel
theorem d_Cp_statement_114 : decode b_Cp_statement 114 = .ok (.invokevirtual 198, 3) := by decide +kernel
theorem d_Cp_statement_117 : decode b_Cp_statement 117 = .ok (.goto 17, 3) := by decide +kernel
theorem d_Cp_statement_120 : decode b_Cp_statement 120 = .ok (.aload_n 0, 1) := by decide +kernel
theorem d_Cp_statement_121 : decode b_Cp_statement 121 = .ok (.getfield 12, 3) := by decide +kernel
theorem d_Cp_statement_124 : decode b_Cp_statement 124 = .ok (.invokevirtual 99, 3) := by decide +kernel
theorem d_Cp_statement_127 : decode b_Cp_statement 127 = .ok (.aload_n 0, 1) := by decide +kernel
theorem d_Cp_statement_128 : decode b_Cp_statement 128 = .ok (.invokevirtual 201, 3) := by decide +kernel
theorem d_Cp_statement_131 : decode b_Cp_statement 131 = .ok (.goto 3, 3) := by decide +kernel
theorem d_Cp_statement_134 : decode b_Cp_statement 134 = .ok (.return_, 1) := by decide +kernel
theorem d_Cp_goDeeper_0 : decode b_Cp_goDeeper 0 = .ok (.iload_n 1, 1) := by decide +kernel
theorem d_Cp_goDeeper_1 : decode b_Cp_goDeeper 1 = .ok (.bipush 8, 2) := by decide +kernel
theorem d_Cp_goDeeper_3 : decode b_Cp_goDeeper 3 = .ok (.if_icmp .ne 14, 3) := by decide +kernel
theorem d_Cp_goDeeper_6 : decode b_Cp_goDeeper 6 = .ok (.aload_n 0, 1) := by decide +kernel
theorem d_Cp_goDeeper_7 : decode b_Cp_goDeeper 7 = .ok (.aload_n 0, 1) := by decide +kernel
theorem d_Cp_goDeeper_8 : decode b_Cp_goDeeper 8 = .ok (.getfield 12, 3) := by decide +kernel
theorem d_Cp_goDeeper_11 : decode b_Cp_goDeeper 11 = .ok (.invokevirtual 70, 3) := by decide +kernel
theorem d_Cp_goDeeper_14 : decode b_Cp_goDeeper 14 = .ok (.invokevirtual 74, 3) := by decide +kernel
theorem d_Cp_goDeeper_17 : decode b_Cp_goDeeper 17 = .ok (.aload_n 0, 1) := by decide +kernel
theorem d_Cp_goDeeper_18 : decode b_Cp_goDeeper 18 = .ok (.getfield 12, 3) := by decide +kernel
theorem d_Cp_goDeeper_21 : decode b_Cp_goDeeper 21 = .ok (.invokevirtual 99, 3) := by decide +kernel
theorem d_Cp_goDeeper_24 : decode b_Cp_goDeeper 24 = .ok (.return_, 1) := by decide +kernel
theorem d_Cp_assignment_0 : decode b_Cp_assignment 0 = .ok (.aload_n 0, 1) := by decide +kernel
theorem d_Cp_assignment_1 : decode b_Cp_assignment 1 = .ok (.getfield 21, 3) := by decide +kernel
theorem d_Cp_assignment_4 : decode b_Cp_assignment 4 = .ok (.aload_n 0, 1) := by decide +kernel
theorem d_Cp_assignment_5 : decode b_Cp_assignment 5 = .ok (.getfield 12, 3) := by decide +kernel
theorem d_Cp_assignment_8 : decode b_Cp_assignment 8 = .ok (.invokevirtual 91, 3) := by decide +kernel
theorem d_Cp_assignment_11 : decode b_Cp_assignment 11 = .ok (.invokevirtual 204, 3) := by decide +kernel
theorem d_Cp_assignment_14 : decode b_Cp_assignment 14 = .ok (.istore_n 1, 1) := by decide +kernel
theorem d_Cp_assignment_15 : decode b_Cp_assignment 15 = .ok (.iload_n 1, 1) := by decide +kernel
theorem d_Cp_assignment_16 : decode b_Cp_assignment 16 = .ok (.ifCond .lt 14, 3) := by decide +kernel
theorem d_Cp_assignment_19 : decode b_Cp_assignment 19 = .ok (.aload_n 0, 1) := by decide +kernel
theorem d_Cp_assignment_20 : decode b_Cp_assignment 20 = .ok (.getfield 21, 3) := by decide +kernel
theorem d_Cp_assignment_23 : decode b_Cp_assignment 23 = .ok (.iload_n 1, 1) := by decide +kernel
theorem d_Cp_assignment_24 : decode b_Cp_assignment 24 = .ok (.invokevirtual 208, 3) := by decide +kernel
theorem d_Cp_assignment_27 : decode b_Cp_assignment 27 = .ok (.ifCond .eq 14, 3) := by decide +kernel
theorem d_Cp_assignment_30 : decode b_Cp_assignment 30 = .ok (.aload_n 0, 1) := by decide +kernel
theorem d_Cp_assignment_31 : decode b_Cp_assignment 31 = .ok (.aload_n 0, 1) := by decide +kernel
theorem d_Cp_assignment_32 : decode b_Cp_assignment 32 = .ok (.getfield 12, 3) := by decide +kernel
theorem d_Cp_assignment_35 : decode b_Cp_assignment 35 = .ok (.invokevirtual 70, 3) := by decide +kernel
theorem d_Cp_assignment_38 : decode b_Cp_assignment 38 = .ok (.invokevirtual 74, 3) := by decide +kernel
theorem d_Cp_assignment_41 : decode b_Cp_assignment 41 = .ok (.aload_n 0, 1) := by decide +kernel
theorem d_Cp_assignment_42 : decode b_Cp_assignment 42 = .ok (.getfield 28, 3) := by decide +kernel
theorem d_Cp_assignment_45 : decode b_Cp_assignment 45 = .ok (.iconst 0, 1) := by decide +kernel
theorem d_Cp_assignment_46 : decode b_Cp_assignment 46 = .ok (.iconst 0, 1) := by decide +kernel
theorem d_Cp_assignment_47 : decode b_Cp_assignment 47 = .ok (.iconst 0, 1) := by decide +kernel
theorem d_Cp_assignment_48 : decode b_Cp_assignment 48 = .ok (.invokevirtual 120, 3) := by decide +kernel
theorem d_Cp_assignment_51 : decode b_Cp_assignment 51 = .ok (.pop, 1) := by decide +kernel
theorem d_Cp_assignment_52 : decode b_Cp_assignment 52 = .ok (.aload_n 0, 1) := by decide +kernel
theorem d_Cp_assignment_53 : decode b_Cp_assignment 53 = .ok (.getfield 12, 3) := by decide +kernel
theorem d_Cp_assignment_56 : decode b_Cp_assignment 56 = .ok (.invokevirtual 99, 3) := by decide +kernel
theorem d_Cp_assignment_59 : decode b_Cp_assignment 59 = .ok (.aload_n 0, 1) := by decide +kernel
theorem d_Cp_assignment_60 : decode b_Cp_assignment 60 = .ok (.getstatic 180, 3) := by decide +kernel
theorem d_Cp_assignment_63 : decode b_Cp_assignment 63 = .ok (.invokevirtual 59, 3) := by decide +kernel
theorem d_Cp_assignment_66 : decode b_Cp_assignment 66 = .ok (.aload_n 0, 1) := by decide +kernel
theorem d_Cp_assignment_67 : decode b_Cp_assignment 67 = .ok (.iconst 0, 1) := by decide +kernel
theorem d_Cp_assignment_68 : decode b_Cp_assignment 68 = .ok (.invokevirtual 212, 3) := by decide +kernel
theorem d_Cp_assignment_71 : decode b_Cp_assignment 71 = .ok (.aload_n 0, 1) := by decide +kernel
theorem d_Cp_assignment_72 : decode b_Cp_assignment 72 = .ok (.getfield 21, 3) := by decide +kernel
theorem d_Cp_assignment_75 : decode b_Cp_assignment 75 = .ok (.iload_n 1, 1) := by decide +kernel
theorem d_Cp_assignment_76 : decode b_Cp_assignment 76 = .ok (.invokevirtual 215, 3) := by decide +kernel
theorem d_Cp_assignment_79 : decode b_Cp_assignment 79 = .ok (.ifCond .eq 8, 3) := by decide +kernel
theorem d_Cp_assignment_82 : decode b_Cp_assignment 82 = .ok (.bipush 6, 2) := by decide +kernel
theorem d_Cp_assignment_84 : decode b_Cp_assignment 84 = .ok (.goto 4, 3) := by decide +kernel
theorem d_Cp_assignment_87 : decode b_Cp_assignment 87 = .ok (.iconst 5, 1) := by decide +kernel
theorem d_Cp_assignment_88 : decode b_Cp_assignment 88 = .ok (.istore_n 2, 1) := by decide +kernel
theorem d_Cp_assignment_89 : decode b_Cp_assignment 89 = .ok (.aload_n 0, 1) := by decide +kernel
theorem d_Cp_assignment_90 : decode b_Cp_assignment 90 = .ok (.getfield 28, 3) := by decide +kernel
theorem d_Cp_assignment_93 : decode b_Cp_assignment 93 = .ok (.iload_n 2, 1) := by decide +kernel
theorem d_Cp_assignment_94 : decode b_Cp_assignment 94 = .ok (.aload_n 0, 1) := by decide +kernel
theorem d_Cp_assignment_95 : decode b_Cp_assignment 95 = .ok (.getfield 21, 3) := by decide +kernel
theorem d_Cp_assignment_98 : decode b_Cp_assignment 98 = .ok (.iload_n 1, 1) := by decide +kernel
theorem d_Cp_assignment_99 : decode b_Cp_assignment 99 = .ok (.invokevirtual 218, 3) := by decide +kernel
theorem d_Cp_assignment_102 : decode b_Cp_assignment 102 = .ok (.aload_n 0, 1) := by decide +kernel
theorem d_Cp_assignment_103 : decode b_Cp_assignment 103 = .ok (.getfield 21, 3) := by decide +kernel
theorem d_Cp_assignment_106 : decode b_Cp_assignment 106 = .ok (.iload_n 1, 1) := by decide +kernel
theorem d_Cp_assignment_107 : decode b_Cp_assignment 107 = .ok (.invokevirtual 221, 3) := by decide +kernel
theorem d_Cp_assignment_110 : decode b_Cp_assignment 110 = .ok (.invokevirtual 120, 3) := by decide +kernel
theorem d_Cp_assignment_113 : decode b_Cp_assignment 113 = .ok (.pop, 1) := by decide +kernel
theorem d_Cp_assignment_114 : decode b_Cp_assignment 114 = .ok (.return_, 1) := by decide +kernel
theorem d_Cp_procedureCall_0 : decode b_Cp_procedureCall 0 = .ok (.aload_n 0, 1) := by decide +kernel
theorem d_Cp_procedureCall_1 : decode b_Cp_procedureCall 1 = .ok (.getfield 12, 3) := by decide +kernel
theorem d_Cp_procedureCall_4 : decode b_Cp_procedureCall 4 = .ok (.invokevirtual 70, 3) := by decide +kernel
theorem d_Cp_procedureCall_7 : decode b_Cp_procedureCall 7 = .ok (.istore_n 1, 1) := by decide +kernel
theorem d_Cp_procedureCall_8 : decode b_Cp_procedureCall 8 = .ok (.aload_n 0, 1) := by decide +kernel
theorem d_Cp_procedureCall_9 : decode b_Cp_procedureCall 9 = .ok (.getfield 21, 3) := by decide +kernel
theorem d_Cp_procedureCall_12 : decode b_Cp_procedureCall 12 = .ok (.aload_n 0, 1) := by decide +kernel
theorem d_Cp_procedureCall_13 : decode b_Cp_procedureCall 13 = .ok (.getfield 12, 3) := by decide +kernel
theorem d_Cp_procedureCall_16 : decode b_Cp_procedureCall 16 = .ok (.invokevirtual 91, 3) := by decide +kernel
theorem d_Cp_procedureCall_19 : decode b_Cp_procedureCall 19 = .ok (.invokevirtual 204, 3) := by decide +kernel
theorem d_Cp_procedureCall_22 : decode b_Cp_procedureCall 22 = .ok (.istore_n 2, 1) := by decide +kernel
theorem d_Cp_procedureCall_23 : decode b_Cp_procedureCall 23 = .ok (.iload_n 2, 1) := by decide +kernel
theorem d_Cp_procedureCall_24 : decode b_Cp_procedureCall 24 = .ok (.ifCond .lt 14, 3) := by decide +kernel
theorem d_Cp_procedureCall_27 : decode b_Cp_procedureCall 27 = .ok (.aload_n 0, 1) := by decide +kernel
theorem d_Cp_procedureCall_28 : decode b_Cp_procedureCall 28 = .ok (.getfield 21, 3) := by decide +kernel
theorem d_Cp_procedureCall_31 : decode b_Cp_procedureCall 31 = .ok (.iload_n 2, 1) := by decide +kernel
theorem d_Cp_procedureCall_32 : decode b_Cp_procedureCall 32 = .ok (.invokevirtual 208, 3) := by decide +kernel
theorem d_Cp_procedureCall_35 : decode b_Cp_procedureCall 35 = .ok (.ifCond .ne 8, 3) := by decide +kernel
theorem d_Cp_procedureCall_38 : decode b_Cp_procedureCall 38 = .ok (.aload_n 0, 1) := by decide +kernel
theorem d_Cp_procedureCall_39 : decode b_Cp_procedureCall 39 = .ok (.iload_n 1, 1) := by decide +kernel
theorem d_Cp_procedureCall_40 : decode b_Cp_procedureCall 40 = .ok (.invokevirtual 74, 3) := by decide +kernel
theorem d_Cp_procedureCall_43 : decode b_Cp_procedureCall 43 = .ok (.aload_n 0, 1) := by decide +kernel
theorem d_Cp_procedureCall_44 : decode b_Cp_procedureCall 44 = .ok (.getfield 28, 3) := by decide +kernel
theorem d_Cp_procedureCall_47 : decode b_Cp_procedureCall 47 = .ok (.iconst 0, 1) := by decide +kernel
theorem d_Cp_procedureCall_48 : decode b_Cp_procedureCall 48 = .ok (.iconst 0, 1) := by decide +kernel
theorem d_Cp_procedureCall_49 : decode b_Cp_procedureCall 49 = .ok (.iconst 0, 1) := by decide +kernel
theorem d_Cp_procedureCall_50 : decode b_Cp_procedureCall 50 = .ok (.invokevirtual 120, 3) := by decide +kernel
theorem d_Cp_procedureCall_53 : decode b_Cp_procedureCall 53 = .ok (.pop, 1) := by decide +kernel
theorem d_Cp_procedureCall_54 : decode b_Cp_procedureCall 54 = .ok (.aload_n 0, 1) := by decide +kernel
theorem d_Cp_procedureCall_55 : decode b_Cp_procedureCall 55 = .ok (.getfield 12, 3) := by decide +kernel
theorem d_Cp_procedureCall_58 : decode b_Cp_procedureCall 58 = .ok (.invokevirtual 99, 3) := by decide +kernel
theorem d_Cp_procedureCall_61 : decode b_Cp_procedureCall 61 = .ok (.aload_n 0, 1) := by decide +kernel
theorem d_Cp_procedureCall_62 : decode b_Cp_procedureCall 62 = .ok (.getfield 21, 3) := by decide +kernel
theorem d_Cp_procedureCall_65 : decode b_Cp_procedureCall 65 = .ok (.iload_n 2, 1) := by decide +kernel
theorem d_Cp_procedureCall_66 : decode b_Cp_procedureCall 66 = .ok (.invokevirtual 221, 3) := by decide +kernel
theorem d_Cp_procedureCall_69 : decode b_Cp_procedureCall 69 = .ok (.istore_n 3, 1) := by decide +kernel
theorem d_Cp_procedureCall_70 : decode b_Cp_procedureCall 70 = .ok (.aload_n 0, 1) := by decide +kernel
theorem d_Cp_procedureCall_71 : decode b_Cp_procedureCall 71 = .ok (.iload_n 3, 1) := by decide +kernel
theorem d_Cp_procedureCall_72 : decode b_Cp_procedureCall 72 = .ok (.invokevirtual 224, 3) := by decide +kernel
theorem d_Cp_procedureCall_75 : decode b_Cp_procedureCall 75 = .ok (.aload_n 0, 1) := by decide +kernel
theorem d_Cp_procedureCall_76 : decode b_Cp_procedureCall 76 = .ok (.getfield 28, 3) := by decide +kernel
theorem d_Cp_procedureCall_79 : decode b_Cp_procedureCall 79 = .ok (.getfield 136, 3) := by decide +kernel
theorem d_Cp_procedureCall_82 : decode b_Cp_procedureCall 82 = .ok (.iload_n 3, 1) := by decide +kernel
theorem d_Cp_procedureCall_83 : decode b_Cp_procedureCall 83 = .ok (.iaload, 1) := by decide +kernel
theorem d_Cp_procedureCall_84 : decode b_Cp_procedureCall 84 = .ok (.if_icmp .eq 8, 3) := by decide +kernel
theorem d_Cp_procedureCall_87 : decode b_Cp_procedureCall 87 = .ok (.aload_n 0, 1) := by decide +kernel
theorem d_Cp_procedureCall_88 : decode b_Cp_procedureCall 88 = .ok (.iload_n 1, 1) := by decide +kernel
theorem d_Cp_procedureCall_89 : decode b_Cp_procedureCall 89 = .ok (.invokevirtual 74, 3) := by decide +kernel
theorem d_Cp_procedureCall_92 : decode b_Cp_procedureCall 92 = .ok (.aload_n 0, 1) := by decide +kernel
theorem d_Cp_procedureCall_93 : decode b_Cp_procedureCall 93 = .ok (.getfield 28, 3) := by decide +kernel
theorem d_Cp_procedureCall_96 : decode b_Cp_procedureCall 96 = .ok (.bipush 18, 2) := by decide +kernel
theorem d_Cp_procedureCall_98 : decode b_Cp_procedureCall 98 = .ok (.aload_n 0, 1) := by decide +kernel
theorem d_Cp_procedureCall_99 : decode b_Cp_procedureCall 99 = .ok (.getfield 21, 3) := by decide +kernel
theorem d_Cp_procedureCall_102 : decode b_Cp_procedureCall 102 = .ok (.iload_n 2, 1) := by decide +kernel
theorem d_Cp_procedureCall_103 : decode b_Cp_procedureCall 103 = .ok (.invokevirtual 218, 3) := by decide +kernel
theorem d_Cp_procedureCall_106 : decode b_Cp_procedureCall 106 = .ok (.iload_n 3, 1) := by decide +kernel
theorem d_Cp_procedureCall_107 : decode b_Cp_procedureCall 107 = .ok (.invokevirtual 120, 3) := by decide +kernel
theorem d_Cp_procedureCall_110 : decode b_Cp_procedureCall 110 = .ok (.pop, 1) := by decide +kernel
theorem d_Cp_procedureCall_111 : decode b_Cp_procedureCall 111 = .ok (.return_, 1) := by decide +kernel
theorem d_Cp_arguments_0 : decode b_Cp_arguments 0 = .ok (.aload_n 0, 1) := by decide +kernel
theorem d_Cp_arguments_1 : decode b_Cp_arguments 1 = .ok (.getfield 12, 3) := by decide +kernel
theorem d_Cp_arguments_4 : decode b_Cp_arguments 4 = .ok (.getstatic 146, 3) := by decide +kernel
theorem d_Cp_arguments_7 : decode b_Cp_arguments 7 = .ok (.invokevirtual 84, 3) := by decide +kernel
theorem d_Cp_arguments_10 : decode b_Cp_arguments 10 = .ok (.ifCond .ne 5, 3) := by decide +kernel
theorem d_Cp_arguments_13 : decode b_Cp_arguments 13 = .ok (.iconst 0, 1) := by decide +kernel
theorem d_Cp_arguments_14 : decode b_Cp_arguments 14 = .ok (.ireturn, 1) := by decide +kernel
theorem d_Cp_arguments_15 : decode b_Cp_arguments 15 = .ok (.iconst 0, 1) := by decide +kernel
theorem d_Cp_arguments_16 : decode b_Cp_arguments 16 = .ok (.istore_n 2, 1) := by decide +kernel
theorem d_Cp_arguments_17 : decode b_Cp_arguments 17 = .ok (.iconst 1, 1) := by decide +kernel
theorem d_Cp_arguments_18 : decode b_Cp_arguments 18 = .ok (.istore_n 3, 1) := by decide +kernel
theorem d_Cp_arguments_19 : decode b_Cp_arguments 19 = .ok (.iload_n 3, 1) := by decide +kernel
theorem d_Cp_arguments_20 : decode b_Cp_arguments 20 = .ok (.ifCond .eq 116, 3) := by decide +kernel
theorem d_Cp_arguments_23 : decode b_Cp_arguments 23 = .ok (.iload_n 2, 1) := by decide +kernel
theorem d_Cp_arguments_24 : decode b_Cp_arguments 24 = .ok (.sipush 150, 3) := by decide +kernel
theorem d_Cp_arguments_27 : decode b_Cp_arguments 27 = .ok (.if_icmp .ge 109, 3) := by decide +kernel
theorem d_Cp_arguments_30 : decode b_Cp_arguments 30 = .ok (.aload_n 0, 1) := by decide +kernel
theorem d_Cp_arguments_31 : decode b_Cp_arguments 31 = .ok (.getfield 12, 3) := by decide +kernel
theorem d_Cp_arguments_34 : decode b_Cp_arguments 34 = .ok (.invokevirtual 63, 3) := by decide +kernel
theorem d_Cp_arguments_37 : decode b_Cp_arguments 37 = .ok (.getstatic 88, 3) := by decide +kernel
theorem d_Cp_arguments_40 : decode b_Cp_arguments 40 = .ok (.if_acmp .ne 7, 3) := by decide +kernel
theorem d_Cp_arguments_43 : decode b_Cp_arguments 43 = .ok (.iconst 1, 1) := by decide +kernel
theorem d_Cp_arguments_44 : decode b_Cp_arguments 44 = .ok (.goto 4, 3) := by decide +kernel
theorem d_Cp_arguments_47 : decode b_Cp_arguments 47 = .ok (.iconst 0, 1) := by decide +kernel
theorem d_Cp_arguments_48 : decode b_Cp_arguments 48 = .ok (.istore 4, 2) := by decide +kernel
theorem d_Cp_arguments_50 : decode b_Cp_arguments 50 = .ok (.aload_n 0, 1) := by decide +kernel
theorem d_Cp_arguments_51 : decode b_Cp_arguments 51 = .ok (.getfield 12, 3) := by decide +kernel
theorem d_Cp_arguments_54 : decode b_Cp_arguments 54 = .ok (.invokevirtual 70, 3) := by decide +kernel
theorem d_Cp_arguments_57 : decode b_Cp_arguments 57 = .ok (.istore 5, 2) := by decide +kernel
theorem d_Cp_arguments_59 : decode b_Cp_arguments 59 = .ok (.aload_n 0, 1) := by decide +kernel
theorem d_Cp_arguments_60 : decode b_Cp_arguments 60 = .ok (.getfield 28, 3) := by decide +kernel
theorem d_Cp_arguments_63 : decode b_Cp_arguments 63 = .ok (.getfield 43, 3) := by decide +kernel
theorem d_Cp_arguments_66 : decode b_Cp_arguments 66 = .ok (.istore 6, 2) := by decide +kernel
theorem d_Cp_arguments_68 : decode b_Cp_arguments 68 = .ok (.aload_n 0, 1) := by decide +kernel
theorem d_Cp_arguments_69 : decode b_Cp_arguments 69 = .ok (.iconst 0, 1) := by decide +kernel
theorem d_Cp_arguments_70 : decode b_Cp_arguments 70 = .ok (.invokevirtual 212, 3) := by decide +kernel
theorem d_Cp_arguments_73 : decode b_Cp_arguments 73 = .ok (.aload_n 0, 1) := by decide +kernel
theorem d_Cp_arguments_74 : decode b_Cp_arguments 74 = .ok (.getfield 28, 3) := by decide +kernel
theorem d_Cp_arguments_77 : decode b_Cp_arguments 77 = .ok (.iload_n 1, 1) := by decide +kernel
theorem d_Cp_arguments_78 : decode b_Cp_arguments 78 = .ok (.iload_n 2, 1) := by decide +kernel
theorem d_Cp_arguments_79 : decode b_Cp_arguments 79 = .ok (.invokevirtual 227, 3) := by decide +kernel
theorem d_Cp_arguments_82 : decode b_Cp_arguments 82 = .ok (.ifCond .eq 37, 3) := by decide +kernel
theorem d_Cp_arguments_85 : decode b_Cp_arguments 85 = .ok (.iload 4, 2) := by decide +kernel
theorem d_Cp_arguments_87 : decode b_Cp_arguments 87 = .ok (.ifCond .eq 17, 3) := by decide +kernel
theorem d_Cp_arguments_90 : decode b_Cp_arguments 90 = .ok (.aload_n 0, 1) := by decide +kernel
theorem d_Cp_arguments_91 : decode b_Cp_arguments 91 = .ok (.getfield 28, 3) := by decide +kernel
theorem d_Cp_arguments_94 : decode b_Cp_arguments 94 = .ok (.getfield 43, 3) := by decide +kernel
theorem d_Cp_arguments_97 : decode b_Cp_arguments 97 = .ok (.iload 6, 2) := by decide +kernel
theorem d_Cp_arguments_99 : decode b_Cp_arguments 99 = .ok (.iconst 1, 1) := by decide +kernel
theorem d_Cp_arguments_100 : decode b_Cp_arguments 100 = .ok (.iadd, 1) := by decide +kernel
theorem d_Cp_arguments_101 : decode b_Cp_arguments 101 = .ok (.if_icmp .eq 9, 3) := by decide +kernel
theorem d_Cp_arguments_104 : decode b_Cp_arguments 104 = .ok (.aload_n 0, 1) := by decide +kernel
theorem d_Cp_arguments_105 : decode b_Cp_arguments 105 = .ok (.iload 5, 2) := by decide +kernel
theorem d_Cp_arguments_107 : decode b_Cp_arguments 107 = .ok (.invokevirtual 74, 3) := by decide +kernel
theorem d_Cp_arguments_110 : decode b_Cp_arguments 110 = .ok (.aload_n 0, 1) := by decide +kernel
theorem d_Cp_arguments_111 : decode b_Cp_arguments 111 = .ok (.getfield 28, 3) := by decide +kernel
theorem d_Cp_arguments_114 : decode b_Cp_arguments 114 = .ok (.iload 6, 2) := by decide +kernel
theorem d_Cp_arguments_116 : decode b_Cp_arguments 116 = .ok (.invokevirtual 230, 3) := by decide +kernel
theorem d_Cp_arguments_119 : decode b_Cp_arguments 119 = .ok (.iinc 2 1, 3) := by decide +kernel
theorem d_Cp_arguments_122 : decode b_Cp_arguments 122 = .ok (.aload_n 0, 1) := by decide +kernel
theorem d_Cp_arguments_123 : decode b_Cp_arguments 123 = .ok (.getfield 12, 3) := by decide +kernel
theorem d_Cp_arguments_126 : decode b_Cp_arguments 126 = .ok (.getstatic 127, 3) := by decide +kernel
theorem d_Cp_arguments_129 : decode b_Cp_arguments 129 = .ok (.invokevirtual 84, 3) := by decide +kernel
theorem d_Cp_arguments_132 : decode b_Cp_arguments 132 = .ok (.istore_n 3, 1) := by decide +kernel
theorem d_Cp_arguments_133 : decode b_Cp_arguments 133 = .ok (.goto (-114), 3) := by decide +kernel
theorem d_Cp_arguments_136 : decode b_Cp_arguments 136 = .ok (.aload_n 0, 1) := by decide +kernel
theorem d_Cp_arguments_137 : decode b_Cp_arguments 137 = .ok (.getstatic 160, 3) := by decide +kernel
theorem d_Cp_arguments_140 : decode b_Cp_arguments 140 = .ok (.invokevirtual 59, 3) := by decide +kernel
theorem d_Cp_arguments_143 : decode b_Cp_arguments 143 = .ok (.iload_n 2, 1) := by decide +kernel
theorem d_Cp_arguments_144 : decode b_Cp_arguments 144 = .ok (.ireturn, 1) := by decide +kernel
theorem d_Cp_ifStatement_0 : decode b_Cp_ifStatement 0 = .ok (.aload_n 0, 1) := by decide +kernel
theorem d_Cp_ifStatement_1 : decode b_Cp_ifStatement 1 = .ok (.getfield 28, 3) := by decide +kernel
theorem d_Cp_ifStatement_4 : decode b_Cp_ifStatement 4 = .ok (.iconst 0, 1) := by decide +kernel
theorem d_Cp_ifStatement_5 : decode b_Cp_ifStatement 5 = .ok (.iconst 0, 1) := by decide +kernel
theorem d_Cp_ifStatement_6 : decode b_Cp_ifStatement 6 = .ok (.iconst 0, 1) := by decide +kernel
theorem d_Cp_ifStatement_7 : decode b_Cp_ifStatement 7 = .ok (.invokevirtual 120, 3) := by decide +kernel
theorem d_Cp_ifStatement_10 : decode b_Cp_ifStatement 10 = .ok (.pop, 1) := by decide +kernel
theorem d_Cp_ifStatement_11 : decode b_Cp_ifStatement 11 = .ok (.aload_n 0, 1) := by decide +kernel
theorem d_Cp_ifStatement_12 : decode b_Cp_ifStatement 12 = .ok (.invokevirtual 233, 3) := by decide +kernel
theorem d_Cp_ifStatement_15 : decode b_Cp_ifStatement 15 = .ok (.istore_n 2, 1) := by decide +kernel
theorem d_Cp_ifStatement_16 : decode b_Cp_ifStatement 16 = .ok (.aload_n 0, 1) := by decide +kernel
theorem d_Cp_ifStatement_17 : decode b_Cp_ifStatement 17 = .ok (.getstatic 236, 3) := by decide +kernel
theorem d_Cp_ifStatement_20 : decode b_Cp_ifStatement 20 = .ok (.invokevirtual 59, 3) := by decide +kernel
theorem d_Cp_ifStatement_23 : decode b_Cp_ifStatement 23 = .ok (.aload_n 0, 1) := by decide +kernel
theorem d_Cp_ifStatement_24 : decode b_Cp_ifStatement 24 = .ok (.iload_n 1, 1) := by decide +kernel
theorem d_Cp_ifStatement_25 : decode b_Cp_ifStatement 25 = .ok (.invokevirtual 166, 3) := by decide +kernel
theorem d_Cp_ifStatement_28 : decode b_Cp_ifStatement 28 = .ok (.aload_n 0, 1) := by decide +kernel
theorem d_Cp_ifStatement_29 : decode b_Cp_ifStatement 29 = .ok (.getfield 12, 3) := by decide +kernel
theorem d_Cp_ifStatement_32 : decode b_Cp_ifStatement 32 = .ok (.getstatic 239, 3) := by decide +kernel
theorem d_Cp_ifStatement_35 : decode b_Cp_ifStatement 35 = .ok (.invokevirtual 84, 3) := by decide +kernel
theorem d_Cp_ifStatement_38 : decode b_Cp_ifStatement 38 = .ok (.ifCond .eq 39, 3) := by decide +kernel
theorem d_Cp_ifStatement_41 : decode b_Cp_ifStatement 41 = .ok (.aload_n 0, 1) := by decide +kernel
theorem d_Cp_ifStatement_42 : decode b_Cp_ifStatement 42 = .ok (.getfield 28, 3) := by decide +kernel
theorem d_Cp_ifStatement_45 : decode b_Cp_ifStatement 45 = .ok (.bipush 16, 2) := by decide +kernel
theorem d_Cp_ifStatement_47 : decode b_Cp_ifStatement 47 = .ok (.iconst 0, 1) := by decide +kernel
theorem d_Cp_ifStatement_48 : decode b_Cp_ifStatement 48 = .ok (.iconst 0, 1) := by decide +kernel
theorem d_Cp_ifStatement_49 : decode b_Cp_ifStatement 49 = .ok (.invokevirtual 120, 3) := by decide +kernel
theorem d_Cp_ifStatement_52 : decode b_Cp_ifStatement 52 = .ok (.istore_n 3, 1) := by decide +kernel
theorem d_Cp_ifStatement_53 : decode b_Cp_ifStatement 53 = .ok (.aload_n 0, 1) := by decide +kernel
theorem d_Cp_ifStatement_54 : decode b_Cp_ifStatement 54 = .ok (.getfield 28, 3) := by decide +kernel
theorem d_Cp_ifStatement_57 : decode b_Cp_ifStatement 57 = .ok (.iload_n 2, 1) := by decide +kernel
theorem d_Cp_ifStatement_58 : decode b_Cp_ifStatement 58 = .ok (.invokevirtual 242, 3) := by decide +kernel
theorem d_Cp_ifStatement_61 : decode b_Cp_ifStatement 61 = .ok (.aload_n 0, 1) := by decide +kernel
theorem d_Cp_ifStatement_62 : decode b_Cp_ifStatement 62 = .ok (.iload_n 1, 1) := by decide +kernel
theorem d_Cp_ifStatement_63 : decode b_Cp_ifStatement 63 = .ok (.invokevirtual 166, 3) := by decide +kernel
theorem d_Cp_ifStatement_66 : decode b_Cp_ifStatement 66 = .ok (.aload_n 0, 1) := by decide +kernel
theorem d_Cp_ifStatement_67 : decode b_Cp_ifStatement 67 = .ok (.getfield 28, 3) := by decide +kernel
theorem d_Cp_ifStatement_70 : decode b_Cp_ifStatement 70 = .ok (.iload_n 3, 1) := by decide +kernel
theorem d_Cp_ifStatement_71 : decode b_Cp_ifStatement 71 = .ok (.invokevirtual 242, 3) := by decide +kernel
theorem d_Cp_ifStatement_74 : decode b_Cp_ifStatement 74 = .ok (.goto 11, 3) := by decide +kernel
theorem d_Cp_ifStatement_77 : decode b_Cp_ifStatement 77 = .ok (.aload_n 0, 1) := by decide +kernel
theorem d_Cp_ifStatement_78 : decode b_Cp_ifStatement 78 = .ok (.getfield 28, 3) := by decide +kernel
theorem d_Cp_ifStatement_81 : decode b_Cp_ifStatement 81 = .ok (.iload_n 2, 1) := by decide +kernel
theorem d_Cp_ifStatement_82 : decode b_Cp_ifStatement 82 = .ok (.invokevirtual 242, 3) := by decide +kernel
theorem d_Cp_ifStatement_85 : decode b_Cp_ifStatement 85 = .ok (.return_, 1) := by decide +kernel
theorem d_Cp_whileStatement_0 : decode b_Cp_whileStatement 0 = .ok (.aload_n 0, 1) := by decide +kernel
theorem d_Cp_whileStatement_1 : decode b_Cp_whileStatement 1 = .ok (.getfield 28, 3) := by decide +kernel
theorem d_Cp_whileStatement_4 : decode b_Cp_whileStatement 4 = .ok (.iconst 0, 1) := by decide +kernel
theorem d_Cp_whileStatement_5 : decode b_Cp_whileStatement 5 = .ok (.iconst 0, 1) := by decide +kernel
theorem d_Cp_whileStatement_6 : decode b_Cp_whileStatement 6 = .ok (.iconst 0, 1) := by decide +kernel
theorem d_Cp_whileStatement_7 : decode b_Cp_whileStatement 7 = .ok (.invokevirtual 120, 3) := by decide +kernel
theorem d_Cp_whileStatement_10 : decode b_Cp_whileStatement 10 = .ok (.istore_n 2, 1) := by decide +kernel
theorem d_Cp_whileStatement_11 : decode b_Cp_whileStatement 11 = .ok (.aload_n 0, 1) := by decide +kernel
theorem d_Cp_whileStatement_12 : decode b_Cp_whileStatement 12 = .ok (.invokevirtual 233, 3) := by decide +kernel
theorem d_Cp_whileStatement_15 : decode b_Cp_whileStatement 15 = .ok (.istore_n 3, 1) := by decide +kernel
theorem d_Cp_whileStatement_16 : decode b_Cp_whileStatement 16 = .ok (.aload_n 0, 1) := by decide +kernel
theorem d_Cp_whileStatement_17 : decode b_Cp_whileStatement 17 = .ok (.getstatic 245, 3) := by decide +kernel
theorem d_Cp_whileStatement_20 : decode b_Cp_whileStatement 20 = .ok (.invokevirtual 59, 3) := by decide +kernel
theorem d_Cp_whileStatement_23 : decode b_Cp_whileStatement 23 = .ok (.aload_n 0, 1) := by decide +kernel
theorem d_Cp_whileStatement_24 : decode b_Cp_whileStatement 24 = .ok (.iload_n 1, 1) := by decide +kernel
theorem d_Cp_whileStatement_25 : decode b_Cp_whileStatement 25 = .ok (.invokevirtual 166, 3) := by decide +kernel
theorem d_Cp_whileStatement_28 : decode b_Cp_whileStatement 28 = .ok (.aload_n 0, 1) := by decide +kernel
theorem d_Cp_whileStatement_29 : decode b_Cp_whileStatement 29 = .ok (.getfield 28, 3) := by decide +kernel
theorem d_Cp_whileStatement_32 : decode b_Cp_whileStatement 32 = .ok (.bipush 16, 2) := by decide +kernel
theorem d_Cp_whileStatement_34 : decode b_Cp_whileStatement 34 = .ok (.iload_n 2, 1) := by decide +kernel
theorem d_Cp_whileStatement_35 : decode b_Cp_whileStatement 35 = .ok (.iconst 0, 1) := by decide +kernel
theorem d_Cp_whileStatement_36 : decode b_Cp_whileStatement 36 = .ok (.invokevirtual 120, 3) := by decide +kernel
theorem d_Cp_whileStatement_39 : decode b_Cp_whileStatement 39 = .ok (.pop, 1) := by decide +kernel
theorem d_Cp_whileStatement_40 : decode b_Cp_whileStatement 40 = .ok (.aload_n 0, 1) := by decide +kernel
theorem d_Cp_whileStatement_41 : decode b_Cp_whileStatement 41 = .ok (.getfield 28, 3) := by decide +kernel
theorem d_Cp_whileStatement_44 : decode b_Cp_whileStatement 44 = .ok (.iload_n 3, 1) := by decide +kernel
theorem d_Cp_whileStatement_45 : decode b_Cp_whileStatement 45 = .ok (.invokevirtual 242, 3) := by decide +kernel
theorem d_Cp_whileStatement_48 : decode b_Cp_whileStatement 48 = .ok (.return_, 1) := by decide +kernel
theorem d_Cp_writeStatement_0 : decode b_Cp_writeStatement 0 = .ok (.aload_n 0, 1) := by decide +kernel
theorem d_Cp_writeStatement_1 : decode b_Cp_writeStatement 1 = .ok (.getfield 28, 3) := by decide +kernel
theorem d_Cp_writeStatement_4 : decode b_Cp_writeStatement 4 = .ok (.iconst 0, 1) := by decide +kernel
theorem d_Cp_writeStatement_5 : decode b_Cp_writeStatement 5 = .ok (.iconst 0, 1) := by decide +kernel
theorem d_Cp_writeStatement_6 : decode b_Cp_writeStatement 6 = .ok (.iconst 0, 1) := by decide +kernel
theorem d_Cp_writeStatement_7 : decode b_Cp_writeStatement 7 = .ok (.invokevirtual 120, 3) := by decide +kernel
theorem d_Cp_writeStatement_10 : decode b_Cp_writeStatement 10 = .ok (.pop, 1) := by decide +kernel
theorem d_Cp_writeStatement_11 : decode b_Cp_writeStatement 11 = .ok (.aload_n 0, 1) := by decide +kernel
theorem d_Cp_writeStatement_12 : decode b_Cp_writeStatement 12 = .ok (.getstatic 146, 3) := by decide +kernel
theorem d_Cp_writeStatement_15 : decode b_Cp_writeStatement 15 = .ok (.invokevirtual 59, 3) := by decide +kernel
theorem d_Cp_writeStatement_18 : decode b_Cp_writeStatement 18 = .ok (.aload_n 0, 1) := by decide +kernel
theorem d_Cp_writeStatement_19 : decode b_Cp_writeStatement 19 = .ok (.iconst 0, 1) := by decide +kernel
theorem d_Cp_writeStatement_20 : decode b_Cp_writeStatement 20 = .ok (.invokevirtual 212, 3) := by decide +kernel
theorem d_Cp_writeStatement_23 : decode b_Cp_writeStatement 23 = .ok (.aload_n 0, 1) := by decide +kernel
theorem d_Cp_writeStatement_24 : decode b_Cp_writeStatement 24 = .ok (.getstatic 160, 3) := by decide +kernel
theorem d_Cp_writeStatement_27 : decode b_Cp_writeStatement 27 = .ok (.invokevirtual 59, 3) := by decide +kernel
theorem d_Cp_writeStatement_30 : decode b_Cp_writeStatement 30 = .ok (.aload_n 0, 1) := by decide +kernel
theorem d_Cp_writeStatement_31 : decode b_Cp_writeStatement 31 = .ok (.getfield 28, 3) := by decide +kernel
theorem d_Cp_writeStatement_34 : decode b_Cp_writeStatement 34 = .ok (.bipush 20, 2) := by decide +kernel
theorem d_Cp_writeStatement_36 : decode b_Cp_writeStatement 36 = .ok (.iconst 0, 1) := by decide +kernel
theorem d_Cp_writeStatement_37 : decode b_Cp_writeStatement 37 = .ok (.iconst 0, 1) := by decide +kernel
theorem d_Cp_writeStatement_38 : decode b_Cp_writeStatement 38 = .ok (.invokevirtual 120, 3) := by decide +kernel
theorem d_Cp_writeStatement_41 : decode b_Cp_writeStatement 41 = .ok (.pop, 1) := by decide +kernel
theorem d_Cp_writeStatement_42 : decode b_Cp_writeStatement 42 = .ok (.return_, 1) := by decide +kernel
theorem d_Cp_condition_0 : decode b_Cp_condition 0 = .ok (.aload_n 0, 1) := by decide +kernel
theorem d_Cp_condition_1 : decode b_Cp_condition 1 = .ok (.iconst 0, 1) := by decide +kernel
theorem d_Cp_condition_2 : decode b_Cp_condition 2 = .ok (.invokevirtual 212, 3) := by decide +kernel
theorem d_Cp_condition_5 : decode b_Cp_condition 5 = .ok (.aload_n 0, 1) := by decide +kernel
theorem d_Cp_condition_6 : decode b_Cp_condition 6 = .ok (.invokevirtual 248, 3) := by decide +kernel
theorem d_Cp_condition_9 : decode b_Cp_condition 9 = .ok (.istore_n 1, 1) := by decide +kernel
theorem d_Cp_condition_10 : decode b_Cp_condition 10 = .ok (.iload_n 1, 1) := by decide +kernel
theorem d_Cp_condition_11 : decode b_Cp_condition 11 = .ok (.ifCond .ge 14, 3) := by decide +kernel
theorem d_Cp_condition_14 : decode b_Cp_condition 14 = .ok (.aload_n 0, 1) := by decide +kernel
theorem d_Cp_condition_15 : decode b_Cp_condition 15 = .ok (.aload_n 0, 1) := by decide +kernel
theorem d_Cp_condition_16 : decode b_Cp_condition 16 = .ok (.getfield 12, 3) := by decide +kernel
theorem d_Cp_condition_19 : decode b_Cp_condition 19 = .ok (.invokevirtual 70, 3) := by decide +kernel
theorem d_Cp_condition_22 : decode b_Cp_condition 22 = .ok (.invokevirtual 74, 3) := by decide +kernel
theorem d_Cp_condition_25 : decode b_Cp_condition 25 = .ok (.aload_n 0, 1) := by decide +kernel
theorem d_Cp_condition_26 : decode b_Cp_condition 26 = .ok (.getfield 12, 3) := by decide +kernel
theorem d_Cp_condition_29 : decode b_Cp_condition 29 = .ok (.invokevirtual 99, 3) := by decide +kernel
theorem d_Cp_condition_32 : decode b_Cp_condition 32 = .ok (.aload_n 0, 1) := by decide +kernel
theorem d_Cp_condition_33 : decode b_Cp_condition 33 = .ok (.iconst 0, 1) := by decide +kernel
theorem d_Cp_condition_34 : decode b_Cp_condition 34 = .ok (.invokevirtual 212, 3) := by decide +kernel
theorem d_Cp_condition_37 : decode b_Cp_condition 37 = .ok (.aload_n 0, 1) := by decide +kernel
theorem d_Cp_condition_38 : decode b_Cp_condition 38 = .ok (.getfield 28, 3) := by decide +kernel
theorem d_Cp_condition_41 : decode b_Cp_condition 41 = .ok (.iload_n 1, 1) := by decide +kernel
theorem d_Cp_condition_42 : decode b_Cp_condition 42 = .ok (.iconst 0, 1) := by decide +kernel
theorem d_Cp_condition_43 : decode b_Cp_condition 43 = .ok (.iconst 0, 1) := by decide +kernel
theorem d_Cp_condition_44 : decode b_Cp_condition 44 = .ok (.invokevirtual 120, 3) := by decide +kernel
theorem d_Cp_condition_47 : decode b_Cp_condition 47 = .ok (.pop, 1) := by decide +kernel
theorem d_Cp_condition_48 : decode b_Cp_condition 48 = .ok (.aload_n 0, 1) := by decide +kernel
theorem d_Cp_condition_49 : decode b_Cp_condition 49 = .ok (.getfield 28, 3) := by decide +kernel
theorem d_Cp_condition_52 : decode b_Cp_condition 52 = .ok (.bipush 17, 2) := by decide +kernel
theorem d_Cp_condition_54 : decode b_Cp_condition 54 = .ok (.iconst 0, 1) := by decide +kernel
theorem d_Cp_condition_55 : decode b_Cp_condition 55 = .ok (.iconst 0, 1) := by decide +kernel
theorem d_Cp_condition_56 : decode b_Cp_condition 56 = .ok (.invokevirtual 120, 3) := by decide +kernel
theorem d_Cp_condition_59 : decode b_Cp_condition 59 = .ok (.ireturn, 1) := by decide +kernel
theorem d_Cp_comparison_0 : decode b_Cp_comparison 0 = .ok (.getstatic 172, 3) := by decide +kernel
theorem d_Cp_comparison_3 : decode b_Cp_comparison 3 = .ok (.aload_n 0, 1) := by decide +kernel
theorem d_Cp_comparison_4 : decode b_Cp_comparison 4 = .ok (.getfield 12, 3) := by decide +kernel
theorem d_Cp_comparison_7 : decode b_Cp_comparison 7 = .ok (.invokevirtual 63, 3) := by decide +kernel
theorem d_Cp_comparison_10 : decode b_Cp_comparison 10 = .ok (.invokevirtual 177, 3) := by decide +kernel
theorem d_Cp_comparison_13 : decode b_Cp_comparison 13 = .ok (.iaload, 1) := by decide +kernel
theorem d_Cp_comparison_14 : decode b_Cp_comparison 14 = .ok (.tableswitch 35 6 8 #[26, 29, 32], 26) := by decide +kernel
theorem d_Cp_comparison_40 : decode b_Cp_comparison 40 = .ok (.bipush 13, 2) := by decide +kernel
theorem d_Cp_comparison_42 : decode b_Cp_comparison 42 = .ok (.ireturn, 1) := by decide +kernel
theorem d_Cp_comparison_43 : decode b_Cp_comparison 43 = .ok (.bipush 14, 2) := by decide +kernel
theorem d_Cp_comparison_45 : decode b_Cp_comparison 45 = .ok (.ireturn, 1) := by decide +kernel
theorem d_Cp_comparison_46 : decode b_Cp_comparison 46 = .ok (.bipush 15, 2) := by decide +kernel
theorem d_Cp_comparison_48 : decode b_Cp_comparison 48 = .ok (.ireturn, 1) := by decide +kernel
theorem d_Cp_comparison_49 : decode b_Cp_comparison 49 = .ok (.iconst (-1), 1) := by decide +kernel
theorem d_Cp_comparison_50 : decode b_Cp_comparison 50 = .ok (.ireturn, 1) := by decide +kernel
theorem d_Cp_expression_0 : decode b_Cp_expression 0 = .ok (.aload_n 0, 1) := by decide +kernel
theorem d_Cp_expression_1 : decode b_Cp_expression 1 = .ok (.getfield 12, 3) := by decide +kernel
theorem d_Cp_expression_4 : decode b_Cp_expression 4 = .ok (.getstatic 251, 3) := by decide +kernel
theorem d_Cp_expression_7 : decode b_Cp_expression 7 = .ok (.invokevirtual 84, 3) := by decide +kernel
theorem d_Cp_expression_10 : decode b_Cp_expression 10 = .ok (.istore_n 2, 1) := by decide +kernel
theorem d_Cp_expression_11 : decode b_Cp_expression 11 = .ok (.aload_n 0, 1) := by decide +kernel
theorem d_Cp_expression_12 : decode b_Cp_expression 12 = .ok (.iload_n 1, 1) := by decide +kernel
theorem d_Cp_expression_13 : decode b_Cp_expression 13 = .ok (.invokevirtual 254, 3) := by decide +kernel
theorem d_Cp_expression_16 : decode b_Cp_expression 16 = .ok (.iload_n 2, 1) := by decide +kernel
theorem d_Cp_expression_17 : decode b_Cp_expression 17 = .ok (.ifCond .eq 15, 3) := by decide +kernel
theorem d_Cp_expression_20 : decode b_Cp_expression 20 = .ok (.aload_n 0, 1) := by decide +kernel
theorem d_Cp_expression_21 : decode b_Cp_expression 21 = .ok (.getfield 28, 3) := by decide +kernel
theorem d_Cp_expression_24 : decode b_Cp_expression 24 = .ok (.bipush 7, 2) := by decide +kernel
theorem d_Cp_expression_26 : decode b_Cp_expression 26 = .ok (.iconst 0, 1) := by decide +kernel
theorem d_Cp_expression_27 : decode b_Cp_expression 27 = .ok (.iconst 0, 1) := by decide +kernel
theorem d_Cp_expression_28 : decode b_Cp_expression 28 = .ok (.invokevirtual 120, 3) := by decide +kernel
theorem d_Cp_expression_31 : decode b_Cp_expression 31 = .ok (.pop, 1) := by decide +kernel
theorem d_Cp_expression_32 : decode b_Cp_expression 32 = .ok (.iconst 0, 1) := by decide +kernel
theorem d_Cp_expression_33 : decode b_Cp_expression 33 = .ok (.istore_n 3, 1) := by decide +kernel
theorem d_Cp_expression_34 : decode b_Cp_expression 34 = .ok (.iload_n 3, 1) := by decide +kernel
theorem d_Cp_expression_35 : decode b_Cp_expression 35 = .ok (.sipush 150, 3) := by decide +kernel
theorem d_Cp_expression_38 : decode b_Cp_expression 38 = .ok (.if_icmp .ge 81, 3) := by decide +kernel
theorem d_Cp_expression_41 : decode b_Cp_expression 41 = .ok (.aload_n 0, 1) := by decide +kernel
theorem d_Cp_expression_42 : decode b_Cp_expression 42 = .ok (.getfield 12, 3) := by decide +kernel
theorem d_Cp_expression_45 : decode b_Cp_expression 45 = .ok (.invokevirtual 63, 3) := by decide +kernel
theorem d_Cp_expression_48 : decode b_Cp_expression 48 = .ok (.getstatic 257, 3) := by decide +kernel
theorem d_Cp_expression_51 : decode b_Cp_expression 51 = .ok (.if_acmp .eq 16, 3) := by decide +kernel
theorem d_Cp_expression_54 : decode b_Cp_expression 54 = .ok (.aload_n 0, 1) := by decide +kernel
theorem d_Cp_expression_55 : decode b_Cp_expression 55 = .ok (.getfield 12, 3) := by decide +kernel
theorem d_Cp_expression_58 : decode b_Cp_expression 58 = .ok (.invokevirtual 63, 3) := by decide +kernel
theorem d_Cp_expression_61 : decode b_Cp_expression 61 = .ok (.getstatic 251, 3) := by decide +kernel
theorem d_Cp_expression_64 : decode b_Cp_expression 64 = .ok (.if_acmp .ne 55, 3) := by decide +kernel
theorem d_Cp_expression_67 : decode b_Cp_expression 67 = .ok (.aload_n 0, 1) := by decide +kernel
theorem d_Cp_expression_68 : decode b_Cp_expression 68 = .ok (.getfield 12, 3) := by decide +kernel
theorem d_Cp_expression_71 : decode b_Cp_expression 71 = .ok (.invokevirtual 63, 3) := by decide +kernel
theorem d_Cp_expression_74 : decode b_Cp_expression 74 = .ok (.getstatic 257, 3) := by decide +kernel
theorem d_Cp_expression_77 : decode b_Cp_expression 77 = .ok (.if_acmp .ne 8, 3) := by decide +kernel
theorem d_Cp_expression_80 : decode b_Cp_expression 80 = .ok (.bipush 8, 2) := by decide +kernel
theorem d_Cp_expression_82 : decode b_Cp_expression 82 = .ok (.goto 5, 3) := by decide +kernel
theorem d_Cp_expression_85 : decode b_Cp_expression 85 = .ok (.bipush 9, 2) := by decide +kernel
theorem d_Cp_expression_87 : decode b_Cp_expression 87 = .ok (.istore 4, 2) := by decide +kernel
theorem d_Cp_expression_89 : decode b_Cp_expression 89 = .ok (.aload_n 0, 1) := by decide +kernel
theorem d_Cp_expression_90 : decode b_Cp_expression 90 = .ok (.getfield 12, 3) := by decide +kernel
theorem d_Cp_expression_93 : decode b_Cp_expression 93 = .ok (.invokevirtual 99, 3) := by decide +kernel
theorem d_Cp_expression_96 : decode b_Cp_expression 96 = .ok (.aload_n 0, 1) := by decide +kernel
theorem d_Cp_expression_97 : decode b_Cp_expression 97 = .ok (.iload_n 1, 1) := by decide +kernel
theorem d_Cp_expression_98 : decode b_Cp_expression 98 = .ok (.invokevirtual 254, 3) := by decide +kernel
theorem d_Cp_expression_101 : decode b_Cp_expression 101 = .ok (.aload_n 0, 1) := by decide +kernel
theorem d_Cp_expression_102 : decode b_Cp_expression 102 = .ok (.getfield 28, 3) := by decide +kernel
theorem d_Cp_expression_105 : decode b_Cp_expression 105 = .ok (.iload 4, 2) := by decide +kernel
theorem d_Cp_expression_107 : decode b_Cp_expression 107 = .ok (.iconst 0, 1) := by decide +kernel
theorem d_Cp_expression_108 : decode b_Cp_expression 108 = .ok (.iconst 0, 1) := by decide +kernel
theorem d_Cp_expression_109 : decode b_Cp_expression 109 = .ok (.invokevirtual 120, 3) := by decide +kernel
theorem d_Cp_expression_112 : decode b_Cp_expression 112 = .ok (.pop, 1) := by decide +kernel
theorem d_Cp_expression_113 : decode b_Cp_expression 113 = .ok (.iinc 3 1, 3) := by decide +kernel
theorem d_Cp_expression_116 : decode b_Cp_expression 116 = .ok (.goto (-82), 3) := by decide +kernel
theorem d_Cp_expression_119 : decode b_Cp_expression 119 = .ok (.return_, 1) := by decide +kernel
theorem d_Cp_term_0 : decode b_Cp_term 0 = .ok (.aload_n 0, 1) := by decide +kernel
theorem d_Cp_term_1 : decode b_Cp_term 1 = .ok (.iload_n 1, 1) := by decide +kernel
theorem d_Cp_term_2 : decode b_Cp_term 2 = .ok (.invokevirtual 260, 3) := by decide +kernel
theorem d_Cp_term_5 : decode b_Cp_term 5 = .ok (.aload_n 0, 1) := by decide +kernel
theorem d_Cp_term_6 : decode b_Cp_term 6 = .ok (.invokevirtual 263, 3) := by decide +kernel
theorem d_Cp_term_9 : decode b_Cp_term 9 = .ok (.istore_n 2, 1) := by decide +kernel
theorem d_Cp_term_10 : decode b_Cp_term 10 = .ok (.iconst 0, 1) := by decide +kernel
theorem d_Cp_term_11 : decode b_Cp_term 11 = .ok (.istore_n 3, 1) := by decide +kernel
theorem d_Cp_term_12 : decode b_Cp_term 12 = .ok (.iload_n 3, 1) := by decide +kernel
theorem d_Cp_term_13 : decode b_Cp_term 13 = .ok (.sipush 150, 3) := by decide +kernel
theorem d_Cp_term_16 : decode b_Cp_term 16 = .ok (.if_icmp .ge 41, 3) := by decide +kernel
theorem d_Cp_term_19 : decode b_Cp_term 19 = .ok (.iload_n 2, 1) := by decide +kernel
theorem d_Cp_term_20 : decode b_Cp_term 20 = .ok (.ifCond .lt 37, 3) := by decide +kernel
theorem d_Cp_term_23 : decode b_Cp_term 23 = .ok (.aload_n 0, 1) := by decide +kernel
theorem d_Cp_term_24 : decode b_Cp_term 24 = .ok (.getfield 12, 3) := by decide +kernel
theorem d_Cp_term_27 : decode b_Cp_term 27 = .ok (.invokevirtual 99, 3) := by decide +kernel
theorem d_Cp_term_30 : decode b_Cp_term 30 = .ok (.aload_n 0, 1) := by decide +kernel
theorem d_Cp_term_31 : decode b_Cp_term 31 = .ok (.iload_n 1, 1) := by decide +kernel
theorem d_Cp_term_32 : decode b_Cp_term 32 = .ok (.invokevirtual 260, 3) := by decide +kernel
theorem d_Cp_term_35 : decode b_Cp_term 35 = .ok (.aload_n 0, 1) := by decide +kernel
theorem d_Cp_term_36 : decode b_Cp_term 36 = .ok (.getfield 28, 3) := by decide +kernel
theorem d_Cp_term_39 : decode b_Cp_term 39 = .ok (.iload_n 2, 1) := by decide +kernel
theorem d_Cp_term_40 : decode b_Cp_term 40 = .ok (.iconst 0, 1) := by decide +kernel
theorem d_Cp_term_41 : decode b_Cp_term 41 = .ok (.iconst 0, 1) := by decide +kernel
theorem d_Cp_term_42 : decode b_Cp_term 42 = .ok (.invokevirtual 120, 3) := by decide +kernel
theorem d_Cp_term_45 : decode b_Cp_term 45 = .ok (.pop, 1) := by decide +kernel
theorem d_Cp_term_46 : decode b_Cp_term 46 = .ok (.aload_n 0, 1) := by decide +kernel
theorem d_Cp_term_47 : decode b_Cp_term 47 = .ok (.invokevirtual 263, 3) := by decide +kernel
theorem d_Cp_term_50 : decode b_Cp_term 50 = .ok (.istore_n 2, 1) := by decide +kernel
theorem d_Cp_term_51 : decode b_Cp_term 51 = .ok (.iinc 3 1, 3) := by decide +kernel
theorem d_Cp_term_54 : decode b_Cp_term 54 = .ok (.goto (-42), 3) := by decide +kernel
theorem d_Cp_term_57 : decode b_Cp_term 57 = .ok (.return_, 1) := by decide +kernel
theorem d_Cp_multiplication_0 : decode b_Cp_multiplication 0 = .ok (.getstatic 172, 3) := by decide +kernel
theorem d_Cp_multiplication_3 : decode b_Cp_multiplication 3 = .ok (.aload_n 0, 1) := by decide +kernel
theorem d_Cp_multiplication_4 : decode b_Cp_multiplication 4 = .ok (.getfield 12, 3) := by decide +kernel
theorem d_Cp_multiplication_7 : decode b_Cp_multiplication 7 = .ok (.invokevirtual 63, 3) := by decide +kernel
theorem d_Cp_multiplication_10 : decode b_Cp_multiplication 10 = .ok (.invokevirtual 177, 3) := by decide +kernel
theorem d_Cp_multiplication_13 : decode b_Cp_multiplication 13 = .ok (.iaload, 1) := by decide +kernel
theorem d_Cp_multiplication_14 : decode b_Cp_multiplication 14 = .ok (.tableswitch 35 9 11 #[26, 29, 32], 26) := by decide +kernel
theorem d_Cp_multiplication_40 : decode b_Cp_multiplication 40 = .ok (.bipush 10, 2) := by decide +kernel
theorem d_Cp_multiplication_42 : decode b_Cp_multiplication 42 = .ok (.ireturn, 1) := by decide +kernel
theorem d_Cp_multiplication_43 : decode b_Cp_multiplication 43 = .ok (.bipush 11, 2) := by decide +kernel
theorem d_Cp_multiplication_45 : decode b_Cp_multiplication 45 = .ok (.ireturn, 1) := by decide +kernel
theorem d_Cp_multiplication_46 : decode b_Cp_multiplication 46 = .ok (.bipush 12, 2) := by decide +kernel
theorem d_Cp_multiplication_48 : decode b_Cp_multiplication 48 = .ok (.ireturn, 1) := by decide +kernel
theorem d_Cp_multiplication_49 : decode b_Cp_multiplication 49 = .ok (.iconst (-1), 1) := by decide +kernel
theorem d_Cp_multiplication_50 : decode b_Cp_multiplication 50 = .ok (.ireturn, 1) := by decide +kernel
theorem d_Cp_factor_0 : decode b_Cp_factor 0 = .ok (.getstatic 172, 3) := by decide +kernel
theorem d_Cp_factor_3 : decode b_Cp_factor 3 = .ok (.aload_n 0, 1) := by decide +kernel
theorem d_Cp_factor_4 : decode b_Cp_factor 4 = .ok (.getfield 12, 3) := by decide +kernel
theorem d_Cp_factor_7 : decode b_Cp_factor 7 = .ok (.invokevirtual 63, 3) := by decide +kernel
theorem d_Cp_factor_10 : decode b_Cp_factor 10 = .ok (.invokevirtual 177, 3) := by decide +kernel
theorem d_Cp_factor_13 : decode b_Cp_factor 13 = .ok (.iaload, 1) := by decide +kernel
theorem d_Cp_factor_14 : decode b_Cp_factor 14 = .ok (.lookupswitch 110 #[(1, 62), (12, 34), (13, 69)], 34) := by decide +kernel
theorem d_Cp_factor_48 : decode b_Cp_factor 48 = .ok (.aload_n 0, 1) := by decide +kernel
theorem d_Cp_factor_49 : decode b_Cp_factor 49 = .ok (.getfield 28, 3) := by decide +kernel
theorem d_Cp_factor_52 : decode b_Cp_factor 52 = .ok (.iconst 1, 1) := by decide +kernel
theorem d_Cp_factor_53 : decode b_Cp_factor 53 = .ok (.aload_n 0, 1) := by decide +kernel
theorem d_Cp_factor_54 : decode b_Cp_factor 54 = .ok (.getfield 12, 3) := by decide +kernel
theorem d_Cp_factor_57 : decode b_Cp_factor 57 = .ok (.invokevirtual 91, 3) := by decide +kernel
theorem d_Cp_factor_60 : decode b_Cp_factor 60 = .ok (.l2i, 1) := by decide +kernel
theorem d_Cp_factor_61 : decode b_Cp_factor 61 = .ok (.iconst 0, 1) := by decide +kernel
theorem d_Cp_factor_62 : decode b_Cp_factor 62 = .ok (.invokevirtual 120, 3) := by decide +kernel
theorem d_Cp_factor_65 : decode b_Cp_factor 65 = .ok (.pop, 1) := by decide +kernel
theorem d_Cp_factor_66 : decode b_Cp_factor 66 = .ok (.aload_n 0, 1) := by decide +kernel
theorem d_Cp_factor_67 : decode b_Cp_factor 67 = .ok (.getfield 12, 3) := by decide +kernel
theorem d_Cp_factor_70 : decode b_Cp_factor 70 = .ok (.invokevirtual 99, 3) := by decide +kernel
theorem d_Cp_factor_73 : decode b_Cp_factor 73 = .ok (.goto 62, 3) := by decide +kernel
theorem d_Cp_factor_76 : decode b_Cp_factor 76 = .ok (.aload_n 0, 1) := by decide +kernel
theorem d_Cp_factor_77 : decode b_Cp_factor 77 = .ok (.invokevirtual 266, 3) := by decide +kernel
theorem d_Cp_factor_80 : decode b_Cp_factor 80 = .ok (.goto 55, 3) := by decide +kernel
theorem d_Cp_factor_83 : decode b_Cp_factor 83 = .ok (.iload_n 1, 1) := by decide +kernel
theorem d_Cp_factor_84 : decode b_Cp_factor 84 = .ok (.bipush 8, 2) := by decide +kernel
theorem d_Cp_factor_86 : decode b_Cp_factor 86 = .ok (.if_icmp .ne 14, 3) := by decide +kernel
theorem d_Cp_factor_89 : decode b_Cp_factor 89 = .ok (.aload_n 0, 1) := by decide +kernel
theorem d_Cp_factor_90 : decode b_Cp_factor 90 = .ok (.aload_n 0, 1) := by decide +kernel
theorem d_Cp_factor_91 : decode b_Cp_factor 91 = .ok (.getfield 12, 3) := by decide +kernel
theorem d_Cp_factor_94 : decode b_Cp_factor 94 = .ok (.invokevirtual 70, 3) := by decide +kernel
theorem d_Cp_factor_97 : decode b_Cp_factor 97 = .ok (.invokevirtual 74, 3) := by decide +kernel
theorem d_Cp_factor_100 : decode b_Cp_factor 100 = .ok (.aload_n 0, 1) := by decide +kernel
theorem d_Cp_factor_101 : decode b_Cp_factor 101 = .ok (.getfield 12, 3) := by decide +kernel
theorem d_Cp_factor_104 : decode b_Cp_factor 104 = .ok (.invokevirtual 99, 3) := by decide +kernel
theorem d_Cp_factor_107 : decode b_Cp_factor 107 = .ok (.aload_n 0, 1) := by decide +kernel
theorem d_Cp_factor_108 : decode b_Cp_factor 108 = .ok (.iload_n 1, 1) := by decide +kernel
theorem d_Cp_factor_109 : decode b_Cp_factor 109 = .ok (.iconst 1, 1) := by decide +kernel
theorem d_Cp_factor_110 : decode b_Cp_factor 110 = .ok (.iadd, 1) := by decide +kernel
theorem d_Cp_factor_111 : decode b_Cp_factor 111 = .ok (.invokevirtual 212, 3) := by decide +kernel
theorem d_Cp_factor_114 : decode b_Cp_factor 114 = .ok (.aload_n 0, 1) := by decide +kernel
theorem d_Cp_factor_115 : decode b_Cp_factor 115 = .ok (.getstatic 160, 3) := by decide +kernel
theorem d_Cp_factor_118 : decode b_Cp_factor 118 = .ok (.invokevirtual 59, 3) := by decide +kernel
theorem d_Cp_factor_121 : decode b_Cp_factor 121 = .ok (.goto 14, 3) := by decide +kernel
theorem d_Cp_factor_124 : decode b_Cp_factor 124 = .ok (.aload_n 0, 1) := by decide +kernel
theorem d_Cp_factor_125 : decode b_Cp_factor 125 = .ok (.aload_n 0, 1) := by decide +kernel
theorem d_Cp_factor_126 : decode b_Cp_factor 126 = .ok (.getfield 12, 3) := by decide +kernel
theorem d_Cp_factor_129 : decode b_Cp_factor 129 = .ok (.invokevirtual 70, 3) := by decide +kernel
theorem d_Cp_factor_132 : decode b_Cp_factor 132 = .ok (.invokevirtual 74, 3) := by decide +kernel
theorem d_Cp_factor_135 : decode b_Cp_factor 135 = .ok (.return_, 1) := by decide +kernel
theorem d_Cp_variable_0 : decode b_Cp_variable 0 = .ok (.aload_n 0, 1) := by decide +kernel
theorem d_Cp_variable_1 : decode b_Cp_variable 1 = .ok (.getfield 21, 3) := by decide +kernel
theorem d_Cp_variable_4 : decode b_Cp_variable 4 = .ok (.aload_n 0, 1) := by decide +kernel
theorem d_Cp_variable_5 : decode b_Cp_variable 5 = .ok (.getfield 12, 3) := by decide +kernel
theorem d_Cp_variable_8 : decode b_Cp_variable 8 = .ok (.invokevirtual 91, 3) := by decide +kernel
theorem d_Cp_variable_11 : decode b_Cp_variable 11 = .ok (.invokevirtual 204, 3) := by decide +kernel
theorem d_Cp_variable_14 : decode b_Cp_variable 14 = .ok (.istore_n 1, 1) := by decide +kernel
theorem d_Cp_variable_15 : decode b_Cp_variable 15 = .ok (.iload_n 1, 1) := by decide +kernel
theorem d_Cp_variable_16 : decode b_Cp_variable 16 = .ok (.ifCond .lt 14, 3) := by decide +kernel
theorem d_Cp_variable_19 : decode b_Cp_variable 19 = .ok (.aload_n 0, 1) := by decide +kernel
theorem d_Cp_variable_20 : decode b_Cp_variable 20 = .ok (.getfield 21, 3) := by decide +kernel
theorem d_Cp_variable_23 : decode b_Cp_variable 23 = .ok (.iload_n 1, 1) := by decide +kernel
theorem d_Cp_variable_24 : decode b_Cp_variable 24 = .ok (.invokevirtual 208, 3) := by decide +kernel
theorem d_Cp_variable_27 : decode b_Cp_variable 27 = .ok (.ifCond .eq 14, 3) := by decide +kernel
theorem d_Cp_variable_30 : decode b_Cp_variable 30 = .ok (.aload_n 0, 1) := by decide +kernel
theorem d_Cp_variable_31 : decode b_Cp_variable 31 = .ok (.aload_n 0, 1) := by decide +kernel
theorem d_Cp_variable_32 : decode b_Cp_variable 32 = .ok (.getfield 12, 3) := by decide +kernel
theorem d_Cp_variable_35 : decode b_Cp_variable 35 = .ok (.invokevirtual 70, 3) := by decide +kernel
theorem d_Cp_variable_38 : decode b_Cp_variable 38 = .ok (.invokevirtual 74, 3) := by decide +kernel
theorem d_Cp_variable_41 : decode b_Cp_variable 41 = .ok (.aload_n 0, 1) := by decide +kernel
theorem d_Cp_variable_42 : decode b_Cp_variable 42 = .ok (.getfield 21, 3) := by decide +kernel
theorem d_Cp_variable_45 : decode b_Cp_variable 45 = .ok (.iload_n 1, 1) := by decide +kernel
theorem d_Cp_variable_46 : decode b_Cp_variable 46 = .ok (.invokevirtual 215, 3) := by decide +kernel
theorem d_Cp_variable_49 : decode b_Cp_variable 49 = .ok (.ifCond .eq 7, 3) := by decide +kernel
theorem d_Cp_variable_52 : decode b_Cp_variable 52 = .ok (.iconst 3, 1) := by decide +kernel
theorem d_Cp_variable_53 : decode b_Cp_variable 53 = .ok (.goto 4, 3) := by decide +kernel
theorem d_Cp_variable_56 : decode b_Cp_variable 56 = .ok (.iconst 2, 1) := by decide +kernel
theorem d_Cp_variable_57 : decode b_Cp_variable 57 = .ok (.istore_n 2, 1) := by decide +kernel
theorem d_Cp_variable_58 : decode b_Cp_variable 58 = .ok (.aload_n 0, 1) := by decide +kernel
theorem d_Cp_variable_59 : decode b_Cp_variable 59 = .ok (.getfield 28, 3) := by decide +kernel
theorem d_Cp_variable_62 : decode b_Cp_variable 62 = .ok (.iload_n 2, 1) := by decide +kernel
theorem d_Cp_variable_63 : decode b_Cp_variable 63 = .ok (.aload_n 0, 1) := by decide +kernel
theorem d_Cp_variable_64 : decode b_Cp_variable 64 = .ok (.getfield 21, 3) := by decide +kernel
theorem d_Cp_variable_67 : decode b_Cp_variable 67 = .ok (.iload_n 1, 1) := by decide +kernel
theorem d_Cp_variable_68 : decode b_Cp_variable 68 = .ok (.invokevirtual 218, 3) := by decide +kernel
theorem d_Cp_variable_71 : decode b_Cp_variable 71 = .ok (.aload_n 0, 1) := by decide +kernel
theorem d_Cp_variable_72 : decode b_Cp_variable 72 = .ok (.getfield 21, 3) := by decide +kernel
theorem d_Cp_variable_75 : decode b_Cp_variable 75 = .ok (.iload_n 1, 1) := by decide +kernel
theorem d_Cp_variable_76 : decode b_Cp_variable 76 = .ok (.invokevirtual 221, 3) := by decide +kernel
theorem d_Cp_variable_79 : decode b_Cp_variable 79 = .ok (.invokevirtual 120, 3) := by decide +kernel
theorem d_Cp_variable_82 : decode b_Cp_variable 82 = .ok (.pop, 1) := by decide +kernel
theorem d_Cp_variable_83 : decode b_Cp_variable 83 = .ok (.aload_n 0, 1) := by decide +kernel
theorem d_Cp_variable_84 : decode b_Cp_variable 84 = .ok (.getfield 12, 3) := by decide +kernel
theorem d_Cp_variable_87 : decode b_Cp_variable 87 = .ok (.invokevirtual 99, 3) := by decide +kernel
theorem d_Cp_variable_90 : decode b_Cp_variable 90 = .ok (.return_, 1) := by decide +kernel
