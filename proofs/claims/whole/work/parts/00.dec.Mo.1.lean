theorem d_Mo_operator_31 : decode b_Mo_operator 31 = .ok (.goto 4, 3) := by decide +kernel
theorem d_Mo_operator_34 : decode b_Mo_operator 34 = .ok (.iconst 0, 1) := by decide +kernel
theorem d_Mo_operator_35 : decode b_Mo_operator 35 = .ok (.ireturn, 1) := by decide +kernel
theorem d_Mo_expression_0 : decode b_Mo_expression 0 = .ok (.iconst 0, 1) := by decide +kernel
theorem d_Mo_expression_1 : decode b_Mo_expression 1 = .ok (.istore_n 1, 1) := by decide +kernel
theorem d_Mo_expression_2 : decode b_Mo_expression 2 = .ok (.aload_n 0, 1) := by decide +kernel
theorem d_Mo_expression_3 : decode b_Mo_expression 3 = .ok (.bipush 45, 2) := by decide +kernel
theorem d_Mo_expression_5 : decode b_Mo_expression 5 = .ok (.invokevirtual 193, 3) := by decide +kernel
theorem d_Mo_expression_8 : decode b_Mo_expression 8 = .ok (.pop, 1) := by decide +kernel
theorem d_Mo_expression_9 : decode b_Mo_expression 9 = .ok (.iconst 1, 1) := by decide +kernel
theorem d_Mo_expression_10 : decode b_Mo_expression 10 = .ok (.istore_n 2, 1) := by decide +kernel
theorem d_Mo_expression_11 : decode b_Mo_expression 11 = .ok (.iload_n 2, 1) := by decide +kernel
theorem d_Mo_expression_12 : decode b_Mo_expression 12 = .ok (.ifCond .eq 127, 3) := by decide +kernel
theorem d_Mo_expression_15 : decode b_Mo_expression 15 = .ok (.aload_n 0, 1) := by decide +kernel
theorem d_Mo_expression_16 : decode b_Mo_expression 16 = .ok (.getfield 187, 3) := by decide +kernel
theorem d_Mo_expression_19 : decode b_Mo_expression 19 = .ok (.ifCond .ge 120, 3) := by decide +kernel
theorem d_Mo_expression_22 : decode b_Mo_expression 22 = .ok (.aload_n 0, 1) := by decide +kernel
theorem d_Mo_expression_23 : decode b_Mo_expression 23 = .ok (.getfield 13, 3) := by decide +kernel
theorem d_Mo_expression_26 : decode b_Mo_expression 26 = .ok (.aload_n 0, 1) := by decide +kernel
theorem d_Mo_expression_27 : decode b_Mo_expression 27 = .ok (.getfield 190, 3) := by decide +kernel
theorem d_Mo_expression_30 : decode b_Mo_expression 30 = .ok (.iaload, 1) := by decide +kernel
theorem d_Mo_expression_31 : decode b_Mo_expression 31 = .ok (.bipush 40, 2) := by decide +kernel
theorem d_Mo_expression_33 : decode b_Mo_expression 33 = .ok (.if_icmp .ne 37, 3) := by decide +kernel
theorem d_Mo_expression_36 : decode b_Mo_expression 36 = .ok (.iload_n 1, 1) := by decide +kernel
theorem d_Mo_expression_37 : decode b_Mo_expression 37 = .ok (.bipush 8, 2) := by decide +kernel
theorem d_Mo_expression_39 : decode b_Mo_expression 39 = .ok (.if_icmp .ne 11, 3) := by decide +kernel
theorem d_Mo_expression_42 : decode b_Mo_expression 42 = .ok (.aload_n 0, 1) := by decide +kernel
theorem d_Mo_expression_43 : decode b_Mo_expression 43 = .ok (.aload_n 0, 1) := by decide +kernel
theorem d_Mo_expression_44 : decode b_Mo_expression 44 = .ok (.getfield 190, 3) := by decide +kernel
theorem d_Mo_expression_47 : decode b_Mo_expression 47 = .ok (.invokevirtual 196, 3) := by decide +kernel
theorem d_Mo_expression_50 : decode b_Mo_expression 50 = .ok (.iinc 1 1, 3) := by decide +kernel
theorem d_Mo_expression_53 : decode b_Mo_expression 53 = .ok (.aload_n 0, 1) := by decide +kernel
theorem d_Mo_expression_54 : decode b_Mo_expression 54 = .ok (.bipush 40, 2) := by decide +kernel
theorem d_Mo_expression_56 : decode b_Mo_expression 56 = .ok (.invokevirtual 193, 3) := by decide +kernel
theorem d_Mo_expression_59 : decode b_Mo_expression 59 = .ok (.pop, 1) := by decide +kernel
theorem d_Mo_expression_60 : decode b_Mo_expression 60 = .ok (.aload_n 0, 1) := by decide +kernel
theorem d_Mo_expression_61 : decode b_Mo_expression 61 = .ok (.bipush 45, 2) := by decide +kernel
theorem d_Mo_expression_63 : decode b_Mo_expression 63 = .ok (.invokevirtual 193, 3) := by decide +kernel
theorem d_Mo_expression_66 : decode b_Mo_expression 66 = .ok (.pop, 1) := by decide +kernel
theorem d_Mo_expression_67 : decode b_Mo_expression 67 = .ok (.goto (-56), 3) := by decide +kernel
theorem d_Mo_expression_70 : decode b_Mo_expression 70 = .ok (.aload_n 0, 1) := by decide +kernel
theorem d_Mo_expression_71 : decode b_Mo_expression 71 = .ok (.invokevirtual 236, 3) := by decide +kernel
theorem d_Mo_expression_74 : decode b_Mo_expression 74 = .ok (.iload_n 1, 1) := by decide +kernel
theorem d_Mo_expression_75 : decode b_Mo_expression 75 = .ok (.ifCond .le 18, 3) := by decide +kernel
theorem d_Mo_expression_78 : decode b_Mo_expression 78 = .ok (.aload_n 0, 1) := by decide +kernel
theorem d_Mo_expression_79 : decode b_Mo_expression 79 = .ok (.bipush 41, 2) := by decide +kernel
theorem d_Mo_expression_81 : decode b_Mo_expression 81 = .ok (.invokevirtual 193, 3) := by decide +kernel
theorem d_Mo_expression_84 : decode b_Mo_expression 84 = .ok (.ifCond .eq 9, 3) := by decide +kernel
theorem d_Mo_expression_87 : decode b_Mo_expression 87 = .ok (.iinc 1 (-1), 3) := by decide +kernel
theorem d_Mo_expression_90 : decode b_Mo_expression 90 = .ok (.goto (-16), 3) := by decide +kernel
theorem d_Mo_expression_93 : decode b_Mo_expression 93 = .ok (.aload_n 0, 1) := by decide +kernel
theorem d_Mo_expression_94 : decode b_Mo_expression 94 = .ok (.getfield 187, 3) := by decide +kernel
theorem d_Mo_expression_97 : decode b_Mo_expression 97 = .ok (.ifCond .ge 23, 3) := by decide +kernel
theorem d_Mo_expression_100 : decode b_Mo_expression 100 = .ok (.aload_n 0, 1) := by decide +kernel
theorem d_Mo_expression_101 : decode b_Mo_expression 101 = .ok (.aload_n 0, 1) := by decide +kernel
theorem d_Mo_expression_102 : decode b_Mo_expression 102 = .ok (.getfield 13, 3) := by decide +kernel
theorem d_Mo_expression_105 : decode b_Mo_expression 105 = .ok (.aload_n 0, 1) := by decide +kernel
theorem d_Mo_expression_106 : decode b_Mo_expression 106 = .ok (.getfield 190, 3) := by decide +kernel
theorem d_Mo_expression_109 : decode b_Mo_expression 109 = .ok (.iaload, 1) := by decide +kernel
theorem d_Mo_expression_110 : decode b_Mo_expression 110 = .ok (.invokevirtual 239, 3) := by decide +kernel
theorem d_Mo_expression_113 : decode b_Mo_expression 113 = .ok (.ifCond .eq 7, 3) := by decide +kernel
theorem d_Mo_expression_116 : decode b_Mo_expression 116 = .ok (.iconst 1, 1) := by decide +kernel
theorem d_Mo_expression_117 : decode b_Mo_expression 117 = .ok (.goto 4, 3) := by decide +kernel
theorem d_Mo_expression_120 : decode b_Mo_expression 120 = .ok (.iconst 0, 1) := by decide +kernel
theorem d_Mo_expression_121 : decode b_Mo_expression 121 = .ok (.istore_n 2, 1) := by decide +kernel
theorem d_Mo_expression_122 : decode b_Mo_expression 122 = .ok (.iload_n 2, 1) := by decide +kernel
theorem d_Mo_expression_123 : decode b_Mo_expression 123 = .ok (.ifCond .eq (-112), 3) := by decide +kernel
theorem d_Mo_expression_126 : decode b_Mo_expression 126 = .ok (.aload_n 0, 1) := by decide +kernel
theorem d_Mo_expression_127 : decode b_Mo_expression 127 = .ok (.dup, 1) := by decide +kernel
theorem d_Mo_expression_128 : decode b_Mo_expression 128 = .ok (.getfield 190, 3) := by decide +kernel
theorem d_Mo_expression_131 : decode b_Mo_expression 131 = .ok (.iconst 1, 1) := by decide +kernel
theorem d_Mo_expression_132 : decode b_Mo_expression 132 = .ok (.iadd, 1) := by decide +kernel
theorem d_Mo_expression_133 : decode b_Mo_expression 133 = .ok (.putfield 190, 3) := by decide +kernel
theorem d_Mo_expression_136 : decode b_Mo_expression 136 = .ok (.goto (-125), 3) := by decide +kernel
theorem d_Mo_expression_139 : decode b_Mo_expression 139 = .ok (.iload_n 1, 1) := by decide +kernel
theorem d_Mo_expression_140 : decode b_Mo_expression 140 = .ok (.ifCond .le 11, 3) := by decide +kernel
theorem d_Mo_expression_143 : decode b_Mo_expression 143 = .ok (.aload_n 0, 1) := by decide +kernel
theorem d_Mo_expression_144 : decode b_Mo_expression 144 = .ok (.aload_n 0, 1) := by decide +kernel
theorem d_Mo_expression_145 : decode b_Mo_expression 145 = .ok (.getfield 190, 3) := by decide +kernel
theorem d_Mo_expression_148 : decode b_Mo_expression 148 = .ok (.invokevirtual 196, 3) := by decide +kernel
theorem d_Mo_expression_151 : decode b_Mo_expression 151 = .ok (.return_, 1) := by decide +kernel
theorem d_Mo_condition_0 : decode b_Mo_condition 0 = .ok (.aload_n 0, 1) := by decide +kernel
theorem d_Mo_condition_1 : decode b_Mo_condition 1 = .ok (.invokevirtual 242, 3) := by decide +kernel
theorem d_Mo_condition_4 : decode b_Mo_condition 4 = .ok (.aload_n 0, 1) := by decide +kernel
theorem d_Mo_condition_5 : decode b_Mo_condition 5 = .ok (.getfield 187, 3) := by decide +kernel
theorem d_Mo_condition_8 : decode b_Mo_condition 8 = .ok (.ifCond .ge 44, 3) := by decide +kernel
theorem d_Mo_condition_11 : decode b_Mo_condition 11 = .ok (.aload_n 0, 1) := by decide +kernel
theorem d_Mo_condition_12 : decode b_Mo_condition 12 = .ok (.getfield 13, 3) := by decide +kernel
theorem d_Mo_condition_15 : decode b_Mo_condition 15 = .ok (.aload_n 0, 1) := by decide +kernel
theorem d_Mo_condition_16 : decode b_Mo_condition 16 = .ok (.getfield 190, 3) := by decide +kernel
theorem d_Mo_condition_19 : decode b_Mo_condition 19 = .ok (.iaload, 1) := by decide +kernel
theorem d_Mo_condition_20 : decode b_Mo_condition 20 = .ok (.bipush 60, 2) := by decide +kernel
theorem d_Mo_condition_22 : decode b_Mo_condition 22 = .ok (.if_icmp .lt 30, 3) := by decide +kernel
theorem d_Mo_condition_25 : decode b_Mo_condition 25 = .ok (.aload_n 0, 1) := by decide +kernel
theorem d_Mo_condition_26 : decode b_Mo_condition 26 = .ok (.getfield 13, 3) := by decide +kernel
theorem d_Mo_condition_29 : decode b_Mo_condition 29 = .ok (.aload_n 0, 1) := by decide +kernel
theorem d_Mo_condition_30 : decode b_Mo_condition 30 = .ok (.getfield 190, 3) := by decide +kernel
theorem d_Mo_condition_33 : decode b_Mo_condition 33 = .ok (.iaload, 1) := by decide +kernel
theorem d_Mo_condition_34 : decode b_Mo_condition 34 = .ok (.bipush 62, 2) := by decide +kernel
theorem d_Mo_condition_36 : decode b_Mo_condition 36 = .ok (.if_icmp .gt 16, 3) := by decide +kernel
theorem d_Mo_condition_39 : decode b_Mo_condition 39 = .ok (.aload_n 0, 1) := by decide +kernel
theorem d_Mo_condition_40 : decode b_Mo_condition 40 = .ok (.dup, 1) := by decide +kernel
theorem d_Mo_condition_41 : decode b_Mo_condition 41 = .ok (.getfield 190, 3) := by decide +kernel
theorem d_Mo_condition_44 : decode b_Mo_condition 44 = .ok (.iconst 1, 1) := by decide +kernel
theorem d_Mo_condition_45 : decode b_Mo_condition 45 = .ok (.iadd, 1) := by decide +kernel
theorem d_Mo_condition_46 : decode b_Mo_condition 46 = .ok (.putfield 190, 3) := by decide +kernel
theorem d_Mo_condition_49 : decode b_Mo_condition 49 = .ok (.goto 11, 3) := by decide +kernel
theorem d_Mo_condition_52 : decode b_Mo_condition 52 = .ok (.aload_n 0, 1) := by decide +kernel
theorem d_Mo_condition_53 : decode b_Mo_condition 53 = .ok (.aload_n 0, 1) := by decide +kernel
theorem d_Mo_condition_54 : decode b_Mo_condition 54 = .ok (.getfield 190, 3) := by decide +kernel
theorem d_Mo_condition_57 : decode b_Mo_condition 57 = .ok (.invokevirtual 196, 3) := by decide +kernel
theorem d_Mo_condition_60 : decode b_Mo_condition 60 = .ok (.aload_n 0, 1) := by decide +kernel
theorem d_Mo_condition_61 : decode b_Mo_condition 61 = .ok (.invokevirtual 242, 3) := by decide +kernel
theorem d_Mo_condition_64 : decode b_Mo_condition 64 = .ok (.return_, 1) := by decide +kernel
theorem d_Mo_argument_0 : decode b_Mo_argument 0 = .ok (.aload_n 0, 1) := by decide +kernel
theorem d_Mo_argument_1 : decode b_Mo_argument 1 = .ok (.getfield 190, 3) := by decide +kernel
theorem d_Mo_argument_4 : decode b_Mo_argument 4 = .ok (.istore_n 3, 1) := by decide +kernel
theorem d_Mo_argument_5 : decode b_Mo_argument 5 = .ok (.aload_n 0, 1) := by decide +kernel
theorem d_Mo_argument_6 : decode b_Mo_argument 6 = .ok (.invokevirtual 242, 3) := by decide +kernel
theorem d_Mo_argument_9 : decode b_Mo_argument 9 = .ok (.aload_n 0, 1) := by decide +kernel
theorem d_Mo_argument_10 : decode b_Mo_argument 10 = .ok (.getfield 190, 3) := by decide +kernel
theorem d_Mo_argument_13 : decode b_Mo_argument 13 = .ok (.iload_n 3, 1) := by decide +kernel
theorem d_Mo_argument_14 : decode b_Mo_argument 14 = .ok (.iconst 1, 1) := by decide +kernel
theorem d_Mo_argument_15 : decode b_Mo_argument 15 = .ok (.iadd, 1) := by decide +kernel
theorem d_Mo_argument_16 : decode b_Mo_argument 16 = .ok (.if_icmp .ne 17, 3) := by decide +kernel
theorem d_Mo_argument_19 : decode b_Mo_argument 19 = .ok (.aload_n 0, 1) := by decide +kernel
theorem d_Mo_argument_20 : decode b_Mo_argument 20 = .ok (.getfield 13, 3) := by decide +kernel
theorem d_Mo_argument_23 : decode b_Mo_argument 23 = .ok (.iload_n 3, 1) := by decide +kernel
theorem d_Mo_argument_24 : decode b_Mo_argument 24 = .ok (.iaload, 1) := by decide +kernel
theorem d_Mo_argument_25 : decode b_Mo_argument 25 = .ok (.iconst 1, 1) := by decide +kernel
theorem d_Mo_argument_26 : decode b_Mo_argument 26 = .ok (.if_icmp .ne 7, 3) := by decide +kernel
theorem d_Mo_argument_29 : decode b_Mo_argument 29 = .ok (.iconst 1, 1) := by decide +kernel
theorem d_Mo_argument_30 : decode b_Mo_argument 30 = .ok (.goto 4, 3) := by decide +kernel
theorem d_Mo_argument_33 : decode b_Mo_argument 33 = .ok (.iconst 0, 1) := by decide +kernel
theorem d_Mo_argument_34 : decode b_Mo_argument 34 = .ok (.istore 4, 2) := by decide +kernel
theorem d_Mo_argument_36 : decode b_Mo_argument 36 = .ok (.aload_n 0, 1) := by decide +kernel
theorem d_Mo_argument_37 : decode b_Mo_argument 37 = .ok (.getfield 187, 3) := by decide +kernel
theorem d_Mo_argument_40 : decode b_Mo_argument 40 = .ok (.ifCond .ge 18, 3) := by decide +kernel
theorem d_Mo_argument_43 : decode b_Mo_argument 43 = .ok (.iload 4, 2) := by decide +kernel
theorem d_Mo_argument_45 : decode b_Mo_argument 45 = .ok (.ifCond .ne 13, 3) := by decide +kernel
theorem d_Mo_argument_48 : decode b_Mo_argument 48 = .ok (.iload_n 2, 1) := by decide +kernel
theorem d_Mo_argument_49 : decode b_Mo_argument 49 = .ok (.aload_n 0, 1) := by decide +kernel
theorem d_Mo_argument_50 : decode b_Mo_argument 50 = .ok (.getfield 60, 3) := by decide +kernel
theorem d_Mo_argument_53 : decode b_Mo_argument 53 = .ok (.iload_n 1, 1) := by decide +kernel
theorem d_Mo_argument_54 : decode b_Mo_argument 54 = .ok (.iaload, 1) := by decide +kernel
theorem d_Mo_argument_55 : decode b_Mo_argument 55 = .ok (.if_icmp .lt 4, 3) := by decide +kernel
theorem d_Mo_argument_58 : decode b_Mo_argument 58 = .ok (.return_, 1) := by decide +kernel
theorem d_Mo_argument_59 : decode b_Mo_argument 59 = .ok (.aload_n 0, 1) := by decide +kernel
theorem d_Mo_argument_60 : decode b_Mo_argument 60 = .ok (.getfield 51, 3) := by decide +kernel
theorem d_Mo_argument_63 : decode b_Mo_argument 63 = .ok (.aload_n 0, 1) := by decide +kernel
theorem d_Mo_argument_64 : decode b_Mo_argument 64 = .ok (.iload_n 1, 1) := by decide +kernel
theorem d_Mo_argument_65 : decode b_Mo_argument 65 = .ok (.iload_n 2, 1) := by decide +kernel
theorem d_Mo_argument_66 : decode b_Mo_argument 66 = .ok (.invokevirtual 245, 3) := by decide +kernel
theorem d_Mo_argument_69 : decode b_Mo_argument 69 = .ok (.iaload, 1) := by decide +kernel
theorem d_Mo_argument_70 : decode b_Mo_argument 70 = .ok (.iconst 2, 1) := by decide +kernel
theorem d_Mo_argument_71 : decode b_Mo_argument 71 = .ok (.if_icmp .ne 8, 3) := by decide +kernel
theorem d_Mo_argument_74 : decode b_Mo_argument 74 = .ok (.aload_n 0, 1) := by decide +kernel
theorem d_Mo_argument_75 : decode b_Mo_argument 75 = .ok (.iload_n 3, 1) := by decide +kernel
theorem d_Mo_argument_76 : decode b_Mo_argument 76 = .ok (.invokevirtual 196, 3) := by decide +kernel
theorem d_Mo_argument_79 : decode b_Mo_argument 79 = .ok (.return_, 1) := by decide +kernel
theorem d_Mo_parameterOf_0 : decode b_Mo_parameterOf 0 = .ok (.iload_n 1, 1) := by decide +kernel
theorem d_Mo_parameterOf_1 : decode b_Mo_parameterOf 1 = .ok (.iconst 1, 1) := by decide +kernel
theorem d_Mo_parameterOf_2 : decode b_Mo_parameterOf 2 = .ok (.iadd, 1) := by decide +kernel
theorem d_Mo_parameterOf_3 : decode b_Mo_parameterOf 3 = .ok (.iload_n 2, 1) := by decide +kernel
theorem d_Mo_parameterOf_4 : decode b_Mo_parameterOf 4 = .ok (.iadd, 1) := by decide +kernel
theorem d_Mo_parameterOf_5 : decode b_Mo_parameterOf 5 = .ok (.ireturn, 1) := by decide +kernel
theorem d_Mo_call_0 : decode b_Mo_call 0 = .ok (.iconst 0, 1) := by decide +kernel
theorem d_Mo_call_1 : decode b_Mo_call 1 = .ok (.istore_n 3, 1) := by decide +kernel
theorem d_Mo_call_2 : decode b_Mo_call 2 = .ok (.aload_n 0, 1) := by decide +kernel
theorem d_Mo_call_3 : decode b_Mo_call 3 = .ok (.bipush 40, 2) := by decide +kernel
theorem d_Mo_call_5 : decode b_Mo_call 5 = .ok (.invokevirtual 193, 3) := by decide +kernel
theorem d_Mo_call_8 : decode b_Mo_call 8 = .ok (.ifCond .eq 38, 3) := by decide +kernel
theorem d_Mo_call_11 : decode b_Mo_call 11 = .ok (.aload_n 0, 1) := by decide +kernel
theorem d_Mo_call_12 : decode b_Mo_call 12 = .ok (.iload_n 2, 1) := by decide +kernel
theorem d_Mo_call_13 : decode b_Mo_call 13 = .ok (.iconst 0, 1) := by decide +kernel
theorem d_Mo_call_14 : decode b_Mo_call 14 = .ok (.invokevirtual 249, 3) := by decide +kernel
theorem d_Mo_call_17 : decode b_Mo_call 17 = .ok (.iconst 1, 1) := by decide +kernel
theorem d_Mo_call_18 : decode b_Mo_call 18 = .ok (.istore_n 3, 1) := by decide +kernel
theorem d_Mo_call_19 : decode b_Mo_call 19 = .ok (.aload_n 0, 1) := by decide +kernel
theorem d_Mo_call_20 : decode b_Mo_call 20 = .ok (.bipush 44, 2) := by decide +kernel
theorem d_Mo_call_22 : decode b_Mo_call 22 = .ok (.invokevirtual 193, 3) := by decide +kernel
theorem d_Mo_call_25 : decode b_Mo_call 25 = .ok (.ifCond .eq 15, 3) := by decide +kernel
theorem d_Mo_call_28 : decode b_Mo_call 28 = .ok (.aload_n 0, 1) := by decide +kernel
theorem d_Mo_call_29 : decode b_Mo_call 29 = .ok (.iload_n 2, 1) := by decide +kernel
theorem d_Mo_call_30 : decode b_Mo_call 30 = .ok (.iload_n 3, 1) := by decide +kernel
theorem d_Mo_call_31 : decode b_Mo_call 31 = .ok (.invokevirtual 249, 3) := by decide +kernel
theorem d_Mo_call_34 : decode b_Mo_call 34 = .ok (.iinc 3 1, 3) := by decide +kernel
theorem d_Mo_call_37 : decode b_Mo_call 37 = .ok (.goto (-18), 3) := by decide +kernel
theorem d_Mo_call_40 : decode b_Mo_call 40 = .ok (.aload_n 0, 1) := by decide +kernel
theorem d_Mo_call_41 : decode b_Mo_call 41 = .ok (.bipush 41, 2) := by decide +kernel
theorem d_Mo_call_43 : decode b_Mo_call 43 = .ok (.invokevirtual 227, 3) := by decide +kernel
theorem d_Mo_call_46 : decode b_Mo_call 46 = .ok (.aload_n 0, 1) := by decide +kernel
theorem d_Mo_call_47 : decode b_Mo_call 47 = .ok (.getfield 187, 3) := by decide +kernel
theorem d_Mo_call_50 : decode b_Mo_call 50 = .ok (.ifCond .ge 18, 3) := by decide +kernel
theorem d_Mo_call_53 : decode b_Mo_call 53 = .ok (.iload_n 3, 1) := by decide +kernel
theorem d_Mo_call_54 : decode b_Mo_call 54 = .ok (.aload_n 0, 1) := by decide +kernel
theorem d_Mo_call_55 : decode b_Mo_call 55 = .ok (.getfield 60, 3) := by decide +kernel
theorem d_Mo_call_58 : decode b_Mo_call 58 = .ok (.iload_n 2, 1) := by decide +kernel
theorem d_Mo_call_59 : decode b_Mo_call 59 = .ok (.iaload, 1) := by decide +kernel
theorem d_Mo_call_60 : decode b_Mo_call 60 = .ok (.if_icmp .eq 8, 3) := by decide +kernel
theorem d_Mo_call_63 : decode b_Mo_call 63 = .ok (.aload_n 0, 1) := by decide +kernel
theorem d_Mo_call_64 : decode b_Mo_call 64 = .ok (.iload_n 1, 1) := by decide +kernel
theorem d_Mo_call_65 : decode b_Mo_call 65 = .ok (.invokevirtual 196, 3) := by decide +kernel
theorem d_Mo_call_68 : decode b_Mo_call 68 = .ok (.return_, 1) := by decide +kernel
theorem d_Mo_deeper_0 : decode b_Mo_deeper 0 = .ok (.aload_n 0, 1) := by decide +kernel
theorem d_Mo_deeper_1 : decode b_Mo_deeper 1 = .ok (.getfield 253, 3) := by decide +kernel
theorem d_Mo_deeper_4 : decode b_Mo_deeper 4 = .ok (.bipush 8, 2) := by decide +kernel
theorem d_Mo_deeper_6 : decode b_Mo_deeper 6 = .ok (.if_icmp .ne 9, 3) := by decide +kernel
theorem d_Mo_deeper_9 : decode b_Mo_deeper 9 = .ok (.aload_n 0, 1) := by decide +kernel
theorem d_Mo_deeper_10 : decode b_Mo_deeper 10 = .ok (.iload_n 2, 1) := by decide +kernel
theorem d_Mo_deeper_11 : decode b_Mo_deeper 11 = .ok (.invokevirtual 196, 3) := by decide +kernel
theorem d_Mo_deeper_14 : decode b_Mo_deeper 14 = .ok (.return_, 1) := by decide +kernel
theorem d_Mo_deeper_15 : decode b_Mo_deeper 15 = .ok (.aload_n 0, 1) := by decide +kernel
theorem d_Mo_deeper_16 : decode b_Mo_deeper 16 = .ok (.getfield 84, 3) := by decide +kernel
theorem d_Mo_deeper_19 : decode b_Mo_deeper 19 = .ok (.aload_n 0, 1) := by decide +kernel
theorem d_Mo_deeper_20 : decode b_Mo_deeper 20 = .ok (.getfield 253, 3) := by decide +kernel
theorem d_Mo_deeper_23 : decode b_Mo_deeper 23 = .ok (.iload_n 1, 1) := by decide +kernel
theorem d_Mo_deeper_24 : decode b_Mo_deeper 24 = .ok (.iastore, 1) := by decide +kernel
theorem d_Mo_deeper_25 : decode b_Mo_deeper 25 = .ok (.aload_n 0, 1) := by decide +kernel
theorem d_Mo_deeper_26 : decode b_Mo_deeper 26 = .ok (.getfield 87, 3) := by decide +kernel
theorem d_Mo_deeper_29 : decode b_Mo_deeper 29 = .ok (.aload_n 0, 1) := by decide +kernel
theorem d_Mo_deeper_30 : decode b_Mo_deeper 30 = .ok (.getfield 253, 3) := by decide +kernel
theorem d_Mo_deeper_33 : decode b_Mo_deeper 33 = .ok (.iload_n 2, 1) := by decide +kernel
theorem d_Mo_deeper_34 : decode b_Mo_deeper 34 = .ok (.iastore, 1) := by decide +kernel
theorem d_Mo_deeper_35 : decode b_Mo_deeper 35 = .ok (.aload_n 0, 1) := by decide +kernel
theorem d_Mo_deeper_36 : decode b_Mo_deeper 36 = .ok (.dup, 1) := by decide +kernel
theorem d_Mo_deeper_37 : decode b_Mo_deeper 37 = .ok (.getfield 253, 3) := by decide +kernel
theorem d_Mo_deeper_40 : decode b_Mo_deeper 40 = .ok (.iconst 1, 1) := by decide +kernel
theorem d_Mo_deeper_41 : decode b_Mo_deeper 41 = .ok (.iadd, 1) := by decide +kernel
theorem d_Mo_deeper_42 : decode b_Mo_deeper 42 = .ok (.putfield 253, 3) := by decide +kernel
theorem d_Mo_deeper_45 : decode b_Mo_deeper 45 = .ok (.return_, 1) := by decide +kernel
theorem d_Mo_beginStatement_0 : decode b_Mo_beginStatement 0 = .ok (.aload_n 0, 1) := by decide +kernel
theorem d_Mo_beginStatement_1 : decode b_Mo_beginStatement 1 = .ok (.getfield 190, 3) := by decide +kernel
theorem d_Mo_beginStatement_4 : decode b_Mo_beginStatement 4 = .ok (.istore_n 1, 1) := by decide +kernel
theorem d_Mo_beginStatement_5 : decode b_Mo_beginStatement 5 = .ok (.aload_n 0, 1) := by decide +kernel
theorem d_Mo_beginStatement_6 : decode b_Mo_beginStatement 6 = .ok (.getfield 13, 3) := by decide +kernel
theorem d_Mo_beginStatement_9 : decode b_Mo_beginStatement 9 = .ok (.iload_n 1, 1) := by decide +kernel
theorem d_Mo_beginStatement_10 : decode b_Mo_beginStatement 10 = .ok (.iaload, 1) := by decide +kernel
theorem d_Mo_beginStatement_11 : decode b_Mo_beginStatement 11 = .ok (.iconst 1, 1) := by decide +kernel
theorem d_Mo_beginStatement_12 : decode b_Mo_beginStatement 12 = .ok (.if_icmp .ne 102, 3) := by decide +kernel
theorem d_Mo_beginStatement_15 : decode b_Mo_beginStatement 15 = .ok (.aload_n 0, 1) := by decide +kernel
theorem d_Mo_beginStatement_16 : decode b_Mo_beginStatement 16 = .ok (.iload_n 1, 1) := by decide +kernel
theorem d_Mo_beginStatement_17 : decode b_Mo_beginStatement 17 = .ok (.invokevirtual 233, 3) := by decide +kernel
theorem d_Mo_beginStatement_20 : decode b_Mo_beginStatement 20 = .ok (.istore_n 2, 1) := by decide +kernel
theorem d_Mo_beginStatement_21 : decode b_Mo_beginStatement 21 = .ok (.aload_n 0, 1) := by decide +kernel
theorem d_Mo_beginStatement_22 : decode b_Mo_beginStatement 22 = .ok (.getfield 13, 3) := by decide +kernel
theorem d_Mo_beginStatement_25 : decode b_Mo_beginStatement 25 = .ok (.iload_n 1, 1) := by decide +kernel
theorem d_Mo_beginStatement_26 : decode b_Mo_beginStatement 26 = .ok (.iconst 1, 1) := by decide +kernel
theorem d_Mo_beginStatement_27 : decode b_Mo_beginStatement 27 = .ok (.iadd, 1) := by decide +kernel
theorem d_Mo_beginStatement_28 : decode b_Mo_beginStatement 28 = .ok (.iaload, 1) := by decide +kernel
theorem d_Mo_beginStatement_29 : decode b_Mo_beginStatement 29 = .ok (.bipush 13, 2) := by decide +kernel
theorem d_Mo_beginStatement_31 : decode b_Mo_beginStatement 31 = .ok (.if_icmp .ne 7, 3) := by decide +kernel
theorem d_Mo_beginStatement_34 : decode b_Mo_beginStatement 34 = .ok (.iconst 1, 1) := by decide +kernel
theorem d_Mo_beginStatement_35 : decode b_Mo_beginStatement 35 = .ok (.goto 4, 3) := by decide +kernel
theorem d_Mo_beginStatement_38 : decode b_Mo_beginStatement 38 = .ok (.iconst 0, 1) := by decide +kernel
theorem d_Mo_beginStatement_39 : decode b_Mo_beginStatement 39 = .ok (.istore_n 3, 1) := by decide +kernel
theorem d_Mo_beginStatement_40 : decode b_Mo_beginStatement 40 = .ok (.iload_n 2, 1) := by decide +kernel
theorem d_Mo_beginStatement_41 : decode b_Mo_beginStatement 41 = .ok (.ifCond .lt 22, 3) := by decide +kernel
theorem d_Mo_beginStatement_44 : decode b_Mo_beginStatement 44 = .ok (.aload_n 0, 1) := by decide +kernel
theorem d_Mo_beginStatement_45 : decode b_Mo_beginStatement 45 = .ok (.getfield 51, 3) := by decide +kernel
theorem d_Mo_beginStatement_48 : decode b_Mo_beginStatement 48 = .ok (.iload_n 2, 1) := by decide +kernel
theorem d_Mo_beginStatement_49 : decode b_Mo_beginStatement 49 = .ok (.iaload, 1) := by decide +kernel
theorem d_Mo_beginStatement_50 : decode b_Mo_beginStatement 50 = .ok (.iconst 3, 1) := by decide +kernel
theorem d_Mo_beginStatement_51 : decode b_Mo_beginStatement 51 = .ok (.if_icmp .ne 7, 3) := by decide +kernel
theorem d_Mo_beginStatement_54 : decode b_Mo_beginStatement 54 = .ok (.iconst 1, 1) := by decide +kernel
theorem d_Mo_beginStatement_55 : decode b_Mo_beginStatement 55 = .ok (.goto 4, 3) := by decide +kernel
theorem d_Mo_beginStatement_58 : decode b_Mo_beginStatement 58 = .ok (.iconst 0, 1) := by decide +kernel
theorem d_Mo_beginStatement_59 : decode b_Mo_beginStatement 59 = .ok (.iload_n 3, 1) := by decide +kernel
theorem d_Mo_beginStatement_60 : decode b_Mo_beginStatement 60 = .ok (.if_icmp .ne 10, 3) := by decide +kernel
theorem d_Mo_beginStatement_63 : decode b_Mo_beginStatement 63 = .ok (.aload_n 0, 1) := by decide +kernel
theorem d_Mo_beginStatement_64 : decode b_Mo_beginStatement 64 = .ok (.iload_n 1, 1) := by decide +kernel
theorem d_Mo_beginStatement_65 : decode b_Mo_beginStatement 65 = .ok (.invokevirtual 196, 3) := by decide +kernel
theorem d_Mo_beginStatement_68 : decode b_Mo_beginStatement 68 = .ok (.iconst 1, 1) := by decide +kernel
theorem d_Mo_beginStatement_69 : decode b_Mo_beginStatement 69 = .ok (.ireturn, 1) := by decide +kernel
theorem d_Mo_beginStatement_70 : decode b_Mo_beginStatement 70 = .ok (.aload_n 0, 1) := by decide +kernel
theorem d_Mo_beginStatement_71 : decode b_Mo_beginStatement 71 = .ok (.getfield 26, 3) := by decide +kernel
theorem d_Mo_beginStatement_74 : decode b_Mo_beginStatement 74 = .ok (.iload_n 1, 1) := by decide +kernel
theorem d_Mo_beginStatement_75 : decode b_Mo_beginStatement 75 = .ok (.iload_n 2, 1) := by decide +kernel
theorem d_Mo_beginStatement_76 : decode b_Mo_beginStatement 76 = .ok (.iastore, 1) := by decide +kernel
theorem d_Mo_beginStatement_77 : decode b_Mo_beginStatement 77 = .ok (.aload_n 0, 1) := by decide +kernel
theorem d_Mo_beginStatement_78 : decode b_Mo_beginStatement 78 = .ok (.dup, 1) := by decide +kernel
theorem d_Mo_beginStatement_79 : decode b_Mo_beginStatement 79 = .ok (.getfield 190, 3) := by decide +kernel
theorem d_Mo_beginStatement_82 : decode b_Mo_beginStatement 82 = .ok (.iload_n 3, 1) := by decide +kernel
theorem d_Mo_beginStatement_83 : decode b_Mo_beginStatement 83 = .ok (.ifCond .eq 7, 3) := by decide +kernel
theorem d_Mo_beginStatement_86 : decode b_Mo_beginStatement 86 = .ok (.iconst 2, 1) := by decide +kernel
theorem d_Mo_beginStatement_87 : decode b_Mo_beginStatement 87 = .ok (.goto 4, 3) := by decide +kernel
theorem d_Mo_beginStatement_90 : decode b_Mo_beginStatement 90 = .ok (.iconst 1, 1) := by decide +kernel
theorem d_Mo_beginStatement_91 : decode b_Mo_beginStatement 91 = .ok (.iadd, 1) := by decide +kernel
theorem d_Mo_beginStatement_92 : decode b_Mo_beginStatement 92 = .ok (.putfield 190, 3) := by decide +kernel
theorem d_Mo_beginStatement_95 : decode b_Mo_beginStatement 95 = .ok (.iload_n 3, 1) := by decide +kernel
theorem d_Mo_beginStatement_96 : decode b_Mo_beginStatement 96 = .ok (.ifCond .eq 10, 3) := by decide +kernel
theorem d_Mo_beginStatement_99 : decode b_Mo_beginStatement 99 = .ok (.aload_n 0, 1) := by decide +kernel
theorem d_Mo_beginStatement_100 : decode b_Mo_beginStatement 100 = .ok (.invokevirtual 242, 3) := by decide +kernel
theorem d_Mo_beginStatement_103 : decode b_Mo_beginStatement 103 = .ok (.goto 9, 3) := by decide +kernel
theorem d_Mo_beginStatement_106 : decode b_Mo_beginStatement 106 = .ok (.aload_n 0, 1) := by decide +kernel
theorem d_Mo_beginStatement_107 : decode b_Mo_beginStatement 107 = .ok (.iload_n 1, 1) := by decide +kernel
theorem d_Mo_beginStatement_108 : decode b_Mo_beginStatement 108 = .ok (.iload_n 2, 1) := by decide +kernel
theorem d_Mo_beginStatement_109 : decode b_Mo_beginStatement 109 = .ok (.invokevirtual 256, 3) := by decide +kernel
theorem d_Mo_beginStatement_112 : decode b_Mo_beginStatement 112 = .ok (.iconst 1, 1) := by decide +kernel
theorem d_Mo_beginStatement_113 : decode b_Mo_beginStatement 113 = .ok (.ireturn, 1) := by decide +kernel
theorem d_Mo_beginStatement_114 : decode b_Mo_beginStatement 114 = .ok (.aload_n 0, 1) := by decide +kernel
theorem d_Mo_beginStatement_115 : decode b_Mo_beginStatement 115 = .ok (.bipush 12, 2) := by decide +kernel
theorem d_Mo_beginStatement_117 : decode b_Mo_beginStatement 117 = .ok (.invokevirtual 193, 3) := by decide +kernel
theorem d_Mo_beginStatement_120 : decode b_Mo_beginStatement 120 = .ok (.ifCond .eq 21, 3) := by decide +kernel
theorem d_Mo_beginStatement_123 : decode b_Mo_beginStatement 123 = .ok (.aload_n 0, 1) := by decide +kernel
theorem d_Mo_beginStatement_124 : decode b_Mo_beginStatement 124 = .ok (.bipush 40, 2) := by decide +kernel
theorem d_Mo_beginStatement_126 : decode b_Mo_beginStatement 126 = .ok (.invokevirtual 227, 3) := by decide +kernel
theorem d_Mo_beginStatement_129 : decode b_Mo_beginStatement 129 = .ok (.aload_n 0, 1) := by decide +kernel
theorem d_Mo_beginStatement_130 : decode b_Mo_beginStatement 130 = .ok (.invokevirtual 242, 3) := by decide +kernel
theorem d_Mo_beginStatement_133 : decode b_Mo_beginStatement 133 = .ok (.aload_n 0, 1) := by decide +kernel
theorem d_Mo_beginStatement_134 : decode b_Mo_beginStatement 134 = .ok (.bipush 41, 2) := by decide +kernel
theorem d_Mo_beginStatement_136 : decode b_Mo_beginStatement 136 = .ok (.invokevirtual 227, 3) := by decide +kernel
theorem d_Mo_beginStatement_139 : decode b_Mo_beginStatement 139 = .ok (.iconst 1, 1) := by decide +kernel
theorem d_Mo_beginStatement_140 : decode b_Mo_beginStatement 140 = .ok (.ireturn, 1) := by decide +kernel
theorem d_Mo_beginStatement_141 : decode b_Mo_beginStatement 141 = .ok (.aload_n 0, 1) := by decide +kernel
theorem d_Mo_beginStatement_142 : decode b_Mo_beginStatement 142 = .ok (.getfield 13, 3) := by decide +kernel
theorem d_Mo_beginStatement_145 : decode b_Mo_beginStatement 145 = .ok (.iload_n 1, 1) := by decide +kernel
theorem d_Mo_beginStatement_146 : decode b_Mo_beginStatement 146 = .ok (.iaload, 1) := by decide +kernel
theorem d_Mo_beginStatement_147 : decode b_Mo_beginStatement 147 = .ok (.iconst 5, 1) := by decide +kernel
theorem d_Mo_beginStatement_148 : decode b_Mo_beginStatement 148 = .ok (.if_icmp .eq 27, 3) := by decide +kernel
theorem d_Mo_beginStatement_151 : decode b_Mo_beginStatement 151 = .ok (.aload_n 0, 1) := by decide +kernel
theorem d_Mo_beginStatement_152 : decode b_Mo_beginStatement 152 = .ok (.getfield 13, 3) := by decide +kernel
theorem d_Mo_beginStatement_155 : decode b_Mo_beginStatement 155 = .ok (.iload_n 1, 1) := by decide +kernel
theorem d_Mo_beginStatement_156 : decode b_Mo_beginStatement 156 = .ok (.iaload, 1) := by decide +kernel
theorem d_Mo_beginStatement_157 : decode b_Mo_beginStatement 157 = .ok (.bipush 7, 2) := by decide +kernel
theorem d_Mo_beginStatement_159 : decode b_Mo_beginStatement 159 = .ok (.if_icmp .eq 16, 3) := by decide +kernel
theorem d_Mo_beginStatement_162 : decode b_Mo_beginStatement 162 = .ok (.aload_n 0, 1) := by decide +kernel
theorem d_Mo_beginStatement_163 : decode b_Mo_beginStatement 163 = .ok (.getfield 13, 3) := by decide +kernel
theorem d_Mo_beginStatement_166 : decode b_Mo_beginStatement 166 = .ok (.iload_n 1, 1) := by decide +kernel
theorem d_Mo_beginStatement_167 : decode b_Mo_beginStatement 167 = .ok (.iaload, 1) := by decide +kernel
theorem d_Mo_beginStatement_168 : decode b_Mo_beginStatement 168 = .ok (.bipush 10, 2) := by decide +kernel
theorem d_Mo_beginStatement_170 : decode b_Mo_beginStatement 170 = .ok (.if_icmp .eq 5, 3) := by decide +kernel
theorem d_Mo_beginStatement_173 : decode b_Mo_beginStatement 173 = .ok (.iconst 1, 1) := by decide +kernel
theorem d_Mo_beginStatement_174 : decode b_Mo_beginStatement 174 = .ok (.ireturn, 1) := by decide +kernel
theorem d_Mo_beginStatement_175 : decode b_Mo_beginStatement 175 = .ok (.aload_n 0, 1) := by decide +kernel
theorem d_Mo_beginStatement_176 : decode b_Mo_beginStatement 176 = .ok (.aload_n 0, 1) := by decide +kernel
theorem d_Mo_beginStatement_177 : decode b_Mo_beginStatement 177 = .ok (.getfield 13, 3) := by decide +kernel
theorem d_Mo_beginStatement_180 : decode b_Mo_beginStatement 180 = .ok (.iload_n 1, 1) := by decide +kernel
theorem d_Mo_beginStatement_181 : decode b_Mo_beginStatement 181 = .ok (.iaload, 1) := by decide +kernel
theorem d_Mo_beginStatement_182 : decode b_Mo_beginStatement 182 = .ok (.iload_n 1, 1) := by decide +kernel
theorem d_Mo_beginStatement_183 : decode b_Mo_beginStatement 183 = .ok (.invokevirtual 259, 3) := by decide +kernel
theorem d_Mo_beginStatement_186 : decode b_Mo_beginStatement 186 = .ok (.aload_n 0, 1) := by decide +kernel
theorem d_Mo_beginStatement_187 : decode b_Mo_beginStatement 187 = .ok (.getfield 187, 3) := by decide +kernel
theorem d_Mo_beginStatement_190 : decode b_Mo_beginStatement 190 = .ok (.ifCond .lt 5, 3) := by decide +kernel
theorem d_Mo_beginStatement_193 : decode b_Mo_beginStatement 193 = .ok (.iconst 1, 1) := by decide +kernel
theorem d_Mo_beginStatement_194 : decode b_Mo_beginStatement 194 = .ok (.ireturn, 1) := by decide +kernel
theorem d_Mo_beginStatement_195 : decode b_Mo_beginStatement 195 = .ok (.aload_n 0, 1) := by decide +kernel
theorem d_Mo_beginStatement_196 : decode b_Mo_beginStatement 196 = .ok (.dup, 1) := by decide +kernel
theorem d_Mo_beginStatement_197 : decode b_Mo_beginStatement 197 = .ok (.getfield 190, 3) := by decide +kernel
theorem d_Mo_beginStatement_200 : decode b_Mo_beginStatement 200 = .ok (.iconst 1, 1) := by decide +kernel
theorem d_Mo_beginStatement_201 : decode b_Mo_beginStatement 201 = .ok (.iadd, 1) := by decide +kernel
theorem d_Mo_beginStatement_202 : decode b_Mo_beginStatement 202 = .ok (.putfield 190, 3) := by decide +kernel
theorem d_Mo_beginStatement_205 : decode b_Mo_beginStatement 205 = .ok (.aload_n 0, 1) := by decide +kernel
theorem d_Mo_beginStatement_206 : decode b_Mo_beginStatement 206 = .ok (.getfield 13, 3) := by decide +kernel
theorem d_Mo_beginStatement_209 : decode b_Mo_beginStatement 209 = .ok (.iload_n 1, 1) := by decide +kernel
theorem d_Mo_beginStatement_210 : decode b_Mo_beginStatement 210 = .ok (.iaload, 1) := by decide +kernel
theorem d_Mo_beginStatement_211 : decode b_Mo_beginStatement 211 = .ok (.iconst 5, 1) := by decide +kernel
theorem d_Mo_beginStatement_212 : decode b_Mo_beginStatement 212 = .ok (.if_icmp .eq 7, 3) := by decide +kernel
theorem d_Mo_beginStatement_215 : decode b_Mo_beginStatement 215 = .ok (.aload_n 0, 1) := by decide +kernel
theorem d_Mo_beginStatement_216 : decode b_Mo_beginStatement 216 = .ok (.invokevirtual 262, 3) := by decide +kernel
theorem d_Mo_beginStatement_219 : decode b_Mo_beginStatement 219 = .ok (.aload_n 0, 1) := by decide +kernel
theorem d_Mo_beginStatement_220 : decode b_Mo_beginStatement 220 = .ok (.getfield 13, 3) := by decide +kernel
theorem d_Mo_beginStatement_223 : decode b_Mo_beginStatement 223 = .ok (.iload_n 1, 1) := by decide +kernel
theorem d_Mo_beginStatement_224 : decode b_Mo_beginStatement 224 = .ok (.iaload, 1) := by decide +kernel
theorem d_Mo_beginStatement_225 : decode b_Mo_beginStatement 225 = .ok (.bipush 7, 2) := by decide +kernel
theorem d_Mo_beginStatement_227 : decode b_Mo_beginStatement 227 = .ok (.if_icmp .ne 9, 3) := by decide +kernel
theorem d_Mo_beginStatement_230 : decode b_Mo_beginStatement 230 = .ok (.aload_n 0, 1) := by decide +kernel
theorem d_Mo_beginStatement_231 : decode b_Mo_beginStatement 231 = .ok (.bipush 8, 2) := by decide +kernel
theorem d_Mo_beginStatement_233 : decode b_Mo_beginStatement 233 = .ok (.invokevirtual 227, 3) := by decide +kernel
theorem d_Mo_beginStatement_236 : decode b_Mo_beginStatement 236 = .ok (.aload_n 0, 1) := by decide +kernel
theorem d_Mo_beginStatement_237 : decode b_Mo_beginStatement 237 = .ok (.getfield 13, 3) := by decide +kernel
theorem d_Mo_beginStatement_240 : decode b_Mo_beginStatement 240 = .ok (.iload_n 1, 1) := by decide +kernel
theorem d_Mo_beginStatement_241 : decode b_Mo_beginStatement 241 = .ok (.iaload, 1) := by decide +kernel
theorem d_Mo_beginStatement_242 : decode b_Mo_beginStatement 242 = .ok (.bipush 10, 2) := by decide +kernel
theorem d_Mo_beginStatement_244 : decode b_Mo_beginStatement 244 = .ok (.if_icmp .ne 9, 3) := by decide +kernel
theorem d_Mo_beginStatement_247 : decode b_Mo_beginStatement 247 = .ok (.aload_n 0, 1) := by decide +kernel
theorem d_Mo_beginStatement_248 : decode b_Mo_beginStatement 248 = .ok (.bipush 11, 2) := by decide +kernel
theorem d_Mo_beginStatement_250 : decode b_Mo_beginStatement 250 = .ok (.invokevirtual 227, 3) := by decide +kernel
theorem d_Mo_beginStatement_253 : decode b_Mo_beginStatement 253 = .ok (.iconst 0, 1) := by decide +kernel
theorem d_Mo_beginStatement_254 : decode b_Mo_beginStatement 254 = .ok (.ireturn, 1) := by decide +kernel
theorem d_Mo_behindStatement_0 : decode b_Mo_behindStatement 0 = .ok (.aload_n 0, 1) := by decide +kernel
theorem d_Mo_behindStatement_1 : decode b_Mo_behindStatement 1 = .ok (.getfield 253, 3) := by decide +kernel
theorem d_Mo_behindStatement_4 : decode b_Mo_behindStatement 4 = .ok (.ifCond .le 149, 3) := by decide +kernel
theorem d_Mo_behindStatement_7 : decode b_Mo_behindStatement 7 = .ok (.aload_n 0, 1) := by decide +kernel
theorem d_Mo_behindStatement_8 : decode b_Mo_behindStatement 8 = .ok (.getfield 187, 3) := by decide +kernel
theorem d_Mo_behindStatement_11 : decode b_Mo_behindStatement 11 = .ok (.ifCond .ge 142, 3) := by decide +kernel
theorem d_Mo_behindStatement_14 : decode b_Mo_behindStatement 14 = .ok (.aload_n 0, 1) := by decide +kernel
theorem d_Mo_behindStatement_15 : decode b_Mo_behindStatement 15 = .ok (.getfield 84, 3) := by decide +kernel
theorem d_Mo_behindStatement_18 : decode b_Mo_behindStatement 18 = .ok (.aload_n 0, 1) := by decide +kernel
theorem d_Mo_behindStatement_19 : decode b_Mo_behindStatement 19 = .ok (.getfield 253, 3) := by decide +kernel
theorem d_Mo_behindStatement_22 : decode b_Mo_behindStatement 22 = .ok (.iconst 1, 1) := by decide +kernel
theorem d_Mo_behindStatement_23 : decode b_Mo_behindStatement 23 = .ok (.isub, 1) := by decide +kernel
theorem d_Mo_behindStatement_24 : decode b_Mo_behindStatement 24 = .ok (.iaload, 1) := by decide +kernel
theorem d_Mo_behindStatement_25 : decode b_Mo_behindStatement 25 = .ok (.istore_n 1, 1) := by decide +kernel
theorem d_Mo_behindStatement_26 : decode b_Mo_behindStatement 26 = .ok (.aload_n 0, 1) := by decide +kernel
theorem d_Mo_behindStatement_27 : decode b_Mo_behindStatement 27 = .ok (.getfield 87, 3) := by decide +kernel
theorem d_Mo_behindStatement_30 : decode b_Mo_behindStatement 30 = .ok (.aload_n 0, 1) := by decide +kernel
theorem d_Mo_behindStatement_31 : decode b_Mo_behindStatement 31 = .ok (.getfield 253, 3) := by decide +kernel
theorem d_Mo_behindStatement_34 : decode b_Mo_behindStatement 34 = .ok (.iconst 1, 1) := by decide +kernel
theorem d_Mo_behindStatement_35 : decode b_Mo_behindStatement 35 = .ok (.isub, 1) := by decide +kernel
theorem d_Mo_behindStatement_36 : decode b_Mo_behindStatement 36 = .ok (.iaload, 1) := by decide +kernel
theorem d_Mo_behindStatement_37 : decode b_Mo_behindStatement 37 = .ok (.istore_n 2, 1) := by decide +kernel
theorem d_Mo_behindStatement_38 : decode b_Mo_behindStatement 38 = .ok (.iload_n 1, 1) := by decide +kernel
theorem d_Mo_behindStatement_39 : decode b_Mo_behindStatement 39 = .ok (.bipush 7, 2) := by decide +kernel
theorem d_Mo_behindStatement_41 : decode b_Mo_behindStatement 41 = .ok (.if_icmp .ne 67, 3) := by decide +kernel
theorem d_Mo_behindStatement_44 : decode b_Mo_behindStatement 44 = .ok (.aload_n 0, 1) := by decide +kernel
theorem d_Mo_behindStatement_45 : decode b_Mo_behindStatement 45 = .ok (.getfield 13, 3) := by decide +kernel
theorem d_Mo_behindStatement_48 : decode b_Mo_behindStatement 48 = .ok (.aload_n 0, 1) := by decide +kernel
theorem d_Mo_behindStatement_49 : decode b_Mo_behindStatement 49 = .ok (.getfield 190, 3) := by decide +kernel
theorem d_Mo_behindStatement_52 : decode b_Mo_behindStatement 52 = .ok (.iaload, 1) := by decide +kernel
theorem d_Mo_behindStatement_53 : decode b_Mo_behindStatement 53 = .ok (.bipush 9, 2) := by decide +kernel
theorem d_Mo_behindStatement_55 : decode b_Mo_behindStatement 55 = .ok (.if_icmp .ne 53, 3) := by decide +kernel
theorem d_Mo_behindStatement_58 : decode b_Mo_behindStatement 58 = .ok (.aload_n 0, 1) := by decide +kernel
theorem d_Mo_behindStatement_59 : decode b_Mo_behindStatement 59 = .ok (.getfield 29, 3) := by decide +kernel
theorem d_Mo_behindStatement_62 : decode b_Mo_behindStatement 62 = .ok (.iload_n 2, 1) := by decide +kernel
theorem d_Mo_behindStatement_63 : decode b_Mo_behindStatement 63 = .ok (.aload_n 0, 1) := by decide +kernel
theorem d_Mo_behindStatement_64 : decode b_Mo_behindStatement 64 = .ok (.getfield 190, 3) := by decide +kernel
theorem d_Mo_behindStatement_67 : decode b_Mo_behindStatement 67 = .ok (.iastore, 1) := by decide +kernel
theorem d_Mo_behindStatement_68 : decode b_Mo_behindStatement 68 = .ok (.aload_n 0, 1) := by decide +kernel
theorem d_Mo_behindStatement_69 : decode b_Mo_behindStatement 69 = .ok (.getfield 84, 3) := by decide +kernel
theorem d_Mo_behindStatement_72 : decode b_Mo_behindStatement 72 = .ok (.aload_n 0, 1) := by decide +kernel
theorem d_Mo_behindStatement_73 : decode b_Mo_behindStatement 73 = .ok (.getfield 253, 3) := by decide +kernel
theorem d_Mo_behindStatement_76 : decode b_Mo_behindStatement 76 = .ok (.iconst 1, 1) := by decide +kernel
theorem d_Mo_behindStatement_77 : decode b_Mo_behindStatement 77 = .ok (.isub, 1) := by decide +kernel
theorem d_Mo_behindStatement_78 : decode b_Mo_behindStatement 78 = .ok (.bipush 9, 2) := by decide +kernel
theorem d_Mo_behindStatement_80 : decode b_Mo_behindStatement 80 = .ok (.iastore, 1) := by decide +kernel
theorem d_Mo_behindStatement_81 : decode b_Mo_behindStatement 81 = .ok (.aload_n 0, 1) := by decide +kernel
theorem d_Mo_behindStatement_82 : decode b_Mo_behindStatement 82 = .ok (.getfield 87, 3) := by decide +kernel
theorem d_Mo_behindStatement_85 : decode b_Mo_behindStatement 85 = .ok (.aload_n 0, 1) := by decide +kernel
theorem d_Mo_behindStatement_86 : decode b_Mo_behindStatement 86 = .ok (.getfield 253, 3) := by decide +kernel
theorem d_Mo_behindStatement_89 : decode b_Mo_behindStatement 89 = .ok (.iconst 1, 1) := by decide +kernel
theorem d_Mo_behindStatement_90 : decode b_Mo_behindStatement 90 = .ok (.isub, 1) := by decide +kernel
theorem d_Mo_behindStatement_91 : decode b_Mo_behindStatement 91 = .ok (.aload_n 0, 1) := by decide +kernel
theorem d_Mo_behindStatement_92 : decode b_Mo_behindStatement 92 = .ok (.getfield 190, 3) := by decide +kernel
theorem d_Mo_behindStatement_95 : decode b_Mo_behindStatement 95 = .ok (.iastore, 1) := by decide +kernel
theorem d_Mo_behindStatement_96 : decode b_Mo_behindStatement 96 = .ok (.aload_n 0, 1) := by decide +kernel
theorem d_Mo_behindStatement_97 : decode b_Mo_behindStatement 97 = .ok (.dup, 1) := by decide +kernel
theorem d_Mo_behindStatement_98 : decode b_Mo_behindStatement 98 = .ok (.getfield 190, 3) := by decide +kernel
theorem d_Mo_behindStatement_101 : decode b_Mo_behindStatement 101 = .ok (.iconst 1, 1) := by decide +kernel
theorem d_Mo_behindStatement_102 : decode b_Mo_behindStatement 102 = .ok (.iadd, 1) := by decide +kernel
theorem d_Mo_behindStatement_103 : decode b_Mo_behindStatement 103 = .ok (.putfield 190, 3) := by decide +kernel
theorem d_Mo_behindStatement_106 : decode b_Mo_behindStatement 106 = .ok (.iconst 1, 1) := by decide +kernel
theorem d_Mo_behindStatement_107 : decode b_Mo_behindStatement 107 = .ok (.ireturn, 1) := by decide +kernel
theorem d_Mo_behindStatement_108 : decode b_Mo_behindStatement 108 = .ok (.iload_n 1, 1) := by decide +kernel
theorem d_Mo_behindStatement_109 : decode b_Mo_behindStatement 109 = .ok (.iconst 5, 1) := by decide +kernel
theorem d_Mo_behindStatement_110 : decode b_Mo_behindStatement 110 = .ok (.if_icmp .ne 20, 3) := by decide +kernel
theorem d_Mo_behindStatement_113 : decode b_Mo_behindStatement 113 = .ok (.aload_n 0, 1) := by decide +kernel
theorem d_Mo_behindStatement_114 : decode b_Mo_behindStatement 114 = .ok (.bipush 59, 2) := by decide +kernel
theorem d_Mo_behindStatement_116 : decode b_Mo_behindStatement 116 = .ok (.invokevirtual 193, 3) := by decide +kernel
theorem d_Mo_behindStatement_119 : decode b_Mo_behindStatement 119 = .ok (.ifCond .eq 5, 3) := by decide +kernel
theorem d_Mo_behindStatement_122 : decode b_Mo_behindStatement 122 = .ok (.iconst 1, 1) := by decide +kernel
theorem d_Mo_behindStatement_123 : decode b_Mo_behindStatement 123 = .ok (.ireturn, 1) := by decide +kernel
theorem d_Mo_behindStatement_124 : decode b_Mo_behindStatement 124 = .ok (.aload_n 0, 1) := by decide +kernel
theorem d_Mo_behindStatement_125 : decode b_Mo_behindStatement 125 = .ok (.bipush 6, 2) := by decide +kernel
theorem d_Mo_behindStatement_127 : decode b_Mo_behindStatement 127 = .ok (.invokevirtual 227, 3) := by decide +kernel
theorem d_Mo_behindStatement_130 : decode b_Mo_behindStatement 130 = .ok (.aload_n 0, 1) := by decide +kernel
theorem d_Mo_behindStatement_131 : decode b_Mo_behindStatement 131 = .ok (.getfield 29, 3) := by decide +kernel
theorem d_Mo_behindStatement_134 : decode b_Mo_behindStatement 134 = .ok (.iload_n 2, 1) := by decide +kernel
theorem d_Mo_behindStatement_135 : decode b_Mo_behindStatement 135 = .ok (.aload_n 0, 1) := by decide +kernel
theorem d_Mo_behindStatement_136 : decode b_Mo_behindStatement 136 = .ok (.getfield 190, 3) := by decide +kernel
theorem d_Mo_behindStatement_139 : decode b_Mo_behindStatement 139 = .ok (.iastore, 1) := by decide +kernel
theorem d_Mo_behindStatement_140 : decode b_Mo_behindStatement 140 = .ok (.aload_n 0, 1) := by decide +kernel
theorem d_Mo_behindStatement_141 : decode b_Mo_behindStatement 141 = .ok (.dup, 1) := by decide +kernel
theorem d_Mo_behindStatement_142 : decode b_Mo_behindStatement 142 = .ok (.getfield 253, 3) := by decide +kernel
theorem d_Mo_behindStatement_145 : decode b_Mo_behindStatement 145 = .ok (.iconst 1, 1) := by decide +kernel
theorem d_Mo_behindStatement_146 : decode b_Mo_behindStatement 146 = .ok (.isub, 1) := by decide +kernel
theorem d_Mo_behindStatement_147 : decode b_Mo_behindStatement 147 = .ok (.putfield 253, 3) := by decide +kernel
theorem d_Mo_behindStatement_150 : decode b_Mo_behindStatement 150 = .ok (.goto (-150), 3) := by decide +kernel
theorem d_Mo_behindStatement_153 : decode b_Mo_behindStatement 153 = .ok (.aload_n 0, 1) := by decide +kernel
theorem d_Mo_behindStatement_154 : decode b_Mo_behindStatement 154 = .ok (.bipush 59, 2) := by decide +kernel
theorem d_Mo_behindStatement_156 : decode b_Mo_behindStatement 156 = .ok (.invokevirtual 193, 3) := by decide +kernel
theorem d_Mo_behindStatement_159 : decode b_Mo_behindStatement 159 = .ok (.ireturn, 1) := by decide +kernel
theorem d_Mo_statements_0 : decode b_Mo_statements 0 = .ok (.aload_n 0, 1) := by decide +kernel
theorem d_Mo_statements_1 : decode b_Mo_statements 1 = .ok (.getfield 66, 3) := by decide +kernel
theorem d_Mo_statements_4 : decode b_Mo_statements 4 = .ok (.aload_n 0, 1) := by decide +kernel
theorem d_Mo_statements_5 : decode b_Mo_statements 5 = .ok (.getfield 208, 3) := by decide +kernel
theorem d_Mo_statements_8 : decode b_Mo_statements 8 = .ok (.aload_n 0, 1) := by decide +kernel
theorem d_Mo_statements_9 : decode b_Mo_statements 9 = .ok (.getfield 190, 3) := by decide +kernel
theorem d_Mo_statements_12 : decode b_Mo_statements 12 = .ok (.iastore, 1) := by decide +kernel
theorem d_Mo_statements_13 : decode b_Mo_statements 13 = .ok (.aload_n 0, 1) := by decide +kernel
theorem d_Mo_statements_14 : decode b_Mo_statements 14 = .ok (.iconst 0, 1) := by decide +kernel
theorem d_Mo_statements_15 : decode b_Mo_statements 15 = .ok (.putfield 253, 3) := by decide +kernel
theorem d_Mo_statements_18 : decode b_Mo_statements 18 = .ok (.iconst 1, 1) := by decide +kernel
theorem d_Mo_statements_19 : decode b_Mo_statements 19 = .ok (.istore_n 1, 1) := by decide +kernel
theorem d_Mo_statements_20 : decode b_Mo_statements 20 = .ok (.iload_n 1, 1) := by decide +kernel
theorem d_Mo_statements_21 : decode b_Mo_statements 21 = .ok (.ifCond .eq 25, 3) := by decide +kernel
theorem d_Mo_statements_24 : decode b_Mo_statements 24 = .ok (.aload_n 0, 1) := by decide +kernel
theorem d_Mo_statements_25 : decode b_Mo_statements 25 = .ok (.getfield 187, 3) := by decide +kernel
theorem d_Mo_statements_28 : decode b_Mo_statements 28 = .ok (.ifCond .ge 18, 3) := by decide +kernel
theorem d_Mo_statements_31 : decode b_Mo_statements 31 = .ok (.aload_n 0, 1) := by decide +kernel
theorem d_Mo_statements_32 : decode b_Mo_statements 32 = .ok (.invokevirtual 265, 3) := by decide +kernel
theorem d_Mo_statements_35 : decode b_Mo_statements 35 = .ok (.ifCond .eq (-15), 3) := by decide +kernel
theorem d_Mo_statements_38 : decode b_Mo_statements 38 = .ok (.aload_n 0, 1) := by decide +kernel
theorem d_Mo_statements_39 : decode b_Mo_statements 39 = .ok (.invokevirtual 269, 3) := by decide +kernel
theorem d_Mo_statements_42 : decode b_Mo_statements 42 = .ok (.istore_n 1, 1) := by decide +kernel
theorem d_Mo_statements_43 : decode b_Mo_statements 43 = .ok (.goto (-23), 3) := by decide +kernel
theorem d_Mo_statements_46 : decode b_Mo_statements 46 = .ok (.aload_n 0, 1) := by decide +kernel
theorem d_Mo_statements_47 : decode b_Mo_statements 47 = .ok (.bipush 6, 2) := by decide +kernel
theorem d_Mo_statements_49 : decode b_Mo_statements 49 = .ok (.invokevirtual 227, 3) := by decide +kernel
theorem d_Mo_statements_52 : decode b_Mo_statements 52 = .ok (.return_, 1) := by decide +kernel
theorem d_Mo_readProgram_0 : decode b_Mo_readProgram 0 = .ok (.aload_n 0, 1) := by decide +kernel
theorem d_Mo_readProgram_1 : decode b_Mo_readProgram 1 = .ok (.iconst 0, 1) := by decide +kernel
theorem d_Mo_readProgram_2 : decode b_Mo_readProgram 2 = .ok (.putfield 205, 3) := by decide +kernel
theorem d_Mo_readProgram_5 : decode b_Mo_readProgram 5 = .ok (.aload_n 0, 1) := by decide +kernel
theorem d_Mo_readProgram_6 : decode b_Mo_readProgram 6 = .ok (.iconst 0, 1) := by decide +kernel
theorem d_Mo_readProgram_7 : decode b_Mo_readProgram 7 = .ok (.putfield 202, 3) := by decide +kernel
theorem d_Mo_readProgram_10 : decode b_Mo_readProgram 10 = .ok (.aload_n 0, 1) := by decide +kernel
theorem d_Mo_readProgram_11 : decode b_Mo_readProgram 11 = .ok (.iconst 0, 1) := by decide +kernel
theorem d_Mo_readProgram_12 : decode b_Mo_readProgram 12 = .ok (.putfield 199, 3) := by decide +kernel
theorem d_Mo_readProgram_15 : decode b_Mo_readProgram 15 = .ok (.aload_n 0, 1) := by decide +kernel
theorem d_Mo_readProgram_16 : decode b_Mo_readProgram 16 = .ok (.iconst 0, 1) := by decide +kernel
theorem d_Mo_readProgram_17 : decode b_Mo_readProgram 17 = .ok (.putfield 211, 3) := by decide +kernel
theorem d_Mo_readProgram_20 : decode b_Mo_readProgram 20 = .ok (.aload_n 0, 1) := by decide +kernel
theorem d_Mo_readProgram_21 : decode b_Mo_readProgram 21 = .ok (.iconst (-1), 1) := by decide +kernel
theorem d_Mo_readProgram_22 : decode b_Mo_readProgram 22 = .ok (.invokevirtual 221, 3) := by decide +kernel
theorem d_Mo_readProgram_25 : decode b_Mo_readProgram 25 = .ok (.aload_n 0, 1) := by decide +kernel
theorem d_Mo_readProgram_26 : decode b_Mo_readProgram 26 = .ok (.invokevirtual 230, 3) := by decide +kernel
theorem d_Mo_readProgram_29 : decode b_Mo_readProgram 29 = .ok (.iconst 1, 1) := by decide +kernel
theorem d_Mo_readProgram_30 : decode b_Mo_readProgram 30 = .ok (.istore_n 1, 1) := by decide +kernel
theorem d_Mo_readProgram_31 : decode b_Mo_readProgram 31 = .ok (.iload_n 1, 1) := by decide +kernel
theorem d_Mo_readProgram_32 : decode b_Mo_readProgram 32 = .ok (.ifCond .eq 96, 3) := by decide +kernel
theorem d_Mo_readProgram_35 : decode b_Mo_readProgram 35 = .ok (.aload_n 0, 1) := by decide +kernel
theorem d_Mo_readProgram_36 : decode b_Mo_readProgram 36 = .ok (.getfield 187, 3) := by decide +kernel
theorem d_Mo_readProgram_39 : decode b_Mo_readProgram 39 = .ok (.ifCond .ge 89, 3) := by decide +kernel
theorem d_Mo_readProgram_42 : decode b_Mo_readProgram 42 = .ok (.aload_n 0, 1) := by decide +kernel
theorem d_Mo_readProgram_43 : decode b_Mo_readProgram 43 = .ok (.iconst 4, 1) := by decide +kernel
theorem d_Mo_readProgram_44 : decode b_Mo_readProgram 44 = .ok (.invokevirtual 193, 3) := by decide +kernel
theorem d_Mo_readProgram_47 : decode b_Mo_readProgram 47 = .ok (.ifCond .eq 10, 3) := by decide +kernel
theorem d_Mo_readProgram_50 : decode b_Mo_readProgram 50 = .ok (.aload_n 0, 1) := by decide +kernel
theorem d_Mo_readProgram_51 : decode b_Mo_readProgram 51 = .ok (.invokevirtual 272, 3) := by decide +kernel
theorem d_Mo_readProgram_54 : decode b_Mo_readProgram 54 = .ok (.goto (-23), 3) := by decide +kernel
theorem d_Mo_readProgram_57 : decode b_Mo_readProgram 57 = .ok (.aload_n 0, 1) := by decide +kernel
theorem d_Mo_readProgram_58 : decode b_Mo_readProgram 58 = .ok (.iconst 5, 1) := by decide +kernel
theorem d_Mo_readProgram_59 : decode b_Mo_readProgram 59 = .ok (.invokevirtual 227, 3) := by decide +kernel
theorem d_Mo_readProgram_62 : decode b_Mo_readProgram 62 = .ok (.aload_n 0, 1) := by decide +kernel
theorem d_Mo_readProgram_63 : decode b_Mo_readProgram 63 = .ok (.getfield 187, 3) := by decide +kernel
theorem d_Mo_readProgram_66 : decode b_Mo_readProgram 66 = .ok (.ifCond .ge 7, 3) := by decide +kernel
theorem d_Mo_readProgram_69 : decode b_Mo_readProgram 69 = .ok (.aload_n 0, 1) := by decide +kernel
theorem d_Mo_readProgram_70 : decode b_Mo_readProgram 70 = .ok (.invokevirtual 275, 3) := by decide +kernel
theorem d_Mo_readProgram_73 : decode b_Mo_readProgram 73 = .ok (.aload_n 0, 1) := by decide +kernel
theorem d_Mo_readProgram_74 : decode b_Mo_readProgram 74 = .ok (.getfield 63, 3) := by decide +kernel
theorem d_Mo_readProgram_77 : decode b_Mo_readProgram 77 = .ok (.aload_n 0, 1) := by decide +kernel
theorem d_Mo_readProgram_78 : decode b_Mo_readProgram 78 = .ok (.getfield 208, 3) := by decide +kernel
theorem d_Mo_readProgram_81 : decode b_Mo_readProgram 81 = .ok (.iaload, 1) := by decide +kernel
theorem d_Mo_readProgram_82 : decode b_Mo_readProgram 82 = .ok (.ifCond .lt 7, 3) := by decide +kernel
theorem d_Mo_readProgram_85 : decode b_Mo_readProgram 85 = .ok (.iconst 1, 1) := by decide +kernel
theorem d_Mo_readProgram_86 : decode b_Mo_readProgram 86 = .ok (.goto 4, 3) := by decide +kernel
theorem d_Mo_readProgram_89 : decode b_Mo_readProgram 89 = .ok (.iconst 0, 1) := by decide +kernel
theorem d_Mo_readProgram_90 : decode b_Mo_readProgram 90 = .ok (.istore_n 1, 1) := by decide +kernel
theorem d_Mo_readProgram_91 : decode b_Mo_readProgram 91 = .ok (.aload_n 0, 1) := by decide +kernel
theorem d_Mo_readProgram_92 : decode b_Mo_readProgram 92 = .ok (.iload_n 1, 1) := by decide +kernel
theorem d_Mo_readProgram_93 : decode b_Mo_readProgram 93 = .ok (.ifCond .eq 15, 3) := by decide +kernel
theorem d_Mo_readProgram_96 : decode b_Mo_readProgram 96 = .ok (.aload_n 0, 1) := by decide +kernel
theorem d_Mo_readProgram_97 : decode b_Mo_readProgram 97 = .ok (.getfield 63, 3) := by decide +kernel
theorem d_Mo_readProgram_100 : decode b_Mo_readProgram 100 = .ok (.aload_n 0, 1) := by decide +kernel
theorem d_Mo_readProgram_101 : decode b_Mo_readProgram 101 = .ok (.getfield 208, 3) := by decide +kernel
theorem d_Mo_readProgram_104 : decode b_Mo_readProgram 104 = .ok (.iaload, 1) := by decide +kernel
theorem d_Mo_readProgram_105 : decode b_Mo_readProgram 105 = .ok (.goto 7, 3) := by decide +kernel
theorem d_Mo_readProgram_108 : decode b_Mo_readProgram 108 = .ok (.aload_n 0, 1) := by decide +kernel
theorem d_Mo_readProgram_109 : decode b_Mo_readProgram 109 = .ok (.getfield 208, 3) := by decide +kernel
theorem d_Mo_readProgram_112 : decode b_Mo_readProgram 112 = .ok (.putfield 208, 3) := by decide +kernel
theorem d_Mo_readProgram_115 : decode b_Mo_readProgram 115 = .ok (.iload_n 1, 1) := by decide +kernel
theorem d_Mo_readProgram_116 : decode b_Mo_readProgram 116 = .ok (.ifCond .eq (-85), 3) := by decide +kernel
theorem d_Mo_readProgram_119 : decode b_Mo_readProgram 119 = .ok (.aload_n 0, 1) := by decide +kernel
theorem d_Mo_readProgram_120 : decode b_Mo_readProgram 120 = .ok (.bipush 59, 2) := by decide +kernel
theorem d_Mo_readProgram_122 : decode b_Mo_readProgram 122 = .ok (.invokevirtual 227, 3) := by decide +kernel
theorem d_Mo_readProgram_125 : decode b_Mo_readProgram 125 = .ok (.goto (-94), 3) := by decide +kernel
theorem d_Mo_readProgram_128 : decode b_Mo_readProgram 128 = .ok (.aload_n 0, 1) := by decide +kernel
theorem d_Mo_readProgram_129 : decode b_Mo_readProgram 129 = .ok (.bipush 46, 2) := by decide +kernel
theorem d_Mo_readProgram_131 : decode b_Mo_readProgram 131 = .ok (.invokevirtual 227, 3) := by decide +kernel
theorem d_Mo_readProgram_134 : decode b_Mo_readProgram 134 = .ok (.aload_n 0, 1) := by decide +kernel
theorem d_Mo_readProgram_135 : decode b_Mo_readProgram 135 = .ok (.getfield 187, 3) := by decide +kernel
theorem d_Mo_readProgram_138 : decode b_Mo_readProgram 138 = .ok (.ifCond .ge 23, 3) := by decide +kernel
theorem d_Mo_readProgram_141 : decode b_Mo_readProgram 141 = .ok (.aload_n 0, 1) := by decide +kernel
theorem d_Mo_readProgram_142 : decode b_Mo_readProgram 142 = .ok (.getfield 13, 3) := by decide +kernel
theorem d_Mo_readProgram_145 : decode b_Mo_readProgram 145 = .ok (.aload_n 0, 1) := by decide +kernel
theorem d_Mo_readProgram_146 : decode b_Mo_readProgram 146 = .ok (.getfield 190, 3) := by decide +kernel
theorem d_Mo_readProgram_149 : decode b_Mo_readProgram 149 = .ok (.iaload, 1) := by decide +kernel
theorem d_Mo_readProgram_150 : decode b_Mo_readProgram 150 = .ok (.ifCond .eq 11, 3) := by decide +kernel
theorem d_Mo_readProgram_153 : decode b_Mo_readProgram 153 = .ok (.aload_n 0, 1) := by decide +kernel
theorem d_Mo_readProgram_154 : decode b_Mo_readProgram 154 = .ok (.aload_n 0, 1) := by decide +kernel
theorem d_Mo_readProgram_155 : decode b_Mo_readProgram 155 = .ok (.getfield 190, 3) := by decide +kernel
theorem d_Mo_readProgram_158 : decode b_Mo_readProgram 158 = .ok (.invokevirtual 196, 3) := by decide +kernel
theorem d_Mo_readProgram_161 : decode b_Mo_readProgram 161 = .ok (.return_, 1) := by decide +kernel
theorem d_Mo_compile_0 : decode b_Mo_compile 0 = .ok (.aload_n 0, 1) := by decide +kernel
theorem d_Mo_compile_1 : decode b_Mo_compile 1 = .ok (.iconst 0, 1) := by decide +kernel
theorem d_Mo_compile_2 : decode b_Mo_compile 2 = .ok (.putfield 132, 3) := by decide +kernel
theorem d_Mo_compile_5 : decode b_Mo_compile 5 = .ok (.aload_n 0, 1) := by decide +kernel
theorem d_Mo_compile_6 : decode b_Mo_compile 6 = .ok (.invokevirtual 278, 3) := by decide +kernel
theorem d_Mo_compile_9 : decode b_Mo_compile 9 = .ok (.aload_n 0, 1) := by decide +kernel
theorem d_Mo_compile_10 : decode b_Mo_compile 10 = .ok (.iconst 0, 1) := by decide +kernel
theorem d_Mo_compile_11 : decode b_Mo_compile 11 = .ok (.putfield 190, 3) := by decide +kernel
theorem d_Mo_compile_14 : decode b_Mo_compile 14 = .ok (.aload_n 0, 1) := by decide +kernel
theorem d_Mo_compile_15 : decode b_Mo_compile 15 = .ok (.iconst (-1), 1) := by decide +kernel
theorem d_Mo_compile_16 : decode b_Mo_compile 16 = .ok (.putfield 187, 3) := by decide +kernel
theorem d_Mo_compile_19 : decode b_Mo_compile 19 = .ok (.aload_n 0, 1) := by decide +kernel
theorem d_Mo_compile_20 : decode b_Mo_compile 20 = .ok (.invokevirtual 281, 3) := by decide +kernel
theorem d_Mo_compile_23 : decode b_Mo_compile 23 = .ok (.aload_n 0, 1) := by decide +kernel
theorem d_Mo_compile_24 : decode b_Mo_compile 24 = .ok (.getfield 187, 3) := by decide +kernel
theorem d_Mo_compile_27 : decode b_Mo_compile 27 = .ok (.ifCond .lt 58, 3) := by decide +kernel
theorem d_Mo_compile_30 : decode b_Mo_compile 30 = .ok (.aload_n 0, 1) := by decide +kernel
theorem d_Mo_compile_31 : decode b_Mo_compile 31 = .ok (.aload_n 0, 1) := by decide +kernel
theorem d_Mo_compile_32 : decode b_Mo_compile 32 = .ok (.getfield 187, 3) := by decide +kernel
theorem d_Mo_compile_35 : decode b_Mo_compile 35 = .ok (.aload_n 0, 1) := by decide +kernel
theorem d_Mo_compile_36 : decode b_Mo_compile 36 = .ok (.getfield 162, 3) := by decide +kernel
theorem d_Mo_compile_39 : decode b_Mo_compile 39 = .ok (.if_icmp .ge 15, 3) := by decide +kernel
theorem d_Mo_compile_42 : decode b_Mo_compile 42 = .ok (.aload_n 0, 1) := by decide +kernel
theorem d_Mo_compile_43 : decode b_Mo_compile 43 = .ok (.getfield 20, 3) := by decide +kernel
theorem d_Mo_compile_46 : decode b_Mo_compile 46 = .ok (.aload_n 0, 1) := by decide +kernel
theorem d_Mo_compile_47 : decode b_Mo_compile 47 = .ok (.getfield 187, 3) := by decide +kernel
theorem d_Mo_compile_50 : decode b_Mo_compile 50 = .ok (.iaload, 1) := by decide +kernel
theorem d_Mo_compile_51 : decode b_Mo_compile 51 = .ok (.goto 25, 3) := by decide +kernel
theorem d_Mo_compile_54 : decode b_Mo_compile 54 = .ok (.aload_n 0, 1) := by decide +kernel
theorem d_Mo_compile_55 : decode b_Mo_compile 55 = .ok (.getfield 162, 3) := by decide +kernel
theorem d_Mo_compile_58 : decode b_Mo_compile 58 = .ok (.ifCond .ne 7, 3) := by decide +kernel
theorem d_Mo_compile_61 : decode b_Mo_compile 61 = .ok (.iconst 0, 1) := by decide +kernel
theorem d_Mo_compile_62 : decode b_Mo_compile 62 = .ok (.goto 14, 3) := by decide +kernel
theorem d_Mo_compile_65 : decode b_Mo_compile 65 = .ok (.aload_n 0, 1) := by decide +kernel
theorem d_Mo_compile_66 : decode b_Mo_compile 66 = .ok (.getfield 23, 3) := by decide +kernel
theorem d_Mo_compile_69 : decode b_Mo_compile 69 = .ok (.aload_n 0, 1) := by decide +kernel
theorem d_Mo_compile_70 : decode b_Mo_compile 70 = .ok (.getfield 162, 3) := by decide +kernel
theorem d_Mo_compile_73 : decode b_Mo_compile 73 = .ok (.iconst 1, 1) := by decide +kernel
theorem d_Mo_compile_74 : decode b_Mo_compile 74 = .ok (.isub, 1) := by decide +kernel
theorem d_Mo_compile_75 : decode b_Mo_compile 75 = .ok (.iaload, 1) := by decide +kernel
theorem d_Mo_compile_76 : decode b_Mo_compile 76 = .ok (.putfield 44, 3) := by decide +kernel
theorem d_Mo_compile_79 : decode b_Mo_compile 79 = .ok (.aload_n 0, 1) := by decide +kernel
theorem d_Mo_compile_80 : decode b_Mo_compile 80 = .ok (.iconst 1, 1) := by decide +kernel
theorem d_Mo_compile_81 : decode b_Mo_compile 81 = .ok (.invokevirtual 135, 3) := by decide +kernel
theorem d_Mo_compile_84 : decode b_Mo_compile 84 = .ok (.ireturn, 1) := by decide +kernel
theorem d_Mo_compile_85 : decode b_Mo_compile 85 = .ok (.aload_n 0, 1) := by decide +kernel
theorem d_Mo_compile_86 : decode b_Mo_compile 86 = .ok (.iconst (-1), 1) := by decide +kernel
theorem d_Mo_compile_87 : decode b_Mo_compile 87 = .ok (.putfield 44, 3) := by decide +kernel
theorem d_Mo_compile_90 : decode b_Mo_compile 90 = .ok (.aload_n 0, 1) := by decide +kernel
theorem d_Mo_compile_91 : decode b_Mo_compile 91 = .ok (.iconst 1, 1) := by decide +kernel
theorem d_Mo_compile_92 : decode b_Mo_compile 92 = .ok (.putfield 284, 3) := by decide +kernel
theorem d_Mo_compile_95 : decode b_Mo_compile 95 = .ok (.iconst 0, 1) := by decide +kernel
theorem d_Mo_compile_96 : decode b_Mo_compile 96 = .ok (.istore_n 1, 1) := by decide +kernel
theorem d_Mo_compile_97 : decode b_Mo_compile 97 = .ok (.iload_n 1, 1) := by decide +kernel
theorem d_Mo_compile_98 : decode b_Mo_compile 98 = .ok (.sipush 155, 3) := by decide +kernel
theorem d_Mo_compile_101 : decode b_Mo_compile 101 = .ok (.if_icmp .ge 58, 3) := by decide +kernel
theorem d_Mo_compile_104 : decode b_Mo_compile 104 = .ok (.aload_n 0, 1) := by decide +kernel
theorem d_Mo_compile_105 : decode b_Mo_compile 105 = .ok (.getfield 32, 3) := by decide +kernel
theorem d_Mo_compile_108 : decode b_Mo_compile 108 = .ok (.iload_n 1, 1) := by decide +kernel
theorem d_Mo_compile_109 : decode b_Mo_compile 109 = .ok (.aload_n 0, 1) := by decide +kernel
theorem d_Mo_compile_110 : decode b_Mo_compile 110 = .ok (.getfield 13, 3) := by decide +kernel
theorem d_Mo_compile_113 : decode b_Mo_compile 113 = .ok (.iload_n 1, 1) := by decide +kernel
theorem d_Mo_compile_114 : decode b_Mo_compile 114 = .ok (.iaload, 1) := by decide +kernel
theorem d_Mo_compile_115 : decode b_Mo_compile 115 = .ok (.iastore, 1) := by decide +kernel
theorem d_Mo_compile_116 : decode b_Mo_compile 116 = .ok (.aload_n 0, 1) := by decide +kernel
theorem d_Mo_compile_117 : decode b_Mo_compile 117 = .ok (.getfield 35, 3) := by decide +kernel
theorem d_Mo_compile_120 : decode b_Mo_compile 120 = .ok (.iload_n 1, 1) := by decide +kernel
theorem d_Mo_compile_121 : decode b_Mo_compile 121 = .ok (.aload_n 0, 1) := by decide +kernel
theorem d_Mo_compile_122 : decode b_Mo_compile 122 = .ok (.getfield 16, 3) := by decide +kernel
theorem d_Mo_compile_125 : decode b_Mo_compile 125 = .ok (.iload_n 1, 1) := by decide +kernel
theorem d_Mo_compile_126 : decode b_Mo_compile 126 = .ok (.laload, 1) := by decide +kernel
theorem d_Mo_compile_127 : decode b_Mo_compile 127 = .ok (.l2i, 1) := by decide +kernel
theorem d_Mo_compile_128 : decode b_Mo_compile 128 = .ok (.iastore, 1) := by decide +kernel
theorem d_Mo_compile_129 : decode b_Mo_compile 129 = .ok (.aload_n 0, 1) := by decide +kernel
theorem d_Mo_compile_130 : decode b_Mo_compile 130 = .ok (.getfield 38, 3) := by decide +kernel
theorem d_Mo_compile_133 : decode b_Mo_compile 133 = .ok (.iload_n 1, 1) := by decide +kernel
theorem d_Mo_compile_134 : decode b_Mo_compile 134 = .ok (.aload_n 0, 1) := by decide +kernel
theorem d_Mo_compile_135 : decode b_Mo_compile 135 = .ok (.getfield 26, 3) := by decide +kernel
theorem d_Mo_compile_138 : decode b_Mo_compile 138 = .ok (.iload_n 1, 1) := by decide +kernel
theorem d_Mo_compile_139 : decode b_Mo_compile 139 = .ok (.iaload, 1) := by decide +kernel
theorem d_Mo_compile_140 : decode b_Mo_compile 140 = .ok (.iastore, 1) := by decide +kernel
theorem d_Mo_compile_141 : decode b_Mo_compile 141 = .ok (.aload_n 0, 1) := by decide +kernel
theorem d_Mo_compile_142 : decode b_Mo_compile 142 = .ok (.getfield 41, 3) := by decide +kernel
theorem d_Mo_compile_145 : decode b_Mo_compile 145 = .ok (.iload_n 1, 1) := by decide +kernel
theorem d_Mo_compile_146 : decode b_Mo_compile 146 = .ok (.aload_n 0, 1) := by decide +kernel
theorem d_Mo_compile_147 : decode b_Mo_compile 147 = .ok (.getfield 29, 3) := by decide +kernel
theorem d_Mo_compile_150 : decode b_Mo_compile 150 = .ok (.iload_n 1, 1) := by decide +kernel
theorem d_Mo_compile_151 : decode b_Mo_compile 151 = .ok (.iaload, 1) := by decide +kernel
theorem d_Mo_compile_152 : decode b_Mo_compile 152 = .ok (.iastore, 1) := by decide +kernel
theorem d_Mo_compile_153 : decode b_Mo_compile 153 = .ok (.iinc 1 1, 3) := by decide +kernel
theorem d_Mo_compile_156 : decode b_Mo_compile 156 = .ok (.goto (-59), 3) := by decide +kernel
theorem d_Mo_compile_159 : decode b_Mo_compile 159 = .ok (.iconst 0, 1) := by decide +kernel
theorem d_Mo_compile_160 : decode b_Mo_compile 160 = .ok (.istore_n 1, 1) := by decide +kernel
theorem d_Mo_compile_161 : decode b_Mo_compile 161 = .ok (.iload_n 1, 1) := by decide +kernel
theorem d_Mo_compile_162 : decode b_Mo_compile 162 = .ok (.bipush 18, 2) := by decide +kernel
theorem d_Mo_compile_164 : decode b_Mo_compile 164 = .ok (.if_icmp .ge 57, 3) := by decide +kernel
theorem d_Mo_compile_167 : decode b_Mo_compile 167 = .ok (.aload_n 0, 1) := by decide +kernel
theorem d_Mo_compile_168 : decode b_Mo_compile 168 = .ok (.getfield 69, 3) := by decide +kernel
theorem d_Mo_compile_171 : decode b_Mo_compile 171 = .ok (.iload_n 1, 1) := by decide +kernel
theorem d_Mo_compile_172 : decode b_Mo_compile 172 = .ok (.aload_n 0, 1) := by decide +kernel
theorem d_Mo_compile_173 : decode b_Mo_compile 173 = .ok (.getfield 51, 3) := by decide +kernel
theorem d_Mo_compile_176 : decode b_Mo_compile 176 = .ok (.iload_n 1, 1) := by decide +kernel
theorem d_Mo_compile_177 : decode b_Mo_compile 177 = .ok (.iaload, 1) := by decide +kernel
theorem d_Mo_compile_178 : decode b_Mo_compile 178 = .ok (.iastore, 1) := by decide +kernel
theorem d_Mo_compile_179 : decode b_Mo_compile 179 = .ok (.aload_n 0, 1) := by decide +kernel
theorem d_Mo_compile_180 : decode b_Mo_compile 180 = .ok (.getfield 72, 3) := by decide +kernel
theorem d_Mo_compile_183 : decode b_Mo_compile 183 = .ok (.iload_n 1, 1) := by decide +kernel
theorem d_Mo_compile_184 : decode b_Mo_compile 184 = .ok (.aload_n 0, 1) := by decide +kernel
theorem d_Mo_compile_185 : decode b_Mo_compile 185 = .ok (.getfield 54, 3) := by decide +kernel
theorem d_Mo_compile_188 : decode b_Mo_compile 188 = .ok (.iload_n 1, 1) := by decide +kernel
theorem d_Mo_compile_189 : decode b_Mo_compile 189 = .ok (.iaload, 1) := by decide +kernel
theorem d_Mo_compile_190 : decode b_Mo_compile 190 = .ok (.iastore, 1) := by decide +kernel
theorem d_Mo_compile_191 : decode b_Mo_compile 191 = .ok (.aload_n 0, 1) := by decide +kernel
theorem d_Mo_compile_192 : decode b_Mo_compile 192 = .ok (.getfield 75, 3) := by decide +kernel
theorem d_Mo_compile_195 : decode b_Mo_compile 195 = .ok (.iload_n 1, 1) := by decide +kernel
theorem d_Mo_compile_196 : decode b_Mo_compile 196 = .ok (.aload_n 0, 1) := by decide +kernel
theorem d_Mo_compile_197 : decode b_Mo_compile 197 = .ok (.getfield 57, 3) := by decide +kernel
theorem d_Mo_compile_200 : decode b_Mo_compile 200 = .ok (.iload_n 1, 1) := by decide +kernel
theorem d_Mo_compile_201 : decode b_Mo_compile 201 = .ok (.iaload, 1) := by decide +kernel
theorem d_Mo_compile_202 : decode b_Mo_compile 202 = .ok (.iastore, 1) := by decide +kernel
theorem d_Mo_compile_203 : decode b_Mo_compile 203 = .ok (.aload_n 0, 1) := by decide +kernel
theorem d_Mo_compile_204 : decode b_Mo_compile 204 = .ok (.getfield 78, 3) := by decide +kernel
theorem d_Mo_compile_207 : decode b_Mo_compile 207 = .ok (.iload_n 1, 1) := by decide +kernel
theorem d_Mo_compile_208 : decode b_Mo_compile 208 = .ok (.aload_n 0, 1) := by decide +kernel
theorem d_Mo_compile_209 : decode b_Mo_compile 209 = .ok (.getfield 60, 3) := by decide +kernel
theorem d_Mo_compile_212 : decode b_Mo_compile 212 = .ok (.iload_n 1, 1) := by decide +kernel
theorem d_Mo_compile_213 : decode b_Mo_compile 213 = .ok (.iaload, 1) := by decide +kernel
theorem d_Mo_compile_214 : decode b_Mo_compile 214 = .ok (.iastore, 1) := by decide +kernel
theorem d_Mo_compile_215 : decode b_Mo_compile 215 = .ok (.iinc 1 1, 3) := by decide +kernel
theorem d_Mo_compile_218 : decode b_Mo_compile 218 = .ok (.goto (-57), 3) := by decide +kernel
theorem d_Mo_compile_221 : decode b_Mo_compile 221 = .ok (.iconst 0, 1) := by decide +kernel
theorem d_Mo_compile_222 : decode b_Mo_compile 222 = .ok (.istore_n 1, 1) := by decide +kernel
theorem d_Mo_compile_223 : decode b_Mo_compile 223 = .ok (.iload_n 1, 1) := by decide +kernel
theorem d_Mo_compile_224 : decode b_Mo_compile 224 = .ok (.bipush 8, 2) := by decide +kernel
theorem d_Mo_compile_226 : decode b_Mo_compile 226 = .ok (.if_icmp .ge 21, 3) := by decide +kernel
theorem d_Mo_compile_229 : decode b_Mo_compile 229 = .ok (.aload_n 0, 1) := by decide +kernel
theorem d_Mo_compile_230 : decode b_Mo_compile 230 = .ok (.getfield 81, 3) := by decide +kernel
theorem d_Mo_compile_233 : decode b_Mo_compile 233 = .ok (.iload_n 1, 1) := by decide +kernel
theorem d_Mo_compile_234 : decode b_Mo_compile 234 = .ok (.aload_n 0, 1) := by decide +kernel
theorem d_Mo_compile_235 : decode b_Mo_compile 235 = .ok (.getfield 66, 3) := by decide +kernel
theorem d_Mo_compile_238 : decode b_Mo_compile 238 = .ok (.iload_n 1, 1) := by decide +kernel
theorem d_Mo_compile_239 : decode b_Mo_compile 239 = .ok (.iaload, 1) := by decide +kernel
theorem d_Mo_compile_240 : decode b_Mo_compile 240 = .ok (.iastore, 1) := by decide +kernel
theorem d_Mo_compile_241 : decode b_Mo_compile 241 = .ok (.iinc 1 1, 3) := by decide +kernel
theorem d_Mo_compile_244 : decode b_Mo_compile 244 = .ok (.goto (-21), 3) := by decide +kernel
theorem d_Mo_compile_247 : decode b_Mo_compile 247 = .ok (.aload_n 0, 1) := by decide +kernel
theorem d_Mo_compile_248 : decode b_Mo_compile 248 = .ok (.getfield 205, 3) := by decide +kernel
theorem d_Mo_compile_251 : decode b_Mo_compile 251 = .ok (.ireturn, 1) := by decide +kernel
theorem d_Mo_fault_0 : decode b_Mo_fault 0 = .ok (.aload_n 0, 1) := by decide +kernel
theorem d_Mo_fault_1 : decode b_Mo_fault 1 = .ok (.iconst 0, 1) := by decide +kernel
theorem d_Mo_fault_2 : decode b_Mo_fault 2 = .ok (.putfield 132, 3) := by decide +kernel
theorem d_Mo_fault_5 : decode b_Mo_fault 5 = .ok (.aload_n 0, 1) := by decide +kernel
theorem d_Mo_fault_6 : decode b_Mo_fault 6 = .ok (.getfield 44, 3) := by decide +kernel
theorem d_Mo_fault_9 : decode b_Mo_fault 9 = .ok (.ireturn, 1) := by decide +kernel
theorem d_Mo_runOf_0 : decode b_Mo_runOf 0 = .ok (.aload_n 0, 1) := by decide +kernel
theorem d_Mo_runOf_1 : decode b_Mo_runOf 1 = .ok (.getfield 288, 3) := by decide +kernel
theorem d_Mo_runOf_4 : decode b_Mo_runOf 4 = .ok (.istore_n 2, 1) := by decide +kernel
theorem d_Mo_runOf_5 : decode b_Mo_runOf 5 = .ok (.aload_n 0, 1) := by decide +kernel
theorem d_Mo_runOf_6 : decode b_Mo_runOf 6 = .ok (.getfield 96, 3) := by decide +kernel
theorem d_Mo_runOf_9 : decode b_Mo_runOf 9 = .ok (.iload_n 2, 1) := by decide +kernel
theorem d_Mo_runOf_10 : decode b_Mo_runOf 10 = .ok (.iaload, 1) := by decide +kernel
theorem d_Mo_runOf_11 : decode b_Mo_runOf 11 = .ok (.iload_n 1, 1) := by decide +kernel
theorem d_Mo_runOf_12 : decode b_Mo_runOf 12 = .ok (.if_icmp .eq 13, 3) := by decide +kernel
theorem d_Mo_runOf_15 : decode b_Mo_runOf 15 = .ok (.aload_n 0, 1) := by decide +kernel
theorem d_Mo_runOf_16 : decode b_Mo_runOf 16 = .ok (.getfield 99, 3) := by decide +kernel
theorem d_Mo_runOf_19 : decode b_Mo_runOf 19 = .ok (.iload_n 2, 1) := by decide +kernel
theorem d_Mo_runOf_20 : decode b_Mo_runOf 20 = .ok (.iaload, 1) := by decide +kernel
theorem d_Mo_runOf_21 : decode b_Mo_runOf 21 = .ok (.istore_n 2, 1) := by decide +kernel
theorem d_Mo_runOf_22 : decode b_Mo_runOf 22 = .ok (.goto (-17), 3) := by decide +kernel
theorem d_Mo_runOf_25 : decode b_Mo_runOf 25 = .ok (.iload_n 2, 1) := by decide +kernel
theorem d_Mo_runOf_26 : decode b_Mo_runOf 26 = .ok (.ireturn, 1) := by decide +kernel
theorem d_Mo_place_0 : decode b_Mo_place 0 = .ok (.bipush 12, 2) := by decide +kernel
theorem d_Mo_place_2 : decode b_Mo_place 2 = .ok (.aload_n 0, 1) := by decide +kernel
theorem d_Mo_place_3 : decode b_Mo_place 3 = .ok (.aload_n 0, 1) := by decide +kernel
theorem d_Mo_place_4 : decode b_Mo_place 4 = .ok (.getfield 72, 3) := by decide +kernel
theorem d_Mo_place_7 : decode b_Mo_place 7 = .ok (.iload_n 1, 1) := by decide +kernel
theorem d_Mo_place_8 : decode b_Mo_place 8 = .ok (.iaload, 1) := by decide +kernel
theorem d_Mo_place_9 : decode b_Mo_place 9 = .ok (.invokevirtual 291, 3) := by decide +kernel
theorem d_Mo_place_12 : decode b_Mo_place 12 = .ok (.imul, 1) := by decide +kernel
theorem d_Mo_place_13 : decode b_Mo_place 13 = .ok (.aload_n 0, 1) := by decide +kernel
theorem d_Mo_place_14 : decode b_Mo_place 14 = .ok (.iload_n 1, 1) := by decide +kernel
theorem d_Mo_place_15 : decode b_Mo_place 15 = .ok (.invokevirtual 294, 3) := by decide +kernel
theorem d_Mo_place_18 : decode b_Mo_place 18 = .ok (.iadd, 1) := by decide +kernel
theorem d_Mo_place_19 : decode b_Mo_place 19 = .ok (.istore_n 2, 1) := by decide +kernel
theorem d_Mo_place_20 : decode b_Mo_place 20 = .ok (.aload_n 0, 1) := by decide +kernel
theorem d_Mo_place_21 : decode b_Mo_place 21 = .ok (.getfield 69, 3) := by decide +kernel
theorem d_Mo_place_24 : decode b_Mo_place 24 = .ok (.iload_n 1, 1) := by decide +kernel
theorem d_Mo_place_25 : decode b_Mo_place 25 = .ok (.iaload, 1) := by decide +kernel
theorem d_Mo_place_26 : decode b_Mo_place 26 = .ok (.iconst 2, 1) := by decide +kernel
theorem d_Mo_place_27 : decode b_Mo_place 27 = .ok (.if_icmp .ne 12, 3) := by decide +kernel
theorem d_Mo_place_30 : decode b_Mo_place 30 = .ok (.aload_n 0, 1) := by decide +kernel
theorem d_Mo_place_31 : decode b_Mo_place 31 = .ok (.getfield 93, 3) := by decide +kernel
theorem d_Mo_place_34 : decode b_Mo_place 34 = .ok (.iload_n 2, 1) := by decide +kernel
theorem d_Mo_place_35 : decode b_Mo_place 35 = .ok (.iaload, 1) := by decide +kernel
theorem d_Mo_place_36 : decode b_Mo_place 36 = .ok (.goto 4, 3) := by decide +kernel
theorem d_Mo_place_39 : decode b_Mo_place 39 = .ok (.iload_n 2, 1) := by decide +kernel
theorem d_Mo_place_40 : decode b_Mo_place 40 = .ok (.ireturn, 1) := by decide +kernel
theorem d_Mo_slot_0 : decode b_Mo_slot 0 = .ok (.iconst 0, 1) := by decide +kernel
theorem d_Mo_slot_1 : decode b_Mo_slot 1 = .ok (.istore_n 2, 1) := by decide +kernel
theorem d_Mo_slot_2 : decode b_Mo_slot 2 = .ok (.iconst 0, 1) := by decide +kernel
theorem d_Mo_slot_3 : decode b_Mo_slot 3 = .ok (.istore_n 3, 1) := by decide +kernel
theorem d_Mo_slot_4 : decode b_Mo_slot 4 = .ok (.iload_n 3, 1) := by decide +kernel
theorem d_Mo_slot_5 : decode b_Mo_slot 5 = .ok (.iload_n 1, 1) := by decide +kernel
theorem d_Mo_slot_6 : decode b_Mo_slot 6 = .ok (.if_icmp .ge 22, 3) := by decide +kernel
theorem d_Mo_slot_9 : decode b_Mo_slot 9 = .ok (.aload_n 0, 1) := by decide +kernel
theorem d_Mo_slot_10 : decode b_Mo_slot 10 = .ok (.getfield 69, 3) := by decide +kernel
theorem d_Mo_slot_13 : decode b_Mo_slot 13 = .ok (.iload_n 3, 1) := by decide +kernel
theorem d_Mo_slot_14 : decode b_Mo_slot 14 = .ok (.iaload, 1) := by decide +kernel
theorem d_Mo_slot_15 : decode b_Mo_slot 15 = .ok (.iconst 3, 1) := by decide +kernel
theorem d_Mo_slot_16 : decode b_Mo_slot 16 = .ok (.if_icmp .eq 6, 3) := by decide +kernel
theorem d_Mo_slot_19 : decode b_Mo_slot 19 = .ok (.iinc 2 1, 3) := by decide +kernel
theorem d_Mo_slot_22 : decode b_Mo_slot 22 = .ok (.iinc 3 1, 3) := by decide +kernel
theorem d_Mo_slot_25 : decode b_Mo_slot 25 = .ok (.goto (-21), 3) := by decide +kernel
theorem d_Mo_slot_28 : decode b_Mo_slot 28 = .ok (.iload_n 2, 1) := by decide +kernel
theorem d_Mo_slot_29 : decode b_Mo_slot 29 = .ok (.ireturn, 1) := by decide +kernel
theorem d_Mo_multiply_0 : decode b_Mo_multiply 0 = .ok (.aload_n 0, 1) := by decide +kernel
theorem d_Mo_multiply_1 : decode b_Mo_multiply 1 = .ok (.getfield 126, 3) := by decide +kernel
theorem d_Mo_multiply_4 : decode b_Mo_multiply 4 = .ok (.iload_n 1, 1) := by decide +kernel
theorem d_Mo_multiply_5 : decode b_Mo_multiply 5 = .ok (.iaload, 1) := by decide +kernel
theorem d_Mo_multiply_6 : decode b_Mo_multiply 6 = .ok (.ifCond .ne 10, 3) := by decide +kernel
theorem d_Mo_multiply_9 : decode b_Mo_multiply 9 = .ok (.aload_n 0, 1) := by decide +kernel
theorem d_Mo_multiply_10 : decode b_Mo_multiply 10 = .ok (.getfield 120, 3) := by decide +kernel
theorem d_Mo_multiply_13 : decode b_Mo_multiply 13 = .ok (.iload_n 1, 1) := by decide +kernel
theorem d_Mo_multiply_14 : decode b_Mo_multiply 14 = .ok (.iload_n 2, 1) := by decide +kernel
theorem d_Mo_multiply_15 : decode b_Mo_multiply 15 = .ok (.iastore, 1) := by decide +kernel
theorem d_Mo_multiply_16 : decode b_Mo_multiply 16 = .ok (.aload_n 0, 1) := by decide +kernel
theorem d_Mo_multiply_17 : decode b_Mo_multiply 17 = .ok (.getfield 126, 3) := by decide +kernel
theorem d_Mo_multiply_20 : decode b_Mo_multiply 20 = .ok (.iload_n 1, 1) := by decide +kernel
theorem d_Mo_multiply_21 : decode b_Mo_multiply 21 = .ok (.iaload, 1) := by decide +kernel
theorem d_Mo_multiply_22 : decode b_Mo_multiply 22 = .ok (.bipush 42, 2) := by decide +kernel
theorem d_Mo_multiply_24 : decode b_Mo_multiply 24 = .ok (.if_icmp .ne 13, 3) := by decide +kernel
theorem d_Mo_multiply_27 : decode b_Mo_multiply 27 = .ok (.aload_n 0, 1) := by decide +kernel
theorem d_Mo_multiply_28 : decode b_Mo_multiply 28 = .ok (.getfield 120, 3) := by decide +kernel
theorem d_Mo_multiply_31 : decode b_Mo_multiply 31 = .ok (.iload_n 1, 1) := by decide +kernel
theorem d_Mo_multiply_32 : decode b_Mo_multiply 32 = .ok (.dup2, 1) := by decide +kernel
theorem d_Mo_multiply_33 : decode b_Mo_multiply 33 = .ok (.iaload, 1) := by decide +kernel
theorem d_Mo_multiply_34 : decode b_Mo_multiply 34 = .ok (.iload_n 2, 1) := by decide +kernel
theorem d_Mo_multiply_35 : decode b_Mo_multiply 35 = .ok (.imul, 1) := by decide +kernel
theorem d_Mo_multiply_36 : decode b_Mo_multiply 36 = .ok (.iastore, 1) := by decide +kernel
theorem d_Mo_multiply_37 : decode b_Mo_multiply 37 = .ok (.aload_n 0, 1) := by decide +kernel
theorem d_Mo_multiply_38 : decode b_Mo_multiply 38 = .ok (.getfield 126, 3) := by decide +kernel
theorem d_Mo_multiply_41 : decode b_Mo_multiply 41 = .ok (.iload_n 1, 1) := by decide +kernel
theorem d_Mo_multiply_42 : decode b_Mo_multiply 42 = .ok (.iaload, 1) := by decide +kernel
theorem d_Mo_multiply_43 : decode b_Mo_multiply 43 = .ok (.bipush 47, 2) := by decide +kernel
theorem d_Mo_multiply_45 : decode b_Mo_multiply 45 = .ok (.if_icmp .eq 15, 3) := by decide +kernel
theorem d_Mo_multiply_48 : decode b_Mo_multiply 48 = .ok (.aload_n 0, 1) := by decide +kernel
theorem d_Mo_multiply_49 : decode b_Mo_multiply 49 = .ok (.getfield 126, 3) := by decide +kernel
theorem d_Mo_multiply_52 : decode b_Mo_multiply 52 = .ok (.iload_n 1, 1) := by decide +kernel
theorem d_Mo_multiply_53 : decode b_Mo_multiply 53 = .ok (.iaload, 1) := by decide +kernel
theorem d_Mo_multiply_54 : decode b_Mo_multiply 54 = .ok (.bipush 37, 2) := by decide +kernel
theorem d_Mo_multiply_56 : decode b_Mo_multiply 56 = .ok (.if_icmp .eq 4, 3) := by decide +kernel
theorem d_Mo_multiply_59 : decode b_Mo_multiply 59 = .ok (.return_, 1) := by decide +kernel
theorem d_Mo_multiply_60 : decode b_Mo_multiply 60 = .ok (.iload_n 2, 1) := by decide +kernel
theorem d_Mo_multiply_61 : decode b_Mo_multiply 61 = .ok (.ifCond .ne 11, 3) := by decide +kernel
theorem d_Mo_multiply_64 : decode b_Mo_multiply 64 = .ok (.aload_n 0, 1) := by decide +kernel
theorem d_Mo_multiply_65 : decode b_Mo_multiply 65 = .ok (.iconst 2, 1) := by decide +kernel
theorem d_Mo_multiply_66 : decode b_Mo_multiply 66 = .ok (.putfield 297, 3) := by decide +kernel
theorem d_Mo_multiply_69 : decode b_Mo_multiply 69 = .ok (.goto 39, 3) := by decide +kernel
theorem d_Mo_multiply_72 : decode b_Mo_multiply 72 = .ok (.aload_n 0, 1) := by decide +kernel
theorem d_Mo_multiply_73 : decode b_Mo_multiply 73 = .ok (.getfield 120, 3) := by decide +kernel
theorem d_Mo_multiply_76 : decode b_Mo_multiply 76 = .ok (.iload_n 1, 1) := by decide +kernel
theorem d_Mo_multiply_77 : decode b_Mo_multiply 77 = .ok (.aload_n 0, 1) := by decide +kernel
theorem d_Mo_multiply_78 : decode b_Mo_multiply 78 = .ok (.getfield 126, 3) := by decide +kernel
theorem d_Mo_multiply_81 : decode b_Mo_multiply 81 = .ok (.iload_n 1, 1) := by decide +kernel
theorem d_Mo_multiply_82 : decode b_Mo_multiply 82 = .ok (.iaload, 1) := by decide +kernel
theorem d_Mo_multiply_83 : decode b_Mo_multiply 83 = .ok (.bipush 47, 2) := by decide +kernel
theorem d_Mo_multiply_85 : decode b_Mo_multiply 85 = .ok (.if_icmp .ne 14, 3) := by decide +kernel
theorem d_Mo_multiply_88 : decode b_Mo_multiply 88 = .ok (.aload_n 0, 1) := by decide +kernel
theorem d_Mo_multiply_89 : decode b_Mo_multiply 89 = .ok (.getfield 120, 3) := by decide +kernel
theorem d_Mo_multiply_92 : decode b_Mo_multiply 92 = .ok (.iload_n 1, 1) := by decide +kernel
theorem d_Mo_multiply_93 : decode b_Mo_multiply 93 = .ok (.iaload, 1) := by decide +kernel
theorem d_Mo_multiply_94 : decode b_Mo_multiply 94 = .ok (.iload_n 2, 1) := by decide +kernel
theorem d_Mo_multiply_95 : decode b_Mo_multiply 95 = .ok (.idiv, 1) := by decide +kernel
theorem d_Mo_multiply_96 : decode b_Mo_multiply 96 = .ok (.goto 11, 3) := by decide +kernel
theorem d_Mo_multiply_99 : decode b_Mo_multiply 99 = .ok (.aload_n 0, 1) := by decide +kernel
theorem d_Mo_multiply_100 : decode b_Mo_multiply 100 = .ok (.getfield 120, 3) := by decide +kernel
theorem d_Mo_multiply_103 : decode b_Mo_multiply 103 = .ok (.iload_n 1, 1) := by decide +kernel
theorem d_Mo_multiply_104 : decode b_Mo_multiply 104 = .ok (.iaload, 1) := by decide +kernel
theorem d_Mo_multiply_105 : decode b_Mo_multiply 105 = .ok (.iload_n 2, 1) := by decide +kernel
theorem d_Mo_multiply_106 : decode b_Mo_multiply 106 = .ok (.irem, 1) := by decide +kernel
theorem d_Mo_multiply_107 : decode b_Mo_multiply 107 = .ok (.iastore, 1) := by decide +kernel
theorem d_Mo_multiply_108 : decode b_Mo_multiply 108 = .ok (.return_, 1) := by decide +kernel
theorem d_Mo_add_0 : decode b_Mo_add 0 = .ok (.aload_n 0, 1) := by decide +kernel
theorem d_Mo_add_1 : decode b_Mo_add 1 = .ok (.getfield 117, 3) := by decide +kernel
theorem d_Mo_add_4 : decode b_Mo_add 4 = .ok (.iload_n 1, 1) := by decide +kernel
theorem d_Mo_add_5 : decode b_Mo_add 5 = .ok (.aload_n 0, 1) := by decide +kernel
theorem d_Mo_add_6 : decode b_Mo_add 6 = .ok (.getfield 123, 3) := by decide +kernel
theorem d_Mo_add_9 : decode b_Mo_add 9 = .ok (.iload_n 1, 1) := by decide +kernel
theorem d_Mo_add_10 : decode b_Mo_add 10 = .ok (.iaload, 1) := by decide +kernel
theorem d_Mo_add_11 : decode b_Mo_add 11 = .ok (.bipush 45, 2) := by decide +kernel
theorem d_Mo_add_13 : decode b_Mo_add 13 = .ok (.if_icmp .ne 19, 3) := by decide +kernel
theorem d_Mo_add_16 : decode b_Mo_add 16 = .ok (.aload_n 0, 1) := by decide +kernel
theorem d_Mo_add_17 : decode b_Mo_add 17 = .ok (.getfield 117, 3) := by decide +kernel
theorem d_Mo_add_20 : decode b_Mo_add 20 = .ok (.iload_n 1, 1) := by decide +kernel
theorem d_Mo_add_21 : decode b_Mo_add 21 = .ok (.iaload, 1) := by decide +kernel
theorem d_Mo_add_22 : decode b_Mo_add 22 = .ok (.aload_n 0, 1) := by decide +kernel
theorem d_Mo_add_23 : decode b_Mo_add 23 = .ok (.getfield 120, 3) := by decide +kernel
theorem d_Mo_add_26 : decode b_Mo_add 26 = .ok (.iload_n 1, 1) := by decide +kernel
theorem d_Mo_add_27 : decode b_Mo_add 27 = .ok (.iaload, 1) := by decide +kernel
theorem d_Mo_add_28 : decode b_Mo_add 28 = .ok (.isub, 1) := by decide +kernel
theorem d_Mo_add_29 : decode b_Mo_add 29 = .ok (.goto 16, 3) := by decide +kernel
theorem d_Mo_add_32 : decode b_Mo_add 32 = .ok (.aload_n 0, 1) := by decide +kernel
theorem d_Mo_add_33 : decode b_Mo_add 33 = .ok (.getfield 117, 3) := by decide +kernel
theorem d_Mo_add_36 : decode b_Mo_add 36 = .ok (.iload_n 1, 1) := by decide +kernel
theorem d_Mo_add_37 : decode b_Mo_add 37 = .ok (.iaload, 1) := by decide +kernel
theorem d_Mo_add_38 : decode b_Mo_add 38 = .ok (.aload_n 0, 1) := by decide +kernel
theorem d_Mo_add_39 : decode b_Mo_add 39 = .ok (.getfield 120, 3) := by decide +kernel
theorem d_Mo_add_42 : decode b_Mo_add 42 = .ok (.iload_n 1, 1) := by decide +kernel
theorem d_Mo_add_43 : decode b_Mo_add 43 = .ok (.iaload, 1) := by decide +kernel
theorem d_Mo_add_44 : decode b_Mo_add 44 = .ok (.iadd, 1) := by decide +kernel
theorem d_Mo_add_45 : decode b_Mo_add 45 = .ok (.iastore, 1) := by decide +kernel
theorem d_Mo_add_46 : decode b_Mo_add 46 = .ok (.return_, 1) := by decide +kernel
theorem d_Mo_openSum_0 : decode b_Mo_openSum 0 = .ok (.aload_n 0, 1) := by decide +kernel
theorem d_Mo_openSum_1 : decode b_Mo_openSum 1 = .ok (.getfield 117, 3) := by decide +kernel
theorem d_Mo_openSum_4 : decode b_Mo_openSum 4 = .ok (.iload_n 1, 1) := by decide +kernel
theorem d_Mo_openSum_5 : decode b_Mo_openSum 5 = .ok (.iconst 0, 1) := by decide +kernel
theorem d_Mo_openSum_6 : decode b_Mo_openSum 6 = .ok (.iastore, 1) := by decide +kernel
theorem d_Mo_openSum_7 : decode b_Mo_openSum 7 = .ok (.aload_n 0, 1) := by decide +kernel
theorem d_Mo_openSum_8 : decode b_Mo_openSum 8 = .ok (.getfield 123, 3) := by decide +kernel
theorem d_Mo_openSum_11 : decode b_Mo_openSum 11 = .ok (.iload_n 1, 1) := by decide +kernel
theorem d_Mo_openSum_12 : decode b_Mo_openSum 12 = .ok (.aload_n 0, 1) := by decide +kernel
theorem d_Mo_openSum_13 : decode b_Mo_openSum 13 = .ok (.getfield 32, 3) := by decide +kernel
theorem d_Mo_openSum_16 : decode b_Mo_openSum 16 = .ok (.aload_n 0, 1) := by decide +kernel
theorem d_Mo_openSum_17 : decode b_Mo_openSum 17 = .ok (.getfield 300, 3) := by decide +kernel
theorem d_Mo_openSum_20 : decode b_Mo_openSum 20 = .ok (.iaload, 1) := by decide +kernel
theorem d_Mo_openSum_21 : decode b_Mo_openSum 21 = .ok (.iastore, 1) := by decide +kernel
theorem d_Mo_openSum_22 : decode b_Mo_openSum 22 = .ok (.aload_n 0, 1) := by decide +kernel
theorem d_Mo_openSum_23 : decode b_Mo_openSum 23 = .ok (.getfield 126, 3) := by decide +kernel
theorem d_Mo_openSum_26 : decode b_Mo_openSum 26 = .ok (.iload_n 1, 1) := by decide +kernel
theorem d_Mo_openSum_27 : decode b_Mo_openSum 27 = .ok (.iconst 0, 1) := by decide +kernel
theorem d_Mo_openSum_28 : decode b_Mo_openSum 28 = .ok (.iastore, 1) := by decide +kernel
theorem d_Mo_openSum_29 : decode b_Mo_openSum 29 = .ok (.aload_n 0, 1) := by decide +kernel
theorem d_Mo_openSum_30 : decode b_Mo_openSum 30 = .ok (.getfield 32, 3) := by decide +kernel
theorem d_Mo_openSum_33 : decode b_Mo_openSum 33 = .ok (.aload_n 0, 1) := by decide +kernel
theorem d_Mo_openSum_34 : decode b_Mo_openSum 34 = .ok (.getfield 300, 3) := by decide +kernel
theorem d_Mo_openSum_37 : decode b_Mo_openSum 37 = .ok (.iaload, 1) := by decide +kernel
theorem d_Mo_openSum_38 : decode b_Mo_openSum 38 = .ok (.bipush 45, 2) := by decide +kernel
theorem d_Mo_openSum_40 : decode b_Mo_openSum 40 = .ok (.if_icmp .ne 13, 3) := by decide +kernel
theorem d_Mo_openSum_43 : decode b_Mo_openSum 43 = .ok (.aload_n 0, 1) := by decide +kernel
theorem d_Mo_openSum_44 : decode b_Mo_openSum 44 = .ok (.dup, 1) := by decide +kernel
theorem d_Mo_openSum_45 : decode b_Mo_openSum 45 = .ok (.getfield 300, 3) := by decide +kernel
theorem d_Mo_openSum_48 : decode b_Mo_openSum 48 = .ok (.iconst 1, 1) := by decide +kernel
theorem d_Mo_openSum_49 : decode b_Mo_openSum 49 = .ok (.iadd, 1) := by decide +kernel
theorem d_Mo_openSum_50 : decode b_Mo_openSum 50 = .ok (.putfield 300, 3) := by decide +kernel
theorem d_Mo_openSum_53 : decode b_Mo_openSum 53 = .ok (.return_, 1) := by decide +kernel
theorem d_Mo_evaluate_0 : decode b_Mo_evaluate 0 = .ok (.iconst 0, 1) := by decide +kernel
theorem d_Mo_evaluate_1 : decode b_Mo_evaluate 1 = .ok (.istore_n 1, 1) := by decide +kernel
theorem d_Mo_evaluate_2 : decode b_Mo_evaluate 2 = .ok (.aload_n 0, 1) := by decide +kernel
theorem d_Mo_evaluate_3 : decode b_Mo_evaluate 3 = .ok (.iconst 0, 1) := by decide +kernel
theorem d_Mo_evaluate_4 : decode b_Mo_evaluate 4 = .ok (.invokevirtual 303, 3) := by decide +kernel
theorem d_Mo_evaluate_7 : decode b_Mo_evaluate 7 = .ok (.iconst 1, 1) := by decide +kernel
theorem d_Mo_evaluate_8 : decode b_Mo_evaluate 8 = .ok (.istore_n 2, 1) := by decide +kernel
theorem d_Mo_evaluate_9 : decode b_Mo_evaluate 9 = .ok (.iload_n 2, 1) := by decide +kernel
theorem d_Mo_evaluate_10 : decode b_Mo_evaluate 10 = .ok (.ifCond .eq 233, 3) := by decide +kernel
theorem d_Mo_evaluate_13 : decode b_Mo_evaluate 13 = .ok (.aload_n 0, 1) := by decide +kernel
theorem d_Mo_evaluate_14 : decode b_Mo_evaluate 14 = .ok (.getfield 297, 3) := by decide +kernel
theorem d_Mo_evaluate_17 : decode b_Mo_evaluate 17 = .ok (.ifCond .ne 226, 3) := by decide +kernel
theorem d_Mo_evaluate_20 : decode b_Mo_evaluate 20 = .ok (.aload_n 0, 1) := by decide +kernel
theorem d_Mo_evaluate_21 : decode b_Mo_evaluate 21 = .ok (.getfield 32, 3) := by decide +kernel
theorem d_Mo_evaluate_24 : decode b_Mo_evaluate 24 = .ok (.aload_n 0, 1) := by decide +kernel
theorem d_Mo_evaluate_25 : decode b_Mo_evaluate 25 = .ok (.getfield 300, 3) := by decide +kernel
theorem d_Mo_evaluate_28 : decode b_Mo_evaluate 28 = .ok (.iaload, 1) := by decide +kernel
theorem d_Mo_evaluate_29 : decode b_Mo_evaluate 29 = .ok (.istore_n 3, 1) := by decide +kernel
theorem d_Mo_evaluate_30 : decode b_Mo_evaluate 30 = .ok (.iload_n 3, 1) := by decide +kernel
theorem d_Mo_evaluate_31 : decode b_Mo_evaluate 31 = .ok (.bipush 40, 2) := by decide +kernel
theorem d_Mo_evaluate_33 : decode b_Mo_evaluate 33 = .ok (.if_icmp .ne 24, 3) := by decide +kernel
theorem d_Mo_evaluate_36 : decode b_Mo_evaluate 36 = .ok (.aload_n 0, 1) := by decide +kernel
theorem d_Mo_evaluate_37 : decode b_Mo_evaluate 37 = .ok (.dup, 1) := by decide +kernel
theorem d_Mo_evaluate_38 : decode b_Mo_evaluate 38 = .ok (.getfield 300, 3) := by decide +kernel
theorem d_Mo_evaluate_41 : decode b_Mo_evaluate 41 = .ok (.iconst 1, 1) := by decide +kernel
theorem d_Mo_evaluate_42 : decode b_Mo_evaluate 42 = .ok (.iadd, 1) := by decide +kernel
theorem d_Mo_evaluate_43 : decode b_Mo_evaluate 43 = .ok (.putfield 300, 3) := by decide +kernel
theorem d_Mo_evaluate_46 : decode b_Mo_evaluate 46 = .ok (.iinc 1 1, 3) := by decide +kernel
theorem d_Mo_evaluate_49 : decode b_Mo_evaluate 49 = .ok (.aload_n 0, 1) := by decide +kernel
theorem d_Mo_evaluate_50 : decode b_Mo_evaluate 50 = .ok (.iload_n 1, 1) := by decide +kernel
theorem d_Mo_evaluate_51 : decode b_Mo_evaluate 51 = .ok (.invokevirtual 303, 3) := by decide +kernel
theorem d_Mo_evaluate_54 : decode b_Mo_evaluate 54 = .ok (.goto (-45), 3) := by decide +kernel
theorem d_Mo_evaluate_57 : decode b_Mo_evaluate 57 = .ok (.aload_n 0, 1) := by decide +kernel
theorem d_Mo_evaluate_58 : decode b_Mo_evaluate 58 = .ok (.iload_n 1, 1) := by decide +kernel
theorem d_Mo_evaluate_59 : decode b_Mo_evaluate 59 = .ok (.iload_n 3, 1) := by decide +kernel
theorem d_Mo_evaluate_60 : decode b_Mo_evaluate 60 = .ok (.iconst 2, 1) := by decide +kernel
theorem d_Mo_evaluate_61 : decode b_Mo_evaluate 61 = .ok (.if_icmp .ne 15, 3) := by decide +kernel
theorem d_Mo_evaluate_64 : decode b_Mo_evaluate 64 = .ok (.aload_n 0, 1) := by decide +kernel
theorem d_Mo_evaluate_65 : decode b_Mo_evaluate 65 = .ok (.getfield 35, 3) := by decide +kernel
theorem d_Mo_evaluate_68 : decode b_Mo_evaluate 68 = .ok (.aload_n 0, 1) := by decide +kernel
theorem d_Mo_evaluate_69 : decode b_Mo_evaluate 69 = .ok (.getfield 300, 3) := by decide +kernel
theorem d_Mo_evaluate_72 : decode b_Mo_evaluate 72 = .ok (.iaload, 1) := by decide +kernel
theorem d_Mo_evaluate_73 : decode b_Mo_evaluate 73 = .ok (.goto 21, 3) := by decide +kernel
theorem d_Mo_evaluate_76 : decode b_Mo_evaluate 76 = .ok (.aload_n 0, 1) := by decide +kernel
theorem d_Mo_evaluate_77 : decode b_Mo_evaluate 77 = .ok (.getfield 90, 3) := by decide +kernel
theorem d_Mo_evaluate_80 : decode b_Mo_evaluate 80 = .ok (.aload_n 0, 1) := by decide +kernel
theorem d_Mo_evaluate_81 : decode b_Mo_evaluate 81 = .ok (.aload_n 0, 1) := by decide +kernel
theorem d_Mo_evaluate_82 : decode b_Mo_evaluate 82 = .ok (.getfield 38, 3) := by decide +kernel
theorem d_Mo_evaluate_85 : decode b_Mo_evaluate 85 = .ok (.aload_n 0, 1) := by decide +kernel
theorem d_Mo_evaluate_86 : decode b_Mo_evaluate 86 = .ok (.getfield 300, 3) := by decide +kernel
theorem d_Mo_evaluate_89 : decode b_Mo_evaluate 89 = .ok (.iaload, 1) := by decide +kernel
theorem d_Mo_evaluate_90 : decode b_Mo_evaluate 90 = .ok (.invokevirtual 306, 3) := by decide +kernel
theorem d_Mo_evaluate_93 : decode b_Mo_evaluate 93 = .ok (.iaload, 1) := by decide +kernel
theorem d_Mo_evaluate_94 : decode b_Mo_evaluate 94 = .ok (.invokevirtual 309, 3) := by decide +kernel
theorem d_Mo_evaluate_97 : decode b_Mo_evaluate 97 = .ok (.aload_n 0, 1) := by decide +kernel
theorem d_Mo_evaluate_98 : decode b_Mo_evaluate 98 = .ok (.dup, 1) := by decide +kernel
theorem d_Mo_evaluate_99 : decode b_Mo_evaluate 99 = .ok (.getfield 300, 3) := by decide +kernel
theorem d_Mo_evaluate_102 : decode b_Mo_evaluate 102 = .ok (.iconst 1, 1) := by decide +kernel
theorem d_Mo_evaluate_103 : decode b_Mo_evaluate 103 = .ok (.iadd, 1) := by decide +kernel
theorem d_Mo_evaluate_104 : decode b_Mo_evaluate 104 = .ok (.putfield 300, 3) := by decide +kernel
theorem d_Mo_evaluate_107 : decode b_Mo_evaluate 107 = .ok (.iload_n 1, 1) := by decide +kernel
theorem d_Mo_evaluate_108 : decode b_Mo_evaluate 108 = .ok (.ifCond .le 58, 3) := by decide +kernel
theorem d_Mo_evaluate_111 : decode b_Mo_evaluate 111 = .ok (.aload_n 0, 1) := by decide +kernel
theorem d_Mo_evaluate_112 : decode b_Mo_evaluate 112 = .ok (.getfield 32, 3) := by decide +kernel
theorem d_Mo_evaluate_115 : decode b_Mo_evaluate 115 = .ok (.aload_n 0, 1) := by decide +kernel
theorem d_Mo_evaluate_116 : decode b_Mo_evaluate 116 = .ok (.getfield 300, 3) := by decide +kernel
theorem d_Mo_evaluate_119 : decode b_Mo_evaluate 119 = .ok (.iaload, 1) := by decide +kernel
theorem d_Mo_evaluate_120 : decode b_Mo_evaluate 120 = .ok (.bipush 41, 2) := by decide +kernel
theorem d_Mo_evaluate_122 : decode b_Mo_evaluate 122 = .ok (.if_icmp .ne 44, 3) := by decide +kernel
theorem d_Mo_evaluate_125 : decode b_Mo_evaluate 125 = .ok (.aload_n 0, 1) := by decide +kernel
theorem d_Mo_evaluate_126 : decode b_Mo_evaluate 126 = .ok (.getfield 297, 3) := by decide +kernel
