theorem d_Co_init_0 : decode b_Co_init 0 = .ok (.aload_n 0, 1) := by decide +kernel
theorem d_Co_init_1 : decode b_Co_init 1 = .ok (.invokespecial 3, 3) := by decide +kernel
theorem d_Co_init_4 : decode b_Co_init 4 = .ok (.aload_n 0, 1) := by decide +kernel
theorem d_Co_init_5 : decode b_Co_init 5 = .ok (.sipush 300, 3) := by decide +kernel
theorem d_Co_init_8 : decode b_Co_init 8 = .ok (.newarray .int, 2) := by decide +kernel
theorem d_Co_init_10 : decode b_Co_init 10 = .ok (.putfield 11, 3) := by decide +kernel
theorem d_Co_init_13 : decode b_Co_init 13 = .ok (.aload_n 0, 1) := by decide +kernel
theorem d_Co_init_14 : decode b_Co_init 14 = .ok (.sipush 300, 3) := by decide +kernel
theorem d_Co_init_17 : decode b_Co_init 17 = .ok (.newarray .int, 2) := by decide +kernel
theorem d_Co_init_19 : decode b_Co_init 19 = .ok (.putfield 15, 3) := by decide +kernel
theorem d_Co_init_22 : decode b_Co_init 22 = .ok (.aload_n 0, 1) := by decide +kernel
theorem d_Co_init_23 : decode b_Co_init 23 = .ok (.sipush 300, 3) := by decide +kernel
theorem d_Co_init_26 : decode b_Co_init 26 = .ok (.newarray .int, 2) := by decide +kernel
theorem d_Co_init_28 : decode b_Co_init 28 = .ok (.putfield 18, 3) := by decide +kernel
theorem d_Co_init_31 : decode b_Co_init 31 = .ok (.aload_n 0, 1) := by decide +kernel
theorem d_Co_init_32 : decode b_Co_init 32 = .ok (.bipush 6, 2) := by decide +kernel
theorem d_Co_init_34 : decode b_Co_init 34 = .ok (.newarray .int, 2) := by decide +kernel
theorem d_Co_init_36 : decode b_Co_init 36 = .ok (.putfield 21, 3) := by decide +kernel
theorem d_Co_init_39 : decode b_Co_init 39 = .ok (.aload_n 0, 1) := by decide +kernel
theorem d_Co_init_40 : decode b_Co_init 40 = .ok (.bipush 6, 2) := by decide +kernel
theorem d_Co_init_42 : decode b_Co_init 42 = .ok (.newarray .int, 2) := by decide +kernel
theorem d_Co_init_44 : decode b_Co_init 44 = .ok (.putfield 24, 3) := by decide +kernel
theorem d_Co_init_47 : decode b_Co_init 47 = .ok (.aload_n 0, 1) := by decide +kernel
theorem d_Co_init_48 : decode b_Co_init 48 = .ok (.bipush 6, 2) := by decide +kernel
theorem d_Co_init_50 : decode b_Co_init 50 = .ok (.newarray .int, 2) := by decide +kernel
theorem d_Co_init_52 : decode b_Co_init 52 = .ok (.putfield 27, 3) := by decide +kernel
theorem d_Co_init_55 : decode b_Co_init 55 = .ok (.aload_n 0, 1) := by decide +kernel
theorem d_Co_init_56 : decode b_Co_init 56 = .ok (.iconst 0, 1) := by decide +kernel
theorem d_Co_init_57 : decode b_Co_init 57 = .ok (.putfield 30, 3) := by decide +kernel
theorem d_Co_init_60 : decode b_Co_init 60 = .ok (.aload_n 0, 1) := by decide +kernel
theorem d_Co_init_61 : decode b_Co_init 61 = .ok (.iconst 0, 1) := by decide +kernel
theorem d_Co_init_62 : decode b_Co_init 62 = .ok (.putfield 34, 3) := by decide +kernel
theorem d_Co_init_65 : decode b_Co_init 65 = .ok (.return_, 1) := by decide +kernel
theorem d_Co_add_0 : decode b_Co_add 0 = .ok (.aload_n 0, 1) := by decide +kernel
theorem d_Co_add_1 : decode b_Co_add 1 = .ok (.getfield 30, 3) := by decide +kernel
theorem d_Co_add_4 : decode b_Co_add 4 = .ok (.istore 4, 2) := by decide +kernel
theorem d_Co_add_6 : decode b_Co_add 6 = .ok (.iload 4, 2) := by decide +kernel
theorem d_Co_add_8 : decode b_Co_add 8 = .ok (.sipush 300, 3) := by decide +kernel
theorem d_Co_add_11 : decode b_Co_add 11 = .ok (.if_icmp .ge 37, 3) := by decide +kernel
theorem d_Co_add_14 : decode b_Co_add 14 = .ok (.aload_n 0, 1) := by decide +kernel
theorem d_Co_add_15 : decode b_Co_add 15 = .ok (.getfield 11, 3) := by decide +kernel
theorem d_Co_add_18 : decode b_Co_add 18 = .ok (.iload 4, 2) := by decide +kernel
theorem d_Co_add_20 : decode b_Co_add 20 = .ok (.iload_n 1, 1) := by decide +kernel
theorem d_Co_add_21 : decode b_Co_add 21 = .ok (.iastore, 1) := by decide +kernel
theorem d_Co_add_22 : decode b_Co_add 22 = .ok (.aload_n 0, 1) := by decide +kernel
theorem d_Co_add_23 : decode b_Co_add 23 = .ok (.getfield 15, 3) := by decide +kernel
theorem d_Co_add_26 : decode b_Co_add 26 = .ok (.iload 4, 2) := by decide +kernel
theorem d_Co_add_28 : decode b_Co_add 28 = .ok (.iload_n 2, 1) := by decide +kernel
theorem d_Co_add_29 : decode b_Co_add 29 = .ok (.iastore, 1) := by decide +kernel
theorem d_Co_add_30 : decode b_Co_add 30 = .ok (.aload_n 0, 1) := by decide +kernel
theorem d_Co_add_31 : decode b_Co_add 31 = .ok (.getfield 18, 3) := by decide +kernel
theorem d_Co_add_34 : decode b_Co_add 34 = .ok (.iload 4, 2) := by decide +kernel
theorem d_Co_add_36 : decode b_Co_add 36 = .ok (.iload_n 3, 1) := by decide +kernel
theorem d_Co_add_37 : decode b_Co_add 37 = .ok (.iastore, 1) := by decide +kernel
theorem d_Co_add_38 : decode b_Co_add 38 = .ok (.aload_n 0, 1) := by decide +kernel
theorem d_Co_add_39 : decode b_Co_add 39 = .ok (.dup, 1) := by decide +kernel
theorem d_Co_add_40 : decode b_Co_add 40 = .ok (.getfield 30, 3) := by decide +kernel
theorem d_Co_add_43 : decode b_Co_add 43 = .ok (.iconst 1, 1) := by decide +kernel
theorem d_Co_add_44 : decode b_Co_add 44 = .ok (.iadd, 1) := by decide +kernel
theorem d_Co_add_45 : decode b_Co_add 45 = .ok (.putfield 30, 3) := by decide +kernel
theorem d_Co_add_48 : decode b_Co_add 48 = .ok (.iload 4, 2) := by decide +kernel
theorem d_Co_add_50 : decode b_Co_add 50 = .ok (.ireturn, 1) := by decide +kernel
theorem d_Co_isReference_0 : decode b_Co_isReference 0 = .ok (.iload_n 2, 1) := by decide +kernel
theorem d_Co_isReference_1 : decode b_Co_isReference 1 = .ok (.iconst 3, 1) := by decide +kernel
theorem d_Co_isReference_2 : decode b_Co_isReference 2 = .ok (.if_icmp .ge 21, 3) := by decide +kernel
theorem d_Co_isReference_5 : decode b_Co_isReference 5 = .ok (.aload_n 0, 1) := by decide +kernel
theorem d_Co_isReference_6 : decode b_Co_isReference 6 = .ok (.getfield 27, 3) := by decide +kernel
theorem d_Co_isReference_9 : decode b_Co_isReference 9 = .ok (.iload_n 1, 1) := by decide +kernel
theorem d_Co_isReference_10 : decode b_Co_isReference 10 = .ok (.iaload, 1) := by decide +kernel
theorem d_Co_isReference_11 : decode b_Co_isReference 11 = .ok (.iload_n 2, 1) := by decide +kernel
theorem d_Co_isReference_12 : decode b_Co_isReference 12 = .ok (.ishr, 1) := by decide +kernel
theorem d_Co_isReference_13 : decode b_Co_isReference 13 = .ok (.iconst 1, 1) := by decide +kernel
theorem d_Co_isReference_14 : decode b_Co_isReference 14 = .ok (.iand, 1) := by decide +kernel
theorem d_Co_isReference_15 : decode b_Co_isReference 15 = .ok (.iconst 1, 1) := by decide +kernel
theorem d_Co_isReference_16 : decode b_Co_isReference 16 = .ok (.if_icmp .ne 7, 3) := by decide +kernel
theorem d_Co_isReference_19 : decode b_Co_isReference 19 = .ok (.iconst 1, 1) := by decide +kernel
theorem d_Co_isReference_20 : decode b_Co_isReference 20 = .ok (.goto 4, 3) := by decide +kernel
theorem d_Co_isReference_23 : decode b_Co_isReference 23 = .ok (.iconst 0, 1) := by decide +kernel
theorem d_Co_isReference_24 : decode b_Co_isReference 24 = .ok (.ireturn, 1) := by decide +kernel
theorem d_Co_jumpToEnd_0 : decode b_Co_jumpToEnd 0 = .ok (.iload_n 1, 1) := by decide +kernel
theorem d_Co_jumpToEnd_1 : decode b_Co_jumpToEnd 1 = .ok (.aload_n 0, 1) := by decide +kernel
theorem d_Co_jumpToEnd_2 : decode b_Co_jumpToEnd 2 = .ok (.getfield 30, 3) := by decide +kernel
theorem d_Co_jumpToEnd_5 : decode b_Co_jumpToEnd 5 = .ok (.if_icmp .ge 13, 3) := by decide +kernel
theorem d_Co_jumpToEnd_8 : decode b_Co_jumpToEnd 8 = .ok (.aload_n 0, 1) := by decide +kernel
theorem d_Co_jumpToEnd_9 : decode b_Co_jumpToEnd 9 = .ok (.getfield 15, 3) := by decide +kernel
theorem d_Co_jumpToEnd_12 : decode b_Co_jumpToEnd 12 = .ok (.iload_n 1, 1) := by decide +kernel
theorem d_Co_jumpToEnd_13 : decode b_Co_jumpToEnd 13 = .ok (.aload_n 0, 1) := by decide +kernel
theorem d_Co_jumpToEnd_14 : decode b_Co_jumpToEnd 14 = .ok (.getfield 30, 3) := by decide +kernel
theorem d_Co_jumpToEnd_17 : decode b_Co_jumpToEnd 17 = .ok (.iastore, 1) := by decide +kernel
theorem d_Co_jumpToEnd_18 : decode b_Co_jumpToEnd 18 = .ok (.return_, 1) := by decide +kernel
theorem d_Co_takeAddress_0 : decode b_Co_takeAddress 0 = .ok (.iload_n 1, 1) := by decide +kernel
theorem d_Co_takeAddress_1 : decode b_Co_takeAddress 1 = .ok (.aload_n 0, 1) := by decide +kernel
theorem d_Co_takeAddress_2 : decode b_Co_takeAddress 2 = .ok (.getfield 30, 3) := by decide +kernel
theorem d_Co_takeAddress_5 : decode b_Co_takeAddress 5 = .ok (.if_icmp .ge 24, 3) := by decide +kernel
theorem d_Co_takeAddress_8 : decode b_Co_takeAddress 8 = .ok (.aload_n 0, 1) := by decide +kernel
theorem d_Co_takeAddress_9 : decode b_Co_takeAddress 9 = .ok (.getfield 11, 3) := by decide +kernel
theorem d_Co_takeAddress_12 : decode b_Co_takeAddress 12 = .ok (.iload_n 1, 1) := by decide +kernel
theorem d_Co_takeAddress_13 : decode b_Co_takeAddress 13 = .ok (.aload_n 0, 1) := by decide +kernel
theorem d_Co_takeAddress_14 : decode b_Co_takeAddress 14 = .ok (.getfield 11, 3) := by decide +kernel
theorem d_Co_takeAddress_17 : decode b_Co_takeAddress 17 = .ok (.iload_n 1, 1) := by decide +kernel
theorem d_Co_takeAddress_18 : decode b_Co_takeAddress 18 = .ok (.iaload, 1) := by decide +kernel
theorem d_Co_takeAddress_19 : decode b_Co_takeAddress 19 = .ok (.iconst 3, 1) := by decide +kernel
theorem d_Co_takeAddress_20 : decode b_Co_takeAddress 20 = .ok (.if_icmp .ne 7, 3) := by decide +kernel
theorem d_Co_takeAddress_23 : decode b_Co_takeAddress 23 = .ok (.iconst 2, 1) := by decide +kernel
theorem d_Co_takeAddress_24 : decode b_Co_takeAddress 24 = .ok (.goto 4, 3) := by decide +kernel
theorem d_Co_takeAddress_27 : decode b_Co_takeAddress 27 = .ok (.iconst 4, 1) := by decide +kernel
theorem d_Co_takeAddress_28 : decode b_Co_takeAddress 28 = .ok (.iastore, 1) := by decide +kernel
theorem d_Co_takeAddress_29 : decode b_Co_takeAddress 29 = .ok (.return_, 1) := by decide +kernel
