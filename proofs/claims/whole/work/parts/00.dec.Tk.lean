theorem d_Tk_init_0 : decode b_Tk_init 0 = .ok (.aload_n 0, 1) := by decide +kernel
theorem d_Tk_init_1 : decode b_Tk_init 1 = .ok (.invokespecial 3, 3) := by decide +kernel
theorem d_Tk_init_4 : decode b_Tk_init 4 = .ok (.aload_n 0, 1) := by decide +kernel
theorem d_Tk_init_5 : decode b_Tk_init 5 = .ok (.sipush 151, 3) := by decide +kernel
theorem d_Tk_init_8 : decode b_Tk_init 8 = .ok (.anewarray 9, 3) := by decide +kernel
theorem d_Tk_init_11 : decode b_Tk_init 11 = .ok (.putfield 11, 3) := by decide +kernel
theorem d_Tk_init_14 : decode b_Tk_init 14 = .ok (.aload_n 0, 1) := by decide +kernel
theorem d_Tk_init_15 : decode b_Tk_init 15 = .ok (.sipush 151, 3) := by decide +kernel
theorem d_Tk_init_18 : decode b_Tk_init 18 = .ok (.newarray .int, 2) := by decide +kernel
theorem d_Tk_init_20 : decode b_Tk_init 20 = .ok (.putfield 17, 3) := by decide +kernel
theorem d_Tk_init_23 : decode b_Tk_init 23 = .ok (.aload_n 0, 1) := by decide +kernel
theorem d_Tk_init_24 : decode b_Tk_init 24 = .ok (.sipush 151, 3) := by decide +kernel
theorem d_Tk_init_27 : decode b_Tk_init 27 = .ok (.newarray .long, 2) := by decide +kernel
theorem d_Tk_init_29 : decode b_Tk_init 29 = .ok (.putfield 21, 3) := by decide +kernel
theorem d_Tk_init_32 : decode b_Tk_init 32 = .ok (.aload_n 0, 1) := by decide +kernel
theorem d_Tk_init_33 : decode b_Tk_init 33 = .ok (.iconst 0, 1) := by decide +kernel
theorem d_Tk_init_34 : decode b_Tk_init 34 = .ok (.newarray .char, 2) := by decide +kernel
theorem d_Tk_init_36 : decode b_Tk_init 36 = .ok (.putfield 25, 3) := by decide +kernel
theorem d_Tk_init_39 : decode b_Tk_init 39 = .ok (.aload_n 0, 1) := by decide +kernel
theorem d_Tk_init_40 : decode b_Tk_init 40 = .ok (.iconst 0, 1) := by decide +kernel
theorem d_Tk_init_41 : decode b_Tk_init 41 = .ok (.putfield 29, 3) := by decide +kernel
theorem d_Tk_init_44 : decode b_Tk_init 44 = .ok (.aload_n 0, 1) := by decide +kernel
theorem d_Tk_init_45 : decode b_Tk_init 45 = .ok (.iconst 0, 1) := by decide +kernel
theorem d_Tk_init_46 : decode b_Tk_init 46 = .ok (.putfield 33, 3) := by decide +kernel
theorem d_Tk_init_49 : decode b_Tk_init 49 = .ok (.aload_n 0, 1) := by decide +kernel
theorem d_Tk_init_50 : decode b_Tk_init 50 = .ok (.iconst 0, 1) := by decide +kernel
theorem d_Tk_init_51 : decode b_Tk_init 51 = .ok (.putfield 36, 3) := by decide +kernel
theorem d_Tk_init_54 : decode b_Tk_init 54 = .ok (.return_, 1) := by decide +kernel
theorem d_Tk_read_0 : decode b_Tk_read 0 = .ok (.aload_n 0, 1) := by decide +kernel
theorem d_Tk_read_1 : decode b_Tk_read 1 = .ok (.aload_n 1, 1) := by decide +kernel
theorem d_Tk_read_2 : decode b_Tk_read 2 = .ok (.putfield 25, 3) := by decide +kernel
theorem d_Tk_read_5 : decode b_Tk_read 5 = .ok (.aload_n 0, 1) := by decide +kernel
theorem d_Tk_read_6 : decode b_Tk_read 6 = .ok (.iload_n 2, 1) := by decide +kernel
theorem d_Tk_read_7 : decode b_Tk_read 7 = .ok (.putfield 29, 3) := by decide +kernel
theorem d_Tk_read_10 : decode b_Tk_read 10 = .ok (.aload_n 0, 1) := by decide +kernel
theorem d_Tk_read_11 : decode b_Tk_read 11 = .ok (.iconst 0, 1) := by decide +kernel
theorem d_Tk_read_12 : decode b_Tk_read 12 = .ok (.putfield 33, 3) := by decide +kernel
theorem d_Tk_read_15 : decode b_Tk_read 15 = .ok (.aload_n 0, 1) := by decide +kernel
theorem d_Tk_read_16 : decode b_Tk_read 16 = .ok (.iconst 0, 1) := by decide +kernel
theorem d_Tk_read_17 : decode b_Tk_read 17 = .ok (.putfield 36, 3) := by decide +kernel
theorem d_Tk_read_20 : decode b_Tk_read 20 = .ok (.iconst 1, 1) := by decide +kernel
theorem d_Tk_read_21 : decode b_Tk_read 21 = .ok (.istore_n 3, 1) := by decide +kernel
theorem d_Tk_read_22 : decode b_Tk_read 22 = .ok (.iconst 0, 1) := by decide +kernel
theorem d_Tk_read_23 : decode b_Tk_read 23 = .ok (.istore 4, 2) := by decide +kernel
theorem d_Tk_read_25 : decode b_Tk_read 25 = .ok (.iload 4, 2) := by decide +kernel
theorem d_Tk_read_27 : decode b_Tk_read 27 = .ok (.sipush 150, 3) := by decide +kernel
theorem d_Tk_read_30 : decode b_Tk_read 30 = .ok (.if_icmp .gt 58, 3) := by decide +kernel
theorem d_Tk_read_33 : decode b_Tk_read 33 = .ok (.iload_n 3, 1) := by decide +kernel
theorem d_Tk_read_34 : decode b_Tk_read 34 = .ok (.ifCond .eq 54, 3) := by decide +kernel
theorem d_Tk_read_37 : decode b_Tk_read 37 = .ok (.aload_n 0, 1) := by decide +kernel
theorem d_Tk_read_38 : decode b_Tk_read 38 = .ok (.getfield 11, 3) := by decide +kernel
theorem d_Tk_read_41 : decode b_Tk_read 41 = .ok (.iload 4, 2) := by decide +kernel
theorem d_Tk_read_43 : decode b_Tk_read 43 = .ok (.aload_n 0, 1) := by decide +kernel
theorem d_Tk_read_44 : decode b_Tk_read 44 = .ok (.iload 4, 2) := by decide +kernel
theorem d_Tk_read_46 : decode b_Tk_read 46 = .ok (.invokevirtual 39, 3) := by decide +kernel
theorem d_Tk_read_49 : decode b_Tk_read 49 = .ok (.aastore, 1) := by decide +kernel
theorem d_Tk_read_50 : decode b_Tk_read 50 = .ok (.aload_n 0, 1) := by decide +kernel
theorem d_Tk_read_51 : decode b_Tk_read 51 = .ok (.getfield 11, 3) := by decide +kernel
theorem d_Tk_read_54 : decode b_Tk_read 54 = .ok (.iload 4, 2) := by decide +kernel
theorem d_Tk_read_56 : decode b_Tk_read 56 = .ok (.aaload, 1) := by decide +kernel
theorem d_Tk_read_57 : decode b_Tk_read 57 = .ok (.getstatic 43, 3) := by decide +kernel
theorem d_Tk_read_60 : decode b_Tk_read 60 = .ok (.if_acmp .eq 20, 3) := by decide +kernel
theorem d_Tk_read_63 : decode b_Tk_read 63 = .ok (.aload_n 0, 1) := by decide +kernel
theorem d_Tk_read_64 : decode b_Tk_read 64 = .ok (.getfield 11, 3) := by decide +kernel
theorem d_Tk_read_67 : decode b_Tk_read 67 = .ok (.iload 4, 2) := by decide +kernel
theorem d_Tk_read_69 : decode b_Tk_read 69 = .ok (.aaload, 1) := by decide +kernel
theorem d_Tk_read_70 : decode b_Tk_read 70 = .ok (.getstatic 47, 3) := by decide +kernel
theorem d_Tk_read_73 : decode b_Tk_read 73 = .ok (.if_acmp .eq 7, 3) := by decide +kernel
theorem d_Tk_read_76 : decode b_Tk_read 76 = .ok (.iconst 1, 1) := by decide +kernel
theorem d_Tk_read_77 : decode b_Tk_read 77 = .ok (.goto 4, 3) := by decide +kernel
theorem d_Tk_read_80 : decode b_Tk_read 80 = .ok (.iconst 0, 1) := by decide +kernel
theorem d_Tk_read_81 : decode b_Tk_read 81 = .ok (.istore_n 3, 1) := by decide +kernel
theorem d_Tk_read_82 : decode b_Tk_read 82 = .ok (.iinc 4 1, 3) := by decide +kernel
theorem d_Tk_read_85 : decode b_Tk_read 85 = .ok (.goto (-60), 3) := by decide +kernel
theorem d_Tk_read_88 : decode b_Tk_read 88 = .ok (.return_, 1) := by decide +kernel
theorem d_Tk_readToken_0 : decode b_Tk_readToken 0 = .ok (.aload_n 0, 1) := by decide +kernel
theorem d_Tk_readToken_1 : decode b_Tk_readToken 1 = .ok (.invokevirtual 50, 3) := by decide +kernel
theorem d_Tk_readToken_4 : decode b_Tk_readToken 4 = .ok (.istore_n 2, 1) := by decide +kernel
theorem d_Tk_readToken_5 : decode b_Tk_readToken 5 = .ok (.iload_n 2, 1) := by decide +kernel
theorem d_Tk_readToken_6 : decode b_Tk_readToken 6 = .ok (.aload_n 0, 1) := by decide +kernel
theorem d_Tk_readToken_7 : decode b_Tk_readToken 7 = .ok (.getfield 29, 3) := by decide +kernel
theorem d_Tk_readToken_10 : decode b_Tk_readToken 10 = .ok (.if_icmp .ne 17, 3) := by decide +kernel
theorem d_Tk_readToken_13 : decode b_Tk_readToken 13 = .ok (.aload_n 0, 1) := by decide +kernel
theorem d_Tk_readToken_14 : decode b_Tk_readToken 14 = .ok (.getfield 17, 3) := by decide +kernel
theorem d_Tk_readToken_17 : decode b_Tk_readToken 17 = .ok (.iload_n 1, 1) := by decide +kernel
theorem d_Tk_readToken_18 : decode b_Tk_readToken 18 = .ok (.aload_n 0, 1) := by decide +kernel
theorem d_Tk_readToken_19 : decode b_Tk_readToken 19 = .ok (.getfield 33, 3) := by decide +kernel
theorem d_Tk_readToken_22 : decode b_Tk_readToken 22 = .ok (.iastore, 1) := by decide +kernel
theorem d_Tk_readToken_23 : decode b_Tk_readToken 23 = .ok (.getstatic 43, 3) := by decide +kernel
theorem d_Tk_readToken_26 : decode b_Tk_readToken 26 = .ok (.areturn, 1) := by decide +kernel
theorem d_Tk_readToken_27 : decode b_Tk_readToken 27 = .ok (.aload_n 0, 1) := by decide +kernel
theorem d_Tk_readToken_28 : decode b_Tk_readToken 28 = .ok (.getfield 17, 3) := by decide +kernel
theorem d_Tk_readToken_31 : decode b_Tk_readToken 31 = .ok (.iload_n 1, 1) := by decide +kernel
theorem d_Tk_readToken_32 : decode b_Tk_readToken 32 = .ok (.iload_n 2, 1) := by decide +kernel
theorem d_Tk_readToken_33 : decode b_Tk_readToken 33 = .ok (.iastore, 1) := by decide +kernel
theorem d_Tk_readToken_34 : decode b_Tk_readToken 34 = .ok (.iload_n 1, 1) := by decide +kernel
theorem d_Tk_readToken_35 : decode b_Tk_readToken 35 = .ok (.sipush 150, 3) := by decide +kernel
theorem d_Tk_readToken_38 : decode b_Tk_readToken 38 = .ok (.if_icmp .ne 7, 3) := by decide +kernel
theorem d_Tk_readToken_41 : decode b_Tk_readToken 41 = .ok (.getstatic 47, 3) := by decide +kernel
theorem d_Tk_readToken_44 : decode b_Tk_readToken 44 = .ok (.areturn, 1) := by decide +kernel
theorem d_Tk_readToken_45 : decode b_Tk_readToken 45 = .ok (.aload_n 0, 1) := by decide +kernel
theorem d_Tk_readToken_46 : decode b_Tk_readToken 46 = .ok (.getfield 25, 3) := by decide +kernel
theorem d_Tk_readToken_49 : decode b_Tk_readToken 49 = .ok (.iload_n 2, 1) := by decide +kernel
theorem d_Tk_readToken_50 : decode b_Tk_readToken 50 = .ok (.caload, 1) := by decide +kernel
theorem d_Tk_readToken_51 : decode b_Tk_readToken 51 = .ok (.invokestatic 54, 3) := by decide +kernel
theorem d_Tk_readToken_54 : decode b_Tk_readToken 54 = .ok (.ifCond .eq 10, 3) := by decide +kernel
theorem d_Tk_readToken_57 : decode b_Tk_readToken 57 = .ok (.aload_n 0, 1) := by decide +kernel
theorem d_Tk_readToken_58 : decode b_Tk_readToken 58 = .ok (.iload_n 1, 1) := by decide +kernel
theorem d_Tk_readToken_59 : decode b_Tk_readToken 59 = .ok (.iload_n 2, 1) := by decide +kernel
theorem d_Tk_readToken_60 : decode b_Tk_readToken 60 = .ok (.invokevirtual 58, 3) := by decide +kernel
theorem d_Tk_readToken_63 : decode b_Tk_readToken 63 = .ok (.areturn, 1) := by decide +kernel
theorem d_Tk_readToken_64 : decode b_Tk_readToken 64 = .ok (.aload_n 0, 1) := by decide +kernel
theorem d_Tk_readToken_65 : decode b_Tk_readToken 65 = .ok (.getfield 25, 3) := by decide +kernel
theorem d_Tk_readToken_68 : decode b_Tk_readToken 68 = .ok (.iload_n 2, 1) := by decide +kernel
theorem d_Tk_readToken_69 : decode b_Tk_readToken 69 = .ok (.caload, 1) := by decide +kernel
theorem d_Tk_readToken_70 : decode b_Tk_readToken 70 = .ok (.invokestatic 62, 3) := by decide +kernel
theorem d_Tk_readToken_73 : decode b_Tk_readToken 73 = .ok (.ifCond .eq 12, 3) := by decide +kernel
theorem d_Tk_readToken_76 : decode b_Tk_readToken 76 = .ok (.aload_n 0, 1) := by decide +kernel
theorem d_Tk_readToken_77 : decode b_Tk_readToken 77 = .ok (.iload_n 1, 1) := by decide +kernel
theorem d_Tk_readToken_78 : decode b_Tk_readToken 78 = .ok (.iload_n 2, 1) := by decide +kernel
theorem d_Tk_readToken_79 : decode b_Tk_readToken 79 = .ok (.invokevirtual 65, 3) := by decide +kernel
theorem d_Tk_readToken_82 : decode b_Tk_readToken 82 = .ok (.goto 8, 3) := by decide +kernel
theorem d_Tk_readToken_85 : decode b_Tk_readToken 85 = .ok (.aload_n 0, 1) := by decide +kernel
theorem d_Tk_readToken_86 : decode b_Tk_readToken 86 = .ok (.iload_n 2, 1) := by decide +kernel
theorem d_Tk_readToken_87 : decode b_Tk_readToken 87 = .ok (.invokevirtual 68, 3) := by decide +kernel
theorem d_Tk_readToken_90 : decode b_Tk_readToken 90 = .ok (.areturn, 1) := by decide +kernel
theorem d_Tk_behindBlanks_0 : decode b_Tk_behindBlanks 0 = .ok (.aload_n 0, 1) := by decide +kernel
theorem d_Tk_behindBlanks_1 : decode b_Tk_behindBlanks 1 = .ok (.getfield 33, 3) := by decide +kernel
theorem d_Tk_behindBlanks_4 : decode b_Tk_behindBlanks 4 = .ok (.istore_n 1, 1) := by decide +kernel
theorem d_Tk_behindBlanks_5 : decode b_Tk_behindBlanks 5 = .ok (.iload_n 1, 1) := by decide +kernel
theorem d_Tk_behindBlanks_6 : decode b_Tk_behindBlanks 6 = .ok (.aload_n 0, 1) := by decide +kernel
theorem d_Tk_behindBlanks_7 : decode b_Tk_behindBlanks 7 = .ok (.getfield 29, 3) := by decide +kernel
theorem d_Tk_behindBlanks_10 : decode b_Tk_behindBlanks 10 = .ok (.if_icmp .ge 20, 3) := by decide +kernel
theorem d_Tk_behindBlanks_13 : decode b_Tk_behindBlanks 13 = .ok (.aload_n 0, 1) := by decide +kernel
theorem d_Tk_behindBlanks_14 : decode b_Tk_behindBlanks 14 = .ok (.getfield 25, 3) := by decide +kernel
theorem d_Tk_behindBlanks_17 : decode b_Tk_behindBlanks 17 = .ok (.iload_n 1, 1) := by decide +kernel
theorem d_Tk_behindBlanks_18 : decode b_Tk_behindBlanks 18 = .ok (.caload, 1) := by decide +kernel
theorem d_Tk_behindBlanks_19 : decode b_Tk_behindBlanks 19 = .ok (.bipush 32, 2) := by decide +kernel
theorem d_Tk_behindBlanks_21 : decode b_Tk_behindBlanks 21 = .ok (.if_icmp .ne 9, 3) := by decide +kernel
theorem d_Tk_behindBlanks_24 : decode b_Tk_behindBlanks 24 = .ok (.iinc 1 1, 3) := by decide +kernel
theorem d_Tk_behindBlanks_27 : decode b_Tk_behindBlanks 27 = .ok (.goto (-22), 3) := by decide +kernel
theorem d_Tk_behindBlanks_30 : decode b_Tk_behindBlanks 30 = .ok (.iload_n 1, 1) := by decide +kernel
theorem d_Tk_behindBlanks_31 : decode b_Tk_behindBlanks 31 = .ok (.ireturn, 1) := by decide +kernel
theorem d_Tk_readWord_0 : decode b_Tk_readWord 0 = .ok (.lconst 0, 1) := by decide +kernel
theorem d_Tk_readWord_1 : decode b_Tk_readWord 1 = .ok (.lstore_n 3, 1) := by decide +kernel
theorem d_Tk_readWord_2 : decode b_Tk_readWord 2 = .ok (.aload_n 0, 1) := by decide +kernel
theorem d_Tk_readWord_3 : decode b_Tk_readWord 3 = .ok (.iload_n 2, 1) := by decide +kernel
theorem d_Tk_readWord_4 : decode b_Tk_readWord 4 = .ok (.putfield 33, 3) := by decide +kernel
theorem d_Tk_readWord_7 : decode b_Tk_readWord 7 = .ok (.aload_n 0, 1) := by decide +kernel
theorem d_Tk_readWord_8 : decode b_Tk_readWord 8 = .ok (.getfield 33, 3) := by decide +kernel
theorem d_Tk_readWord_11 : decode b_Tk_readWord 11 = .ok (.aload_n 0, 1) := by decide +kernel
theorem d_Tk_readWord_12 : decode b_Tk_readWord 12 = .ok (.getfield 29, 3) := by decide +kernel
theorem d_Tk_readWord_15 : decode b_Tk_readWord 15 = .ok (.if_icmp .ge 62, 3) := by decide +kernel
theorem d_Tk_readWord_18 : decode b_Tk_readWord 18 = .ok (.aload_n 0, 1) := by decide +kernel
theorem d_Tk_readWord_19 : decode b_Tk_readWord 19 = .ok (.getfield 25, 3) := by decide +kernel
theorem d_Tk_readWord_22 : decode b_Tk_readWord 22 = .ok (.aload_n 0, 1) := by decide +kernel
theorem d_Tk_readWord_23 : decode b_Tk_readWord 23 = .ok (.getfield 33, 3) := by decide +kernel
theorem d_Tk_readWord_26 : decode b_Tk_readWord 26 = .ok (.caload, 1) := by decide +kernel
theorem d_Tk_readWord_27 : decode b_Tk_readWord 27 = .ok (.invokestatic 54, 3) := by decide +kernel
theorem d_Tk_readWord_30 : decode b_Tk_readWord 30 = .ok (.ifCond .ne 18, 3) := by decide +kernel
theorem d_Tk_readWord_33 : decode b_Tk_readWord 33 = .ok (.aload_n 0, 1) := by decide +kernel
theorem d_Tk_readWord_34 : decode b_Tk_readWord 34 = .ok (.getfield 25, 3) := by decide +kernel
theorem d_Tk_readWord_37 : decode b_Tk_readWord 37 = .ok (.aload_n 0, 1) := by decide +kernel
theorem d_Tk_readWord_38 : decode b_Tk_readWord 38 = .ok (.getfield 33, 3) := by decide +kernel
theorem d_Tk_readWord_41 : decode b_Tk_readWord 41 = .ok (.caload, 1) := by decide +kernel
theorem d_Tk_readWord_42 : decode b_Tk_readWord 42 = .ok (.invokestatic 62, 3) := by decide +kernel
theorem d_Tk_readWord_45 : decode b_Tk_readWord 45 = .ok (.ifCond .eq 32, 3) := by decide +kernel
theorem d_Tk_readWord_48 : decode b_Tk_readWord 48 = .ok (.lload_n 3, 1) := by decide +kernel
theorem d_Tk_readWord_49 : decode b_Tk_readWord 49 = .ok (.bipush 8, 2) := by decide +kernel
theorem d_Tk_readWord_51 : decode b_Tk_readWord 51 = .ok (.lshl, 1) := by decide +kernel
theorem d_Tk_readWord_52 : decode b_Tk_readWord 52 = .ok (.aload_n 0, 1) := by decide +kernel
theorem d_Tk_readWord_53 : decode b_Tk_readWord 53 = .ok (.getfield 25, 3) := by decide +kernel
theorem d_Tk_readWord_56 : decode b_Tk_readWord 56 = .ok (.aload_n 0, 1) := by decide +kernel
theorem d_Tk_readWord_57 : decode b_Tk_readWord 57 = .ok (.getfield 33, 3) := by decide +kernel
theorem d_Tk_readWord_60 : decode b_Tk_readWord 60 = .ok (.caload, 1) := by decide +kernel
theorem d_Tk_readWord_61 : decode b_Tk_readWord 61 = .ok (.i2l, 1) := by decide +kernel
theorem d_Tk_readWord_62 : decode b_Tk_readWord 62 = .ok (.lor, 1) := by decide +kernel
theorem d_Tk_readWord_63 : decode b_Tk_readWord 63 = .ok (.lstore_n 3, 1) := by decide +kernel
theorem d_Tk_readWord_64 : decode b_Tk_readWord 64 = .ok (.aload_n 0, 1) := by decide +kernel
theorem d_Tk_readWord_65 : decode b_Tk_readWord 65 = .ok (.dup, 1) := by decide +kernel
theorem d_Tk_readWord_66 : decode b_Tk_readWord 66 = .ok (.getfield 33, 3) := by decide +kernel
theorem d_Tk_readWord_69 : decode b_Tk_readWord 69 = .ok (.iconst 1, 1) := by decide +kernel
theorem d_Tk_readWord_70 : decode b_Tk_readWord 70 = .ok (.iadd, 1) := by decide +kernel
theorem d_Tk_readWord_71 : decode b_Tk_readWord 71 = .ok (.putfield 33, 3) := by decide +kernel
theorem d_Tk_readWord_74 : decode b_Tk_readWord 74 = .ok (.goto (-67), 3) := by decide +kernel
theorem d_Tk_readWord_77 : decode b_Tk_readWord 77 = .ok (.aload_n 0, 1) := by decide +kernel
theorem d_Tk_readWord_78 : decode b_Tk_readWord 78 = .ok (.getfield 21, 3) := by decide +kernel
theorem d_Tk_readWord_81 : decode b_Tk_readWord 81 = .ok (.iload_n 1, 1) := by decide +kernel
theorem d_Tk_readWord_82 : decode b_Tk_readWord 82 = .ok (.lload_n 3, 1) := by decide +kernel
theorem d_Tk_readWord_83 : decode b_Tk_readWord 83 = .ok (.lastore, 1) := by decide +kernel
theorem d_Tk_readWord_84 : decode b_Tk_readWord 84 = .ok (.aload_n 0, 1) := by decide +kernel
theorem d_Tk_readWord_85 : decode b_Tk_readWord 85 = .ok (.getfield 33, 3) := by decide +kernel
theorem d_Tk_readWord_88 : decode b_Tk_readWord 88 = .ok (.iload_n 2, 1) := by decide +kernel
theorem d_Tk_readWord_89 : decode b_Tk_readWord 89 = .ok (.isub, 1) := by decide +kernel
theorem d_Tk_readWord_90 : decode b_Tk_readWord 90 = .ok (.bipush 6, 2) := by decide +kernel
theorem d_Tk_readWord_92 : decode b_Tk_readWord 92 = .ok (.if_icmp .le 9, 3) := by decide +kernel
theorem d_Tk_readWord_95 : decode b_Tk_readWord 95 = .ok (.getstatic 47, 3) := by decide +kernel
theorem d_Tk_readWord_98 : decode b_Tk_readWord 98 = .ok (.goto 11, 3) := by decide +kernel
theorem d_Tk_readWord_101 : decode b_Tk_readWord 101 = .ok (.aload_n 0, 1) := by decide +kernel
theorem d_Tk_readWord_102 : decode b_Tk_readWord 102 = .ok (.iload_n 2, 1) := by decide +kernel
theorem d_Tk_readWord_103 : decode b_Tk_readWord 103 = .ok (.getstatic 71, 3) := by decide +kernel
theorem d_Tk_readWord_106 : decode b_Tk_readWord 106 = .ok (.invokevirtual 74, 3) := by decide +kernel
theorem d_Tk_readWord_109 : decode b_Tk_readWord 109 = .ok (.areturn, 1) := by decide +kernel
theorem d_Tk_readNumber_0 : decode b_Tk_readNumber 0 = .ok (.lconst 0, 1) := by decide +kernel
theorem d_Tk_readNumber_1 : decode b_Tk_readNumber 1 = .ok (.lstore_n 3, 1) := by decide +kernel
theorem d_Tk_readNumber_2 : decode b_Tk_readNumber 2 = .ok (.aload_n 0, 1) := by decide +kernel
theorem d_Tk_readNumber_3 : decode b_Tk_readNumber 3 = .ok (.iload_n 2, 1) := by decide +kernel
theorem d_Tk_readNumber_4 : decode b_Tk_readNumber 4 = .ok (.putfield 33, 3) := by decide +kernel
theorem d_Tk_readNumber_7 : decode b_Tk_readNumber 7 = .ok (.aload_n 0, 1) := by decide +kernel
theorem d_Tk_readNumber_8 : decode b_Tk_readNumber 8 = .ok (.getfield 33, 3) := by decide +kernel
theorem d_Tk_readNumber_11 : decode b_Tk_readNumber 11 = .ok (.aload_n 0, 1) := by decide +kernel
theorem d_Tk_readNumber_12 : decode b_Tk_readNumber 12 = .ok (.getfield 29, 3) := by decide +kernel
theorem d_Tk_readNumber_15 : decode b_Tk_readNumber 15 = .ok (.if_icmp .ge 51, 3) := by decide +kernel
theorem d_Tk_readNumber_18 : decode b_Tk_readNumber 18 = .ok (.aload_n 0, 1) := by decide +kernel
theorem d_Tk_readNumber_19 : decode b_Tk_readNumber 19 = .ok (.getfield 25, 3) := by decide +kernel
theorem d_Tk_readNumber_22 : decode b_Tk_readNumber 22 = .ok (.aload_n 0, 1) := by decide +kernel
theorem d_Tk_readNumber_23 : decode b_Tk_readNumber 23 = .ok (.getfield 33, 3) := by decide +kernel
theorem d_Tk_readNumber_26 : decode b_Tk_readNumber 26 = .ok (.caload, 1) := by decide +kernel
theorem d_Tk_readNumber_27 : decode b_Tk_readNumber 27 = .ok (.invokestatic 62, 3) := by decide +kernel
theorem d_Tk_readNumber_30 : decode b_Tk_readNumber 30 = .ok (.ifCond .eq 36, 3) := by decide +kernel
theorem d_Tk_readNumber_33 : decode b_Tk_readNumber 33 = .ok (.lload_n 3, 1) := by decide +kernel
theorem d_Tk_readNumber_34 : decode b_Tk_readNumber 34 = .ok (.ldc2_w 78, 3) := by decide +kernel
theorem d_Tk_readNumber_37 : decode b_Tk_readNumber 37 = .ok (.lmul, 1) := by decide +kernel
theorem d_Tk_readNumber_38 : decode b_Tk_readNumber 38 = .ok (.aload_n 0, 1) := by decide +kernel
theorem d_Tk_readNumber_39 : decode b_Tk_readNumber 39 = .ok (.getfield 25, 3) := by decide +kernel
theorem d_Tk_readNumber_42 : decode b_Tk_readNumber 42 = .ok (.aload_n 0, 1) := by decide +kernel
theorem d_Tk_readNumber_43 : decode b_Tk_readNumber 43 = .ok (.getfield 33, 3) := by decide +kernel
theorem d_Tk_readNumber_46 : decode b_Tk_readNumber 46 = .ok (.caload, 1) := by decide +kernel
theorem d_Tk_readNumber_47 : decode b_Tk_readNumber 47 = .ok (.bipush 48, 2) := by decide +kernel
theorem d_Tk_readNumber_49 : decode b_Tk_readNumber 49 = .ok (.isub, 1) := by decide +kernel
theorem d_Tk_readNumber_50 : decode b_Tk_readNumber 50 = .ok (.i2l, 1) := by decide +kernel
theorem d_Tk_readNumber_51 : decode b_Tk_readNumber 51 = .ok (.ladd, 1) := by decide +kernel
theorem d_Tk_readNumber_52 : decode b_Tk_readNumber 52 = .ok (.lstore_n 3, 1) := by decide +kernel
theorem d_Tk_readNumber_53 : decode b_Tk_readNumber 53 = .ok (.aload_n 0, 1) := by decide +kernel
theorem d_Tk_readNumber_54 : decode b_Tk_readNumber 54 = .ok (.dup, 1) := by decide +kernel
theorem d_Tk_readNumber_55 : decode b_Tk_readNumber 55 = .ok (.getfield 33, 3) := by decide +kernel
theorem d_Tk_readNumber_58 : decode b_Tk_readNumber 58 = .ok (.iconst 1, 1) := by decide +kernel
theorem d_Tk_readNumber_59 : decode b_Tk_readNumber 59 = .ok (.iadd, 1) := by decide +kernel
theorem d_Tk_readNumber_60 : decode b_Tk_readNumber 60 = .ok (.putfield 33, 3) := by decide +kernel
theorem d_Tk_readNumber_63 : decode b_Tk_readNumber 63 = .ok (.goto (-56), 3) := by decide +kernel
theorem d_Tk_readNumber_66 : decode b_Tk_readNumber 66 = .ok (.aload_n 0, 1) := by decide +kernel
theorem d_Tk_readNumber_67 : decode b_Tk_readNumber 67 = .ok (.getfield 21, 3) := by decide +kernel
theorem d_Tk_readNumber_70 : decode b_Tk_readNumber 70 = .ok (.iload_n 1, 1) := by decide +kernel
theorem d_Tk_readNumber_71 : decode b_Tk_readNumber 71 = .ok (.lload_n 3, 1) := by decide +kernel
theorem d_Tk_readNumber_72 : decode b_Tk_readNumber 72 = .ok (.lastore, 1) := by decide +kernel
theorem d_Tk_readNumber_73 : decode b_Tk_readNumber 73 = .ok (.aload_n 0, 1) := by decide +kernel
theorem d_Tk_readNumber_74 : decode b_Tk_readNumber 74 = .ok (.getfield 33, 3) := by decide +kernel
theorem d_Tk_readNumber_77 : decode b_Tk_readNumber 77 = .ok (.iload_n 2, 1) := by decide +kernel
theorem d_Tk_readNumber_78 : decode b_Tk_readNumber 78 = .ok (.isub, 1) := by decide +kernel
theorem d_Tk_readNumber_79 : decode b_Tk_readNumber 79 = .ok (.bipush 9, 2) := by decide +kernel
theorem d_Tk_readNumber_81 : decode b_Tk_readNumber 81 = .ok (.if_icmp .le 9, 3) := by decide +kernel
theorem d_Tk_readNumber_84 : decode b_Tk_readNumber 84 = .ok (.getstatic 47, 3) := by decide +kernel
theorem d_Tk_readNumber_87 : decode b_Tk_readNumber 87 = .ok (.goto 6, 3) := by decide +kernel
theorem d_Tk_readNumber_90 : decode b_Tk_readNumber 90 = .ok (.getstatic 80, 3) := by decide +kernel
theorem d_Tk_readNumber_93 : decode b_Tk_readNumber 93 = .ok (.areturn, 1) := by decide +kernel
theorem d_Tk_readSign_0 : decode b_Tk_readSign 0 = .ok (.aload_n 0, 1) := by decide +kernel
theorem d_Tk_readSign_1 : decode b_Tk_readSign 1 = .ok (.aload_n 0, 1) := by decide +kernel
theorem d_Tk_readSign_2 : decode b_Tk_readSign 2 = .ok (.getfield 29, 3) := by decide +kernel
theorem d_Tk_readSign_5 : decode b_Tk_readSign 5 = .ok (.iload_n 1, 1) := by decide +kernel
theorem d_Tk_readSign_6 : decode b_Tk_readSign 6 = .ok (.aload_n 0, 1) := by decide +kernel
theorem d_Tk_readSign_7 : decode b_Tk_readSign 7 = .ok (.getfield 25, 3) := by decide +kernel
theorem d_Tk_readSign_10 : decode b_Tk_readSign 10 = .ok (.iload_n 1, 1) := by decide +kernel
theorem d_Tk_readSign_11 : decode b_Tk_readSign 11 = .ok (.caload, 1) := by decide +kernel
theorem d_Tk_readSign_12 : decode b_Tk_readSign 12 = .ok (.bipush 58, 2) := by decide +kernel
theorem d_Tk_readSign_14 : decode b_Tk_readSign 14 = .ok (.if_icmp .ne 7, 3) := by decide +kernel
theorem d_Tk_readSign_17 : decode b_Tk_readSign 17 = .ok (.iconst 2, 1) := by decide +kernel
theorem d_Tk_readSign_18 : decode b_Tk_readSign 18 = .ok (.goto 4, 3) := by decide +kernel
theorem d_Tk_readSign_21 : decode b_Tk_readSign 21 = .ok (.iconst 1, 1) := by decide +kernel
theorem d_Tk_readSign_22 : decode b_Tk_readSign 22 = .ok (.iadd, 1) := by decide +kernel
theorem d_Tk_readSign_23 : decode b_Tk_readSign 23 = .ok (.invokestatic 83, 3) := by decide +kernel
theorem d_Tk_readSign_26 : decode b_Tk_readSign 26 = .ok (.putfield 33, 3) := by decide +kernel
theorem d_Tk_readSign_29 : decode b_Tk_readSign 29 = .ok (.aload_n 0, 1) := by decide +kernel
theorem d_Tk_readSign_30 : decode b_Tk_readSign 30 = .ok (.iload_n 1, 1) := by decide +kernel
theorem d_Tk_readSign_31 : decode b_Tk_readSign 31 = .ok (.getstatic 47, 3) := by decide +kernel
theorem d_Tk_readSign_34 : decode b_Tk_readSign 34 = .ok (.invokevirtual 74, 3) := by decide +kernel
theorem d_Tk_readSign_37 : decode b_Tk_readSign 37 = .ok (.areturn, 1) := by decide +kernel
theorem d_Tk_kindSpelled_0 : decode b_Tk_kindSpelled 0 = .ok (.iconst 0, 1) := by decide +kernel
theorem d_Tk_kindSpelled_1 : decode b_Tk_kindSpelled 1 = .ok (.istore_n 3, 1) := by decide +kernel
theorem d_Tk_kindSpelled_2 : decode b_Tk_kindSpelled 2 = .ok (.iload_n 3, 1) := by decide +kernel
theorem d_Tk_kindSpelled_3 : decode b_Tk_kindSpelled 3 = .ok (.getstatic 89, 3) := by decide +kernel
theorem d_Tk_kindSpelled_6 : decode b_Tk_kindSpelled 6 = .ok (.arraylength, 1) := by decide +kernel
theorem d_Tk_kindSpelled_7 : decode b_Tk_kindSpelled 7 = .ok (.if_icmp .ge 31, 3) := by decide +kernel
theorem d_Tk_kindSpelled_10 : decode b_Tk_kindSpelled 10 = .ok (.aload_n 0, 1) := by decide +kernel
theorem d_Tk_kindSpelled_11 : decode b_Tk_kindSpelled 11 = .ok (.iload_n 1, 1) := by decide +kernel
theorem d_Tk_kindSpelled_12 : decode b_Tk_kindSpelled 12 = .ok (.getstatic 89, 3) := by decide +kernel
theorem d_Tk_kindSpelled_15 : decode b_Tk_kindSpelled 15 = .ok (.iload_n 3, 1) := by decide +kernel
theorem d_Tk_kindSpelled_16 : decode b_Tk_kindSpelled 16 = .ok (.aaload, 1) := by decide +kernel
theorem d_Tk_kindSpelled_17 : decode b_Tk_kindSpelled 17 = .ok (.getfield 92, 3) := by decide +kernel
theorem d_Tk_kindSpelled_20 : decode b_Tk_kindSpelled 20 = .ok (.invokevirtual 96, 3) := by decide +kernel
theorem d_Tk_kindSpelled_23 : decode b_Tk_kindSpelled 23 = .ok (.ifCond .eq 9, 3) := by decide +kernel
theorem d_Tk_kindSpelled_26 : decode b_Tk_kindSpelled 26 = .ok (.getstatic 89, 3) := by decide +kernel
theorem d_Tk_kindSpelled_29 : decode b_Tk_kindSpelled 29 = .ok (.iload_n 3, 1) := by decide +kernel
theorem d_Tk_kindSpelled_30 : decode b_Tk_kindSpelled 30 = .ok (.aaload, 1) := by decide +kernel
theorem d_Tk_kindSpelled_31 : decode b_Tk_kindSpelled 31 = .ok (.areturn, 1) := by decide +kernel
theorem d_Tk_kindSpelled_32 : decode b_Tk_kindSpelled 32 = .ok (.iinc 3 1, 3) := by decide +kernel
theorem d_Tk_kindSpelled_35 : decode b_Tk_kindSpelled 35 = .ok (.goto (-33), 3) := by decide +kernel
theorem d_Tk_kindSpelled_38 : decode b_Tk_kindSpelled 38 = .ok (.aload_n 2, 1) := by decide +kernel
theorem d_Tk_kindSpelled_39 : decode b_Tk_kindSpelled 39 = .ok (.areturn, 1) := by decide +kernel
theorem d_Tk_isSpelled_0 : decode b_Tk_isSpelled 0 = .ok (.aload_n 2, 1) := by decide +kernel
theorem d_Tk_isSpelled_1 : decode b_Tk_isSpelled 1 = .ok (.invokevirtual 100, 3) := by decide +kernel
theorem d_Tk_isSpelled_4 : decode b_Tk_isSpelled 4 = .ok (.aload_n 0, 1) := by decide +kernel
theorem d_Tk_isSpelled_5 : decode b_Tk_isSpelled 5 = .ok (.getfield 33, 3) := by decide +kernel
theorem d_Tk_isSpelled_8 : decode b_Tk_isSpelled 8 = .ok (.iload_n 1, 1) := by decide +kernel
theorem d_Tk_isSpelled_9 : decode b_Tk_isSpelled 9 = .ok (.isub, 1) := by decide +kernel
theorem d_Tk_isSpelled_10 : decode b_Tk_isSpelled 10 = .ok (.if_icmp .eq 5, 3) := by decide +kernel
theorem d_Tk_isSpelled_13 : decode b_Tk_isSpelled 13 = .ok (.iconst 0, 1) := by decide +kernel
theorem d_Tk_isSpelled_14 : decode b_Tk_isSpelled 14 = .ok (.ireturn, 1) := by decide +kernel
theorem d_Tk_isSpelled_15 : decode b_Tk_isSpelled 15 = .ok (.iconst 0, 1) := by decide +kernel
theorem d_Tk_isSpelled_16 : decode b_Tk_isSpelled 16 = .ok (.istore_n 3, 1) := by decide +kernel
theorem d_Tk_isSpelled_17 : decode b_Tk_isSpelled 17 = .ok (.iload_n 3, 1) := by decide +kernel
theorem d_Tk_isSpelled_18 : decode b_Tk_isSpelled 18 = .ok (.aload_n 2, 1) := by decide +kernel
theorem d_Tk_isSpelled_19 : decode b_Tk_isSpelled 19 = .ok (.invokevirtual 100, 3) := by decide +kernel
theorem d_Tk_isSpelled_22 : decode b_Tk_isSpelled 22 = .ok (.if_icmp .ge 27, 3) := by decide +kernel
theorem d_Tk_isSpelled_25 : decode b_Tk_isSpelled 25 = .ok (.aload_n 2, 1) := by decide +kernel
theorem d_Tk_isSpelled_26 : decode b_Tk_isSpelled 26 = .ok (.iload_n 3, 1) := by decide +kernel
theorem d_Tk_isSpelled_27 : decode b_Tk_isSpelled 27 = .ok (.invokevirtual 104, 3) := by decide +kernel
theorem d_Tk_isSpelled_30 : decode b_Tk_isSpelled 30 = .ok (.aload_n 0, 1) := by decide +kernel
theorem d_Tk_isSpelled_31 : decode b_Tk_isSpelled 31 = .ok (.getfield 25, 3) := by decide +kernel
theorem d_Tk_isSpelled_34 : decode b_Tk_isSpelled 34 = .ok (.iload_n 1, 1) := by decide +kernel
theorem d_Tk_isSpelled_35 : decode b_Tk_isSpelled 35 = .ok (.iload_n 3, 1) := by decide +kernel
theorem d_Tk_isSpelled_36 : decode b_Tk_isSpelled 36 = .ok (.iadd, 1) := by decide +kernel
theorem d_Tk_isSpelled_37 : decode b_Tk_isSpelled 37 = .ok (.caload, 1) := by decide +kernel
theorem d_Tk_isSpelled_38 : decode b_Tk_isSpelled 38 = .ok (.if_icmp .eq 5, 3) := by decide +kernel
theorem d_Tk_isSpelled_41 : decode b_Tk_isSpelled 41 = .ok (.iconst 0, 1) := by decide +kernel
theorem d_Tk_isSpelled_42 : decode b_Tk_isSpelled 42 = .ok (.ireturn, 1) := by decide +kernel
theorem d_Tk_isSpelled_43 : decode b_Tk_isSpelled 43 = .ok (.iinc 3 1, 3) := by decide +kernel
theorem d_Tk_isSpelled_46 : decode b_Tk_isSpelled 46 = .ok (.goto (-29), 3) := by decide +kernel
theorem d_Tk_isSpelled_49 : decode b_Tk_isSpelled 49 = .ok (.iconst 1, 1) := by decide +kernel
theorem d_Tk_isSpelled_50 : decode b_Tk_isSpelled 50 = .ok (.ireturn, 1) := by decide +kernel
theorem d_Tk_isLetter_0 : decode b_Tk_isLetter 0 = .ok (.iload_n 0, 1) := by decide +kernel
theorem d_Tk_isLetter_1 : decode b_Tk_isLetter 1 = .ok (.bipush 97, 2) := by decide +kernel
theorem d_Tk_isLetter_3 : decode b_Tk_isLetter 3 = .ok (.if_icmp .lt 13, 3) := by decide +kernel
theorem d_Tk_isLetter_6 : decode b_Tk_isLetter 6 = .ok (.iload_n 0, 1) := by decide +kernel
theorem d_Tk_isLetter_7 : decode b_Tk_isLetter 7 = .ok (.bipush 122, 2) := by decide +kernel
theorem d_Tk_isLetter_9 : decode b_Tk_isLetter 9 = .ok (.if_icmp .gt 7, 3) := by decide +kernel
theorem d_Tk_isLetter_12 : decode b_Tk_isLetter 12 = .ok (.iconst 1, 1) := by decide +kernel
theorem d_Tk_isLetter_13 : decode b_Tk_isLetter 13 = .ok (.goto 4, 3) := by decide +kernel
theorem d_Tk_isLetter_16 : decode b_Tk_isLetter 16 = .ok (.iconst 0, 1) := by decide +kernel
theorem d_Tk_isLetter_17 : decode b_Tk_isLetter 17 = .ok (.ireturn, 1) := by decide +kernel
theorem d_Tk_isDigit_0 : decode b_Tk_isDigit 0 = .ok (.iload_n 0, 1) := by decide +kernel
theorem d_Tk_isDigit_1 : decode b_Tk_isDigit 1 = .ok (.bipush 48, 2) := by decide +kernel
theorem d_Tk_isDigit_3 : decode b_Tk_isDigit 3 = .ok (.if_icmp .lt 13, 3) := by decide +kernel
theorem d_Tk_isDigit_6 : decode b_Tk_isDigit 6 = .ok (.iload_n 0, 1) := by decide +kernel
theorem d_Tk_isDigit_7 : decode b_Tk_isDigit 7 = .ok (.bipush 57, 2) := by decide +kernel
theorem d_Tk_isDigit_9 : decode b_Tk_isDigit 9 = .ok (.if_icmp .gt 7, 3) := by decide +kernel
theorem d_Tk_isDigit_12 : decode b_Tk_isDigit 12 = .ok (.iconst 1, 1) := by decide +kernel
theorem d_Tk_isDigit_13 : decode b_Tk_isDigit 13 = .ok (.goto 4, 3) := by decide +kernel
theorem d_Tk_isDigit_16 : decode b_Tk_isDigit 16 = .ok (.iconst 0, 1) := by decide +kernel
theorem d_Tk_isDigit_17 : decode b_Tk_isDigit 17 = .ok (.ireturn, 1) := by decide +kernel
theorem d_Tk_kind_0 : decode b_Tk_kind 0 = .ok (.aload_n 0, 1) := by decide +kernel
theorem d_Tk_kind_1 : decode b_Tk_kind 1 = .ok (.getfield 11, 3) := by decide +kernel
theorem d_Tk_kind_4 : decode b_Tk_kind 4 = .ok (.aload_n 0, 1) := by decide +kernel
theorem d_Tk_kind_5 : decode b_Tk_kind 5 = .ok (.getfield 36, 3) := by decide +kernel
theorem d_Tk_kind_8 : decode b_Tk_kind 8 = .ok (.aaload, 1) := by decide +kernel
theorem d_Tk_kind_9 : decode b_Tk_kind 9 = .ok (.areturn, 1) := by decide +kernel
theorem d_Tk_place_0 : decode b_Tk_place 0 = .ok (.aload_n 0, 1) := by decide +kernel
theorem d_Tk_place_1 : decode b_Tk_place 1 = .ok (.getfield 17, 3) := by decide +kernel
theorem d_Tk_place_4 : decode b_Tk_place 4 = .ok (.aload_n 0, 1) := by decide +kernel
theorem d_Tk_place_5 : decode b_Tk_place 5 = .ok (.getfield 36, 3) := by decide +kernel
theorem d_Tk_place_8 : decode b_Tk_place 8 = .ok (.iaload, 1) := by decide +kernel
theorem d_Tk_place_9 : decode b_Tk_place 9 = .ok (.ireturn, 1) := by decide +kernel
theorem d_Tk_content_0 : decode b_Tk_content 0 = .ok (.aload_n 0, 1) := by decide +kernel
theorem d_Tk_content_1 : decode b_Tk_content 1 = .ok (.getfield 21, 3) := by decide +kernel
theorem d_Tk_content_4 : decode b_Tk_content 4 = .ok (.aload_n 0, 1) := by decide +kernel
theorem d_Tk_content_5 : decode b_Tk_content 5 = .ok (.getfield 36, 3) := by decide +kernel
theorem d_Tk_content_8 : decode b_Tk_content 8 = .ok (.laload, 1) := by decide +kernel
theorem d_Tk_content_9 : decode b_Tk_content 9 = .ok (.lreturn, 1) := by decide +kernel
theorem d_Tk_isBefore_0 : decode b_Tk_isBefore 0 = .ok (.aload_n 0, 1) := by decide +kernel
theorem d_Tk_isBefore_1 : decode b_Tk_isBefore 1 = .ok (.getfield 36, 3) := by decide +kernel
theorem d_Tk_isBefore_4 : decode b_Tk_isBefore 4 = .ok (.sipush 150, 3) := by decide +kernel
theorem d_Tk_isBefore_7 : decode b_Tk_isBefore 7 = .ok (.if_icmp .ge 22, 3) := by decide +kernel
theorem d_Tk_isBefore_10 : decode b_Tk_isBefore 10 = .ok (.aload_n 0, 1) := by decide +kernel
theorem d_Tk_isBefore_11 : decode b_Tk_isBefore 11 = .ok (.getfield 11, 3) := by decide +kernel
theorem d_Tk_isBefore_14 : decode b_Tk_isBefore 14 = .ok (.aload_n 0, 1) := by decide +kernel
theorem d_Tk_isBefore_15 : decode b_Tk_isBefore 15 = .ok (.getfield 36, 3) := by decide +kernel
theorem d_Tk_isBefore_18 : decode b_Tk_isBefore 18 = .ok (.iconst 1, 1) := by decide +kernel
theorem d_Tk_isBefore_19 : decode b_Tk_isBefore 19 = .ok (.iadd, 1) := by decide +kernel
theorem d_Tk_isBefore_20 : decode b_Tk_isBefore 20 = .ok (.aaload, 1) := by decide +kernel
theorem d_Tk_isBefore_21 : decode b_Tk_isBefore 21 = .ok (.aload_n 1, 1) := by decide +kernel
theorem d_Tk_isBefore_22 : decode b_Tk_isBefore 22 = .ok (.if_acmp .ne 7, 3) := by decide +kernel
theorem d_Tk_isBefore_25 : decode b_Tk_isBefore 25 = .ok (.iconst 1, 1) := by decide +kernel
theorem d_Tk_isBefore_26 : decode b_Tk_isBefore 26 = .ok (.goto 4, 3) := by decide +kernel
theorem d_Tk_isBefore_29 : decode b_Tk_isBefore 29 = .ok (.iconst 0, 1) := by decide +kernel
theorem d_Tk_isBefore_30 : decode b_Tk_isBefore 30 = .ok (.ireturn, 1) := by decide +kernel
theorem d_Tk_advance_0 : decode b_Tk_advance 0 = .ok (.aload_n 0, 1) := by decide +kernel
theorem d_Tk_advance_1 : decode b_Tk_advance 1 = .ok (.getfield 36, 3) := by decide +kernel
theorem d_Tk_advance_4 : decode b_Tk_advance 4 = .ok (.sipush 150, 3) := by decide +kernel
theorem d_Tk_advance_7 : decode b_Tk_advance 7 = .ok (.if_icmp .ge 13, 3) := by decide +kernel
theorem d_Tk_advance_10 : decode b_Tk_advance 10 = .ok (.aload_n 0, 1) := by decide +kernel
theorem d_Tk_advance_11 : decode b_Tk_advance 11 = .ok (.dup, 1) := by decide +kernel
theorem d_Tk_advance_12 : decode b_Tk_advance 12 = .ok (.getfield 36, 3) := by decide +kernel
theorem d_Tk_advance_15 : decode b_Tk_advance 15 = .ok (.iconst 1, 1) := by decide +kernel
theorem d_Tk_advance_16 : decode b_Tk_advance 16 = .ok (.iadd, 1) := by decide +kernel
theorem d_Tk_advance_17 : decode b_Tk_advance 17 = .ok (.putfield 36, 3) := by decide +kernel
theorem d_Tk_advance_20 : decode b_Tk_advance 20 = .ok (.return_, 1) := by decide +kernel
theorem d_Tk_accept_0 : decode b_Tk_accept 0 = .ok (.aload_n 0, 1) := by decide +kernel
theorem d_Tk_accept_1 : decode b_Tk_accept 1 = .ok (.getfield 11, 3) := by decide +kernel
theorem d_Tk_accept_4 : decode b_Tk_accept 4 = .ok (.aload_n 0, 1) := by decide +kernel
theorem d_Tk_accept_5 : decode b_Tk_accept 5 = .ok (.getfield 36, 3) := by decide +kernel
theorem d_Tk_accept_8 : decode b_Tk_accept 8 = .ok (.aaload, 1) := by decide +kernel
theorem d_Tk_accept_9 : decode b_Tk_accept 9 = .ok (.aload_n 1, 1) := by decide +kernel
theorem d_Tk_accept_10 : decode b_Tk_accept 10 = .ok (.if_acmp .eq 5, 3) := by decide +kernel
theorem d_Tk_accept_13 : decode b_Tk_accept 13 = .ok (.iconst 0, 1) := by decide +kernel
theorem d_Tk_accept_14 : decode b_Tk_accept 14 = .ok (.ireturn, 1) := by decide +kernel
theorem d_Tk_accept_15 : decode b_Tk_accept 15 = .ok (.aload_n 0, 1) := by decide +kernel
theorem d_Tk_accept_16 : decode b_Tk_accept 16 = .ok (.invokevirtual 108, 3) := by decide +kernel
theorem d_Tk_accept_19 : decode b_Tk_accept 19 = .ok (.iconst 1, 1) := by decide +kernel
theorem d_Tk_accept_20 : decode b_Tk_accept 20 = .ok (.ireturn, 1) := by decide +kernel
