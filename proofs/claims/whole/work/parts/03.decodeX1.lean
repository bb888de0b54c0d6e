theorem dX1_init_0 : decode cX1_init 0 = .ok (.aload_n 0, 1) := by decide +kernel
theorem dX1_init_1 : decode cX1_init 1 = .ok (.invokespecial 3, 3) := by decide +kernel
theorem dX1_init_4 : decode cX1_init 4 = .ok (.aload_n 0, 1) := by decide +kernel
theorem dX1_init_5 : decode cX1_init 5 = .ok (.bipush 61, 2) := by decide +kernel
theorem dX1_init_7 : decode cX1_init 7 = .ok (.newarray .int, 2) := by decide +kernel
theorem dX1_init_9 : decode cX1_init 9 = .ok (.putfield 9, 3) := by decide +kernel
theorem dX1_init_12 : decode cX1_init 12 = .ok (.aload_n 0, 1) := by decide +kernel
theorem dX1_init_13 : decode cX1_init 13 = .ok (.bipush 61, 2) := by decide +kernel
theorem dX1_init_15 : decode cX1_init 15 = .ok (.newarray .int, 2) := by decide +kernel
theorem dX1_init_17 : decode cX1_init 17 = .ok (.putfield 15, 3) := by decide +kernel
theorem dX1_init_20 : decode cX1_init 20 = .ok (.aload_n 0, 1) := by decide +kernel
theorem dX1_init_21 : decode cX1_init 21 = .ok (.bipush 41, 2) := by decide +kernel
theorem dX1_init_23 : decode cX1_init 23 = .ok (.newarray .int, 2) := by decide +kernel
theorem dX1_init_25 : decode cX1_init 25 = .ok (.putfield 18, 3) := by decide +kernel
theorem dX1_init_28 : decode cX1_init 28 = .ok (.aload_n 0, 1) := by decide +kernel
theorem dX1_init_29 : decode cX1_init 29 = .ok (.bipush 41, 2) := by decide +kernel
theorem dX1_init_31 : decode cX1_init 31 = .ok (.newarray .int, 2) := by decide +kernel
theorem dX1_init_33 : decode cX1_init 33 = .ok (.putfield 21, 3) := by decide +kernel
theorem dX1_init_36 : decode cX1_init 36 = .ok (.aload_n 0, 1) := by decide +kernel
theorem dX1_init_37 : decode cX1_init 37 = .ok (.lconst 1, 1) := by decide +kernel
theorem dX1_init_38 : decode cX1_init 38 = .ok (.putfield 24, 3) := by decide +kernel
theorem dX1_init_41 : decode cX1_init 41 = .ok (.aload_n 0, 1) := by decide +kernel
theorem dX1_init_42 : decode cX1_init 42 = .ok (.lconst 1, 1) := by decide +kernel
theorem dX1_init_43 : decode cX1_init 43 = .ok (.putfield 28, 3) := by decide +kernel
theorem dX1_init_46 : decode cX1_init 46 = .ok (.aload_n 0, 1) := by decide +kernel
theorem dX1_init_47 : decode cX1_init 47 = .ok (.lconst 1, 1) := by decide +kernel
theorem dX1_init_48 : decode cX1_init 48 = .ok (.putfield 31, 3) := by decide +kernel
theorem dX1_init_51 : decode cX1_init 51 = .ok (.aload_n 0, 1) := by decide +kernel
theorem dX1_init_52 : decode cX1_init 52 = .ok (.iconst 0, 1) := by decide +kernel
theorem dX1_init_53 : decode cX1_init 53 = .ok (.putfield 34, 3) := by decide +kernel
theorem dX1_init_56 : decode cX1_init 56 = .ok (.aload_n 0, 1) := by decide +kernel
theorem dX1_init_57 : decode cX1_init 57 = .ok (.iconst 0, 1) := by decide +kernel
theorem dX1_init_58 : decode cX1_init 58 = .ok (.putfield 38, 3) := by decide +kernel
theorem dX1_init_61 : decode cX1_init 61 = .ok (.aload_n 0, 1) := by decide +kernel
theorem dX1_init_62 : decode cX1_init 62 = .ok (.iload_n 1, 1) := by decide +kernel
theorem dX1_init_63 : decode cX1_init 63 = .ok (.putfield 41, 3) := by decide +kernel
theorem dX1_init_66 : decode cX1_init 66 = .ok (.aload_n 0, 1) := by decide +kernel
theorem dX1_init_67 : decode cX1_init 67 = .ok (.iload_n 2, 1) := by decide +kernel
theorem dX1_init_68 : decode cX1_init 68 = .ok (.putfield 44, 3) := by decide +kernel
theorem dX1_init_71 : decode cX1_init 71 = .ok (.aload_n 0, 1) := by decide +kernel
theorem dX1_init_72 : decode cX1_init 72 = .ok (.aload_n 3, 1) := by decide +kernel
theorem dX1_init_73 : decode cX1_init 73 = .ok (.putfield 47, 3) := by decide +kernel
theorem dX1_init_76 : decode cX1_init 76 = .ok (.aload_n 0, 1) := by decide +kernel
theorem dX1_init_77 : decode cX1_init 77 = .ok (.getfield 18, 3) := by decide +kernel
theorem dX1_init_80 : decode cX1_init 80 = .ok (.iconst (-1), 1) := by decide +kernel
theorem dX1_init_81 : decode cX1_init 81 = .ok (.invokestatic 51, 3) := by decide +kernel
theorem dX1_init_84 : decode cX1_init 84 = .ok (.aload_n 0, 1) := by decide +kernel
theorem dX1_init_85 : decode cX1_init 85 = .ok (.getfield 21, 3) := by decide +kernel
theorem dX1_init_88 : decode cX1_init 88 = .ok (.iconst (-1), 1) := by decide +kernel
theorem dX1_init_89 : decode cX1_init 89 = .ok (.invokestatic 51, 3) := by decide +kernel
theorem dX1_init_92 : decode cX1_init 92 = .ok (.return_, 1) := by decide +kernel
theorem dX1_expectProposal_0 : decode cX1_expectProposal 0 = .ok (.aload_n 0, 1) := by decide +kernel
theorem dX1_expectProposal_1 : decode cX1_expectProposal 1 = .ok (.getfield 57, 3) := by decide +kernel
theorem dX1_expectProposal_4 : decode cX1_expectProposal 4 = .ok (.aload_n 0, 1) := by decide +kernel
theorem dX1_expectProposal_5 : decode cX1_expectProposal 5 = .ok (.getfield 60, 3) := by decide +kernel
theorem dX1_expectProposal_8 : decode cX1_expectProposal 8 = .ok (.lor, 1) := by decide +kernel
theorem dX1_expectProposal_9 : decode cX1_expectProposal 9 = .ok (.iload_n 1, 1) := by decide +kernel
theorem dX1_expectProposal_10 : decode cX1_expectProposal 10 = .ok (.invokestatic 63, 3) := by decide +kernel
theorem dX1_expectProposal_13 : decode cX1_expectProposal 13 = .ok (.ifCond .ne 7, 3) := by decide +kernel
theorem dX1_expectProposal_16 : decode cX1_expectProposal 16 = .ok (.iconst 1, 1) := by decide +kernel
theorem dX1_expectProposal_17 : decode cX1_expectProposal 17 = .ok (.goto 4, 3) := by decide +kernel
theorem dX1_expectProposal_20 : decode cX1_expectProposal 20 = .ok (.iconst 0, 1) := by decide +kernel
theorem dX1_expectProposal_21 : decode cX1_expectProposal 21 = .ok (.istore_n 2, 1) := by decide +kernel
theorem dX1_expectProposal_22 : decode cX1_expectProposal 22 = .ok (.iload_n 2, 1) := by decide +kernel
theorem dX1_expectProposal_23 : decode cX1_expectProposal 23 = .ok (.ifCond .eq 15, 3) := by decide +kernel
theorem dX1_expectProposal_26 : decode cX1_expectProposal 26 = .ok (.aload_n 0, 1) := by decide +kernel
theorem dX1_expectProposal_27 : decode cX1_expectProposal 27 = .ok (.dup, 1) := by decide +kernel
theorem dX1_expectProposal_28 : decode cX1_expectProposal 28 = .ok (.getfield 60, 3) := by decide +kernel
theorem dX1_expectProposal_31 : decode cX1_expectProposal 31 = .ok (.lconst 1, 1) := by decide +kernel
theorem dX1_expectProposal_32 : decode cX1_expectProposal 32 = .ok (.iload_n 1, 1) := by decide +kernel
theorem dX1_expectProposal_33 : decode cX1_expectProposal 33 = .ok (.lshl, 1) := by decide +kernel
theorem dX1_expectProposal_34 : decode cX1_expectProposal 34 = .ok (.lor, 1) := by decide +kernel
theorem dX1_expectProposal_35 : decode cX1_expectProposal 35 = .ok (.putfield 60, 3) := by decide +kernel
theorem dX1_expectProposal_38 : decode cX1_expectProposal 38 = .ok (.iload_n 2, 1) := by decide +kernel
theorem dX1_expectProposal_39 : decode cX1_expectProposal 39 = .ok (.ireturn, 1) := by decide +kernel
theorem dX1_expectVote_0 : decode cX1_expectVote 0 = .ok (.aload_n 0, 1) := by decide +kernel
theorem dX1_expectVote_1 : decode cX1_expectVote 1 = .ok (.getfield 9, 3) := by decide +kernel
theorem dX1_expectVote_4 : decode cX1_expectVote 4 = .ok (.iload_n 2, 1) := by decide +kernel
theorem dX1_expectVote_5 : decode cX1_expectVote 5 = .ok (.iaload, 1) := by decide +kernel
theorem dX1_expectVote_6 : decode cX1_expectVote 6 = .ok (.aload_n 0, 1) := by decide +kernel
theorem dX1_expectVote_7 : decode cX1_expectVote 7 = .ok (.getfield 15, 3) := by decide +kernel
theorem dX1_expectVote_10 : decode cX1_expectVote 10 = .ok (.iload_n 2, 1) := by decide +kernel
theorem dX1_expectVote_11 : decode cX1_expectVote 11 = .ok (.iaload, 1) := by decide +kernel
theorem dX1_expectVote_12 : decode cX1_expectVote 12 = .ok (.ior, 1) := by decide +kernel
theorem dX1_expectVote_13 : decode cX1_expectVote 13 = .ok (.i2l, 1) := by decide +kernel
theorem dX1_expectVote_14 : decode cX1_expectVote 14 = .ok (.iload_n 1, 1) := by decide +kernel
theorem dX1_expectVote_15 : decode cX1_expectVote 15 = .ok (.invokestatic 63, 3) := by decide +kernel
theorem dX1_expectVote_18 : decode cX1_expectVote 18 = .ok (.ifCond .ne 7, 3) := by decide +kernel
theorem dX1_expectVote_21 : decode cX1_expectVote 21 = .ok (.iconst 1, 1) := by decide +kernel
theorem dX1_expectVote_22 : decode cX1_expectVote 22 = .ok (.goto 4, 3) := by decide +kernel
theorem dX1_expectVote_25 : decode cX1_expectVote 25 = .ok (.iconst 0, 1) := by decide +kernel
theorem dX1_expectVote_26 : decode cX1_expectVote 26 = .ok (.istore_n 3, 1) := by decide +kernel
theorem dX1_expectVote_27 : decode cX1_expectVote 27 = .ok (.iload_n 3, 1) := by decide +kernel
theorem dX1_expectVote_28 : decode cX1_expectVote 28 = .ok (.ifCond .eq 15, 3) := by decide +kernel
theorem dX1_expectVote_31 : decode cX1_expectVote 31 = .ok (.aload_n 0, 1) := by decide +kernel
theorem dX1_expectVote_32 : decode cX1_expectVote 32 = .ok (.getfield 15, 3) := by decide +kernel
theorem dX1_expectVote_35 : decode cX1_expectVote 35 = .ok (.iload_n 2, 1) := by decide +kernel
theorem dX1_expectVote_36 : decode cX1_expectVote 36 = .ok (.dup2, 1) := by decide +kernel
theorem dX1_expectVote_37 : decode cX1_expectVote 37 = .ok (.iaload, 1) := by decide +kernel
theorem dX1_expectVote_38 : decode cX1_expectVote 38 = .ok (.iconst 1, 1) := by decide +kernel
theorem dX1_expectVote_39 : decode cX1_expectVote 39 = .ok (.iload_n 1, 1) := by decide +kernel
theorem dX1_expectVote_40 : decode cX1_expectVote 40 = .ok (.ishl, 1) := by decide +kernel
theorem dX1_expectVote_41 : decode cX1_expectVote 41 = .ok (.ior, 1) := by decide +kernel
theorem dX1_expectVote_42 : decode cX1_expectVote 42 = .ok (.iastore, 1) := by decide +kernel
theorem dX1_expectVote_43 : decode cX1_expectVote 43 = .ok (.iload_n 3, 1) := by decide +kernel
theorem dX1_expectVote_44 : decode cX1_expectVote 44 = .ok (.ireturn, 1) := by decide +kernel
theorem dX1_haveProposal_0 : decode cX1_haveProposal 0 = .ok (.aload_n 0, 1) := by decide +kernel
theorem dX1_haveProposal_1 : decode cX1_haveProposal 1 = .ok (.dup, 1) := by decide +kernel
theorem dX1_haveProposal_2 : decode cX1_haveProposal 2 = .ok (.getfield 57, 3) := by decide +kernel
theorem dX1_haveProposal_5 : decode cX1_haveProposal 5 = .ok (.lconst 1, 1) := by decide +kernel
theorem dX1_haveProposal_6 : decode cX1_haveProposal 6 = .ok (.iload_n 1, 1) := by decide +kernel
theorem dX1_haveProposal_7 : decode cX1_haveProposal 7 = .ok (.lshl, 1) := by decide +kernel
theorem dX1_haveProposal_8 : decode cX1_haveProposal 8 = .ok (.lor, 1) := by decide +kernel
theorem dX1_haveProposal_9 : decode cX1_haveProposal 9 = .ok (.putfield 57, 3) := by decide +kernel
theorem dX1_haveProposal_12 : decode cX1_haveProposal 12 = .ok (.aload_n 0, 1) := by decide +kernel
theorem dX1_haveProposal_13 : decode cX1_haveProposal 13 = .ok (.dup, 1) := by decide +kernel
theorem dX1_haveProposal_14 : decode cX1_haveProposal 14 = .ok (.getfield 60, 3) := by decide +kernel
theorem dX1_haveProposal_17 : decode cX1_haveProposal 17 = .ok (.lconst 1, 1) := by decide +kernel
theorem dX1_haveProposal_18 : decode cX1_haveProposal 18 = .ok (.iload_n 1, 1) := by decide +kernel
theorem dX1_haveProposal_19 : decode cX1_haveProposal 19 = .ok (.lshl, 1) := by decide +kernel
theorem dX1_haveProposal_20 : decode cX1_haveProposal 20 = .ok (.ldc2_w 67, 3) := by decide +kernel
theorem dX1_haveProposal_23 : decode cX1_haveProposal 23 = .ok (.lxor, 1) := by decide +kernel
theorem dX1_haveProposal_24 : decode cX1_haveProposal 24 = .ok (.land, 1) := by decide +kernel
theorem dX1_haveProposal_25 : decode cX1_haveProposal 25 = .ok (.putfield 60, 3) := by decide +kernel
theorem dX1_haveProposal_28 : decode cX1_haveProposal 28 = .ok (.aload_n 0, 1) := by decide +kernel
theorem dX1_haveProposal_29 : decode cX1_haveProposal 29 = .ok (.getfield 47, 3) := by decide +kernel
theorem dX1_haveProposal_32 : decode cX1_haveProposal 32 = .ok (.getfield 69, 3) := by decide +kernel
theorem dX1_haveProposal_35 : decode cX1_haveProposal 35 = .ok (.iload_n 1, 1) := by decide +kernel
theorem dX1_haveProposal_36 : decode cX1_haveProposal 36 = .ok (.iaload, 1) := by decide +kernel
theorem dX1_haveProposal_37 : decode cX1_haveProposal 37 = .ok (.istore_n 2, 1) := by decide +kernel
theorem dX1_haveProposal_38 : decode cX1_haveProposal 38 = .ok (.aload_n 0, 1) := by decide +kernel
theorem dX1_haveProposal_39 : decode cX1_haveProposal 39 = .ok (.getfield 18, 3) := by decide +kernel
theorem dX1_haveProposal_42 : decode cX1_haveProposal 42 = .ok (.iload_n 2, 1) := by decide +kernel
theorem dX1_haveProposal_43 : decode cX1_haveProposal 43 = .ok (.iaload, 1) := by decide +kernel
theorem dX1_haveProposal_44 : decode cX1_haveProposal 44 = .ok (.iconst (-1), 1) := by decide +kernel
theorem dX1_haveProposal_45 : decode cX1_haveProposal 45 = .ok (.if_icmp .ne 10, 3) := by decide +kernel
theorem dX1_haveProposal_48 : decode cX1_haveProposal 48 = .ok (.aload_n 0, 1) := by decide +kernel
theorem dX1_haveProposal_49 : decode cX1_haveProposal 49 = .ok (.getfield 18, 3) := by decide +kernel
theorem dX1_haveProposal_52 : decode cX1_haveProposal 52 = .ok (.iload_n 2, 1) := by decide +kernel
theorem dX1_haveProposal_53 : decode cX1_haveProposal 53 = .ok (.iload_n 1, 1) := by decide +kernel
theorem dX1_haveProposal_54 : decode cX1_haveProposal 54 = .ok (.iastore, 1) := by decide +kernel
theorem dX1_haveProposal_55 : decode cX1_haveProposal 55 = .ok (.aload_n 0, 1) := by decide +kernel
theorem dX1_haveProposal_56 : decode cX1_haveProposal 56 = .ok (.iload_n 1, 1) := by decide +kernel
theorem dX1_haveProposal_57 : decode cX1_haveProposal 57 = .ok (.invokevirtual 74, 3) := by decide +kernel
theorem dX1_haveProposal_60 : decode cX1_haveProposal 60 = .ok (.return_, 1) := by decide +kernel
theorem dX1_haveVote_0 : decode cX1_haveVote 0 = .ok (.aload_n 0, 1) := by decide +kernel
theorem dX1_haveVote_1 : decode cX1_haveVote 1 = .ok (.getfield 9, 3) := by decide +kernel
theorem dX1_haveVote_4 : decode cX1_haveVote 4 = .ok (.iload_n 2, 1) := by decide +kernel
theorem dX1_haveVote_5 : decode cX1_haveVote 5 = .ok (.dup2, 1) := by decide +kernel
theorem dX1_haveVote_6 : decode cX1_haveVote 6 = .ok (.iaload, 1) := by decide +kernel
theorem dX1_haveVote_7 : decode cX1_haveVote 7 = .ok (.iconst 1, 1) := by decide +kernel
theorem dX1_haveVote_8 : decode cX1_haveVote 8 = .ok (.iload_n 1, 1) := by decide +kernel
theorem dX1_haveVote_9 : decode cX1_haveVote 9 = .ok (.ishl, 1) := by decide +kernel
theorem dX1_haveVote_10 : decode cX1_haveVote 10 = .ok (.ior, 1) := by decide +kernel
theorem dX1_haveVote_11 : decode cX1_haveVote 11 = .ok (.iastore, 1) := by decide +kernel
theorem dX1_haveVote_12 : decode cX1_haveVote 12 = .ok (.aload_n 0, 1) := by decide +kernel
theorem dX1_haveVote_13 : decode cX1_haveVote 13 = .ok (.getfield 15, 3) := by decide +kernel
theorem dX1_haveVote_16 : decode cX1_haveVote 16 = .ok (.iload_n 2, 1) := by decide +kernel
theorem dX1_haveVote_17 : decode cX1_haveVote 17 = .ok (.dup2, 1) := by decide +kernel
theorem dX1_haveVote_18 : decode cX1_haveVote 18 = .ok (.iaload, 1) := by decide +kernel
theorem dX1_haveVote_19 : decode cX1_haveVote 19 = .ok (.iconst 1, 1) := by decide +kernel
theorem dX1_haveVote_20 : decode cX1_haveVote 20 = .ok (.iload_n 1, 1) := by decide +kernel
theorem dX1_haveVote_21 : decode cX1_haveVote 21 = .ok (.ishl, 1) := by decide +kernel
theorem dX1_haveVote_22 : decode cX1_haveVote 22 = .ok (.iconst (-1), 1) := by decide +kernel
theorem dX1_haveVote_23 : decode cX1_haveVote 23 = .ok (.ixor, 1) := by decide +kernel
theorem dX1_haveVote_24 : decode cX1_haveVote 24 = .ok (.iand, 1) := by decide +kernel
theorem dX1_haveVote_25 : decode cX1_haveVote 25 = .ok (.iastore, 1) := by decide +kernel
theorem dX1_haveVote_26 : decode cX1_haveVote 26 = .ok (.aload_n 0, 1) := by decide +kernel
theorem dX1_haveVote_27 : decode cX1_haveVote 27 = .ok (.iload_n 2, 1) := by decide +kernel
theorem dX1_haveVote_28 : decode cX1_haveVote 28 = .ok (.invokevirtual 74, 3) := by decide +kernel
theorem dX1_haveVote_31 : decode cX1_haveVote 31 = .ok (.return_, 1) := by decide +kernel
theorem dX1_judgeFrom_0 : decode cX1_judgeFrom 0 = .ok (.iload_n 1, 1) := by decide +kernel
theorem dX1_judgeFrom_1 : decode cX1_judgeFrom 1 = .ok (.istore_n 2, 1) := by decide +kernel
theorem dX1_judgeFrom_2 : decode cX1_judgeFrom 2 = .ok (.iload_n 2, 1) := by decide +kernel
theorem dX1_judgeFrom_3 : decode cX1_judgeFrom 3 = .ok (.aload_n 0, 1) := by decide +kernel
theorem dX1_judgeFrom_4 : decode cX1_judgeFrom 4 = .ok (.getfield 47, 3) := by decide +kernel
theorem dX1_judgeFrom_7 : decode cX1_judgeFrom 7 = .ok (.getfield 78, 3) := by decide +kernel
theorem dX1_judgeFrom_10 : decode cX1_judgeFrom 10 = .ok (.if_icmp .ge 149, 3) := by decide +kernel
theorem dX1_judgeFrom_13 : decode cX1_judgeFrom 13 = .ok (.aload_n 0, 1) := by decide +kernel
theorem dX1_judgeFrom_14 : decode cX1_judgeFrom 14 = .ok (.getfield 47, 3) := by decide +kernel
theorem dX1_judgeFrom_17 : decode cX1_judgeFrom 17 = .ok (.getfield 81, 3) := by decide +kernel
theorem dX1_judgeFrom_20 : decode cX1_judgeFrom 20 = .ok (.iload_n 2, 1) := by decide +kernel
theorem dX1_judgeFrom_21 : decode cX1_judgeFrom 21 = .ok (.iaload, 1) := by decide +kernel
theorem dX1_judgeFrom_22 : decode cX1_judgeFrom 22 = .ok (.istore_n 3, 1) := by decide +kernel
theorem dX1_judgeFrom_23 : decode cX1_judgeFrom 23 = .ok (.iload_n 3, 1) := by decide +kernel
theorem dX1_judgeFrom_24 : decode cX1_judgeFrom 24 = .ok (.iconst (-1), 1) := by decide +kernel
theorem dX1_judgeFrom_25 : decode cX1_judgeFrom 25 = .ok (.if_icmp .ne 6, 3) := by decide +kernel
theorem dX1_judgeFrom_28 : decode cX1_judgeFrom 28 = .ok (.goto 125, 3) := by decide +kernel
theorem dX1_judgeFrom_31 : decode cX1_judgeFrom 31 = .ok (.aload_n 0, 1) := by decide +kernel
theorem dX1_judgeFrom_32 : decode cX1_judgeFrom 32 = .ok (.getfield 57, 3) := by decide +kernel
theorem dX1_judgeFrom_35 : decode cX1_judgeFrom 35 = .ok (.iload_n 2, 1) := by decide +kernel
theorem dX1_judgeFrom_36 : decode cX1_judgeFrom 36 = .ok (.invokestatic 63, 3) := by decide +kernel
theorem dX1_judgeFrom_39 : decode cX1_judgeFrom 39 = .ok (.ifCond .eq 26, 3) := by decide +kernel
theorem dX1_judgeFrom_42 : decode cX1_judgeFrom 42 = .ok (.aload_n 0, 1) := by decide +kernel
theorem dX1_judgeFrom_43 : decode cX1_judgeFrom 43 = .ok (.getfield 24, 3) := by decide +kernel
theorem dX1_judgeFrom_46 : decode cX1_judgeFrom 46 = .ok (.iload_n 3, 1) := by decide +kernel
theorem dX1_judgeFrom_47 : decode cX1_judgeFrom 47 = .ok (.invokestatic 63, 3) := by decide +kernel
theorem dX1_judgeFrom_50 : decode cX1_judgeFrom 50 = .ok (.ifCond .eq 15, 3) := by decide +kernel
theorem dX1_judgeFrom_53 : decode cX1_judgeFrom 53 = .ok (.aload_n 0, 1) := by decide +kernel
theorem dX1_judgeFrom_54 : decode cX1_judgeFrom 54 = .ok (.dup, 1) := by decide +kernel
theorem dX1_judgeFrom_55 : decode cX1_judgeFrom 55 = .ok (.getfield 24, 3) := by decide +kernel
theorem dX1_judgeFrom_58 : decode cX1_judgeFrom 58 = .ok (.lconst 1, 1) := by decide +kernel
theorem dX1_judgeFrom_59 : decode cX1_judgeFrom 59 = .ok (.iload_n 2, 1) := by decide +kernel
theorem dX1_judgeFrom_60 : decode cX1_judgeFrom 60 = .ok (.lshl, 1) := by decide +kernel
theorem dX1_judgeFrom_61 : decode cX1_judgeFrom 61 = .ok (.lor, 1) := by decide +kernel
theorem dX1_judgeFrom_62 : decode cX1_judgeFrom 62 = .ok (.putfield 24, 3) := by decide +kernel
theorem dX1_judgeFrom_65 : decode cX1_judgeFrom 65 = .ok (.iconst 3, 1) := by decide +kernel
theorem dX1_judgeFrom_66 : decode cX1_judgeFrom 66 = .ok (.aload_n 0, 1) := by decide +kernel
theorem dX1_judgeFrom_67 : decode cX1_judgeFrom 67 = .ok (.getfield 9, 3) := by decide +kernel
theorem dX1_judgeFrom_70 : decode cX1_judgeFrom 70 = .ok (.iload_n 2, 1) := by decide +kernel
theorem dX1_judgeFrom_71 : decode cX1_judgeFrom 71 = .ok (.iaload, 1) := by decide +kernel
theorem dX1_judgeFrom_72 : decode cX1_judgeFrom 72 = .ok (.invokestatic 84, 3) := by decide +kernel
theorem dX1_judgeFrom_75 : decode cX1_judgeFrom 75 = .ok (.imul, 1) := by decide +kernel
theorem dX1_judgeFrom_76 : decode cX1_judgeFrom 76 = .ok (.iconst 2, 1) := by decide +kernel
theorem dX1_judgeFrom_77 : decode cX1_judgeFrom 77 = .ok (.aload_n 0, 1) := by decide +kernel
theorem dX1_judgeFrom_78 : decode cX1_judgeFrom 78 = .ok (.getfield 44, 3) := by decide +kernel
theorem dX1_judgeFrom_81 : decode cX1_judgeFrom 81 = .ok (.imul, 1) := by decide +kernel
theorem dX1_judgeFrom_82 : decode cX1_judgeFrom 82 = .ok (.if_icmp .lt 7, 3) := by decide +kernel
theorem dX1_judgeFrom_85 : decode cX1_judgeFrom 85 = .ok (.iconst 1, 1) := by decide +kernel
theorem dX1_judgeFrom_86 : decode cX1_judgeFrom 86 = .ok (.goto 4, 3) := by decide +kernel
theorem dX1_judgeFrom_89 : decode cX1_judgeFrom 89 = .ok (.iconst 0, 1) := by decide +kernel
theorem dX1_judgeFrom_90 : decode cX1_judgeFrom 90 = .ok (.istore 4, 2) := by decide +kernel
theorem dX1_judgeFrom_92 : decode cX1_judgeFrom 92 = .ok (.iload 4, 2) := by decide +kernel
theorem dX1_judgeFrom_94 : decode cX1_judgeFrom 94 = .ok (.ifCond .eq 59, 3) := by decide +kernel
theorem dX1_judgeFrom_97 : decode cX1_judgeFrom 97 = .ok (.aload_n 0, 1) := by decide +kernel
theorem dX1_judgeFrom_98 : decode cX1_judgeFrom 98 = .ok (.getfield 28, 3) := by decide +kernel
theorem dX1_judgeFrom_101 : decode cX1_judgeFrom 101 = .ok (.iload_n 2, 1) := by decide +kernel
theorem dX1_judgeFrom_102 : decode cX1_judgeFrom 102 = .ok (.invokestatic 63, 3) := by decide +kernel
theorem dX1_judgeFrom_105 : decode cX1_judgeFrom 105 = .ok (.ifCond .ne 48, 3) := by decide +kernel
theorem dX1_judgeFrom_108 : decode cX1_judgeFrom 108 = .ok (.aload_n 0, 1) := by decide +kernel
theorem dX1_judgeFrom_109 : decode cX1_judgeFrom 109 = .ok (.getfield 24, 3) := by decide +kernel
theorem dX1_judgeFrom_112 : decode cX1_judgeFrom 112 = .ok (.iload_n 2, 1) := by decide +kernel
theorem dX1_judgeFrom_113 : decode cX1_judgeFrom 113 = .ok (.invokestatic 63, 3) := by decide +kernel
theorem dX1_judgeFrom_116 : decode cX1_judgeFrom 116 = .ok (.ifCond .eq 37, 3) := by decide +kernel
theorem dX1_judgeFrom_119 : decode cX1_judgeFrom 119 = .ok (.aload_n 0, 1) := by decide +kernel
theorem dX1_judgeFrom_120 : decode cX1_judgeFrom 120 = .ok (.getfield 28, 3) := by decide +kernel
theorem dX1_judgeFrom_123 : decode cX1_judgeFrom 123 = .ok (.iload_n 3, 1) := by decide +kernel
theorem dX1_judgeFrom_124 : decode cX1_judgeFrom 124 = .ok (.invokestatic 63, 3) := by decide +kernel
theorem dX1_judgeFrom_127 : decode cX1_judgeFrom 127 = .ok (.ifCond .eq 26, 3) := by decide +kernel
theorem dX1_judgeFrom_130 : decode cX1_judgeFrom 130 = .ok (.aload_n 0, 1) := by decide +kernel
theorem dX1_judgeFrom_131 : decode cX1_judgeFrom 131 = .ok (.dup, 1) := by decide +kernel
theorem dX1_judgeFrom_132 : decode cX1_judgeFrom 132 = .ok (.getfield 28, 3) := by decide +kernel
theorem dX1_judgeFrom_135 : decode cX1_judgeFrom 135 = .ok (.lconst 1, 1) := by decide +kernel
theorem dX1_judgeFrom_136 : decode cX1_judgeFrom 136 = .ok (.iload_n 2, 1) := by decide +kernel
theorem dX1_judgeFrom_137 : decode cX1_judgeFrom 137 = .ok (.lshl, 1) := by decide +kernel
theorem dX1_judgeFrom_138 : decode cX1_judgeFrom 138 = .ok (.lor, 1) := by decide +kernel
theorem dX1_judgeFrom_139 : decode cX1_judgeFrom 139 = .ok (.putfield 28, 3) := by decide +kernel
theorem dX1_judgeFrom_142 : decode cX1_judgeFrom 142 = .ok (.aload_n 0, 1) := by decide +kernel
theorem dX1_judgeFrom_143 : decode cX1_judgeFrom 143 = .ok (.iload_n 2, 1) := by decide +kernel
theorem dX1_judgeFrom_144 : decode cX1_judgeFrom 144 = .ok (.invokevirtual 90, 3) := by decide +kernel
theorem dX1_judgeFrom_147 : decode cX1_judgeFrom 147 = .ok (.aload_n 0, 1) := by decide +kernel
theorem dX1_judgeFrom_148 : decode cX1_judgeFrom 148 = .ok (.iload_n 2, 1) := by decide +kernel
theorem dX1_judgeFrom_149 : decode cX1_judgeFrom 149 = .ok (.iload_n 3, 1) := by decide +kernel
theorem dX1_judgeFrom_150 : decode cX1_judgeFrom 150 = .ok (.invokevirtual 93, 3) := by decide +kernel
theorem dX1_judgeFrom_153 : decode cX1_judgeFrom 153 = .ok (.iinc 2 1, 3) := by decide +kernel
theorem dX1_judgeFrom_156 : decode cX1_judgeFrom 156 = .ok (.goto (-154), 3) := by decide +kernel
theorem dX1_judgeFrom_159 : decode cX1_judgeFrom 159 = .ok (.return_, 1) := by decide +kernel
theorem dX1_raiseTip_0 : decode cX1_raiseTip 0 = .ok (.aload_n 0, 1) := by decide +kernel
theorem dX1_raiseTip_1 : decode cX1_raiseTip 1 = .ok (.getfield 47, 3) := by decide +kernel
theorem dX1_raiseTip_4 : decode cX1_raiseTip 4 = .ok (.getfield 97, 3) := by decide +kernel
theorem dX1_raiseTip_7 : decode cX1_raiseTip 7 = .ok (.iload_n 1, 1) := by decide +kernel
theorem dX1_raiseTip_8 : decode cX1_raiseTip 8 = .ok (.iaload, 1) := by decide +kernel
theorem dX1_raiseTip_9 : decode cX1_raiseTip 9 = .ok (.aload_n 0, 1) := by decide +kernel
theorem dX1_raiseTip_10 : decode cX1_raiseTip 10 = .ok (.getfield 47, 3) := by decide +kernel
theorem dX1_raiseTip_13 : decode cX1_raiseTip 13 = .ok (.getfield 97, 3) := by decide +kernel
theorem dX1_raiseTip_16 : decode cX1_raiseTip 16 = .ok (.aload_n 0, 1) := by decide +kernel
theorem dX1_raiseTip_17 : decode cX1_raiseTip 17 = .ok (.getfield 34, 3) := by decide +kernel
theorem dX1_raiseTip_20 : decode cX1_raiseTip 20 = .ok (.iaload, 1) := by decide +kernel
theorem dX1_raiseTip_21 : decode cX1_raiseTip 21 = .ok (.isub, 1) := by decide +kernel
theorem dX1_raiseTip_22 : decode cX1_raiseTip 22 = .ok (.istore_n 2, 1) := by decide +kernel
theorem dX1_raiseTip_23 : decode cX1_raiseTip 23 = .ok (.aload_n 0, 1) := by decide +kernel
theorem dX1_raiseTip_24 : decode cX1_raiseTip 24 = .ok (.getfield 47, 3) := by decide +kernel
theorem dX1_raiseTip_27 : decode cX1_raiseTip 27 = .ok (.getfield 69, 3) := by decide +kernel
theorem dX1_raiseTip_30 : decode cX1_raiseTip 30 = .ok (.iload_n 1, 1) := by decide +kernel
theorem dX1_raiseTip_31 : decode cX1_raiseTip 31 = .ok (.iaload, 1) := by decide +kernel
theorem dX1_raiseTip_32 : decode cX1_raiseTip 32 = .ok (.aload_n 0, 1) := by decide +kernel
theorem dX1_raiseTip_33 : decode cX1_raiseTip 33 = .ok (.getfield 47, 3) := by decide +kernel
theorem dX1_raiseTip_36 : decode cX1_raiseTip 36 = .ok (.getfield 69, 3) := by decide +kernel
theorem dX1_raiseTip_39 : decode cX1_raiseTip 39 = .ok (.aload_n 0, 1) := by decide +kernel
theorem dX1_raiseTip_40 : decode cX1_raiseTip 40 = .ok (.getfield 34, 3) := by decide +kernel
theorem dX1_raiseTip_43 : decode cX1_raiseTip 43 = .ok (.iaload, 1) := by decide +kernel
theorem dX1_raiseTip_44 : decode cX1_raiseTip 44 = .ok (.isub, 1) := by decide +kernel
theorem dX1_raiseTip_45 : decode cX1_raiseTip 45 = .ok (.istore_n 3, 1) := by decide +kernel
theorem dX1_raiseTip_46 : decode cX1_raiseTip 46 = .ok (.iload_n 2, 1) := by decide +kernel
theorem dX1_raiseTip_47 : decode cX1_raiseTip 47 = .ok (.ifCond .gt 23, 3) := by decide +kernel
theorem dX1_raiseTip_50 : decode cX1_raiseTip 50 = .ok (.iload_n 2, 1) := by decide +kernel
theorem dX1_raiseTip_51 : decode cX1_raiseTip 51 = .ok (.ifCond .ne 24, 3) := by decide +kernel
theorem dX1_raiseTip_54 : decode cX1_raiseTip 54 = .ok (.iload_n 3, 1) := by decide +kernel
theorem dX1_raiseTip_55 : decode cX1_raiseTip 55 = .ok (.ifCond .gt 15, 3) := by decide +kernel
theorem dX1_raiseTip_58 : decode cX1_raiseTip 58 = .ok (.iload_n 3, 1) := by decide +kernel
theorem dX1_raiseTip_59 : decode cX1_raiseTip 59 = .ok (.ifCond .ne 16, 3) := by decide +kernel
theorem dX1_raiseTip_62 : decode cX1_raiseTip 62 = .ok (.iload_n 1, 1) := by decide +kernel
theorem dX1_raiseTip_63 : decode cX1_raiseTip 63 = .ok (.aload_n 0, 1) := by decide +kernel
theorem dX1_raiseTip_64 : decode cX1_raiseTip 64 = .ok (.getfield 34, 3) := by decide +kernel
theorem dX1_raiseTip_67 : decode cX1_raiseTip 67 = .ok (.if_icmp .ge 8, 3) := by decide +kernel
theorem dX1_raiseTip_70 : decode cX1_raiseTip 70 = .ok (.aload_n 0, 1) := by decide +kernel
theorem dX1_raiseTip_71 : decode cX1_raiseTip 71 = .ok (.iload_n 1, 1) := by decide +kernel
theorem dX1_raiseTip_72 : decode cX1_raiseTip 72 = .ok (.putfield 34, 3) := by decide +kernel
theorem dX1_raiseTip_75 : decode cX1_raiseTip 75 = .ok (.return_, 1) := by decide +kernel
theorem dX1_makeFinalBelow_0 : decode cX1_makeFinalBelow 0 = .ok (.aload_n 0, 1) := by decide +kernel
theorem dX1_makeFinalBelow_1 : decode cX1_makeFinalBelow 1 = .ok (.getfield 47, 3) := by decide +kernel
theorem dX1_makeFinalBelow_4 : decode cX1_makeFinalBelow 4 = .ok (.getfield 81, 3) := by decide +kernel
theorem dX1_makeFinalBelow_7 : decode cX1_makeFinalBelow 7 = .ok (.iload_n 2, 1) := by decide +kernel
theorem dX1_makeFinalBelow_8 : decode cX1_makeFinalBelow 8 = .ok (.iaload, 1) := by decide +kernel
theorem dX1_makeFinalBelow_9 : decode cX1_makeFinalBelow 9 = .ok (.istore_n 3, 1) := by decide +kernel
theorem dX1_makeFinalBelow_10 : decode cX1_makeFinalBelow 10 = .ok (.iload_n 3, 1) := by decide +kernel
theorem dX1_makeFinalBelow_11 : decode cX1_makeFinalBelow 11 = .ok (.iconst (-1), 1) := by decide +kernel
theorem dX1_makeFinalBelow_12 : decode cX1_makeFinalBelow 12 = .ok (.if_icmp .eq 49, 3) := by decide +kernel
theorem dX1_makeFinalBelow_15 : decode cX1_makeFinalBelow 15 = .ok (.aload_n 0, 1) := by decide +kernel
theorem dX1_makeFinalBelow_16 : decode cX1_makeFinalBelow 16 = .ok (.getfield 47, 3) := by decide +kernel
theorem dX1_makeFinalBelow_19 : decode cX1_makeFinalBelow 19 = .ok (.getfield 69, 3) := by decide +kernel
theorem dX1_makeFinalBelow_22 : decode cX1_makeFinalBelow 22 = .ok (.iload_n 2, 1) := by decide +kernel
theorem dX1_makeFinalBelow_23 : decode cX1_makeFinalBelow 23 = .ok (.iaload, 1) := by decide +kernel
theorem dX1_makeFinalBelow_24 : decode cX1_makeFinalBelow 24 = .ok (.aload_n 0, 1) := by decide +kernel
theorem dX1_makeFinalBelow_25 : decode cX1_makeFinalBelow 25 = .ok (.getfield 47, 3) := by decide +kernel
theorem dX1_makeFinalBelow_28 : decode cX1_makeFinalBelow 28 = .ok (.getfield 69, 3) := by decide +kernel
theorem dX1_makeFinalBelow_31 : decode cX1_makeFinalBelow 31 = .ok (.iload_n 3, 1) := by decide +kernel
theorem dX1_makeFinalBelow_32 : decode cX1_makeFinalBelow 32 = .ok (.iaload, 1) := by decide +kernel
theorem dX1_makeFinalBelow_33 : decode cX1_makeFinalBelow 33 = .ok (.iconst 1, 1) := by decide +kernel
theorem dX1_makeFinalBelow_34 : decode cX1_makeFinalBelow 34 = .ok (.iadd, 1) := by decide +kernel
theorem dX1_makeFinalBelow_35 : decode cX1_makeFinalBelow 35 = .ok (.if_icmp .ne 26, 3) := by decide +kernel
theorem dX1_makeFinalBelow_38 : decode cX1_makeFinalBelow 38 = .ok (.aload_n 0, 1) := by decide +kernel
theorem dX1_makeFinalBelow_39 : decode cX1_makeFinalBelow 39 = .ok (.getfield 47, 3) := by decide +kernel
theorem dX1_makeFinalBelow_42 : decode cX1_makeFinalBelow 42 = .ok (.getfield 69, 3) := by decide +kernel
theorem dX1_makeFinalBelow_45 : decode cX1_makeFinalBelow 45 = .ok (.iload_n 1, 1) := by decide +kernel
theorem dX1_makeFinalBelow_46 : decode cX1_makeFinalBelow 46 = .ok (.iaload, 1) := by decide +kernel
theorem dX1_makeFinalBelow_47 : decode cX1_makeFinalBelow 47 = .ok (.aload_n 0, 1) := by decide +kernel
theorem dX1_makeFinalBelow_48 : decode cX1_makeFinalBelow 48 = .ok (.getfield 47, 3) := by decide +kernel
theorem dX1_makeFinalBelow_51 : decode cX1_makeFinalBelow 51 = .ok (.getfield 69, 3) := by decide +kernel
theorem dX1_makeFinalBelow_54 : decode cX1_makeFinalBelow 54 = .ok (.iload_n 2, 1) := by decide +kernel
theorem dX1_makeFinalBelow_55 : decode cX1_makeFinalBelow 55 = .ok (.iaload, 1) := by decide +kernel
theorem dX1_makeFinalBelow_56 : decode cX1_makeFinalBelow 56 = .ok (.iconst 1, 1) := by decide +kernel
theorem dX1_makeFinalBelow_57 : decode cX1_makeFinalBelow 57 = .ok (.iadd, 1) := by decide +kernel
theorem dX1_makeFinalBelow_58 : decode cX1_makeFinalBelow 58 = .ok (.if_icmp .eq 4, 3) := by decide +kernel
theorem dX1_makeFinalBelow_61 : decode cX1_makeFinalBelow 61 = .ok (.return_, 1) := by decide +kernel
theorem dX1_makeFinalBelow_62 : decode cX1_makeFinalBelow 62 = .ok (.aload_n 0, 1) := by decide +kernel
theorem dX1_makeFinalBelow_63 : decode cX1_makeFinalBelow 63 = .ok (.dup, 1) := by decide +kernel
theorem dX1_makeFinalBelow_64 : decode cX1_makeFinalBelow 64 = .ok (.getfield 31, 3) := by decide +kernel
theorem dX1_makeFinalBelow_67 : decode cX1_makeFinalBelow 67 = .ok (.aload_n 0, 1) := by decide +kernel
theorem dX1_makeFinalBelow_68 : decode cX1_makeFinalBelow 68 = .ok (.getfield 47, 3) := by decide +kernel
theorem dX1_makeFinalBelow_71 : decode cX1_makeFinalBelow 71 = .ok (.getfield 100, 3) := by decide +kernel
theorem dX1_makeFinalBelow_74 : decode cX1_makeFinalBelow 74 = .ok (.iload_n 2, 1) := by decide +kernel
theorem dX1_makeFinalBelow_75 : decode cX1_makeFinalBelow 75 = .ok (.laload, 1) := by decide +kernel
theorem dX1_makeFinalBelow_76 : decode cX1_makeFinalBelow 76 = .ok (.lor, 1) := by decide +kernel
theorem dX1_makeFinalBelow_77 : decode cX1_makeFinalBelow 77 = .ok (.putfield 31, 3) := by decide +kernel
theorem dX1_makeFinalBelow_80 : decode cX1_makeFinalBelow 80 = .ok (.aload_n 0, 1) := by decide +kernel
theorem dX1_makeFinalBelow_81 : decode cX1_makeFinalBelow 81 = .ok (.getfield 47, 3) := by decide +kernel
theorem dX1_makeFinalBelow_84 : decode cX1_makeFinalBelow 84 = .ok (.getfield 97, 3) := by decide +kernel
theorem dX1_makeFinalBelow_87 : decode cX1_makeFinalBelow 87 = .ok (.iload_n 2, 1) := by decide +kernel
theorem dX1_makeFinalBelow_88 : decode cX1_makeFinalBelow 88 = .ok (.iaload, 1) := by decide +kernel
theorem dX1_makeFinalBelow_89 : decode cX1_makeFinalBelow 89 = .ok (.aload_n 0, 1) := by decide +kernel
theorem dX1_makeFinalBelow_90 : decode cX1_makeFinalBelow 90 = .ok (.getfield 47, 3) := by decide +kernel
theorem dX1_makeFinalBelow_93 : decode cX1_makeFinalBelow 93 = .ok (.getfield 97, 3) := by decide +kernel
theorem dX1_makeFinalBelow_96 : decode cX1_makeFinalBelow 96 = .ok (.aload_n 0, 1) := by decide +kernel
theorem dX1_makeFinalBelow_97 : decode cX1_makeFinalBelow 97 = .ok (.getfield 38, 3) := by decide +kernel
theorem dX1_makeFinalBelow_100 : decode cX1_makeFinalBelow 100 = .ok (.iaload, 1) := by decide +kernel
theorem dX1_makeFinalBelow_101 : decode cX1_makeFinalBelow 101 = .ok (.isub, 1) := by decide +kernel
theorem dX1_makeFinalBelow_102 : decode cX1_makeFinalBelow 102 = .ok (.istore 4, 2) := by decide +kernel
theorem dX1_makeFinalBelow_104 : decode cX1_makeFinalBelow 104 = .ok (.iload 4, 2) := by decide +kernel
theorem dX1_makeFinalBelow_106 : decode cX1_makeFinalBelow 106 = .ok (.ifCond .gt 16, 3) := by decide +kernel
theorem dX1_makeFinalBelow_109 : decode cX1_makeFinalBelow 109 = .ok (.iload 4, 2) := by decide +kernel
theorem dX1_makeFinalBelow_111 : decode cX1_makeFinalBelow 111 = .ok (.ifCond .ne 16, 3) := by decide +kernel
theorem dX1_makeFinalBelow_114 : decode cX1_makeFinalBelow 114 = .ok (.iload_n 2, 1) := by decide +kernel
theorem dX1_makeFinalBelow_115 : decode cX1_makeFinalBelow 115 = .ok (.aload_n 0, 1) := by decide +kernel
theorem dX1_makeFinalBelow_116 : decode cX1_makeFinalBelow 116 = .ok (.getfield 38, 3) := by decide +kernel
theorem dX1_makeFinalBelow_119 : decode cX1_makeFinalBelow 119 = .ok (.if_icmp .ge 8, 3) := by decide +kernel
theorem dX1_makeFinalBelow_122 : decode cX1_makeFinalBelow 122 = .ok (.aload_n 0, 1) := by decide +kernel
theorem dX1_makeFinalBelow_123 : decode cX1_makeFinalBelow 123 = .ok (.iload_n 2, 1) := by decide +kernel
theorem dX1_makeFinalBelow_124 : decode cX1_makeFinalBelow 124 = .ok (.putfield 38, 3) := by decide +kernel
theorem dX1_makeFinalBelow_127 : decode cX1_makeFinalBelow 127 = .ok (.return_, 1) := by decide +kernel
theorem dX1_choice_0 : decode cX1_choice 0 = .ok (.aload_n 0, 1) := by decide +kernel
theorem dX1_choice_1 : decode cX1_choice 1 = .ok (.getfield 18, 3) := by decide +kernel
theorem dX1_choice_4 : decode cX1_choice 4 = .ok (.iload_n 1, 1) := by decide +kernel
theorem dX1_choice_5 : decode cX1_choice 5 = .ok (.iaload, 1) := by decide +kernel
theorem dX1_choice_6 : decode cX1_choice 6 = .ok (.istore_n 2, 1) := by decide +kernel
theorem dX1_choice_7 : decode cX1_choice 7 = .ok (.iload_n 2, 1) := by decide +kernel
theorem dX1_choice_8 : decode cX1_choice 8 = .ok (.iconst (-1), 1) := by decide +kernel
theorem dX1_choice_9 : decode cX1_choice 9 = .ok (.if_icmp .eq 24, 3) := by decide +kernel
theorem dX1_choice_12 : decode cX1_choice 12 = .ok (.aload_n 0, 1) := by decide +kernel
theorem dX1_choice_13 : decode cX1_choice 13 = .ok (.getfield 21, 3) := by decide +kernel
theorem dX1_choice_16 : decode cX1_choice 16 = .ok (.iload_n 1, 1) := by decide +kernel
theorem dX1_choice_17 : decode cX1_choice 17 = .ok (.iaload, 1) := by decide +kernel
theorem dX1_choice_18 : decode cX1_choice 18 = .ok (.iconst (-1), 1) := by decide +kernel
theorem dX1_choice_19 : decode cX1_choice 19 = .ok (.if_icmp .ne 14, 3) := by decide +kernel
theorem dX1_choice_22 : decode cX1_choice 22 = .ok (.aload_n 0, 1) := by decide +kernel
theorem dX1_choice_23 : decode cX1_choice 23 = .ok (.getfield 24, 3) := by decide +kernel
theorem dX1_choice_26 : decode cX1_choice 26 = .ok (.iload_n 2, 1) := by decide +kernel
theorem dX1_choice_27 : decode cX1_choice 27 = .ok (.invokestatic 63, 3) := by decide +kernel
theorem dX1_choice_30 : decode cX1_choice 30 = .ok (.ifCond .ne 5, 3) := by decide +kernel
theorem dX1_choice_33 : decode cX1_choice 33 = .ok (.iconst (-1), 1) := by decide +kernel
theorem dX1_choice_34 : decode cX1_choice 34 = .ok (.ireturn, 1) := by decide +kernel
theorem dX1_choice_35 : decode cX1_choice 35 = .ok (.aload_n 0, 1) := by decide +kernel
theorem dX1_choice_36 : decode cX1_choice 36 = .ok (.getfield 47, 3) := by decide +kernel
theorem dX1_choice_39 : decode cX1_choice 39 = .ok (.getfield 81, 3) := by decide +kernel
theorem dX1_choice_42 : decode cX1_choice 42 = .ok (.iload_n 2, 1) := by decide +kernel
theorem dX1_choice_43 : decode cX1_choice 43 = .ok (.iaload, 1) := by decide +kernel
theorem dX1_choice_44 : decode cX1_choice 44 = .ok (.istore_n 3, 1) := by decide +kernel
theorem dX1_choice_45 : decode cX1_choice 45 = .ok (.iload_n 3, 1) := by decide +kernel
theorem dX1_choice_46 : decode cX1_choice 46 = .ok (.iconst (-1), 1) := by decide +kernel
theorem dX1_choice_47 : decode cX1_choice 47 = .ok (.if_icmp .eq 14, 3) := by decide +kernel
theorem dX1_choice_50 : decode cX1_choice 50 = .ok (.aload_n 0, 1) := by decide +kernel
theorem dX1_choice_51 : decode cX1_choice 51 = .ok (.getfield 28, 3) := by decide +kernel
theorem dX1_choice_54 : decode cX1_choice 54 = .ok (.iload_n 3, 1) := by decide +kernel
theorem dX1_choice_55 : decode cX1_choice 55 = .ok (.invokestatic 63, 3) := by decide +kernel
theorem dX1_choice_58 : decode cX1_choice 58 = .ok (.ifCond .ne 5, 3) := by decide +kernel
theorem dX1_choice_61 : decode cX1_choice 61 = .ok (.iconst (-1), 1) := by decide +kernel
theorem dX1_choice_62 : decode cX1_choice 62 = .ok (.ireturn, 1) := by decide +kernel
theorem dX1_choice_63 : decode cX1_choice 63 = .ok (.aload_n 0, 1) := by decide +kernel
theorem dX1_choice_64 : decode cX1_choice 64 = .ok (.getfield 47, 3) := by decide +kernel
theorem dX1_choice_67 : decode cX1_choice 67 = .ok (.getfield 97, 3) := by decide +kernel
theorem dX1_choice_70 : decode cX1_choice 70 = .ok (.iload_n 3, 1) := by decide +kernel
theorem dX1_choice_71 : decode cX1_choice 71 = .ok (.iaload, 1) := by decide +kernel
theorem dX1_choice_72 : decode cX1_choice 72 = .ok (.aload_n 0, 1) := by decide +kernel
theorem dX1_choice_73 : decode cX1_choice 73 = .ok (.getfield 47, 3) := by decide +kernel
theorem dX1_choice_76 : decode cX1_choice 76 = .ok (.getfield 97, 3) := by decide +kernel
theorem dX1_choice_79 : decode cX1_choice 79 = .ok (.aload_n 0, 1) := by decide +kernel
theorem dX1_choice_80 : decode cX1_choice 80 = .ok (.getfield 34, 3) := by decide +kernel
theorem dX1_choice_83 : decode cX1_choice 83 = .ok (.iaload, 1) := by decide +kernel
theorem dX1_choice_84 : decode cX1_choice 84 = .ok (.if_icmp .ne 7, 3) := by decide +kernel
theorem dX1_choice_87 : decode cX1_choice 87 = .ok (.iload_n 2, 1) := by decide +kernel
theorem dX1_choice_88 : decode cX1_choice 88 = .ok (.goto 4, 3) := by decide +kernel
theorem dX1_choice_91 : decode cX1_choice 91 = .ok (.iconst (-1), 1) := by decide +kernel
theorem dX1_choice_92 : decode cX1_choice 92 = .ok (.ireturn, 1) := by decide +kernel
