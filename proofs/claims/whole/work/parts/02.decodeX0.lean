theorem dX0_init_0 : decode cX0_init 0 = .ok (.aload_n 0, 1) := by decide +kernel
theorem dX0_init_1 : decode cX0_init 1 = .ok (.invokespecial 3, 3) := by decide +kernel
theorem dX0_init_4 : decode cX0_init 4 = .ok (.aload_n 0, 1) := by decide +kernel
theorem dX0_init_5 : decode cX0_init 5 = .ok (.bipush 61, 2) := by decide +kernel
theorem dX0_init_7 : decode cX0_init 7 = .ok (.newarray .int, 2) := by decide +kernel
theorem dX0_init_9 : decode cX0_init 9 = .ok (.putfield 9, 3) := by decide +kernel
theorem dX0_init_12 : decode cX0_init 12 = .ok (.aload_n 0, 1) := by decide +kernel
theorem dX0_init_13 : decode cX0_init 13 = .ok (.bipush 61, 2) := by decide +kernel
theorem dX0_init_15 : decode cX0_init 15 = .ok (.newarray .int, 2) := by decide +kernel
theorem dX0_init_17 : decode cX0_init 17 = .ok (.putfield 15, 3) := by decide +kernel
theorem dX0_init_20 : decode cX0_init 20 = .ok (.aload_n 0, 1) := by decide +kernel
theorem dX0_init_21 : decode cX0_init 21 = .ok (.bipush 61, 2) := by decide +kernel
theorem dX0_init_23 : decode cX0_init 23 = .ok (.newarray .int, 2) := by decide +kernel
theorem dX0_init_25 : decode cX0_init 25 = .ok (.putfield 18, 3) := by decide +kernel
theorem dX0_init_28 : decode cX0_init 28 = .ok (.aload_n 0, 1) := by decide +kernel
theorem dX0_init_29 : decode cX0_init 29 = .ok (.bipush 61, 2) := by decide +kernel
theorem dX0_init_31 : decode cX0_init 31 = .ok (.newarray .int, 2) := by decide +kernel
theorem dX0_init_33 : decode cX0_init 33 = .ok (.putfield 21, 3) := by decide +kernel
theorem dX0_init_36 : decode cX0_init 36 = .ok (.aload_n 0, 1) := by decide +kernel
theorem dX0_init_37 : decode cX0_init 37 = .ok (.bipush 61, 2) := by decide +kernel
theorem dX0_init_39 : decode cX0_init 39 = .ok (.newarray .int, 2) := by decide +kernel
theorem dX0_init_41 : decode cX0_init 41 = .ok (.putfield 24, 3) := by decide +kernel
theorem dX0_init_44 : decode cX0_init 44 = .ok (.aload_n 0, 1) := by decide +kernel
theorem dX0_init_45 : decode cX0_init 45 = .ok (.bipush 61, 2) := by decide +kernel
theorem dX0_init_47 : decode cX0_init 47 = .ok (.newarray .long, 2) := by decide +kernel
theorem dX0_init_49 : decode cX0_init 49 = .ok (.putfield 27, 3) := by decide +kernel
theorem dX0_init_52 : decode cX0_init 52 = .ok (.aload_n 0, 1) := by decide +kernel
theorem dX0_init_53 : decode cX0_init 53 = .ok (.bipush 61, 2) := by decide +kernel
theorem dX0_init_55 : decode cX0_init 55 = .ok (.newarray .int, 2) := by decide +kernel
theorem dX0_init_57 : decode cX0_init 57 = .ok (.putfield 31, 3) := by decide +kernel
theorem dX0_init_60 : decode cX0_init 60 = .ok (.aload_n 0, 1) := by decide +kernel
theorem dX0_init_61 : decode cX0_init 61 = .ok (.iconst 1, 1) := by decide +kernel
theorem dX0_init_62 : decode cX0_init 62 = .ok (.putfield 34, 3) := by decide +kernel
theorem dX0_init_65 : decode cX0_init 65 = .ok (.aload_n 0, 1) := by decide +kernel
theorem dX0_init_66 : decode cX0_init 66 = .ok (.getfield 9, 3) := by decide +kernel
theorem dX0_init_69 : decode cX0_init 69 = .ok (.iconst 0, 1) := by decide +kernel
theorem dX0_init_70 : decode cX0_init 70 = .ok (.iconst (-1), 1) := by decide +kernel
theorem dX0_init_71 : decode cX0_init 71 = .ok (.iastore, 1) := by decide +kernel
theorem dX0_init_72 : decode cX0_init 72 = .ok (.aload_n 0, 1) := by decide +kernel
theorem dX0_init_73 : decode cX0_init 73 = .ok (.getfield 24, 3) := by decide +kernel
theorem dX0_init_76 : decode cX0_init 76 = .ok (.iconst 0, 1) := by decide +kernel
theorem dX0_init_77 : decode cX0_init 77 = .ok (.iconst (-1), 1) := by decide +kernel
theorem dX0_init_78 : decode cX0_init 78 = .ok (.iastore, 1) := by decide +kernel
theorem dX0_init_79 : decode cX0_init 79 = .ok (.aload_n 0, 1) := by decide +kernel
theorem dX0_init_80 : decode cX0_init 80 = .ok (.getfield 27, 3) := by decide +kernel
theorem dX0_init_83 : decode cX0_init 83 = .ok (.iconst 0, 1) := by decide +kernel
theorem dX0_init_84 : decode cX0_init 84 = .ok (.lconst 1, 1) := by decide +kernel
theorem dX0_init_85 : decode cX0_init 85 = .ok (.lastore, 1) := by decide +kernel
theorem dX0_init_86 : decode cX0_init 86 = .ok (.return_, 1) := by decide +kernel
theorem dX0_exist_0 : decode cX0_exist 0 = .ok (.iload_n 1, 1) := by decide +kernel
theorem dX0_exist_1 : decode cX0_exist 1 = .ok (.ifCond .lt 15, 3) := by decide +kernel
theorem dX0_exist_4 : decode cX0_exist 4 = .ok (.iload_n 1, 1) := by decide +kernel
theorem dX0_exist_5 : decode cX0_exist 5 = .ok (.aload_n 0, 1) := by decide +kernel
theorem dX0_exist_6 : decode cX0_exist 6 = .ok (.getfield 34, 3) := by decide +kernel
theorem dX0_exist_9 : decode cX0_exist 9 = .ok (.if_icmp .ge 7, 3) := by decide +kernel
theorem dX0_exist_12 : decode cX0_exist 12 = .ok (.iconst 1, 1) := by decide +kernel
theorem dX0_exist_13 : decode cX0_exist 13 = .ok (.goto 4, 3) := by decide +kernel
theorem dX0_exist_16 : decode cX0_exist 16 = .ok (.iconst 0, 1) := by decide +kernel
theorem dX0_exist_17 : decode cX0_exist 17 = .ok (.ireturn, 1) := by decide +kernel
theorem dX0_haveRoom_0 : decode cX0_haveRoom 0 = .ok (.aload_n 0, 1) := by decide +kernel
theorem dX0_haveRoom_1 : decode cX0_haveRoom 1 = .ok (.getfield 34, 3) := by decide +kernel
theorem dX0_haveRoom_4 : decode cX0_haveRoom 4 = .ok (.bipush 60, 2) := by decide +kernel
theorem dX0_haveRoom_6 : decode cX0_haveRoom 6 = .ok (.if_icmp .gt 7, 3) := by decide +kernel
theorem dX0_haveRoom_9 : decode cX0_haveRoom 9 = .ok (.iconst 1, 1) := by decide +kernel
theorem dX0_haveRoom_10 : decode cX0_haveRoom 10 = .ok (.goto 4, 3) := by decide +kernel
theorem dX0_haveRoom_13 : decode cX0_haveRoom 13 = .ok (.iconst 0, 1) := by decide +kernel
theorem dX0_haveRoom_14 : decode cX0_haveRoom 14 = .ok (.ireturn, 1) := by decide +kernel
theorem dX0_hasOneOf_0 : decode cX0_hasOneOf 0 = .ok (.iconst 0, 1) := by decide +kernel
theorem dX0_hasOneOf_1 : decode cX0_hasOneOf 1 = .ok (.istore_n 2, 1) := by decide +kernel
theorem dX0_hasOneOf_2 : decode cX0_hasOneOf 2 = .ok (.iload_n 2, 1) := by decide +kernel
theorem dX0_hasOneOf_3 : decode cX0_hasOneOf 3 = .ok (.aload_n 0, 1) := by decide +kernel
theorem dX0_hasOneOf_4 : decode cX0_hasOneOf 4 = .ok (.getfield 34, 3) := by decide +kernel
theorem dX0_hasOneOf_7 : decode cX0_hasOneOf 7 = .ok (.if_icmp .ge 21, 3) := by decide +kernel
theorem dX0_hasOneOf_10 : decode cX0_hasOneOf 10 = .ok (.aload_n 0, 1) := by decide +kernel
theorem dX0_hasOneOf_11 : decode cX0_hasOneOf 11 = .ok (.getfield 15, 3) := by decide +kernel
theorem dX0_hasOneOf_14 : decode cX0_hasOneOf 14 = .ok (.iload_n 2, 1) := by decide +kernel
theorem dX0_hasOneOf_15 : decode cX0_hasOneOf 15 = .ok (.iaload, 1) := by decide +kernel
theorem dX0_hasOneOf_16 : decode cX0_hasOneOf 16 = .ok (.iload_n 1, 1) := by decide +kernel
theorem dX0_hasOneOf_17 : decode cX0_hasOneOf 17 = .ok (.if_icmp .ne 5, 3) := by decide +kernel
theorem dX0_hasOneOf_20 : decode cX0_hasOneOf 20 = .ok (.iconst 1, 1) := by decide +kernel
theorem dX0_hasOneOf_21 : decode cX0_hasOneOf 21 = .ok (.ireturn, 1) := by decide +kernel
theorem dX0_hasOneOf_22 : decode cX0_hasOneOf 22 = .ok (.iinc 2 1, 3) := by decide +kernel
theorem dX0_hasOneOf_25 : decode cX0_hasOneOf 25 = .ok (.goto (-23), 3) := by decide +kernel
theorem dX0_hasOneOf_28 : decode cX0_hasOneOf 28 = .ok (.iconst 0, 1) := by decide +kernel
theorem dX0_hasOneOf_29 : decode cX0_hasOneOf 29 = .ok (.ireturn, 1) := by decide +kernel
theorem dX0_make_0 : decode cX0_make 0 = .ok (.aload_n 0, 1) := by decide +kernel
theorem dX0_make_1 : decode cX0_make 1 = .ok (.getfield 34, 3) := by decide +kernel
theorem dX0_make_4 : decode cX0_make 4 = .ok (.istore 5, 2) := by decide +kernel
theorem dX0_make_6 : decode cX0_make 6 = .ok (.aload_n 0, 1) := by decide +kernel
theorem dX0_make_7 : decode cX0_make 7 = .ok (.dup, 1) := by decide +kernel
theorem dX0_make_8 : decode cX0_make 8 = .ok (.getfield 34, 3) := by decide +kernel
theorem dX0_make_11 : decode cX0_make 11 = .ok (.iconst 1, 1) := by decide +kernel
theorem dX0_make_12 : decode cX0_make 12 = .ok (.iadd, 1) := by decide +kernel
theorem dX0_make_13 : decode cX0_make 13 = .ok (.putfield 34, 3) := by decide +kernel
theorem dX0_make_16 : decode cX0_make 16 = .ok (.aload_n 0, 1) := by decide +kernel
theorem dX0_make_17 : decode cX0_make 17 = .ok (.getfield 9, 3) := by decide +kernel
theorem dX0_make_20 : decode cX0_make 20 = .ok (.iload 5, 2) := by decide +kernel
theorem dX0_make_22 : decode cX0_make 22 = .ok (.iload_n 1, 1) := by decide +kernel
theorem dX0_make_23 : decode cX0_make 23 = .ok (.iastore, 1) := by decide +kernel
theorem dX0_make_24 : decode cX0_make 24 = .ok (.aload_n 0, 1) := by decide +kernel
theorem dX0_make_25 : decode cX0_make 25 = .ok (.getfield 15, 3) := by decide +kernel
theorem dX0_make_28 : decode cX0_make 28 = .ok (.iload 5, 2) := by decide +kernel
theorem dX0_make_30 : decode cX0_make 30 = .ok (.iload_n 2, 1) := by decide +kernel
theorem dX0_make_31 : decode cX0_make 31 = .ok (.iastore, 1) := by decide +kernel
theorem dX0_make_32 : decode cX0_make 32 = .ok (.aload_n 0, 1) := by decide +kernel
theorem dX0_make_33 : decode cX0_make 33 = .ok (.getfield 18, 3) := by decide +kernel
theorem dX0_make_36 : decode cX0_make 36 = .ok (.iload 5, 2) := by decide +kernel
theorem dX0_make_38 : decode cX0_make 38 = .ok (.iload_n 3, 1) := by decide +kernel
theorem dX0_make_39 : decode cX0_make 39 = .ok (.iastore, 1) := by decide +kernel
theorem dX0_make_40 : decode cX0_make 40 = .ok (.aload_n 0, 1) := by decide +kernel
theorem dX0_make_41 : decode cX0_make 41 = .ok (.getfield 21, 3) := by decide +kernel
theorem dX0_make_44 : decode cX0_make 44 = .ok (.iload 5, 2) := by decide +kernel
theorem dX0_make_46 : decode cX0_make 46 = .ok (.aload_n 0, 1) := by decide +kernel
theorem dX0_make_47 : decode cX0_make 47 = .ok (.getfield 21, 3) := by decide +kernel
theorem dX0_make_50 : decode cX0_make 50 = .ok (.iload_n 1, 1) := by decide +kernel
theorem dX0_make_51 : decode cX0_make 51 = .ok (.iaload, 1) := by decide +kernel
theorem dX0_make_52 : decode cX0_make 52 = .ok (.iconst 1, 1) := by decide +kernel
theorem dX0_make_53 : decode cX0_make 53 = .ok (.iadd, 1) := by decide +kernel
theorem dX0_make_54 : decode cX0_make 54 = .ok (.iastore, 1) := by decide +kernel
theorem dX0_make_55 : decode cX0_make 55 = .ok (.aload_n 0, 1) := by decide +kernel
theorem dX0_make_56 : decode cX0_make 56 = .ok (.getfield 24, 3) := by decide +kernel
theorem dX0_make_59 : decode cX0_make 59 = .ok (.iload 5, 2) := by decide +kernel
theorem dX0_make_61 : decode cX0_make 61 = .ok (.iload 4, 2) := by decide +kernel
theorem dX0_make_63 : decode cX0_make 63 = .ok (.iastore, 1) := by decide +kernel
theorem dX0_make_64 : decode cX0_make 64 = .ok (.aload_n 0, 1) := by decide +kernel
theorem dX0_make_65 : decode cX0_make 65 = .ok (.getfield 27, 3) := by decide +kernel
theorem dX0_make_68 : decode cX0_make 68 = .ok (.iload 5, 2) := by decide +kernel
theorem dX0_make_70 : decode cX0_make 70 = .ok (.aload_n 0, 1) := by decide +kernel
theorem dX0_make_71 : decode cX0_make 71 = .ok (.getfield 27, 3) := by decide +kernel
theorem dX0_make_74 : decode cX0_make 74 = .ok (.iload_n 1, 1) := by decide +kernel
theorem dX0_make_75 : decode cX0_make 75 = .ok (.laload, 1) := by decide +kernel
theorem dX0_make_76 : decode cX0_make 76 = .ok (.lconst 1, 1) := by decide +kernel
theorem dX0_make_77 : decode cX0_make 77 = .ok (.iload 5, 2) := by decide +kernel
theorem dX0_make_79 : decode cX0_make 79 = .ok (.lshl, 1) := by decide +kernel
theorem dX0_make_80 : decode cX0_make 80 = .ok (.lor, 1) := by decide +kernel
theorem dX0_make_81 : decode cX0_make 81 = .ok (.lastore, 1) := by decide +kernel
theorem dX0_make_82 : decode cX0_make 82 = .ok (.aload_n 0, 1) := by decide +kernel
theorem dX0_make_83 : decode cX0_make 83 = .ok (.getfield 31, 3) := by decide +kernel
theorem dX0_make_86 : decode cX0_make 86 = .ok (.iload 5, 2) := by decide +kernel
theorem dX0_make_88 : decode cX0_make 88 = .ok (.aload_n 0, 1) := by decide +kernel
theorem dX0_make_89 : decode cX0_make 89 = .ok (.getfield 31, 3) := by decide +kernel
theorem dX0_make_92 : decode cX0_make 92 = .ok (.iload_n 1, 1) := by decide +kernel
theorem dX0_make_93 : decode cX0_make 93 = .ok (.iaload, 1) := by decide +kernel
theorem dX0_make_94 : decode cX0_make 94 = .ok (.iload_n 3, 1) := by decide +kernel
theorem dX0_make_95 : decode cX0_make 95 = .ok (.ior, 1) := by decide +kernel
theorem dX0_make_96 : decode cX0_make 96 = .ok (.iastore, 1) := by decide +kernel
theorem dX0_make_97 : decode cX0_make 97 = .ok (.iload 5, 2) := by decide +kernel
theorem dX0_make_99 : decode cX0_make 99 = .ok (.ireturn, 1) := by decide +kernel
