theorem dX2_init_0 : decode cX2_init 0 = .ok (.aload_n 0, 1) := by decide +kernel
theorem dX2_init_1 : decode cX2_init 1 = .ok (.invokespecial 3, 3) := by decide +kernel
theorem dX2_init_4 : decode cX2_init 4 = .ok (.iconst 4, 1) := by decide +kernel
theorem dX2_init_5 : decode cX2_init 5 = .ok (.bipush 10, 2) := by decide +kernel
theorem dX2_init_7 : decode cX2_init 7 = .ok (.iload_n 1, 1) := by decide +kernel
theorem dX2_init_8 : decode cX2_init 8 = .ok (.invokestatic 9, 3) := by decide +kernel
theorem dX2_init_11 : decode cX2_init 11 = .ok (.invokestatic 15, 3) := by decide +kernel
theorem dX2_init_14 : decode cX2_init 14 = .ok (.istore_n 2, 1) := by decide +kernel
theorem dX2_init_15 : decode cX2_init 15 = .ok (.aload_n 0, 1) := by decide +kernel
theorem dX2_init_16 : decode cX2_init 16 = .ok (.new 18, 3) := by decide +kernel
theorem dX2_init_19 : decode cX2_init 19 = .ok (.dup, 1) := by decide +kernel
theorem dX2_init_20 : decode cX2_init 20 = .ok (.invokespecial 20, 3) := by decide +kernel
theorem dX2_init_23 : decode cX2_init 23 = .ok (.putfield 21, 3) := by decide +kernel
theorem dX2_init_26 : decode cX2_init 26 = .ok (.aload_n 0, 1) := by decide +kernel
theorem dX2_init_27 : decode cX2_init 27 = .ok (.iload_n 2, 1) := by decide +kernel
theorem dX2_init_28 : decode cX2_init 28 = .ok (.anewarray 25, 3) := by decide +kernel
theorem dX2_init_31 : decode cX2_init 31 = .ok (.putfield 27, 3) := by decide +kernel
theorem dX2_init_34 : decode cX2_init 34 = .ok (.iconst 0, 1) := by decide +kernel
theorem dX2_init_35 : decode cX2_init 35 = .ok (.istore_n 3, 1) := by decide +kernel
theorem dX2_init_36 : decode cX2_init 36 = .ok (.iload_n 3, 1) := by decide +kernel
theorem dX2_init_37 : decode cX2_init 37 = .ok (.iload_n 2, 1) := by decide +kernel
theorem dX2_init_38 : decode cX2_init 38 = .ok (.if_icmp .ge 28, 3) := by decide +kernel
theorem dX2_init_41 : decode cX2_init 41 = .ok (.aload_n 0, 1) := by decide +kernel
theorem dX2_init_42 : decode cX2_init 42 = .ok (.getfield 27, 3) := by decide +kernel
theorem dX2_init_45 : decode cX2_init 45 = .ok (.iload_n 3, 1) := by decide +kernel
theorem dX2_init_46 : decode cX2_init 46 = .ok (.new 25, 3) := by decide +kernel
theorem dX2_init_49 : decode cX2_init 49 = .ok (.dup, 1) := by decide +kernel
theorem dX2_init_50 : decode cX2_init 50 = .ok (.iload_n 3, 1) := by decide +kernel
theorem dX2_init_51 : decode cX2_init 51 = .ok (.iload_n 2, 1) := by decide +kernel
theorem dX2_init_52 : decode cX2_init 52 = .ok (.aload_n 0, 1) := by decide +kernel
theorem dX2_init_53 : decode cX2_init 53 = .ok (.getfield 21, 3) := by decide +kernel
theorem dX2_init_56 : decode cX2_init 56 = .ok (.invokespecial 31, 3) := by decide +kernel
theorem dX2_init_59 : decode cX2_init 59 = .ok (.aastore, 1) := by decide +kernel
theorem dX2_init_60 : decode cX2_init 60 = .ok (.iinc 3 1, 3) := by decide +kernel
theorem dX2_init_63 : decode cX2_init 63 = .ok (.goto (-27), 3) := by decide +kernel
theorem dX2_init_66 : decode cX2_init 66 = .ok (.aload_n 0, 1) := by decide +kernel
theorem dX2_init_67 : decode cX2_init 67 = .ok (.bipush 41, 2) := by decide +kernel
theorem dX2_init_69 : decode cX2_init 69 = .ok (.newarray .int, 2) := by decide +kernel
theorem dX2_init_71 : decode cX2_init 71 = .ok (.putfield 34, 3) := by decide +kernel
theorem dX2_init_74 : decode cX2_init 74 = .ok (.iconst 1, 1) := by decide +kernel
theorem dX2_init_75 : decode cX2_init 75 = .ok (.istore_n 3, 1) := by decide +kernel
theorem dX2_init_76 : decode cX2_init 76 = .ok (.iload_n 3, 1) := by decide +kernel
theorem dX2_init_77 : decode cX2_init 77 = .ok (.bipush 40, 2) := by decide +kernel
theorem dX2_init_79 : decode cX2_init 79 = .ok (.if_icmp .gt 18, 3) := by decide +kernel
theorem dX2_init_82 : decode cX2_init 82 = .ok (.aload_n 0, 1) := by decide +kernel
theorem dX2_init_83 : decode cX2_init 83 = .ok (.getfield 34, 3) := by decide +kernel
theorem dX2_init_86 : decode cX2_init 86 = .ok (.iload_n 3, 1) := by decide +kernel
theorem dX2_init_87 : decode cX2_init 87 = .ok (.iload_n 3, 1) := by decide +kernel
theorem dX2_init_88 : decode cX2_init 88 = .ok (.iload_n 2, 1) := by decide +kernel
theorem dX2_init_89 : decode cX2_init 89 = .ok (.irem, 1) := by decide +kernel
theorem dX2_init_90 : decode cX2_init 90 = .ok (.iastore, 1) := by decide +kernel
theorem dX2_init_91 : decode cX2_init 91 = .ok (.iinc 3 1, 3) := by decide +kernel
theorem dX2_init_94 : decode cX2_init 94 = .ok (.goto (-18), 3) := by decide +kernel
theorem dX2_init_97 : decode cX2_init 97 = .ok (.return_, 1) := by decide +kernel
theorem dX2_lead_0 : decode cX2_lead 0 = .ok (.iload_n 1, 1) := by decide +kernel
theorem dX2_lead_1 : decode cX2_lead 1 = .ok (.invokestatic 38, 3) := by decide +kernel
theorem dX2_lead_4 : decode cX2_lead 4 = .ok (.ifCond .eq 11, 3) := by decide +kernel
theorem dX2_lead_7 : decode cX2_lead 7 = .ok (.aload_n 0, 1) := by decide +kernel
theorem dX2_lead_8 : decode cX2_lead 8 = .ok (.iload_n 2, 1) := by decide +kernel
theorem dX2_lead_9 : decode cX2_lead 9 = .ok (.invokevirtual 42, 3) := by decide +kernel
theorem dX2_lead_12 : decode cX2_lead 12 = .ok (.ifnonnull 6, 3) := by decide +kernel
theorem dX2_lead_15 : decode cX2_lead 15 = .ok (.bipush (-2), 2) := by decide +kernel
theorem dX2_lead_17 : decode cX2_lead 17 = .ok (.ireturn, 1) := by decide +kernel
theorem dX2_lead_18 : decode cX2_lead 18 = .ok (.iload_n 1, 1) := by decide +kernel
theorem dX2_lead_19 : decode cX2_lead 19 = .ok (.aload_n 0, 1) := by decide +kernel
theorem dX2_lead_20 : decode cX2_lead 20 = .ok (.getfield 46, 3) := by decide +kernel
theorem dX2_lead_23 : decode cX2_lead 23 = .ok (.if_icmp .le 14, 3) := by decide +kernel
theorem dX2_lead_26 : decode cX2_lead 26 = .ok (.aload_n 0, 1) := by decide +kernel
theorem dX2_lead_27 : decode cX2_lead 27 = .ok (.getfield 21, 3) := by decide +kernel
theorem dX2_lead_30 : decode cX2_lead 30 = .ok (.iload_n 1, 1) := by decide +kernel
theorem dX2_lead_31 : decode cX2_lead 31 = .ok (.invokevirtual 50, 3) := by decide +kernel
theorem dX2_lead_34 : decode cX2_lead 34 = .ok (.ifCond .eq 6, 3) := by decide +kernel
theorem dX2_lead_37 : decode cX2_lead 37 = .ok (.bipush (-3), 2) := by decide +kernel
theorem dX2_lead_39 : decode cX2_lead 39 = .ok (.ireturn, 1) := by decide +kernel
theorem dX2_lead_40 : decode cX2_lead 40 = .ok (.aload_n 0, 1) := by decide +kernel
theorem dX2_lead_41 : decode cX2_lead 41 = .ok (.getfield 34, 3) := by decide +kernel
theorem dX2_lead_44 : decode cX2_lead 44 = .ok (.iload_n 1, 1) := by decide +kernel
theorem dX2_lead_45 : decode cX2_lead 45 = .ok (.iaload, 1) := by decide +kernel
theorem dX2_lead_46 : decode cX2_lead 46 = .ok (.istore_n 3, 1) := by decide +kernel
theorem dX2_lead_47 : decode cX2_lead 47 = .ok (.aload_n 0, 1) := by decide +kernel
theorem dX2_lead_48 : decode cX2_lead 48 = .ok (.getfield 34, 3) := by decide +kernel
theorem dX2_lead_51 : decode cX2_lead 51 = .ok (.iload_n 1, 1) := by decide +kernel
theorem dX2_lead_52 : decode cX2_lead 52 = .ok (.iload_n 2, 1) := by decide +kernel
theorem dX2_lead_53 : decode cX2_lead 53 = .ok (.iastore, 1) := by decide +kernel
theorem dX2_lead_54 : decode cX2_lead 54 = .ok (.iload_n 3, 1) := by decide +kernel
theorem dX2_lead_55 : decode cX2_lead 55 = .ok (.ireturn, 1) := by decide +kernel
theorem dX2_fall_0 : decode cX2_fall 0 = .ok (.aload_n 0, 1) := by decide +kernel
theorem dX2_fall_1 : decode cX2_fall 1 = .ok (.iload_n 1, 1) := by decide +kernel
theorem dX2_fall_2 : decode cX2_fall 2 = .ok (.invokevirtual 42, 3) := by decide +kernel
theorem dX2_fall_5 : decode cX2_fall 5 = .ok (.astore_n 2, 1) := by decide +kernel
theorem dX2_fall_6 : decode cX2_fall 6 = .ok (.aload_n 2, 1) := by decide +kernel
theorem dX2_fall_7 : decode cX2_fall 7 = .ok (.ifnonnull 6, 3) := by decide +kernel
theorem dX2_fall_10 : decode cX2_fall 10 = .ok (.bipush (-2), 2) := by decide +kernel
theorem dX2_fall_12 : decode cX2_fall 12 = .ok (.ireturn, 1) := by decide +kernel
theorem dX2_fall_13 : decode cX2_fall 13 = .ok (.aload_n 2, 1) := by decide +kernel
theorem dX2_fall_14 : decode cX2_fall 14 = .ok (.getfield 53, 3) := by decide +kernel
theorem dX2_fall_17 : decode cX2_fall 17 = .ok (.ifCond .eq 5, 3) := by decide +kernel
theorem dX2_fall_20 : decode cX2_fall 20 = .ok (.iconst 0, 1) := by decide +kernel
theorem dX2_fall_21 : decode cX2_fall 21 = .ok (.ireturn, 1) := by decide +kernel
theorem dX2_fall_22 : decode cX2_fall 22 = .ok (.aload_n 2, 1) := by decide +kernel
theorem dX2_fall_23 : decode cX2_fall 23 = .ok (.iconst 1, 1) := by decide +kernel
theorem dX2_fall_24 : decode cX2_fall 24 = .ok (.putfield 53, 3) := by decide +kernel
theorem dX2_fall_27 : decode cX2_fall 27 = .ok (.iconst 1, 1) := by decide +kernel
theorem dX2_fall_28 : decode cX2_fall 28 = .ok (.ireturn, 1) := by decide +kernel
theorem dX2_wish_0 : decode cX2_wish 0 = .ok (.aload_n 0, 1) := by decide +kernel
theorem dX2_wish_1 : decode cX2_wish 1 = .ok (.iload_n 1, 1) := by decide +kernel
theorem dX2_wish_2 : decode cX2_wish 2 = .ok (.invokevirtual 42, 3) := by decide +kernel
theorem dX2_wish_5 : decode cX2_wish 5 = .ok (.astore_n 3, 1) := by decide +kernel
theorem dX2_wish_6 : decode cX2_wish 6 = .ok (.aload_n 3, 1) := by decide +kernel
theorem dX2_wish_7 : decode cX2_wish 7 = .ok (.ifnull 13, 3) := by decide +kernel
theorem dX2_wish_10 : decode cX2_wish 10 = .ok (.iload_n 2, 1) := by decide +kernel
theorem dX2_wish_11 : decode cX2_wish 11 = .ok (.ifCond .lt 9, 3) := by decide +kernel
theorem dX2_wish_14 : decode cX2_wish 14 = .ok (.iload_n 2, 1) := by decide +kernel
theorem dX2_wish_15 : decode cX2_wish 15 = .ok (.bipush 32, 2) := by decide +kernel
theorem dX2_wish_17 : decode cX2_wish 17 = .ok (.if_icmp .lt 6, 3) := by decide +kernel
theorem dX2_wish_20 : decode cX2_wish 20 = .ok (.bipush (-2), 2) := by decide +kernel
theorem dX2_wish_22 : decode cX2_wish 22 = .ok (.ireturn, 1) := by decide +kernel
theorem dX2_wish_23 : decode cX2_wish 23 = .ok (.aload_n 3, 1) := by decide +kernel
theorem dX2_wish_24 : decode cX2_wish 24 = .ok (.getfield 57, 3) := by decide +kernel
theorem dX2_wish_27 : decode cX2_wish 27 = .ok (.istore 4, 2) := by decide +kernel
theorem dX2_wish_29 : decode cX2_wish 29 = .ok (.aload_n 3, 1) := by decide +kernel
theorem dX2_wish_30 : decode cX2_wish 30 = .ok (.iload 4, 2) := by decide +kernel
theorem dX2_wish_32 : decode cX2_wish 32 = .ok (.iconst 1, 1) := by decide +kernel
theorem dX2_wish_33 : decode cX2_wish 33 = .ok (.iload_n 2, 1) := by decide +kernel
theorem dX2_wish_34 : decode cX2_wish 34 = .ok (.ishl, 1) := by decide +kernel
theorem dX2_wish_35 : decode cX2_wish 35 = .ok (.ior, 1) := by decide +kernel
theorem dX2_wish_36 : decode cX2_wish 36 = .ok (.putfield 57, 3) := by decide +kernel
theorem dX2_wish_39 : decode cX2_wish 39 = .ok (.aload_n 3, 1) := by decide +kernel
theorem dX2_wish_40 : decode cX2_wish 40 = .ok (.getfield 57, 3) := by decide +kernel
theorem dX2_wish_43 : decode cX2_wish 43 = .ok (.iload 4, 2) := by decide +kernel
theorem dX2_wish_45 : decode cX2_wish 45 = .ok (.if_icmp .ne 7, 3) := by decide +kernel
theorem dX2_wish_48 : decode cX2_wish 48 = .ok (.iconst 0, 1) := by decide +kernel
theorem dX2_wish_49 : decode cX2_wish 49 = .ok (.goto 4, 3) := by decide +kernel
theorem dX2_wish_52 : decode cX2_wish 52 = .ok (.iconst 1, 1) := by decide +kernel
theorem dX2_wish_53 : decode cX2_wish 53 = .ok (.ireturn, 1) := by decide +kernel
theorem dX2_epoch_0 : decode cX2_epoch 0 = .ok (.aload_n 0, 1) := by decide +kernel
theorem dX2_epoch_1 : decode cX2_epoch 1 = .ok (.getfield 46, 3) := by decide +kernel
theorem dX2_epoch_4 : decode cX2_epoch 4 = .ok (.bipush 40, 2) := by decide +kernel
theorem dX2_epoch_6 : decode cX2_epoch 6 = .ok (.if_icmp .lt 6, 3) := by decide +kernel
theorem dX2_epoch_9 : decode cX2_epoch 9 = .ok (.bipush (-3), 2) := by decide +kernel
theorem dX2_epoch_11 : decode cX2_epoch 11 = .ok (.ireturn, 1) := by decide +kernel
theorem dX2_epoch_12 : decode cX2_epoch 12 = .ok (.aload_n 0, 1) := by decide +kernel
theorem dX2_epoch_13 : decode cX2_epoch 13 = .ok (.getfield 27, 3) := by decide +kernel
theorem dX2_epoch_16 : decode cX2_epoch 16 = .ok (.aload_n 0, 1) := by decide +kernel
theorem dX2_epoch_17 : decode cX2_epoch 17 = .ok (.getfield 34, 3) := by decide +kernel
theorem dX2_epoch_20 : decode cX2_epoch 20 = .ok (.aload_n 0, 1) := by decide +kernel
theorem dX2_epoch_21 : decode cX2_epoch 21 = .ok (.getfield 46, 3) := by decide +kernel
theorem dX2_epoch_24 : decode cX2_epoch 24 = .ok (.iconst 1, 1) := by decide +kernel
theorem dX2_epoch_25 : decode cX2_epoch 25 = .ok (.iadd, 1) := by decide +kernel
theorem dX2_epoch_26 : decode cX2_epoch 26 = .ok (.iaload, 1) := by decide +kernel
theorem dX2_epoch_27 : decode cX2_epoch 27 = .ok (.aaload, 1) := by decide +kernel
theorem dX2_epoch_28 : decode cX2_epoch 28 = .ok (.astore_n 1, 1) := by decide +kernel
theorem dX2_epoch_29 : decode cX2_epoch 29 = .ok (.aload_n 1, 1) := by decide +kernel
theorem dX2_epoch_30 : decode cX2_epoch 30 = .ok (.getfield 53, 3) := by decide +kernel
theorem dX2_epoch_33 : decode cX2_epoch 33 = .ok (.ifCond .ne 16, 3) := by decide +kernel
theorem dX2_epoch_36 : decode cX2_epoch 36 = .ok (.aload_n 0, 1) := by decide +kernel
theorem dX2_epoch_37 : decode cX2_epoch 37 = .ok (.getfield 21, 3) := by decide +kernel
theorem dX2_epoch_40 : decode cX2_epoch 40 = .ok (.invokevirtual 60, 3) := by decide +kernel
theorem dX2_epoch_43 : decode cX2_epoch 43 = .ok (.ifCond .ne 6, 3) := by decide +kernel
theorem dX2_epoch_46 : decode cX2_epoch 46 = .ok (.bipush (-4), 2) := by decide +kernel
theorem dX2_epoch_48 : decode cX2_epoch 48 = .ok (.ireturn, 1) := by decide +kernel
theorem dX2_epoch_49 : decode cX2_epoch 49 = .ok (.aload_n 0, 1) := by decide +kernel
theorem dX2_epoch_50 : decode cX2_epoch 50 = .ok (.dup, 1) := by decide +kernel
theorem dX2_epoch_51 : decode cX2_epoch 51 = .ok (.getfield 46, 3) := by decide +kernel
theorem dX2_epoch_54 : decode cX2_epoch 54 = .ok (.iconst 1, 1) := by decide +kernel
theorem dX2_epoch_55 : decode cX2_epoch 55 = .ok (.iadd, 1) := by decide +kernel
theorem dX2_epoch_56 : decode cX2_epoch 56 = .ok (.putfield 46, 3) := by decide +kernel
theorem dX2_epoch_59 : decode cX2_epoch 59 = .ok (.aload_n 1, 1) := by decide +kernel
theorem dX2_epoch_60 : decode cX2_epoch 60 = .ok (.getfield 53, 3) := by decide +kernel
theorem dX2_epoch_63 : decode cX2_epoch 63 = .ok (.ifCond .ne 8, 3) := by decide +kernel
theorem dX2_epoch_66 : decode cX2_epoch 66 = .ok (.aload_n 0, 1) := by decide +kernel
theorem dX2_epoch_67 : decode cX2_epoch 67 = .ok (.aload_n 1, 1) := by decide +kernel
theorem dX2_epoch_68 : decode cX2_epoch 68 = .ok (.invokevirtual 64, 3) := by decide +kernel
theorem dX2_epoch_71 : decode cX2_epoch 71 = .ok (.aload_n 0, 1) := by decide +kernel
theorem dX2_epoch_72 : decode cX2_epoch 72 = .ok (.getfield 27, 3) := by decide +kernel
theorem dX2_epoch_75 : decode cX2_epoch 75 = .ok (.astore_n 2, 1) := by decide +kernel
theorem dX2_epoch_76 : decode cX2_epoch 76 = .ok (.aload_n 2, 1) := by decide +kernel
theorem dX2_epoch_77 : decode cX2_epoch 77 = .ok (.arraylength, 1) := by decide +kernel
theorem dX2_epoch_78 : decode cX2_epoch 78 = .ok (.istore_n 3, 1) := by decide +kernel
theorem dX2_epoch_79 : decode cX2_epoch 79 = .ok (.iconst 0, 1) := by decide +kernel
theorem dX2_epoch_80 : decode cX2_epoch 80 = .ok (.istore 4, 2) := by decide +kernel
theorem dX2_epoch_82 : decode cX2_epoch 82 = .ok (.iload 4, 2) := by decide +kernel
theorem dX2_epoch_84 : decode cX2_epoch 84 = .ok (.iload_n 3, 1) := by decide +kernel
theorem dX2_epoch_85 : decode cX2_epoch 85 = .ok (.if_icmp .ge 21, 3) := by decide +kernel
theorem dX2_epoch_88 : decode cX2_epoch 88 = .ok (.aload_n 2, 1) := by decide +kernel
theorem dX2_epoch_89 : decode cX2_epoch 89 = .ok (.iload 4, 2) := by decide +kernel
theorem dX2_epoch_91 : decode cX2_epoch 91 = .ok (.aaload, 1) := by decide +kernel
theorem dX2_epoch_92 : decode cX2_epoch 92 = .ok (.astore 5, 2) := by decide +kernel
theorem dX2_epoch_94 : decode cX2_epoch 94 = .ok (.aload_n 0, 1) := by decide +kernel
theorem dX2_epoch_95 : decode cX2_epoch 95 = .ok (.aload 5, 2) := by decide +kernel
theorem dX2_epoch_97 : decode cX2_epoch 97 = .ok (.invokevirtual 68, 3) := by decide +kernel
theorem dX2_epoch_100 : decode cX2_epoch 100 = .ok (.iinc 4 1, 3) := by decide +kernel
theorem dX2_epoch_103 : decode cX2_epoch 103 = .ok (.goto (-21), 3) := by decide +kernel
theorem dX2_epoch_106 : decode cX2_epoch 106 = .ok (.aload_n 0, 1) := by decide +kernel
theorem dX2_epoch_107 : decode cX2_epoch 107 = .ok (.getfield 46, 3) := by decide +kernel
theorem dX2_epoch_110 : decode cX2_epoch 110 = .ok (.ireturn, 1) := by decide +kernel
theorem dX2_bring_0 : decode cX2_bring 0 = .ok (.aload_n 0, 1) := by decide +kernel
theorem dX2_bring_1 : decode cX2_bring 1 = .ok (.iload_n 2, 1) := by decide +kernel
theorem dX2_bring_2 : decode cX2_bring 2 = .ok (.invokevirtual 42, 3) := by decide +kernel
theorem dX2_bring_5 : decode cX2_bring 5 = .ok (.astore_n 3, 1) := by decide +kernel
theorem dX2_bring_6 : decode cX2_bring 6 = .ok (.aload_n 3, 1) := by decide +kernel
theorem dX2_bring_7 : decode cX2_bring 7 = .ok (.ifnull 14, 3) := by decide +kernel
theorem dX2_bring_10 : decode cX2_bring 10 = .ok (.aload_n 0, 1) := by decide +kernel
theorem dX2_bring_11 : decode cX2_bring 11 = .ok (.getfield 21, 3) := by decide +kernel
theorem dX2_bring_14 : decode cX2_bring 14 = .ok (.iload_n 1, 1) := by decide +kernel
theorem dX2_bring_15 : decode cX2_bring 15 = .ok (.invokevirtual 71, 3) := by decide +kernel
theorem dX2_bring_18 : decode cX2_bring 18 = .ok (.ifCond .ne 6, 3) := by decide +kernel
theorem dX2_bring_21 : decode cX2_bring 21 = .ok (.bipush (-2), 2) := by decide +kernel
theorem dX2_bring_23 : decode cX2_bring 23 = .ok (.ireturn, 1) := by decide +kernel
theorem dX2_bring_24 : decode cX2_bring 24 = .ok (.aload_n 3, 1) := by decide +kernel
theorem dX2_bring_25 : decode cX2_bring 25 = .ok (.getfield 74, 3) := by decide +kernel
theorem dX2_bring_28 : decode cX2_bring 28 = .ok (.iload_n 1, 1) := by decide +kernel
theorem dX2_bring_29 : decode cX2_bring 29 = .ok (.invokestatic 78, 3) := by decide +kernel
theorem dX2_bring_32 : decode cX2_bring 32 = .ok (.ifCond .ne 6, 3) := by decide +kernel
theorem dX2_bring_35 : decode cX2_bring 35 = .ok (.bipush (-3), 2) := by decide +kernel
theorem dX2_bring_37 : decode cX2_bring 37 = .ok (.ireturn, 1) := by decide +kernel
theorem dX2_bring_38 : decode cX2_bring 38 = .ok (.aload_n 0, 1) := by decide +kernel
theorem dX2_bring_39 : decode cX2_bring 39 = .ok (.aload_n 3, 1) := by decide +kernel
theorem dX2_bring_40 : decode cX2_bring 40 = .ok (.iload_n 1, 1) := by decide +kernel
theorem dX2_bring_41 : decode cX2_bring 41 = .ok (.invokevirtual 82, 3) := by decide +kernel
theorem dX2_bring_44 : decode cX2_bring 44 = .ok (.iconst 1, 1) := by decide +kernel
theorem dX2_bring_45 : decode cX2_bring 45 = .ok (.ireturn, 1) := by decide +kernel
theorem dX2_bringVote_0 : decode cX2_bringVote 0 = .ok (.aload_n 0, 1) := by decide +kernel
theorem dX2_bringVote_1 : decode cX2_bringVote 1 = .ok (.iload_n 3, 1) := by decide +kernel
theorem dX2_bringVote_2 : decode cX2_bringVote 2 = .ok (.invokevirtual 42, 3) := by decide +kernel
theorem dX2_bringVote_5 : decode cX2_bringVote 5 = .ok (.astore 4, 2) := by decide +kernel
theorem dX2_bringVote_7 : decode cX2_bringVote 7 = .ok (.aload 4, 2) := by decide +kernel
theorem dX2_bringVote_9 : decode cX2_bringVote 9 = .ok (.ifnull 22, 3) := by decide +kernel
theorem dX2_bringVote_12 : decode cX2_bringVote 12 = .ok (.aload_n 0, 1) := by decide +kernel
theorem dX2_bringVote_13 : decode cX2_bringVote 13 = .ok (.iload_n 1, 1) := by decide +kernel
theorem dX2_bringVote_14 : decode cX2_bringVote 14 = .ok (.invokevirtual 42, 3) := by decide +kernel
theorem dX2_bringVote_17 : decode cX2_bringVote 17 = .ok (.ifnull 14, 3) := by decide +kernel
theorem dX2_bringVote_20 : decode cX2_bringVote 20 = .ok (.aload_n 0, 1) := by decide +kernel
theorem dX2_bringVote_21 : decode cX2_bringVote 21 = .ok (.getfield 21, 3) := by decide +kernel
theorem dX2_bringVote_24 : decode cX2_bringVote 24 = .ok (.iload_n 2, 1) := by decide +kernel
theorem dX2_bringVote_25 : decode cX2_bringVote 25 = .ok (.invokevirtual 71, 3) := by decide +kernel
theorem dX2_bringVote_28 : decode cX2_bringVote 28 = .ok (.ifCond .ne 6, 3) := by decide +kernel
theorem dX2_bringVote_31 : decode cX2_bringVote 31 = .ok (.bipush (-2), 2) := by decide +kernel
theorem dX2_bringVote_33 : decode cX2_bringVote 33 = .ok (.ireturn, 1) := by decide +kernel
theorem dX2_bringVote_34 : decode cX2_bringVote 34 = .ok (.aload 4, 2) := by decide +kernel
theorem dX2_bringVote_36 : decode cX2_bringVote 36 = .ok (.getfield 86, 3) := by decide +kernel
theorem dX2_bringVote_39 : decode cX2_bringVote 39 = .ok (.iload_n 2, 1) := by decide +kernel
theorem dX2_bringVote_40 : decode cX2_bringVote 40 = .ok (.iaload, 1) := by decide +kernel
theorem dX2_bringVote_41 : decode cX2_bringVote 41 = .ok (.i2l, 1) := by decide +kernel
theorem dX2_bringVote_42 : decode cX2_bringVote 42 = .ok (.iload_n 1, 1) := by decide +kernel
theorem dX2_bringVote_43 : decode cX2_bringVote 43 = .ok (.invokestatic 78, 3) := by decide +kernel
theorem dX2_bringVote_46 : decode cX2_bringVote 46 = .ok (.ifCond .ne 6, 3) := by decide +kernel
theorem dX2_bringVote_49 : decode cX2_bringVote 49 = .ok (.bipush (-3), 2) := by decide +kernel
theorem dX2_bringVote_51 : decode cX2_bringVote 51 = .ok (.ireturn, 1) := by decide +kernel
theorem dX2_bringVote_52 : decode cX2_bringVote 52 = .ok (.aload_n 0, 1) := by decide +kernel
theorem dX2_bringVote_53 : decode cX2_bringVote 53 = .ok (.aload 4, 2) := by decide +kernel
theorem dX2_bringVote_55 : decode cX2_bringVote 55 = .ok (.iload_n 1, 1) := by decide +kernel
theorem dX2_bringVote_56 : decode cX2_bringVote 56 = .ok (.iload_n 2, 1) := by decide +kernel
theorem dX2_bringVote_57 : decode cX2_bringVote 57 = .ok (.invokevirtual 89, 3) := by decide +kernel
theorem dX2_bringVote_60 : decode cX2_bringVote 60 = .ok (.iconst 1, 1) := by decide +kernel
theorem dX2_bringVote_61 : decode cX2_bringVote 61 = .ok (.ireturn, 1) := by decide +kernel
theorem dX2_flow_0 : decode cX2_flow 0 = .ok (.aload_n 0, 1) := by decide +kernel
theorem dX2_flow_1 : decode cX2_flow 1 = .ok (.iload_n 1, 1) := by decide +kernel
theorem dX2_flow_2 : decode cX2_flow 2 = .ok (.invokevirtual 42, 3) := by decide +kernel
theorem dX2_flow_5 : decode cX2_flow 5 = .ok (.astore_n 2, 1) := by decide +kernel
theorem dX2_flow_6 : decode cX2_flow 6 = .ok (.aload_n 2, 1) := by decide +kernel
theorem dX2_flow_7 : decode cX2_flow 7 = .ok (.ifnonnull 8, 3) := by decide +kernel
theorem dX2_flow_10 : decode cX2_flow 10 = .ok (.bipush (-2), 2) := by decide +kernel
theorem dX2_flow_12 : decode cX2_flow 12 = .ok (.goto 8, 3) := by decide +kernel
theorem dX2_flow_15 : decode cX2_flow 15 = .ok (.aload_n 0, 1) := by decide +kernel
theorem dX2_flow_16 : decode cX2_flow 16 = .ok (.aload_n 2, 1) := by decide +kernel
theorem dX2_flow_17 : decode cX2_flow 17 = .ok (.invokevirtual 93, 3) := by decide +kernel
theorem dX2_flow_20 : decode cX2_flow 20 = .ok (.ireturn, 1) := by decide +kernel
theorem dX2_settle_0 : decode cX2_settle 0 = .ok (.aload_n 0, 1) := by decide +kernel
theorem dX2_settle_1 : decode cX2_settle 1 = .ok (.getfield 97, 3) := by decide +kernel
theorem dX2_settle_4 : decode cX2_settle 4 = .ok (.istore_n 1, 1) := by decide +kernel
theorem dX2_settle_5 : decode cX2_settle 5 = .ok (.iconst 0, 1) := by decide +kernel
theorem dX2_settle_6 : decode cX2_settle 6 = .ok (.istore_n 2, 1) := by decide +kernel
theorem dX2_settle_7 : decode cX2_settle 7 = .ok (.iload_n 2, 1) := by decide +kernel
theorem dX2_settle_8 : decode cX2_settle 8 = .ok (.sipush 6600, 3) := by decide +kernel
theorem dX2_settle_11 : decode cX2_settle 11 = .ok (.if_icmp .gt 54, 3) := by decide +kernel
theorem dX2_settle_14 : decode cX2_settle 14 = .ok (.aload_n 0, 1) := by decide +kernel
theorem dX2_settle_15 : decode cX2_settle 15 = .ok (.invokevirtual 100, 3) := by decide +kernel
theorem dX2_settle_18 : decode cX2_settle 18 = .ok (.ifCond .le 47, 3) := by decide +kernel
theorem dX2_settle_21 : decode cX2_settle 21 = .ok (.aload_n 0, 1) := by decide +kernel
theorem dX2_settle_22 : decode cX2_settle 22 = .ok (.getfield 27, 3) := by decide +kernel
theorem dX2_settle_25 : decode cX2_settle 25 = .ok (.astore_n 3, 1) := by decide +kernel
theorem dX2_settle_26 : decode cX2_settle 26 = .ok (.aload_n 3, 1) := by decide +kernel
theorem dX2_settle_27 : decode cX2_settle 27 = .ok (.arraylength, 1) := by decide +kernel
theorem dX2_settle_28 : decode cX2_settle 28 = .ok (.istore 4, 2) := by decide +kernel
theorem dX2_settle_30 : decode cX2_settle 30 = .ok (.iconst 0, 1) := by decide +kernel
theorem dX2_settle_31 : decode cX2_settle 31 = .ok (.istore 5, 2) := by decide +kernel
theorem dX2_settle_33 : decode cX2_settle 33 = .ok (.iload 5, 2) := by decide +kernel
theorem dX2_settle_35 : decode cX2_settle 35 = .ok (.iload 4, 2) := by decide +kernel
theorem dX2_settle_37 : decode cX2_settle 37 = .ok (.if_icmp .ge 22, 3) := by decide +kernel
theorem dX2_settle_40 : decode cX2_settle 40 = .ok (.aload_n 3, 1) := by decide +kernel
theorem dX2_settle_41 : decode cX2_settle 41 = .ok (.iload 5, 2) := by decide +kernel
theorem dX2_settle_43 : decode cX2_settle 43 = .ok (.aaload, 1) := by decide +kernel
theorem dX2_settle_44 : decode cX2_settle 44 = .ok (.astore 6, 2) := by decide +kernel
theorem dX2_settle_46 : decode cX2_settle 46 = .ok (.aload_n 0, 1) := by decide +kernel
theorem dX2_settle_47 : decode cX2_settle 47 = .ok (.aload 6, 2) := by decide +kernel
theorem dX2_settle_49 : decode cX2_settle 49 = .ok (.invokevirtual 93, 3) := by decide +kernel
theorem dX2_settle_52 : decode cX2_settle 52 = .ok (.pop, 1) := by decide +kernel
theorem dX2_settle_53 : decode cX2_settle 53 = .ok (.iinc 5 1, 3) := by decide +kernel
theorem dX2_settle_56 : decode cX2_settle 56 = .ok (.goto (-23), 3) := by decide +kernel
theorem dX2_settle_59 : decode cX2_settle 59 = .ok (.iinc 2 1, 3) := by decide +kernel
theorem dX2_settle_62 : decode cX2_settle 62 = .ok (.goto (-55), 3) := by decide +kernel
theorem dX2_settle_65 : decode cX2_settle 65 = .ok (.aload_n 0, 1) := by decide +kernel
theorem dX2_settle_66 : decode cX2_settle 66 = .ok (.getfield 97, 3) := by decide +kernel
theorem dX2_settle_69 : decode cX2_settle 69 = .ok (.iload_n 1, 1) := by decide +kernel
theorem dX2_settle_70 : decode cX2_settle 70 = .ok (.isub, 1) := by decide +kernel
theorem dX2_settle_71 : decode cX2_settle 71 = .ok (.ireturn, 1) := by decide +kernel
theorem dX2_propose_0 : decode cX2_propose 0 = .ok (.aload_n 0, 1) := by decide +kernel
theorem dX2_propose_1 : decode cX2_propose 1 = .ok (.iload_n 1, 1) := by decide +kernel
theorem dX2_propose_2 : decode cX2_propose 2 = .ok (.invokevirtual 42, 3) := by decide +kernel
theorem dX2_propose_5 : decode cX2_propose 5 = .ok (.astore 6, 2) := by decide +kernel
theorem dX2_propose_7 : decode cX2_propose 7 = .ok (.aload 6, 2) := by decide +kernel
theorem dX2_propose_9 : decode cX2_propose 9 = .ok (.ifnull 30, 3) := by decide +kernel
theorem dX2_propose_12 : decode cX2_propose 12 = .ok (.aload_n 0, 1) := by decide +kernel
theorem dX2_propose_13 : decode cX2_propose 13 = .ok (.getfield 21, 3) := by decide +kernel
theorem dX2_propose_16 : decode cX2_propose 16 = .ok (.iload_n 2, 1) := by decide +kernel
theorem dX2_propose_17 : decode cX2_propose 17 = .ok (.invokevirtual 71, 3) := by decide +kernel
theorem dX2_propose_20 : decode cX2_propose 20 = .ok (.ifCond .eq 19, 3) := by decide +kernel
theorem dX2_propose_23 : decode cX2_propose 23 = .ok (.iload_n 3, 1) := by decide +kernel
theorem dX2_propose_24 : decode cX2_propose 24 = .ok (.invokestatic 38, 3) := by decide +kernel
theorem dX2_propose_27 : decode cX2_propose 27 = .ok (.ifCond .eq 12, 3) := by decide +kernel
theorem dX2_propose_30 : decode cX2_propose 30 = .ok (.aload_n 0, 1) := by decide +kernel
theorem dX2_propose_31 : decode cX2_propose 31 = .ok (.iload 5, 2) := by decide +kernel
theorem dX2_propose_33 : decode cX2_propose 33 = .ok (.invokevirtual 104, 3) := by decide +kernel
theorem dX2_propose_36 : decode cX2_propose 36 = .ok (.ifCond .ne 6, 3) := by decide +kernel
theorem dX2_propose_39 : decode cX2_propose 39 = .ok (.bipush (-2), 2) := by decide +kernel
theorem dX2_propose_41 : decode cX2_propose 41 = .ok (.ireturn, 1) := by decide +kernel
theorem dX2_propose_42 : decode cX2_propose 42 = .ok (.aload 6, 2) := by decide +kernel
theorem dX2_propose_44 : decode cX2_propose 44 = .ok (.getfield 53, 3) := by decide +kernel
theorem dX2_propose_47 : decode cX2_propose 47 = .ok (.ifCond .eq 13, 3) := by decide +kernel
theorem dX2_propose_50 : decode cX2_propose 50 = .ok (.aload_n 0, 1) := by decide +kernel
theorem dX2_propose_51 : decode cX2_propose 51 = .ok (.getfield 34, 3) := by decide +kernel
theorem dX2_propose_54 : decode cX2_propose 54 = .ok (.iload_n 3, 1) := by decide +kernel
theorem dX2_propose_55 : decode cX2_propose 55 = .ok (.iaload, 1) := by decide +kernel
theorem dX2_propose_56 : decode cX2_propose 56 = .ok (.iload_n 1, 1) := by decide +kernel
theorem dX2_propose_57 : decode cX2_propose 57 = .ok (.if_icmp .eq 6, 3) := by decide +kernel
theorem dX2_propose_60 : decode cX2_propose 60 = .ok (.bipush (-3), 2) := by decide +kernel
theorem dX2_propose_62 : decode cX2_propose 62 = .ok (.ireturn, 1) := by decide +kernel
theorem dX2_propose_63 : decode cX2_propose 63 = .ok (.aload_n 0, 1) := by decide +kernel
theorem dX2_propose_64 : decode cX2_propose 64 = .ok (.getfield 21, 3) := by decide +kernel
theorem dX2_propose_67 : decode cX2_propose 67 = .ok (.invokevirtual 60, 3) := by decide +kernel
theorem dX2_propose_70 : decode cX2_propose 70 = .ok (.ifCond .ne 6, 3) := by decide +kernel
theorem dX2_propose_73 : decode cX2_propose 73 = .ok (.bipush (-4), 2) := by decide +kernel
theorem dX2_propose_75 : decode cX2_propose 75 = .ok (.ireturn, 1) := by decide +kernel
theorem dX2_propose_76 : decode cX2_propose 76 = .ok (.aload_n 0, 1) := by decide +kernel
theorem dX2_propose_77 : decode cX2_propose 77 = .ok (.getfield 21, 3) := by decide +kernel
theorem dX2_propose_80 : decode cX2_propose 80 = .ok (.iload_n 2, 1) := by decide +kernel
theorem dX2_propose_81 : decode cX2_propose 81 = .ok (.iload_n 3, 1) := by decide +kernel
theorem dX2_propose_82 : decode cX2_propose 82 = .ok (.iload 4, 2) := by decide +kernel
theorem dX2_propose_84 : decode cX2_propose 84 = .ok (.iload_n 1, 1) := by decide +kernel
theorem dX2_propose_85 : decode cX2_propose 85 = .ok (.invokevirtual 107, 3) := by decide +kernel
theorem dX2_propose_88 : decode cX2_propose 88 = .ok (.istore 7, 2) := by decide +kernel
theorem dX2_propose_90 : decode cX2_propose 90 = .ok (.aload_n 0, 1) := by decide +kernel
theorem dX2_propose_91 : decode cX2_propose 91 = .ok (.aload 6, 2) := by decide +kernel
theorem dX2_propose_93 : decode cX2_propose 93 = .ok (.iload 7, 2) := by decide +kernel
theorem dX2_propose_95 : decode cX2_propose 95 = .ok (.invokevirtual 111, 3) := by decide +kernel
theorem dX2_propose_98 : decode cX2_propose 98 = .ok (.aload_n 0, 1) := by decide +kernel
theorem dX2_propose_99 : decode cX2_propose 99 = .ok (.iload 7, 2) := by decide +kernel
theorem dX2_propose_101 : decode cX2_propose 101 = .ok (.iload 5, 2) := by decide +kernel
theorem dX2_propose_103 : decode cX2_propose 103 = .ok (.invokevirtual 114, 3) := by decide +kernel
theorem dX2_propose_106 : decode cX2_propose 106 = .ok (.pop, 1) := by decide +kernel
theorem dX2_propose_107 : decode cX2_propose 107 = .ok (.iload 7, 2) := by decide +kernel
theorem dX2_propose_109 : decode cX2_propose 109 = .ok (.ireturn, 1) := by decide +kernel
theorem dX2_lie_0 : decode cX2_lie 0 = .ok (.aload_n 0, 1) := by decide +kernel
theorem dX2_lie_1 : decode cX2_lie 1 = .ok (.iload_n 1, 1) := by decide +kernel
theorem dX2_lie_2 : decode cX2_lie 2 = .ok (.invokevirtual 42, 3) := by decide +kernel
theorem dX2_lie_5 : decode cX2_lie 5 = .ok (.astore 4, 2) := by decide +kernel
theorem dX2_lie_7 : decode cX2_lie 7 = .ok (.aload 4, 2) := by decide +kernel
theorem dX2_lie_9 : decode cX2_lie 9 = .ok (.ifnull 26, 3) := by decide +kernel
theorem dX2_lie_12 : decode cX2_lie 12 = .ok (.iload_n 2, 1) := by decide +kernel
theorem dX2_lie_13 : decode cX2_lie 13 = .ok (.ifCond .eq 22, 3) := by decide +kernel
theorem dX2_lie_16 : decode cX2_lie 16 = .ok (.aload_n 0, 1) := by decide +kernel
theorem dX2_lie_17 : decode cX2_lie 17 = .ok (.getfield 21, 3) := by decide +kernel
theorem dX2_lie_20 : decode cX2_lie 20 = .ok (.iload_n 2, 1) := by decide +kernel
theorem dX2_lie_21 : decode cX2_lie 21 = .ok (.invokevirtual 71, 3) := by decide +kernel
theorem dX2_lie_24 : decode cX2_lie 24 = .ok (.ifCond .eq 11, 3) := by decide +kernel
theorem dX2_lie_27 : decode cX2_lie 27 = .ok (.aload_n 0, 1) := by decide +kernel
theorem dX2_lie_28 : decode cX2_lie 28 = .ok (.iload_n 3, 1) := by decide +kernel
theorem dX2_lie_29 : decode cX2_lie 29 = .ok (.invokevirtual 104, 3) := by decide +kernel
theorem dX2_lie_32 : decode cX2_lie 32 = .ok (.ifCond .ne 6, 3) := by decide +kernel
theorem dX2_lie_35 : decode cX2_lie 35 = .ok (.bipush (-2), 2) := by decide +kernel
theorem dX2_lie_37 : decode cX2_lie 37 = .ok (.ireturn, 1) := by decide +kernel
theorem dX2_lie_38 : decode cX2_lie 38 = .ok (.aload 4, 2) := by decide +kernel
theorem dX2_lie_40 : decode cX2_lie 40 = .ok (.getfield 53, 3) := by decide +kernel
theorem dX2_lie_43 : decode cX2_lie 43 = .ok (.ifCond .ne 6, 3) := by decide +kernel
theorem dX2_lie_46 : decode cX2_lie 46 = .ok (.bipush (-3), 2) := by decide +kernel
theorem dX2_lie_48 : decode cX2_lie 48 = .ok (.ireturn, 1) := by decide +kernel
theorem dX2_lie_49 : decode cX2_lie 49 = .ok (.aload_n 0, 1) := by decide +kernel
theorem dX2_lie_50 : decode cX2_lie 50 = .ok (.aload 4, 2) := by decide +kernel
theorem dX2_lie_52 : decode cX2_lie 52 = .ok (.iload_n 1, 1) := by decide +kernel
theorem dX2_lie_53 : decode cX2_lie 53 = .ok (.iload_n 2, 1) := by decide +kernel
theorem dX2_lie_54 : decode cX2_lie 54 = .ok (.invokevirtual 117, 3) := by decide +kernel
theorem dX2_lie_57 : decode cX2_lie 57 = .ok (.aload_n 0, 1) := by decide +kernel
theorem dX2_lie_58 : decode cX2_lie 58 = .ok (.iload_n 1, 1) := by decide +kernel
theorem dX2_lie_59 : decode cX2_lie 59 = .ok (.iload_n 2, 1) := by decide +kernel
theorem dX2_lie_60 : decode cX2_lie 60 = .ok (.iload_n 3, 1) := by decide +kernel
theorem dX2_lie_61 : decode cX2_lie 61 = .ok (.invokevirtual 120, 3) := by decide +kernel
theorem dX2_lie_64 : decode cX2_lie 64 = .ok (.ireturn, 1) := by decide +kernel
theorem dX2_pass_0 : decode cX2_pass 0 = .ok (.aload_n 0, 1) := by decide +kernel
theorem dX2_pass_1 : decode cX2_pass 1 = .ok (.iload_n 1, 1) := by decide +kernel
theorem dX2_pass_2 : decode cX2_pass 2 = .ok (.invokevirtual 42, 3) := by decide +kernel
theorem dX2_pass_5 : decode cX2_pass 5 = .ok (.astore 4, 2) := by decide +kernel
theorem dX2_pass_7 : decode cX2_pass 7 = .ok (.aload 4, 2) := by decide +kernel
theorem dX2_pass_9 : decode cX2_pass 9 = .ok (.ifnull 26, 3) := by decide +kernel
theorem dX2_pass_12 : decode cX2_pass 12 = .ok (.iload_n 2, 1) := by decide +kernel
theorem dX2_pass_13 : decode cX2_pass 13 = .ok (.ifCond .eq 22, 3) := by decide +kernel
theorem dX2_pass_16 : decode cX2_pass 16 = .ok (.aload_n 0, 1) := by decide +kernel
theorem dX2_pass_17 : decode cX2_pass 17 = .ok (.getfield 21, 3) := by decide +kernel
theorem dX2_pass_20 : decode cX2_pass 20 = .ok (.iload_n 2, 1) := by decide +kernel
theorem dX2_pass_21 : decode cX2_pass 21 = .ok (.invokevirtual 71, 3) := by decide +kernel
theorem dX2_pass_24 : decode cX2_pass 24 = .ok (.ifCond .eq 11, 3) := by decide +kernel
theorem dX2_pass_27 : decode cX2_pass 27 = .ok (.aload_n 0, 1) := by decide +kernel
theorem dX2_pass_28 : decode cX2_pass 28 = .ok (.iload_n 3, 1) := by decide +kernel
theorem dX2_pass_29 : decode cX2_pass 29 = .ok (.invokevirtual 104, 3) := by decide +kernel
theorem dX2_pass_32 : decode cX2_pass 32 = .ok (.ifCond .ne 6, 3) := by decide +kernel
theorem dX2_pass_35 : decode cX2_pass 35 = .ok (.bipush (-2), 2) := by decide +kernel
theorem dX2_pass_37 : decode cX2_pass 37 = .ok (.ireturn, 1) := by decide +kernel
theorem dX2_pass_38 : decode cX2_pass 38 = .ok (.aload 4, 2) := by decide +kernel
theorem dX2_pass_40 : decode cX2_pass 40 = .ok (.getfield 53, 3) := by decide +kernel
theorem dX2_pass_43 : decode cX2_pass 43 = .ok (.ifCond .eq 15, 3) := by decide +kernel
theorem dX2_pass_46 : decode cX2_pass 46 = .ok (.aload 4, 2) := by decide +kernel
theorem dX2_pass_48 : decode cX2_pass 48 = .ok (.getfield 124, 3) := by decide +kernel
theorem dX2_pass_51 : decode cX2_pass 51 = .ok (.iload_n 2, 1) := by decide +kernel
theorem dX2_pass_52 : decode cX2_pass 52 = .ok (.invokestatic 78, 3) := by decide +kernel
theorem dX2_pass_55 : decode cX2_pass 55 = .ok (.ifCond .ne 6, 3) := by decide +kernel
theorem dX2_pass_58 : decode cX2_pass 58 = .ok (.bipush (-3), 2) := by decide +kernel
theorem dX2_pass_60 : decode cX2_pass 60 = .ok (.ireturn, 1) := by decide +kernel
theorem dX2_pass_61 : decode cX2_pass 61 = .ok (.aload_n 0, 1) := by decide +kernel
theorem dX2_pass_62 : decode cX2_pass 62 = .ok (.iload_n 2, 1) := by decide +kernel
theorem dX2_pass_63 : decode cX2_pass 63 = .ok (.iload_n 3, 1) := by decide +kernel
theorem dX2_pass_64 : decode cX2_pass 64 = .ok (.invokevirtual 114, 3) := by decide +kernel
theorem dX2_pass_67 : decode cX2_pass 67 = .ok (.ireturn, 1) := by decide +kernel
theorem dX2_about_0 : decode cX2_about 0 = .ok (.aload_n 0, 1) := by decide +kernel
theorem dX2_about_1 : decode cX2_about 1 = .ok (.getfield 21, 3) := by decide +kernel
theorem dX2_about_4 : decode cX2_about 4 = .ok (.iload_n 1, 1) := by decide +kernel
theorem dX2_about_5 : decode cX2_about 5 = .ok (.invokevirtual 71, 3) := by decide +kernel
theorem dX2_about_8 : decode cX2_about 8 = .ok (.ifCond .ne 6, 3) := by decide +kernel
theorem dX2_about_11 : decode cX2_about 11 = .ok (.bipush (-2), 2) := by decide +kernel
theorem dX2_about_13 : decode cX2_about 13 = .ok (.ireturn, 1) := by decide +kernel
theorem dX2_about_14 : decode cX2_about 14 = .ok (.iload_n 2, 1) := by decide +kernel
theorem dX2_about_15 : decode cX2_about 15 = .ok (.tableswitch 83 0 4 #[33, 43, 53, 63, 73], 33) := by decide +kernel
theorem dX2_about_48 : decode cX2_about 48 = .ok (.aload_n 0, 1) := by decide +kernel
theorem dX2_about_49 : decode cX2_about 49 = .ok (.getfield 21, 3) := by decide +kernel
theorem dX2_about_52 : decode cX2_about 52 = .ok (.getfield 127, 3) := by decide +kernel
theorem dX2_about_55 : decode cX2_about 55 = .ok (.iload_n 1, 1) := by decide +kernel
theorem dX2_about_56 : decode cX2_about 56 = .ok (.iaload, 1) := by decide +kernel
theorem dX2_about_57 : decode cX2_about 57 = .ok (.ireturn, 1) := by decide +kernel
theorem dX2_about_58 : decode cX2_about 58 = .ok (.aload_n 0, 1) := by decide +kernel
theorem dX2_about_59 : decode cX2_about 59 = .ok (.getfield 21, 3) := by decide +kernel
theorem dX2_about_62 : decode cX2_about 62 = .ok (.getfield 130, 3) := by decide +kernel
theorem dX2_about_65 : decode cX2_about 65 = .ok (.iload_n 1, 1) := by decide +kernel
theorem dX2_about_66 : decode cX2_about 66 = .ok (.iaload, 1) := by decide +kernel
theorem dX2_about_67 : decode cX2_about 67 = .ok (.ireturn, 1) := by decide +kernel
theorem dX2_about_68 : decode cX2_about 68 = .ok (.aload_n 0, 1) := by decide +kernel
theorem dX2_about_69 : decode cX2_about 69 = .ok (.getfield 21, 3) := by decide +kernel
theorem dX2_about_72 : decode cX2_about 72 = .ok (.getfield 133, 3) := by decide +kernel
theorem dX2_about_75 : decode cX2_about 75 = .ok (.iload_n 1, 1) := by decide +kernel
theorem dX2_about_76 : decode cX2_about 76 = .ok (.iaload, 1) := by decide +kernel
theorem dX2_about_77 : decode cX2_about 77 = .ok (.ireturn, 1) := by decide +kernel
theorem dX2_about_78 : decode cX2_about 78 = .ok (.aload_n 0, 1) := by decide +kernel
theorem dX2_about_79 : decode cX2_about 79 = .ok (.getfield 21, 3) := by decide +kernel
theorem dX2_about_82 : decode cX2_about 82 = .ok (.getfield 136, 3) := by decide +kernel
theorem dX2_about_85 : decode cX2_about 85 = .ok (.iload_n 1, 1) := by decide +kernel
theorem dX2_about_86 : decode cX2_about 86 = .ok (.iaload, 1) := by decide +kernel
theorem dX2_about_87 : decode cX2_about 87 = .ok (.ireturn, 1) := by decide +kernel
theorem dX2_about_88 : decode cX2_about 88 = .ok (.aload_n 0, 1) := by decide +kernel
theorem dX2_about_89 : decode cX2_about 89 = .ok (.getfield 21, 3) := by decide +kernel
theorem dX2_about_92 : decode cX2_about 92 = .ok (.getfield 139, 3) := by decide +kernel
theorem dX2_about_95 : decode cX2_about 95 = .ok (.iload_n 1, 1) := by decide +kernel
theorem dX2_about_96 : decode cX2_about 96 = .ok (.iaload, 1) := by decide +kernel
theorem dX2_about_97 : decode cX2_about 97 = .ok (.ireturn, 1) := by decide +kernel
theorem dX2_about_98 : decode cX2_about 98 = .ok (.bipush (-2), 2) := by decide +kernel
theorem dX2_about_100 : decode cX2_about 100 = .ok (.ireturn, 1) := by decide +kernel
theorem dX2_seen_0 : decode cX2_seen 0 = .ok (.aload_n 0, 1) := by decide +kernel
theorem dX2_seen_1 : decode cX2_seen 1 = .ok (.iload_n 1, 1) := by decide +kernel
theorem dX2_seen_2 : decode cX2_seen 2 = .ok (.invokevirtual 42, 3) := by decide +kernel
theorem dX2_seen_5 : decode cX2_seen 5 = .ok (.astore_n 3, 1) := by decide +kernel
theorem dX2_seen_6 : decode cX2_seen 6 = .ok (.aload_n 3, 1) := by decide +kernel
theorem dX2_seen_7 : decode cX2_seen 7 = .ok (.ifnull 14, 3) := by decide +kernel
theorem dX2_seen_10 : decode cX2_seen 10 = .ok (.aload_n 0, 1) := by decide +kernel
theorem dX2_seen_11 : decode cX2_seen 11 = .ok (.getfield 21, 3) := by decide +kernel
theorem dX2_seen_14 : decode cX2_seen 14 = .ok (.iload_n 2, 1) := by decide +kernel
theorem dX2_seen_15 : decode cX2_seen 15 = .ok (.invokevirtual 71, 3) := by decide +kernel
theorem dX2_seen_18 : decode cX2_seen 18 = .ok (.ifCond .ne 6, 3) := by decide +kernel
theorem dX2_seen_21 : decode cX2_seen 21 = .ok (.bipush (-2), 2) := by decide +kernel
theorem dX2_seen_23 : decode cX2_seen 23 = .ok (.ireturn, 1) := by decide +kernel
theorem dX2_seen_24 : decode cX2_seen 24 = .ok (.aload_n 3, 1) := by decide +kernel
theorem dX2_seen_25 : decode cX2_seen 25 = .ok (.getfield 142, 3) := by decide +kernel
theorem dX2_seen_28 : decode cX2_seen 28 = .ok (.iload_n 2, 1) := by decide +kernel
theorem dX2_seen_29 : decode cX2_seen 29 = .ok (.invokestatic 78, 3) := by decide +kernel
theorem dX2_seen_32 : decode cX2_seen 32 = .ok (.ifCond .eq 5, 3) := by decide +kernel
theorem dX2_seen_35 : decode cX2_seen 35 = .ok (.iconst 4, 1) := by decide +kernel
theorem dX2_seen_36 : decode cX2_seen 36 = .ok (.ireturn, 1) := by decide +kernel
theorem dX2_seen_37 : decode cX2_seen 37 = .ok (.aload_n 3, 1) := by decide +kernel
theorem dX2_seen_38 : decode cX2_seen 38 = .ok (.getfield 145, 3) := by decide +kernel
theorem dX2_seen_41 : decode cX2_seen 41 = .ok (.iload_n 2, 1) := by decide +kernel
theorem dX2_seen_42 : decode cX2_seen 42 = .ok (.invokestatic 78, 3) := by decide +kernel
theorem dX2_seen_45 : decode cX2_seen 45 = .ok (.ifCond .eq 5, 3) := by decide +kernel
theorem dX2_seen_48 : decode cX2_seen 48 = .ok (.iconst 3, 1) := by decide +kernel
theorem dX2_seen_49 : decode cX2_seen 49 = .ok (.ireturn, 1) := by decide +kernel
theorem dX2_seen_50 : decode cX2_seen 50 = .ok (.aload_n 3, 1) := by decide +kernel
theorem dX2_seen_51 : decode cX2_seen 51 = .ok (.getfield 148, 3) := by decide +kernel
theorem dX2_seen_54 : decode cX2_seen 54 = .ok (.iload_n 2, 1) := by decide +kernel
theorem dX2_seen_55 : decode cX2_seen 55 = .ok (.invokestatic 78, 3) := by decide +kernel
theorem dX2_seen_58 : decode cX2_seen 58 = .ok (.ifCond .eq 5, 3) := by decide +kernel
theorem dX2_seen_61 : decode cX2_seen 61 = .ok (.iconst 2, 1) := by decide +kernel
theorem dX2_seen_62 : decode cX2_seen 62 = .ok (.ireturn, 1) := by decide +kernel
theorem dX2_seen_63 : decode cX2_seen 63 = .ok (.aload_n 3, 1) := by decide +kernel
theorem dX2_seen_64 : decode cX2_seen 64 = .ok (.getfield 124, 3) := by decide +kernel
theorem dX2_seen_67 : decode cX2_seen 67 = .ok (.iload_n 2, 1) := by decide +kernel
theorem dX2_seen_68 : decode cX2_seen 68 = .ok (.invokestatic 78, 3) := by decide +kernel
theorem dX2_seen_71 : decode cX2_seen 71 = .ok (.ifCond .eq 7, 3) := by decide +kernel
theorem dX2_seen_74 : decode cX2_seen 74 = .ok (.iconst 1, 1) := by decide +kernel
theorem dX2_seen_75 : decode cX2_seen 75 = .ok (.goto 4, 3) := by decide +kernel
theorem dX2_seen_78 : decode cX2_seen 78 = .ok (.iconst 0, 1) := by decide +kernel
theorem dX2_seen_79 : decode cX2_seen 79 = .ok (.ireturn, 1) := by decide +kernel
theorem dX2_votes_0 : decode cX2_votes 0 = .ok (.aload_n 0, 1) := by decide +kernel
theorem dX2_votes_1 : decode cX2_votes 1 = .ok (.iload_n 1, 1) := by decide +kernel
theorem dX2_votes_2 : decode cX2_votes 2 = .ok (.invokevirtual 42, 3) := by decide +kernel
theorem dX2_votes_5 : decode cX2_votes 5 = .ok (.astore_n 3, 1) := by decide +kernel
theorem dX2_votes_6 : decode cX2_votes 6 = .ok (.aload_n 3, 1) := by decide +kernel
theorem dX2_votes_7 : decode cX2_votes 7 = .ok (.ifnull 14, 3) := by decide +kernel
theorem dX2_votes_10 : decode cX2_votes 10 = .ok (.aload_n 0, 1) := by decide +kernel
theorem dX2_votes_11 : decode cX2_votes 11 = .ok (.getfield 21, 3) := by decide +kernel
theorem dX2_votes_14 : decode cX2_votes 14 = .ok (.iload_n 2, 1) := by decide +kernel
theorem dX2_votes_15 : decode cX2_votes 15 = .ok (.invokevirtual 71, 3) := by decide +kernel
theorem dX2_votes_18 : decode cX2_votes 18 = .ok (.ifCond .ne 6, 3) := by decide +kernel
theorem dX2_votes_21 : decode cX2_votes 21 = .ok (.bipush (-2), 2) := by decide +kernel
theorem dX2_votes_23 : decode cX2_votes 23 = .ok (.ireturn, 1) := by decide +kernel
theorem dX2_votes_24 : decode cX2_votes 24 = .ok (.aload_n 3, 1) := by decide +kernel
theorem dX2_votes_25 : decode cX2_votes 25 = .ok (.getfield 151, 3) := by decide +kernel
theorem dX2_votes_28 : decode cX2_votes 28 = .ok (.iload_n 2, 1) := by decide +kernel
theorem dX2_votes_29 : decode cX2_votes 29 = .ok (.iaload, 1) := by decide +kernel
theorem dX2_votes_30 : decode cX2_votes 30 = .ok (.invokestatic 154, 3) := by decide +kernel
theorem dX2_votes_33 : decode cX2_votes 33 = .ok (.ireturn, 1) := by decide +kernel
theorem dX2_voted_0 : decode cX2_voted 0 = .ok (.aload_n 0, 1) := by decide +kernel
theorem dX2_voted_1 : decode cX2_voted 1 = .ok (.iload_n 1, 1) := by decide +kernel
theorem dX2_voted_2 : decode cX2_voted 2 = .ok (.invokevirtual 42, 3) := by decide +kernel
theorem dX2_voted_5 : decode cX2_voted 5 = .ok (.astore_n 3, 1) := by decide +kernel
theorem dX2_voted_6 : decode cX2_voted 6 = .ok (.aload_n 3, 1) := by decide +kernel
theorem dX2_voted_7 : decode cX2_voted 7 = .ok (.ifnull 10, 3) := by decide +kernel
theorem dX2_voted_10 : decode cX2_voted 10 = .ok (.iload_n 2, 1) := by decide +kernel
theorem dX2_voted_11 : decode cX2_voted 11 = .ok (.invokestatic 38, 3) := by decide +kernel
theorem dX2_voted_14 : decode cX2_voted 14 = .ok (.ifCond .ne 6, 3) := by decide +kernel
theorem dX2_voted_17 : decode cX2_voted 17 = .ok (.bipush (-2), 2) := by decide +kernel
theorem dX2_voted_19 : decode cX2_voted 19 = .ok (.ireturn, 1) := by decide +kernel
theorem dX2_voted_20 : decode cX2_voted 20 = .ok (.aload_n 3, 1) := by decide +kernel
theorem dX2_voted_21 : decode cX2_voted 21 = .ok (.getfield 160, 3) := by decide +kernel
theorem dX2_voted_24 : decode cX2_voted 24 = .ok (.iload_n 2, 1) := by decide +kernel
theorem dX2_voted_25 : decode cX2_voted 25 = .ok (.iaload, 1) := by decide +kernel
theorem dX2_voted_26 : decode cX2_voted 26 = .ok (.ireturn, 1) := by decide +kernel
theorem dX2_reach_0 : decode cX2_reach 0 = .ok (.aload_n 0, 1) := by decide +kernel
theorem dX2_reach_1 : decode cX2_reach 1 = .ok (.iload_n 1, 1) := by decide +kernel
theorem dX2_reach_2 : decode cX2_reach 2 = .ok (.invokevirtual 42, 3) := by decide +kernel
theorem dX2_reach_5 : decode cX2_reach 5 = .ok (.astore_n 3, 1) := by decide +kernel
theorem dX2_reach_6 : decode cX2_reach 6 = .ok (.aload_n 3, 1) := by decide +kernel
theorem dX2_reach_7 : decode cX2_reach 7 = .ok (.ifnonnull 6, 3) := by decide +kernel
theorem dX2_reach_10 : decode cX2_reach 10 = .ok (.bipush (-2), 2) := by decide +kernel
theorem dX2_reach_12 : decode cX2_reach 12 = .ok (.ireturn, 1) := by decide +kernel
theorem dX2_reach_13 : decode cX2_reach 13 = .ok (.iload_n 2, 1) := by decide +kernel
theorem dX2_reach_14 : decode cX2_reach 14 = .ok (.tableswitch 49 0 2 #[26, 39, 44], 26) := by decide +kernel
theorem dX2_reach_40 : decode cX2_reach 40 = .ok (.aload_n 0, 1) := by decide +kernel
theorem dX2_reach_41 : decode cX2_reach 41 = .ok (.getfield 21, 3) := by decide +kernel
theorem dX2_reach_44 : decode cX2_reach 44 = .ok (.getfield 136, 3) := by decide +kernel
theorem dX2_reach_47 : decode cX2_reach 47 = .ok (.aload_n 3, 1) := by decide +kernel
theorem dX2_reach_48 : decode cX2_reach 48 = .ok (.getfield 163, 3) := by decide +kernel
theorem dX2_reach_51 : decode cX2_reach 51 = .ok (.iaload, 1) := by decide +kernel
theorem dX2_reach_52 : decode cX2_reach 52 = .ok (.ireturn, 1) := by decide +kernel
theorem dX2_reach_53 : decode cX2_reach 53 = .ok (.aload_n 3, 1) := by decide +kernel
theorem dX2_reach_54 : decode cX2_reach 54 = .ok (.getfield 163, 3) := by decide +kernel
theorem dX2_reach_57 : decode cX2_reach 57 = .ok (.ireturn, 1) := by decide +kernel
theorem dX2_reach_58 : decode cX2_reach 58 = .ok (.aload_n 3, 1) := by decide +kernel
theorem dX2_reach_59 : decode cX2_reach 59 = .ok (.getfield 166, 3) := by decide +kernel
theorem dX2_reach_62 : decode cX2_reach 62 = .ok (.ireturn, 1) := by decide +kernel
theorem dX2_reach_63 : decode cX2_reach 63 = .ok (.bipush (-2), 2) := by decide +kernel
theorem dX2_reach_65 : decode cX2_reach 65 = .ok (.ireturn, 1) := by decide +kernel
theorem dX2_ledger_0 : decode cX2_ledger 0 = .ok (.aload_n 0, 1) := by decide +kernel
theorem dX2_ledger_1 : decode cX2_ledger 1 = .ok (.iload_n 1, 1) := by decide +kernel
theorem dX2_ledger_2 : decode cX2_ledger 2 = .ok (.invokevirtual 42, 3) := by decide +kernel
theorem dX2_ledger_5 : decode cX2_ledger 5 = .ok (.astore_n 3, 1) := by decide +kernel
theorem dX2_ledger_6 : decode cX2_ledger 6 = .ok (.aload_n 3, 1) := by decide +kernel
theorem dX2_ledger_7 : decode cX2_ledger 7 = .ok (.ifnonnull 6, 3) := by decide +kernel
theorem dX2_ledger_10 : decode cX2_ledger 10 = .ok (.bipush (-2), 2) := by decide +kernel
theorem dX2_ledger_12 : decode cX2_ledger 12 = .ok (.ireturn, 1) := by decide +kernel
theorem dX2_ledger_13 : decode cX2_ledger 13 = .ok (.aload_n 0, 1) := by decide +kernel
theorem dX2_ledger_14 : decode cX2_ledger 14 = .ok (.getfield 21, 3) := by decide +kernel
theorem dX2_ledger_17 : decode cX2_ledger 17 = .ok (.getfield 169, 3) := by decide +kernel
theorem dX2_ledger_20 : decode cX2_ledger 20 = .ok (.aload_n 3, 1) := by decide +kernel
theorem dX2_ledger_21 : decode cX2_ledger 21 = .ok (.getfield 166, 3) := by decide +kernel
theorem dX2_ledger_24 : decode cX2_ledger 24 = .ok (.laload, 1) := by decide +kernel
theorem dX2_ledger_25 : decode cX2_ledger 25 = .ok (.lstore 4, 2) := by decide +kernel
theorem dX2_ledger_27 : decode cX2_ledger 27 = .ok (.iconst 0, 1) := by decide +kernel
theorem dX2_ledger_28 : decode cX2_ledger 28 = .ok (.istore 6, 2) := by decide +kernel
theorem dX2_ledger_30 : decode cX2_ledger 30 = .ok (.iload_n 2, 1) := by decide +kernel
theorem dX2_ledger_31 : decode cX2_ledger 31 = .ok (.istore 7, 2) := by decide +kernel
theorem dX2_ledger_33 : decode cX2_ledger 33 = .ok (.iconst 0, 1) := by decide +kernel
theorem dX2_ledger_34 : decode cX2_ledger 34 = .ok (.istore 8, 2) := by decide +kernel
theorem dX2_ledger_36 : decode cX2_ledger 36 = .ok (.iload 8, 2) := by decide +kernel
theorem dX2_ledger_38 : decode cX2_ledger 38 = .ok (.aload_n 0, 1) := by decide +kernel
theorem dX2_ledger_39 : decode cX2_ledger 39 = .ok (.getfield 21, 3) := by decide +kernel
theorem dX2_ledger_42 : decode cX2_ledger 42 = .ok (.getfield 173, 3) := by decide +kernel
theorem dX2_ledger_45 : decode cX2_ledger 45 = .ok (.if_icmp .ge 76, 3) := by decide +kernel
theorem dX2_ledger_48 : decode cX2_ledger 48 = .ok (.iload 7, 2) := by decide +kernel
theorem dX2_ledger_50 : decode cX2_ledger 50 = .ok (.ifCond .lt 71, 3) := by decide +kernel
theorem dX2_ledger_53 : decode cX2_ledger 53 = .ok (.lload 4, 2) := by decide +kernel
theorem dX2_ledger_55 : decode cX2_ledger 55 = .ok (.iload 8, 2) := by decide +kernel
theorem dX2_ledger_57 : decode cX2_ledger 57 = .ok (.invokestatic 78, 3) := by decide +kernel
theorem dX2_ledger_60 : decode cX2_ledger 60 = .ok (.ifCond .eq 55, 3) := by decide +kernel
theorem dX2_ledger_63 : decode cX2_ledger 63 = .ok (.aload_n 0, 1) := by decide +kernel
theorem dX2_ledger_64 : decode cX2_ledger 64 = .ok (.getfield 21, 3) := by decide +kernel
theorem dX2_ledger_67 : decode cX2_ledger 67 = .ok (.getfield 133, 3) := by decide +kernel
theorem dX2_ledger_70 : decode cX2_ledger 70 = .ok (.iload 8, 2) := by decide +kernel
theorem dX2_ledger_72 : decode cX2_ledger 72 = .ok (.iaload, 1) := by decide +kernel
theorem dX2_ledger_73 : decode cX2_ledger 73 = .ok (.iload 6, 2) := by decide +kernel
theorem dX2_ledger_75 : decode cX2_ledger 75 = .ok (.iconst (-1), 1) := by decide +kernel
theorem dX2_ledger_76 : decode cX2_ledger 76 = .ok (.ixor, 1) := by decide +kernel
theorem dX2_ledger_77 : decode cX2_ledger 77 = .ok (.iand, 1) := by decide +kernel
theorem dX2_ledger_78 : decode cX2_ledger 78 = .ok (.istore 9, 2) := by decide +kernel
theorem dX2_ledger_80 : decode cX2_ledger 80 = .ok (.iload 7, 2) := by decide +kernel
theorem dX2_ledger_82 : decode cX2_ledger 82 = .ok (.iload 9, 2) := by decide +kernel
theorem dX2_ledger_84 : decode cX2_ledger 84 = .ok (.invokestatic 154, 3) := by decide +kernel
theorem dX2_ledger_87 : decode cX2_ledger 87 = .ok (.if_icmp .ge 11, 3) := by decide +kernel
theorem dX2_ledger_90 : decode cX2_ledger 90 = .ok (.iload 9, 2) := by decide +kernel
theorem dX2_ledger_92 : decode cX2_ledger 92 = .ok (.iload 7, 2) := by decide +kernel
theorem dX2_ledger_94 : decode cX2_ledger 94 = .ok (.invokestatic 176, 3) := by decide +kernel
theorem dX2_ledger_97 : decode cX2_ledger 97 = .ok (.ireturn, 1) := by decide +kernel
theorem dX2_ledger_98 : decode cX2_ledger 98 = .ok (.iload 7, 2) := by decide +kernel
theorem dX2_ledger_100 : decode cX2_ledger 100 = .ok (.iload 9, 2) := by decide +kernel
theorem dX2_ledger_102 : decode cX2_ledger 102 = .ok (.invokestatic 154, 3) := by decide +kernel
theorem dX2_ledger_105 : decode cX2_ledger 105 = .ok (.isub, 1) := by decide +kernel
theorem dX2_ledger_106 : decode cX2_ledger 106 = .ok (.istore 7, 2) := by decide +kernel
theorem dX2_ledger_108 : decode cX2_ledger 108 = .ok (.iload 6, 2) := by decide +kernel
theorem dX2_ledger_110 : decode cX2_ledger 110 = .ok (.iload 9, 2) := by decide +kernel
theorem dX2_ledger_112 : decode cX2_ledger 112 = .ok (.ior, 1) := by decide +kernel
theorem dX2_ledger_113 : decode cX2_ledger 113 = .ok (.istore 6, 2) := by decide +kernel
theorem dX2_ledger_115 : decode cX2_ledger 115 = .ok (.iinc 8 1, 3) := by decide +kernel
theorem dX2_ledger_118 : decode cX2_ledger 118 = .ok (.goto (-82), 3) := by decide +kernel
theorem dX2_ledger_121 : decode cX2_ledger 121 = .ok (.iconst (-1), 1) := by decide +kernel
theorem dX2_ledger_122 : decode cX2_ledger 122 = .ok (.ireturn, 1) := by decide +kernel
theorem dX2_agree_0 : decode cX2_agree 0 = .ok (.aload_n 0, 1) := by decide +kernel
theorem dX2_agree_1 : decode cX2_agree 1 = .ok (.getfield 27, 3) := by decide +kernel
theorem dX2_agree_4 : decode cX2_agree 4 = .ok (.astore_n 1, 1) := by decide +kernel
theorem dX2_agree_5 : decode cX2_agree 5 = .ok (.aload_n 1, 1) := by decide +kernel
theorem dX2_agree_6 : decode cX2_agree 6 = .ok (.arraylength, 1) := by decide +kernel
theorem dX2_agree_7 : decode cX2_agree 7 = .ok (.istore_n 2, 1) := by decide +kernel
theorem dX2_agree_8 : decode cX2_agree 8 = .ok (.iconst 0, 1) := by decide +kernel
theorem dX2_agree_9 : decode cX2_agree 9 = .ok (.istore_n 3, 1) := by decide +kernel
theorem dX2_agree_10 : decode cX2_agree 10 = .ok (.iload_n 3, 1) := by decide +kernel
theorem dX2_agree_11 : decode cX2_agree 11 = .ok (.iload_n 2, 1) := by decide +kernel
theorem dX2_agree_12 : decode cX2_agree 12 = .ok (.if_icmp .ge 83, 3) := by decide +kernel
theorem dX2_agree_15 : decode cX2_agree 15 = .ok (.aload_n 1, 1) := by decide +kernel
theorem dX2_agree_16 : decode cX2_agree 16 = .ok (.iload_n 3, 1) := by decide +kernel
theorem dX2_agree_17 : decode cX2_agree 17 = .ok (.aaload, 1) := by decide +kernel
theorem dX2_agree_18 : decode cX2_agree 18 = .ok (.astore 4, 2) := by decide +kernel
theorem dX2_agree_20 : decode cX2_agree 20 = .ok (.aload_n 0, 1) := by decide +kernel
theorem dX2_agree_21 : decode cX2_agree 21 = .ok (.getfield 27, 3) := by decide +kernel
theorem dX2_agree_24 : decode cX2_agree 24 = .ok (.astore 5, 2) := by decide +kernel
theorem dX2_agree_26 : decode cX2_agree 26 = .ok (.aload 5, 2) := by decide +kernel
theorem dX2_agree_28 : decode cX2_agree 28 = .ok (.arraylength, 1) := by decide +kernel
theorem dX2_agree_29 : decode cX2_agree 29 = .ok (.istore 6, 2) := by decide +kernel
theorem dX2_agree_31 : decode cX2_agree 31 = .ok (.iconst 0, 1) := by decide +kernel
theorem dX2_agree_32 : decode cX2_agree 32 = .ok (.istore 7, 2) := by decide +kernel
theorem dX2_agree_34 : decode cX2_agree 34 = .ok (.iload 7, 2) := by decide +kernel
theorem dX2_agree_36 : decode cX2_agree 36 = .ok (.iload 6, 2) := by decide +kernel
theorem dX2_agree_38 : decode cX2_agree 38 = .ok (.if_icmp .ge 51, 3) := by decide +kernel
theorem dX2_agree_41 : decode cX2_agree 41 = .ok (.aload 5, 2) := by decide +kernel
theorem dX2_agree_43 : decode cX2_agree 43 = .ok (.iload 7, 2) := by decide +kernel
theorem dX2_agree_45 : decode cX2_agree 45 = .ok (.aaload, 1) := by decide +kernel
theorem dX2_agree_46 : decode cX2_agree 46 = .ok (.astore 8, 2) := by decide +kernel
theorem dX2_agree_48 : decode cX2_agree 48 = .ok (.aload 4, 2) := by decide +kernel
theorem dX2_agree_50 : decode cX2_agree 50 = .ok (.getfield 53, 3) := by decide +kernel
theorem dX2_agree_53 : decode cX2_agree 53 = .ok (.ifCond .ne 30, 3) := by decide +kernel
theorem dX2_agree_56 : decode cX2_agree 56 = .ok (.aload 8, 2) := by decide +kernel
theorem dX2_agree_58 : decode cX2_agree 58 = .ok (.getfield 53, 3) := by decide +kernel
theorem dX2_agree_61 : decode cX2_agree 61 = .ok (.ifCond .ne 22, 3) := by decide +kernel
theorem dX2_agree_64 : decode cX2_agree 64 = .ok (.aload_n 0, 1) := by decide +kernel
theorem dX2_agree_65 : decode cX2_agree 65 = .ok (.aload 4, 2) := by decide +kernel
theorem dX2_agree_67 : decode cX2_agree 67 = .ok (.getfield 166, 3) := by decide +kernel
theorem dX2_agree_70 : decode cX2_agree 70 = .ok (.aload 8, 2) := by decide +kernel
theorem dX2_agree_72 : decode cX2_agree 72 = .ok (.getfield 166, 3) := by decide +kernel
theorem dX2_agree_75 : decode cX2_agree 75 = .ok (.invokevirtual 179, 3) := by decide +kernel
theorem dX2_agree_78 : decode cX2_agree 78 = .ok (.ifCond .ne 5, 3) := by decide +kernel
theorem dX2_agree_81 : decode cX2_agree 81 = .ok (.iconst 0, 1) := by decide +kernel
theorem dX2_agree_82 : decode cX2_agree 82 = .ok (.ireturn, 1) := by decide +kernel
theorem dX2_agree_83 : decode cX2_agree 83 = .ok (.iinc 7 1, 3) := by decide +kernel
theorem dX2_agree_86 : decode cX2_agree 86 = .ok (.goto (-52), 3) := by decide +kernel
theorem dX2_agree_89 : decode cX2_agree 89 = .ok (.iinc 3 1, 3) := by decide +kernel
theorem dX2_agree_92 : decode cX2_agree 92 = .ok (.goto (-82), 3) := by decide +kernel
theorem dX2_agree_95 : decode cX2_agree 95 = .ok (.iconst 1, 1) := by decide +kernel
theorem dX2_agree_96 : decode cX2_agree 96 = .ok (.ireturn, 1) := by decide +kernel
theorem dX2_count_0 : decode cX2_count 0 = .ok (.iload_n 1, 1) := by decide +kernel
theorem dX2_count_1 : decode cX2_count 1 = .ok (.tableswitch 82 0 6 #[43, 49, 54, 62, 67, 72, 77], 43) := by decide +kernel
theorem dX2_count_44 : decode cX2_count 44 = .ok (.aload_n 0, 1) := by decide +kernel
theorem dX2_count_45 : decode cX2_count 45 = .ok (.getfield 27, 3) := by decide +kernel
theorem dX2_count_48 : decode cX2_count 48 = .ok (.arraylength, 1) := by decide +kernel
theorem dX2_count_49 : decode cX2_count 49 = .ok (.ireturn, 1) := by decide +kernel
theorem dX2_count_50 : decode cX2_count 50 = .ok (.aload_n 0, 1) := by decide +kernel
theorem dX2_count_51 : decode cX2_count 51 = .ok (.getfield 46, 3) := by decide +kernel
theorem dX2_count_54 : decode cX2_count 54 = .ok (.ireturn, 1) := by decide +kernel
theorem dX2_count_55 : decode cX2_count 55 = .ok (.aload_n 0, 1) := by decide +kernel
theorem dX2_count_56 : decode cX2_count 56 = .ok (.getfield 21, 3) := by decide +kernel
theorem dX2_count_59 : decode cX2_count 59 = .ok (.getfield 173, 3) := by decide +kernel
theorem dX2_count_62 : decode cX2_count 62 = .ok (.ireturn, 1) := by decide +kernel
theorem dX2_count_63 : decode cX2_count 63 = .ok (.aload_n 0, 1) := by decide +kernel
theorem dX2_count_64 : decode cX2_count 64 = .ok (.invokevirtual 183, 3) := by decide +kernel
theorem dX2_count_67 : decode cX2_count 67 = .ok (.ireturn, 1) := by decide +kernel
theorem dX2_count_68 : decode cX2_count 68 = .ok (.aload_n 0, 1) := by decide +kernel
theorem dX2_count_69 : decode cX2_count 69 = .ok (.invokevirtual 100, 3) := by decide +kernel
theorem dX2_count_72 : decode cX2_count 72 = .ok (.ireturn, 1) := by decide +kernel
theorem dX2_count_73 : decode cX2_count 73 = .ok (.aload_n 0, 1) := by decide +kernel
theorem dX2_count_74 : decode cX2_count 74 = .ok (.getfield 186, 3) := by decide +kernel
theorem dX2_count_77 : decode cX2_count 77 = .ok (.ireturn, 1) := by decide +kernel
theorem dX2_count_78 : decode cX2_count 78 = .ok (.aload_n 0, 1) := by decide +kernel
theorem dX2_count_79 : decode cX2_count 79 = .ok (.getfield 97, 3) := by decide +kernel
theorem dX2_count_82 : decode cX2_count 82 = .ok (.ireturn, 1) := by decide +kernel
theorem dX2_count_83 : decode cX2_count 83 = .ok (.bipush (-2), 2) := by decide +kernel
theorem dX2_count_85 : decode cX2_count 85 = .ok (.ireturn, 1) := by decide +kernel
theorem dX2_nodeAt_0 : decode cX2_nodeAt 0 = .ok (.iload_n 1, 1) := by decide +kernel
theorem dX2_nodeAt_1 : decode cX2_nodeAt 1 = .ok (.ifCond .lt 21, 3) := by decide +kernel
theorem dX2_nodeAt_4 : decode cX2_nodeAt 4 = .ok (.iload_n 1, 1) := by decide +kernel
theorem dX2_nodeAt_5 : decode cX2_nodeAt 5 = .ok (.aload_n 0, 1) := by decide +kernel
theorem dX2_nodeAt_6 : decode cX2_nodeAt 6 = .ok (.getfield 27, 3) := by decide +kernel
theorem dX2_nodeAt_9 : decode cX2_nodeAt 9 = .ok (.arraylength, 1) := by decide +kernel
theorem dX2_nodeAt_10 : decode cX2_nodeAt 10 = .ok (.if_icmp .ge 12, 3) := by decide +kernel
theorem dX2_nodeAt_13 : decode cX2_nodeAt 13 = .ok (.aload_n 0, 1) := by decide +kernel
theorem dX2_nodeAt_14 : decode cX2_nodeAt 14 = .ok (.getfield 27, 3) := by decide +kernel
theorem dX2_nodeAt_17 : decode cX2_nodeAt 17 = .ok (.iload_n 1, 1) := by decide +kernel
theorem dX2_nodeAt_18 : decode cX2_nodeAt 18 = .ok (.aaload, 1) := by decide +kernel
theorem dX2_nodeAt_19 : decode cX2_nodeAt 19 = .ok (.goto 4, 3) := by decide +kernel
theorem dX2_nodeAt_22 : decode cX2_nodeAt 22 = .ok (.aconst_null, 1) := by decide +kernel
theorem dX2_nodeAt_23 : decode cX2_nodeAt 23 = .ok (.areturn, 1) := by decide +kernel
theorem dX2_areNodes_0 : decode cX2_areNodes 0 = .ok (.iload_n 1, 1) := by decide +kernel
theorem dX2_areNodes_1 : decode cX2_areNodes 1 = .ok (.ifCond .lt 18, 3) := by decide +kernel
theorem dX2_areNodes_4 : decode cX2_areNodes 4 = .ok (.iload_n 1, 1) := by decide +kernel
theorem dX2_areNodes_5 : decode cX2_areNodes 5 = .ok (.iconst 1, 1) := by decide +kernel
theorem dX2_areNodes_6 : decode cX2_areNodes 6 = .ok (.aload_n 0, 1) := by decide +kernel
theorem dX2_areNodes_7 : decode cX2_areNodes 7 = .ok (.getfield 27, 3) := by decide +kernel
theorem dX2_areNodes_10 : decode cX2_areNodes 10 = .ok (.arraylength, 1) := by decide +kernel
theorem dX2_areNodes_11 : decode cX2_areNodes 11 = .ok (.ishl, 1) := by decide +kernel
theorem dX2_areNodes_12 : decode cX2_areNodes 12 = .ok (.if_icmp .ge 7, 3) := by decide +kernel
theorem dX2_areNodes_15 : decode cX2_areNodes 15 = .ok (.iconst 1, 1) := by decide +kernel
theorem dX2_areNodes_16 : decode cX2_areNodes 16 = .ok (.goto 4, 3) := by decide +kernel
theorem dX2_areNodes_19 : decode cX2_areNodes 19 = .ok (.iconst 0, 1) := by decide +kernel
theorem dX2_areNodes_20 : decode cX2_areNodes 20 = .ok (.ireturn, 1) := by decide +kernel
theorem dX2_isEpoch_0 : decode cX2_isEpoch 0 = .ok (.iload_n 0, 1) := by decide +kernel
theorem dX2_isEpoch_1 : decode cX2_isEpoch 1 = .ok (.iconst 1, 1) := by decide +kernel
theorem dX2_isEpoch_2 : decode cX2_isEpoch 2 = .ok (.if_icmp .lt 13, 3) := by decide +kernel
theorem dX2_isEpoch_5 : decode cX2_isEpoch 5 = .ok (.iload_n 0, 1) := by decide +kernel
theorem dX2_isEpoch_6 : decode cX2_isEpoch 6 = .ok (.bipush 40, 2) := by decide +kernel
theorem dX2_isEpoch_8 : decode cX2_isEpoch 8 = .ok (.if_icmp .gt 7, 3) := by decide +kernel
theorem dX2_isEpoch_11 : decode cX2_isEpoch 11 = .ok (.iconst 1, 1) := by decide +kernel
theorem dX2_isEpoch_12 : decode cX2_isEpoch 12 = .ok (.goto 4, 3) := by decide +kernel
theorem dX2_isEpoch_15 : decode cX2_isEpoch 15 = .ok (.iconst 0, 1) := by decide +kernel
theorem dX2_isEpoch_16 : decode cX2_isEpoch 16 = .ok (.ireturn, 1) := by decide +kernel
theorem dX2_holds_0 : decode cX2_holds 0 = .ok (.lload_n 0, 1) := by decide +kernel
theorem dX2_holds_1 : decode cX2_holds 1 = .ok (.iload_n 2, 1) := by decide +kernel
theorem dX2_holds_2 : decode cX2_holds 2 = .ok (.lushr, 1) := by decide +kernel
theorem dX2_holds_3 : decode cX2_holds 3 = .ok (.lconst 1, 1) := by decide +kernel
theorem dX2_holds_4 : decode cX2_holds 4 = .ok (.land, 1) := by decide +kernel
theorem dX2_holds_5 : decode cX2_holds 5 = .ok (.lconst 0, 1) := by decide +kernel
theorem dX2_holds_6 : decode cX2_holds 6 = .ok (.lcmp, 1) := by decide +kernel
theorem dX2_holds_7 : decode cX2_holds 7 = .ok (.ifCond .eq 7, 3) := by decide +kernel
theorem dX2_holds_10 : decode cX2_holds 10 = .ok (.iconst 1, 1) := by decide +kernel
theorem dX2_holds_11 : decode cX2_holds 11 = .ok (.goto 4, 3) := by decide +kernel
theorem dX2_holds_14 : decode cX2_holds 14 = .ok (.iconst 0, 1) := by decide +kernel
theorem dX2_holds_15 : decode cX2_holds 15 = .ok (.ireturn, 1) := by decide +kernel
theorem dX2_wishAt_0 : decode cX2_wishAt 0 = .ok (.iload_n 1, 1) := by decide +kernel
theorem dX2_wishAt_1 : decode cX2_wishAt 1 = .ok (.istore_n 2, 1) := by decide +kernel
theorem dX2_wishAt_2 : decode cX2_wishAt 2 = .ok (.iconst 0, 1) := by decide +kernel
theorem dX2_wishAt_3 : decode cX2_wishAt 3 = .ok (.istore_n 3, 1) := by decide +kernel
theorem dX2_wishAt_4 : decode cX2_wishAt 4 = .ok (.iload_n 3, 1) := by decide +kernel
theorem dX2_wishAt_5 : decode cX2_wishAt 5 = .ok (.bipush 32, 2) := by decide +kernel
theorem dX2_wishAt_7 : decode cX2_wishAt 7 = .ok (.if_icmp .ge 27, 3) := by decide +kernel
theorem dX2_wishAt_10 : decode cX2_wishAt 10 = .ok (.iload_n 0, 1) := by decide +kernel
theorem dX2_wishAt_11 : decode cX2_wishAt 11 = .ok (.i2l, 1) := by decide +kernel
theorem dX2_wishAt_12 : decode cX2_wishAt 12 = .ok (.iload_n 3, 1) := by decide +kernel
theorem dX2_wishAt_13 : decode cX2_wishAt 13 = .ok (.invokestatic 78, 3) := by decide +kernel
theorem dX2_wishAt_16 : decode cX2_wishAt 16 = .ok (.ifCond .eq 12, 3) := by decide +kernel
theorem dX2_wishAt_19 : decode cX2_wishAt 19 = .ok (.iload_n 2, 1) := by decide +kernel
theorem dX2_wishAt_20 : decode cX2_wishAt 20 = .ok (.ifCond .ne 5, 3) := by decide +kernel
theorem dX2_wishAt_23 : decode cX2_wishAt 23 = .ok (.iload_n 3, 1) := by decide +kernel
theorem dX2_wishAt_24 : decode cX2_wishAt 24 = .ok (.ireturn, 1) := by decide +kernel
theorem dX2_wishAt_25 : decode cX2_wishAt 25 = .ok (.iinc 2 (-1), 3) := by decide +kernel
theorem dX2_wishAt_28 : decode cX2_wishAt 28 = .ok (.iinc 3 1, 3) := by decide +kernel
theorem dX2_wishAt_31 : decode cX2_wishAt 31 = .ok (.goto (-27), 3) := by decide +kernel
theorem dX2_wishAt_34 : decode cX2_wishAt 34 = .ok (.iconst (-1), 1) := by decide +kernel
theorem dX2_wishAt_35 : decode cX2_wishAt 35 = .ok (.ireturn, 1) := by decide +kernel
theorem dX2_letAllCome_0 : decode cX2_letAllCome 0 = .ok (.aload_n 0, 1) := by decide +kernel
theorem dX2_letAllCome_1 : decode cX2_letAllCome 1 = .ok (.getfield 97, 3) := by decide +kernel
theorem dX2_letAllCome_4 : decode cX2_letAllCome 4 = .ok (.istore_n 2, 1) := by decide +kernel
theorem dX2_letAllCome_5 : decode cX2_letAllCome 5 = .ok (.iconst 1, 1) := by decide +kernel
theorem dX2_letAllCome_6 : decode cX2_letAllCome 6 = .ok (.istore_n 3, 1) := by decide +kernel
theorem dX2_letAllCome_7 : decode cX2_letAllCome 7 = .ok (.iload_n 3, 1) := by decide +kernel
theorem dX2_letAllCome_8 : decode cX2_letAllCome 8 = .ok (.aload_n 0, 1) := by decide +kernel
theorem dX2_letAllCome_9 : decode cX2_letAllCome 9 = .ok (.getfield 21, 3) := by decide +kernel
theorem dX2_letAllCome_12 : decode cX2_letAllCome 12 = .ok (.getfield 173, 3) := by decide +kernel
theorem dX2_letAllCome_15 : decode cX2_letAllCome 15 = .ok (.if_icmp .ge 77, 3) := by decide +kernel
theorem dX2_letAllCome_18 : decode cX2_letAllCome 18 = .ok (.aload_n 1, 1) := by decide +kernel
theorem dX2_letAllCome_19 : decode cX2_letAllCome 19 = .ok (.getfield 74, 3) := by decide +kernel
theorem dX2_letAllCome_22 : decode cX2_letAllCome 22 = .ok (.iload_n 3, 1) := by decide +kernel
theorem dX2_letAllCome_23 : decode cX2_letAllCome 23 = .ok (.invokestatic 78, 3) := by decide +kernel
theorem dX2_letAllCome_26 : decode cX2_letAllCome 26 = .ok (.ifCond .eq 9, 3) := by decide +kernel
theorem dX2_letAllCome_29 : decode cX2_letAllCome 29 = .ok (.aload_n 0, 1) := by decide +kernel
theorem dX2_letAllCome_30 : decode cX2_letAllCome 30 = .ok (.aload_n 1, 1) := by decide +kernel
theorem dX2_letAllCome_31 : decode cX2_letAllCome 31 = .ok (.iload_n 3, 1) := by decide +kernel
theorem dX2_letAllCome_32 : decode cX2_letAllCome 32 = .ok (.invokevirtual 82, 3) := by decide +kernel
theorem dX2_letAllCome_35 : decode cX2_letAllCome 35 = .ok (.iconst 0, 1) := by decide +kernel
theorem dX2_letAllCome_36 : decode cX2_letAllCome 36 = .ok (.istore 4, 2) := by decide +kernel
theorem dX2_letAllCome_38 : decode cX2_letAllCome 38 = .ok (.iload 4, 2) := by decide +kernel
theorem dX2_letAllCome_40 : decode cX2_letAllCome 40 = .ok (.aload_n 0, 1) := by decide +kernel
theorem dX2_letAllCome_41 : decode cX2_letAllCome 41 = .ok (.getfield 27, 3) := by decide +kernel
theorem dX2_letAllCome_44 : decode cX2_letAllCome 44 = .ok (.arraylength, 1) := by decide +kernel
theorem dX2_letAllCome_45 : decode cX2_letAllCome 45 = .ok (.if_icmp .ge 41, 3) := by decide +kernel
theorem dX2_letAllCome_48 : decode cX2_letAllCome 48 = .ok (.aload_n 1, 1) := by decide +kernel
theorem dX2_letAllCome_49 : decode cX2_letAllCome 49 = .ok (.getfield 86, 3) := by decide +kernel
theorem dX2_letAllCome_52 : decode cX2_letAllCome 52 = .ok (.iload_n 3, 1) := by decide +kernel
theorem dX2_letAllCome_53 : decode cX2_letAllCome 53 = .ok (.iaload, 1) := by decide +kernel
theorem dX2_letAllCome_54 : decode cX2_letAllCome 54 = .ok (.ifCond .eq 32, 3) := by decide +kernel
theorem dX2_letAllCome_57 : decode cX2_letAllCome 57 = .ok (.aload_n 1, 1) := by decide +kernel
theorem dX2_letAllCome_58 : decode cX2_letAllCome 58 = .ok (.getfield 86, 3) := by decide +kernel
theorem dX2_letAllCome_61 : decode cX2_letAllCome 61 = .ok (.iload_n 3, 1) := by decide +kernel
theorem dX2_letAllCome_62 : decode cX2_letAllCome 62 = .ok (.iaload, 1) := by decide +kernel
theorem dX2_letAllCome_63 : decode cX2_letAllCome 63 = .ok (.i2l, 1) := by decide +kernel
theorem dX2_letAllCome_64 : decode cX2_letAllCome 64 = .ok (.iload 4, 2) := by decide +kernel
theorem dX2_letAllCome_66 : decode cX2_letAllCome 66 = .ok (.invokestatic 78, 3) := by decide +kernel
theorem dX2_letAllCome_69 : decode cX2_letAllCome 69 = .ok (.ifCond .eq 11, 3) := by decide +kernel
theorem dX2_letAllCome_72 : decode cX2_letAllCome 72 = .ok (.aload_n 0, 1) := by decide +kernel
theorem dX2_letAllCome_73 : decode cX2_letAllCome 73 = .ok (.aload_n 1, 1) := by decide +kernel
theorem dX2_letAllCome_74 : decode cX2_letAllCome 74 = .ok (.iload 4, 2) := by decide +kernel
theorem dX2_letAllCome_76 : decode cX2_letAllCome 76 = .ok (.iload_n 3, 1) := by decide +kernel
theorem dX2_letAllCome_77 : decode cX2_letAllCome 77 = .ok (.invokevirtual 89, 3) := by decide +kernel
theorem dX2_letAllCome_80 : decode cX2_letAllCome 80 = .ok (.iinc 4 1, 3) := by decide +kernel
theorem dX2_letAllCome_83 : decode cX2_letAllCome 83 = .ok (.goto (-45), 3) := by decide +kernel
theorem dX2_letAllCome_86 : decode cX2_letAllCome 86 = .ok (.iinc 3 1, 3) := by decide +kernel
theorem dX2_letAllCome_89 : decode cX2_letAllCome 89 = .ok (.goto (-82), 3) := by decide +kernel
theorem dX2_letAllCome_92 : decode cX2_letAllCome 92 = .ok (.aload_n 0, 1) := by decide +kernel
theorem dX2_letAllCome_93 : decode cX2_letAllCome 93 = .ok (.getfield 97, 3) := by decide +kernel
theorem dX2_letAllCome_96 : decode cX2_letAllCome 96 = .ok (.iload_n 2, 1) := by decide +kernel
theorem dX2_letAllCome_97 : decode cX2_letAllCome 97 = .ok (.isub, 1) := by decide +kernel
theorem dX2_letAllCome_98 : decode cX2_letAllCome 98 = .ok (.ireturn, 1) := by decide +kernel
theorem dX2_letProposalCome_0 : decode cX2_letProposalCome 0 = .ok (.aload_n 0, 1) := by decide +kernel
theorem dX2_letProposalCome_1 : decode cX2_letProposalCome 1 = .ok (.dup, 1) := by decide +kernel
theorem dX2_letProposalCome_2 : decode cX2_letProposalCome 2 = .ok (.getfield 97, 3) := by decide +kernel
theorem dX2_letProposalCome_5 : decode cX2_letProposalCome 5 = .ok (.iconst 1, 1) := by decide +kernel
theorem dX2_letProposalCome_6 : decode cX2_letProposalCome 6 = .ok (.iadd, 1) := by decide +kernel
theorem dX2_letProposalCome_7 : decode cX2_letProposalCome 7 = .ok (.putfield 97, 3) := by decide +kernel
theorem dX2_letProposalCome_10 : decode cX2_letProposalCome 10 = .ok (.aload_n 0, 1) := by decide +kernel
theorem dX2_letProposalCome_11 : decode cX2_letProposalCome 11 = .ok (.aload_n 1, 1) := by decide +kernel
theorem dX2_letProposalCome_12 : decode cX2_letProposalCome 12 = .ok (.iload_n 2, 1) := by decide +kernel
theorem dX2_letProposalCome_13 : decode cX2_letProposalCome 13 = .ok (.invokevirtual 111, 3) := by decide +kernel
theorem dX2_letProposalCome_16 : decode cX2_letProposalCome 16 = .ok (.aload_n 0, 1) := by decide +kernel
theorem dX2_letProposalCome_17 : decode cX2_letProposalCome 17 = .ok (.aload_n 1, 1) := by decide +kernel
theorem dX2_letProposalCome_18 : decode cX2_letProposalCome 18 = .ok (.invokevirtual 68, 3) := by decide +kernel
theorem dX2_letProposalCome_21 : decode cX2_letProposalCome 21 = .ok (.return_, 1) := by decide +kernel
theorem dX2_letVoteCome_0 : decode cX2_letVoteCome 0 = .ok (.aload_n 0, 1) := by decide +kernel
theorem dX2_letVoteCome_1 : decode cX2_letVoteCome 1 = .ok (.dup, 1) := by decide +kernel
theorem dX2_letVoteCome_2 : decode cX2_letVoteCome 2 = .ok (.getfield 97, 3) := by decide +kernel
theorem dX2_letVoteCome_5 : decode cX2_letVoteCome 5 = .ok (.iconst 1, 1) := by decide +kernel
theorem dX2_letVoteCome_6 : decode cX2_letVoteCome 6 = .ok (.iadd, 1) := by decide +kernel
theorem dX2_letVoteCome_7 : decode cX2_letVoteCome 7 = .ok (.putfield 97, 3) := by decide +kernel
theorem dX2_letVoteCome_10 : decode cX2_letVoteCome 10 = .ok (.aload_n 0, 1) := by decide +kernel
theorem dX2_letVoteCome_11 : decode cX2_letVoteCome 11 = .ok (.aload_n 1, 1) := by decide +kernel
theorem dX2_letVoteCome_12 : decode cX2_letVoteCome 12 = .ok (.iload_n 2, 1) := by decide +kernel
theorem dX2_letVoteCome_13 : decode cX2_letVoteCome 13 = .ok (.iload_n 3, 1) := by decide +kernel
theorem dX2_letVoteCome_14 : decode cX2_letVoteCome 14 = .ok (.invokevirtual 117, 3) := by decide +kernel
theorem dX2_letVoteCome_17 : decode cX2_letVoteCome 17 = .ok (.aload_n 0, 1) := by decide +kernel
theorem dX2_letVoteCome_18 : decode cX2_letVoteCome 18 = .ok (.aload_n 1, 1) := by decide +kernel
theorem dX2_letVoteCome_19 : decode cX2_letVoteCome 19 = .ok (.invokevirtual 68, 3) := by decide +kernel
theorem dX2_letVoteCome_22 : decode cX2_letVoteCome 22 = .ok (.return_, 1) := by decide +kernel
theorem dX2_takeProposal_0 : decode cX2_takeProposal 0 = .ok (.aload_n 1, 1) := by decide +kernel
theorem dX2_takeProposal_1 : decode cX2_takeProposal 1 = .ok (.iload_n 2, 1) := by decide +kernel
theorem dX2_takeProposal_2 : decode cX2_takeProposal 2 = .ok (.invokevirtual 189, 3) := by decide +kernel
theorem dX2_takeProposal_5 : decode cX2_takeProposal 5 = .ok (.aload_n 1, 1) := by decide +kernel
theorem dX2_takeProposal_6 : decode cX2_takeProposal 6 = .ok (.getfield 53, 3) := by decide +kernel
theorem dX2_takeProposal_9 : decode cX2_takeProposal 9 = .ok (.ifCond .ne 13, 3) := by decide +kernel
theorem dX2_takeProposal_12 : decode cX2_takeProposal 12 = .ok (.aload_n 0, 1) := by decide +kernel
theorem dX2_takeProposal_13 : decode cX2_takeProposal 13 = .ok (.iload_n 2, 1) := by decide +kernel
theorem dX2_takeProposal_14 : decode cX2_takeProposal 14 = .ok (.aload_n 0, 1) := by decide +kernel
theorem dX2_takeProposal_15 : decode cX2_takeProposal 15 = .ok (.invokevirtual 193, 3) := by decide +kernel
theorem dX2_takeProposal_18 : decode cX2_takeProposal 18 = .ok (.invokevirtual 114, 3) := by decide +kernel
theorem dX2_takeProposal_21 : decode cX2_takeProposal 21 = .ok (.pop, 1) := by decide +kernel
theorem dX2_takeProposal_22 : decode cX2_takeProposal 22 = .ok (.return_, 1) := by decide +kernel
theorem dX2_takeVote_0 : decode cX2_takeVote 0 = .ok (.aload_n 1, 1) := by decide +kernel
theorem dX2_takeVote_1 : decode cX2_takeVote 1 = .ok (.iload_n 2, 1) := by decide +kernel
theorem dX2_takeVote_2 : decode cX2_takeVote 2 = .ok (.iload_n 3, 1) := by decide +kernel
theorem dX2_takeVote_3 : decode cX2_takeVote 3 = .ok (.invokevirtual 196, 3) := by decide +kernel
theorem dX2_takeVote_6 : decode cX2_takeVote 6 = .ok (.aload_n 1, 1) := by decide +kernel
theorem dX2_takeVote_7 : decode cX2_takeVote 7 = .ok (.getfield 53, 3) := by decide +kernel
theorem dX2_takeVote_10 : decode cX2_takeVote 10 = .ok (.ifCond .ne 14, 3) := by decide +kernel
theorem dX2_takeVote_13 : decode cX2_takeVote 13 = .ok (.aload_n 0, 1) := by decide +kernel
theorem dX2_takeVote_14 : decode cX2_takeVote 14 = .ok (.iload_n 2, 1) := by decide +kernel
theorem dX2_takeVote_15 : decode cX2_takeVote 15 = .ok (.iload_n 3, 1) := by decide +kernel
theorem dX2_takeVote_16 : decode cX2_takeVote 16 = .ok (.aload_n 0, 1) := by decide +kernel
theorem dX2_takeVote_17 : decode cX2_takeVote 17 = .ok (.invokevirtual 193, 3) := by decide +kernel
theorem dX2_takeVote_20 : decode cX2_takeVote 20 = .ok (.invokevirtual 120, 3) := by decide +kernel
theorem dX2_takeVote_23 : decode cX2_takeVote 23 = .ok (.pop, 1) := by decide +kernel
theorem dX2_takeVote_24 : decode cX2_takeVote 24 = .ok (.return_, 1) := by decide +kernel
theorem dX2_sendProposal_0 : decode cX2_sendProposal 0 = .ok (.iconst 0, 1) := by decide +kernel
theorem dX2_sendProposal_1 : decode cX2_sendProposal 1 = .ok (.istore_n 3, 1) := by decide +kernel
theorem dX2_sendProposal_2 : decode cX2_sendProposal 2 = .ok (.aload_n 0, 1) := by decide +kernel
theorem dX2_sendProposal_3 : decode cX2_sendProposal 3 = .ok (.getfield 27, 3) := by decide +kernel
theorem dX2_sendProposal_6 : decode cX2_sendProposal 6 = .ok (.astore 4, 2) := by decide +kernel
theorem dX2_sendProposal_8 : decode cX2_sendProposal 8 = .ok (.aload 4, 2) := by decide +kernel
theorem dX2_sendProposal_10 : decode cX2_sendProposal 10 = .ok (.arraylength, 1) := by decide +kernel
theorem dX2_sendProposal_11 : decode cX2_sendProposal 11 = .ok (.istore 5, 2) := by decide +kernel
theorem dX2_sendProposal_13 : decode cX2_sendProposal 13 = .ok (.iconst 0, 1) := by decide +kernel
theorem dX2_sendProposal_14 : decode cX2_sendProposal 14 = .ok (.istore 6, 2) := by decide +kernel
theorem dX2_sendProposal_16 : decode cX2_sendProposal 16 = .ok (.iload 6, 2) := by decide +kernel
theorem dX2_sendProposal_18 : decode cX2_sendProposal 18 = .ok (.iload 5, 2) := by decide +kernel
theorem dX2_sendProposal_20 : decode cX2_sendProposal 20 = .ok (.if_icmp .ge 41, 3) := by decide +kernel
theorem dX2_sendProposal_23 : decode cX2_sendProposal 23 = .ok (.aload 4, 2) := by decide +kernel
theorem dX2_sendProposal_25 : decode cX2_sendProposal 25 = .ok (.iload 6, 2) := by decide +kernel
theorem dX2_sendProposal_27 : decode cX2_sendProposal 27 = .ok (.aaload, 1) := by decide +kernel
theorem dX2_sendProposal_28 : decode cX2_sendProposal 28 = .ok (.astore 7, 2) := by decide +kernel
theorem dX2_sendProposal_30 : decode cX2_sendProposal 30 = .ok (.iload_n 2, 1) := by decide +kernel
theorem dX2_sendProposal_31 : decode cX2_sendProposal 31 = .ok (.i2l, 1) := by decide +kernel
theorem dX2_sendProposal_32 : decode cX2_sendProposal 32 = .ok (.aload 7, 2) := by decide +kernel
theorem dX2_sendProposal_34 : decode cX2_sendProposal 34 = .ok (.getfield 200, 3) := by decide +kernel
theorem dX2_sendProposal_37 : decode cX2_sendProposal 37 = .ok (.invokestatic 78, 3) := by decide +kernel
theorem dX2_sendProposal_40 : decode cX2_sendProposal 40 = .ok (.ifCond .eq 15, 3) := by decide +kernel
theorem dX2_sendProposal_43 : decode cX2_sendProposal 43 = .ok (.aload 7, 2) := by decide +kernel
theorem dX2_sendProposal_45 : decode cX2_sendProposal 45 = .ok (.iload_n 1, 1) := by decide +kernel
theorem dX2_sendProposal_46 : decode cX2_sendProposal 46 = .ok (.invokevirtual 203, 3) := by decide +kernel
theorem dX2_sendProposal_49 : decode cX2_sendProposal 49 = .ok (.ifCond .eq 6, 3) := by decide +kernel
theorem dX2_sendProposal_52 : decode cX2_sendProposal 52 = .ok (.iinc 3 1, 3) := by decide +kernel
theorem dX2_sendProposal_55 : decode cX2_sendProposal 55 = .ok (.iinc 6 1, 3) := by decide +kernel
theorem dX2_sendProposal_58 : decode cX2_sendProposal 58 = .ok (.goto (-42), 3) := by decide +kernel
theorem dX2_sendProposal_61 : decode cX2_sendProposal 61 = .ok (.iload_n 3, 1) := by decide +kernel
theorem dX2_sendProposal_62 : decode cX2_sendProposal 62 = .ok (.ireturn, 1) := by decide +kernel
theorem dX2_sendVote_0 : decode cX2_sendVote 0 = .ok (.iconst 0, 1) := by decide +kernel
theorem dX2_sendVote_1 : decode cX2_sendVote 1 = .ok (.istore 4, 2) := by decide +kernel
theorem dX2_sendVote_3 : decode cX2_sendVote 3 = .ok (.aload_n 0, 1) := by decide +kernel
theorem dX2_sendVote_4 : decode cX2_sendVote 4 = .ok (.getfield 27, 3) := by decide +kernel
theorem dX2_sendVote_7 : decode cX2_sendVote 7 = .ok (.astore 5, 2) := by decide +kernel
theorem dX2_sendVote_9 : decode cX2_sendVote 9 = .ok (.aload 5, 2) := by decide +kernel
theorem dX2_sendVote_11 : decode cX2_sendVote 11 = .ok (.arraylength, 1) := by decide +kernel
theorem dX2_sendVote_12 : decode cX2_sendVote 12 = .ok (.istore 6, 2) := by decide +kernel
theorem dX2_sendVote_14 : decode cX2_sendVote 14 = .ok (.iconst 0, 1) := by decide +kernel
theorem dX2_sendVote_15 : decode cX2_sendVote 15 = .ok (.istore 7, 2) := by decide +kernel
theorem dX2_sendVote_17 : decode cX2_sendVote 17 = .ok (.iload 7, 2) := by decide +kernel
theorem dX2_sendVote_19 : decode cX2_sendVote 19 = .ok (.iload 6, 2) := by decide +kernel
theorem dX2_sendVote_21 : decode cX2_sendVote 21 = .ok (.if_icmp .ge 42, 3) := by decide +kernel
theorem dX2_sendVote_24 : decode cX2_sendVote 24 = .ok (.aload 5, 2) := by decide +kernel
theorem dX2_sendVote_26 : decode cX2_sendVote 26 = .ok (.iload 7, 2) := by decide +kernel
theorem dX2_sendVote_28 : decode cX2_sendVote 28 = .ok (.aaload, 1) := by decide +kernel
theorem dX2_sendVote_29 : decode cX2_sendVote 29 = .ok (.astore 8, 2) := by decide +kernel
theorem dX2_sendVote_31 : decode cX2_sendVote 31 = .ok (.iload_n 3, 1) := by decide +kernel
theorem dX2_sendVote_32 : decode cX2_sendVote 32 = .ok (.i2l, 1) := by decide +kernel
theorem dX2_sendVote_33 : decode cX2_sendVote 33 = .ok (.aload 8, 2) := by decide +kernel
theorem dX2_sendVote_35 : decode cX2_sendVote 35 = .ok (.getfield 200, 3) := by decide +kernel
theorem dX2_sendVote_38 : decode cX2_sendVote 38 = .ok (.invokestatic 78, 3) := by decide +kernel
theorem dX2_sendVote_41 : decode cX2_sendVote 41 = .ok (.ifCond .eq 16, 3) := by decide +kernel
theorem dX2_sendVote_44 : decode cX2_sendVote 44 = .ok (.aload 8, 2) := by decide +kernel
theorem dX2_sendVote_46 : decode cX2_sendVote 46 = .ok (.iload_n 1, 1) := by decide +kernel
theorem dX2_sendVote_47 : decode cX2_sendVote 47 = .ok (.iload_n 2, 1) := by decide +kernel
theorem dX2_sendVote_48 : decode cX2_sendVote 48 = .ok (.invokevirtual 206, 3) := by decide +kernel
theorem dX2_sendVote_51 : decode cX2_sendVote 51 = .ok (.ifCond .eq 6, 3) := by decide +kernel
theorem dX2_sendVote_54 : decode cX2_sendVote 54 = .ok (.iinc 4 1, 3) := by decide +kernel
theorem dX2_sendVote_57 : decode cX2_sendVote 57 = .ok (.iinc 7 1, 3) := by decide +kernel
theorem dX2_sendVote_60 : decode cX2_sendVote 60 = .ok (.goto (-43), 3) := by decide +kernel
theorem dX2_sendVote_63 : decode cX2_sendVote 63 = .ok (.iload 4, 2) := by decide +kernel
theorem dX2_sendVote_65 : decode cX2_sendVote 65 = .ok (.ireturn, 1) := by decide +kernel
theorem dX2_allNodes_0 : decode cX2_allNodes 0 = .ok (.iconst 1, 1) := by decide +kernel
theorem dX2_allNodes_1 : decode cX2_allNodes 1 = .ok (.aload_n 0, 1) := by decide +kernel
theorem dX2_allNodes_2 : decode cX2_allNodes 2 = .ok (.getfield 27, 3) := by decide +kernel
theorem dX2_allNodes_5 : decode cX2_allNodes 5 = .ok (.arraylength, 1) := by decide +kernel
theorem dX2_allNodes_6 : decode cX2_allNodes 6 = .ok (.ishl, 1) := by decide +kernel
theorem dX2_allNodes_7 : decode cX2_allNodes 7 = .ok (.iconst 1, 1) := by decide +kernel
theorem dX2_allNodes_8 : decode cX2_allNodes 8 = .ok (.isub, 1) := by decide +kernel
theorem dX2_allNodes_9 : decode cX2_allNodes 9 = .ok (.ireturn, 1) := by decide +kernel
theorem dX2_makeOnTip_0 : decode cX2_makeOnTip 0 = .ok (.aload_n 1, 1) := by decide +kernel
theorem dX2_makeOnTip_1 : decode cX2_makeOnTip 1 = .ok (.getfield 57, 3) := by decide +kernel
theorem dX2_makeOnTip_4 : decode cX2_makeOnTip 4 = .ok (.aload_n 0, 1) := by decide +kernel
theorem dX2_makeOnTip_5 : decode cX2_makeOnTip 5 = .ok (.getfield 21, 3) := by decide +kernel
theorem dX2_makeOnTip_8 : decode cX2_makeOnTip 8 = .ok (.getfield 209, 3) := by decide +kernel
theorem dX2_makeOnTip_11 : decode cX2_makeOnTip 11 = .ok (.aload_n 1, 1) := by decide +kernel
theorem dX2_makeOnTip_12 : decode cX2_makeOnTip 12 = .ok (.getfield 163, 3) := by decide +kernel
theorem dX2_makeOnTip_15 : decode cX2_makeOnTip 15 = .ok (.iaload, 1) := by decide +kernel
theorem dX2_makeOnTip_16 : decode cX2_makeOnTip 16 = .ok (.iconst (-1), 1) := by decide +kernel
theorem dX2_makeOnTip_17 : decode cX2_makeOnTip 17 = .ok (.ixor, 1) := by decide +kernel
theorem dX2_makeOnTip_18 : decode cX2_makeOnTip 18 = .ok (.iand, 1) := by decide +kernel
theorem dX2_makeOnTip_19 : decode cX2_makeOnTip 19 = .ok (.istore_n 2, 1) := by decide +kernel
theorem dX2_makeOnTip_20 : decode cX2_makeOnTip 20 = .ok (.aload_n 0, 1) := by decide +kernel
theorem dX2_makeOnTip_21 : decode cX2_makeOnTip 21 = .ok (.getfield 21, 3) := by decide +kernel
theorem dX2_makeOnTip_24 : decode cX2_makeOnTip 24 = .ok (.aload_n 1, 1) := by decide +kernel
theorem dX2_makeOnTip_25 : decode cX2_makeOnTip 25 = .ok (.getfield 163, 3) := by decide +kernel
theorem dX2_makeOnTip_28 : decode cX2_makeOnTip 28 = .ok (.aload_n 0, 1) := by decide +kernel
theorem dX2_makeOnTip_29 : decode cX2_makeOnTip 29 = .ok (.getfield 46, 3) := by decide +kernel
theorem dX2_makeOnTip_32 : decode cX2_makeOnTip 32 = .ok (.iload_n 2, 1) := by decide +kernel
theorem dX2_makeOnTip_33 : decode cX2_makeOnTip 33 = .ok (.aload_n 1, 1) := by decide +kernel
theorem dX2_makeOnTip_34 : decode cX2_makeOnTip 34 = .ok (.getfield 200, 3) := by decide +kernel
theorem dX2_makeOnTip_37 : decode cX2_makeOnTip 37 = .ok (.invokevirtual 107, 3) := by decide +kernel
theorem dX2_makeOnTip_40 : decode cX2_makeOnTip 40 = .ok (.istore_n 3, 1) := by decide +kernel
theorem dX2_makeOnTip_41 : decode cX2_makeOnTip 41 = .ok (.aload_n 0, 1) := by decide +kernel
theorem dX2_makeOnTip_42 : decode cX2_makeOnTip 42 = .ok (.aload_n 1, 1) := by decide +kernel
theorem dX2_makeOnTip_43 : decode cX2_makeOnTip 43 = .ok (.iload_n 3, 1) := by decide +kernel
theorem dX2_makeOnTip_44 : decode cX2_makeOnTip 44 = .ok (.invokevirtual 111, 3) := by decide +kernel
theorem dX2_makeOnTip_47 : decode cX2_makeOnTip 47 = .ok (.return_, 1) := by decide +kernel
theorem dX2_look_0 : decode cX2_look 0 = .ok (.aload_n 1, 1) := by decide +kernel
theorem dX2_look_1 : decode cX2_look 1 = .ok (.getfield 53, 3) := by decide +kernel
theorem dX2_look_4 : decode cX2_look 4 = .ok (.ifCond .eq 7, 3) := by decide +kernel
theorem dX2_look_7 : decode cX2_look 7 = .ok (.iconst (-1), 1) := by decide +kernel
theorem dX2_look_8 : decode cX2_look 8 = .ok (.goto 11, 3) := by decide +kernel
theorem dX2_look_11 : decode cX2_look 11 = .ok (.aload_n 1, 1) := by decide +kernel
theorem dX2_look_12 : decode cX2_look 12 = .ok (.aload_n 0, 1) := by decide +kernel
theorem dX2_look_13 : decode cX2_look 13 = .ok (.getfield 46, 3) := by decide +kernel
theorem dX2_look_16 : decode cX2_look 16 = .ok (.invokevirtual 212, 3) := by decide +kernel
theorem dX2_look_19 : decode cX2_look 19 = .ok (.istore_n 2, 1) := by decide +kernel
theorem dX2_look_20 : decode cX2_look 20 = .ok (.iload_n 2, 1) := by decide +kernel
theorem dX2_look_21 : decode cX2_look 21 = .ok (.iconst (-1), 1) := by decide +kernel
theorem dX2_look_22 : decode cX2_look 22 = .ok (.if_icmp .eq 46, 3) := by decide +kernel
theorem dX2_look_25 : decode cX2_look 25 = .ok (.aload_n 1, 1) := by decide +kernel
theorem dX2_look_26 : decode cX2_look 26 = .ok (.getfield 160, 3) := by decide +kernel
theorem dX2_look_29 : decode cX2_look 29 = .ok (.aload_n 0, 1) := by decide +kernel
theorem dX2_look_30 : decode cX2_look 30 = .ok (.getfield 46, 3) := by decide +kernel
theorem dX2_look_33 : decode cX2_look 33 = .ok (.iload_n 2, 1) := by decide +kernel
theorem dX2_look_34 : decode cX2_look 34 = .ok (.iastore, 1) := by decide +kernel
theorem dX2_look_35 : decode cX2_look 35 = .ok (.aload_n 0, 1) := by decide +kernel
theorem dX2_look_36 : decode cX2_look 36 = .ok (.dup, 1) := by decide +kernel
theorem dX2_look_37 : decode cX2_look 37 = .ok (.getfield 186, 3) := by decide +kernel
theorem dX2_look_40 : decode cX2_look 40 = .ok (.iconst 1, 1) := by decide +kernel
theorem dX2_look_41 : decode cX2_look 41 = .ok (.iadd, 1) := by decide +kernel
theorem dX2_look_42 : decode cX2_look 42 = .ok (.putfield 186, 3) := by decide +kernel
theorem dX2_look_45 : decode cX2_look 45 = .ok (.aload_n 1, 1) := by decide +kernel
theorem dX2_look_46 : decode cX2_look 46 = .ok (.aload_n 1, 1) := by decide +kernel
theorem dX2_look_47 : decode cX2_look 47 = .ok (.getfield 200, 3) := by decide +kernel
theorem dX2_look_50 : decode cX2_look 50 = .ok (.iload_n 2, 1) := by decide +kernel
theorem dX2_look_51 : decode cX2_look 51 = .ok (.invokevirtual 196, 3) := by decide +kernel
theorem dX2_look_54 : decode cX2_look 54 = .ok (.aload_n 0, 1) := by decide +kernel
theorem dX2_look_55 : decode cX2_look 55 = .ok (.aload_n 1, 1) := by decide +kernel
theorem dX2_look_56 : decode cX2_look 56 = .ok (.getfield 200, 3) := by decide +kernel
theorem dX2_look_59 : decode cX2_look 59 = .ok (.iload_n 2, 1) := by decide +kernel
theorem dX2_look_60 : decode cX2_look 60 = .ok (.aload_n 0, 1) := by decide +kernel
theorem dX2_look_61 : decode cX2_look 61 = .ok (.invokevirtual 193, 3) := by decide +kernel
theorem dX2_look_64 : decode cX2_look 64 = .ok (.invokevirtual 120, 3) := by decide +kernel
theorem dX2_look_67 : decode cX2_look 67 = .ok (.pop, 1) := by decide +kernel
theorem dX2_look_68 : decode cX2_look 68 = .ok (.return_, 1) := by decide +kernel
theorem dX2_falseNodes_0 : decode cX2_falseNodes 0 = .ok (.iconst 0, 1) := by decide +kernel
theorem dX2_falseNodes_1 : decode cX2_falseNodes 1 = .ok (.istore_n 1, 1) := by decide +kernel
theorem dX2_falseNodes_2 : decode cX2_falseNodes 2 = .ok (.aload_n 0, 1) := by decide +kernel
theorem dX2_falseNodes_3 : decode cX2_falseNodes 3 = .ok (.getfield 27, 3) := by decide +kernel
theorem dX2_falseNodes_6 : decode cX2_falseNodes 6 = .ok (.astore_n 2, 1) := by decide +kernel
theorem dX2_falseNodes_7 : decode cX2_falseNodes 7 = .ok (.aload_n 2, 1) := by decide +kernel
theorem dX2_falseNodes_8 : decode cX2_falseNodes 8 = .ok (.arraylength, 1) := by decide +kernel
theorem dX2_falseNodes_9 : decode cX2_falseNodes 9 = .ok (.istore_n 3, 1) := by decide +kernel
theorem dX2_falseNodes_10 : decode cX2_falseNodes 10 = .ok (.iconst 0, 1) := by decide +kernel
theorem dX2_falseNodes_11 : decode cX2_falseNodes 11 = .ok (.istore 4, 2) := by decide +kernel
theorem dX2_falseNodes_13 : decode cX2_falseNodes 13 = .ok (.iload 4, 2) := by decide +kernel
theorem dX2_falseNodes_15 : decode cX2_falseNodes 15 = .ok (.iload_n 3, 1) := by decide +kernel
theorem dX2_falseNodes_16 : decode cX2_falseNodes 16 = .ok (.if_icmp .ge 26, 3) := by decide +kernel
theorem dX2_falseNodes_19 : decode cX2_falseNodes 19 = .ok (.aload_n 2, 1) := by decide +kernel
theorem dX2_falseNodes_20 : decode cX2_falseNodes 20 = .ok (.iload 4, 2) := by decide +kernel
theorem dX2_falseNodes_22 : decode cX2_falseNodes 22 = .ok (.aaload, 1) := by decide +kernel
theorem dX2_falseNodes_23 : decode cX2_falseNodes 23 = .ok (.astore 5, 2) := by decide +kernel
theorem dX2_falseNodes_25 : decode cX2_falseNodes 25 = .ok (.aload 5, 2) := by decide +kernel
theorem dX2_falseNodes_27 : decode cX2_falseNodes 27 = .ok (.getfield 53, 3) := by decide +kernel
theorem dX2_falseNodes_30 : decode cX2_falseNodes 30 = .ok (.ifCond .eq 6, 3) := by decide +kernel
theorem dX2_falseNodes_33 : decode cX2_falseNodes 33 = .ok (.iinc 1 1, 3) := by decide +kernel
theorem dX2_falseNodes_36 : decode cX2_falseNodes 36 = .ok (.iinc 4 1, 3) := by decide +kernel
theorem dX2_falseNodes_39 : decode cX2_falseNodes 39 = .ok (.goto (-26), 3) := by decide +kernel
theorem dX2_falseNodes_42 : decode cX2_falseNodes 42 = .ok (.iload_n 1, 1) := by decide +kernel
theorem dX2_falseNodes_43 : decode cX2_falseNodes 43 = .ok (.ireturn, 1) := by decide +kernel
theorem dX2_lettersUnderWay_0 : decode cX2_lettersUnderWay 0 = .ok (.iconst 0, 1) := by decide +kernel
theorem dX2_lettersUnderWay_1 : decode cX2_lettersUnderWay 1 = .ok (.istore_n 1, 1) := by decide +kernel
theorem dX2_lettersUnderWay_2 : decode cX2_lettersUnderWay 2 = .ok (.aload_n 0, 1) := by decide +kernel
theorem dX2_lettersUnderWay_3 : decode cX2_lettersUnderWay 3 = .ok (.getfield 27, 3) := by decide +kernel
theorem dX2_lettersUnderWay_6 : decode cX2_lettersUnderWay 6 = .ok (.astore_n 2, 1) := by decide +kernel
theorem dX2_lettersUnderWay_7 : decode cX2_lettersUnderWay 7 = .ok (.aload_n 2, 1) := by decide +kernel
theorem dX2_lettersUnderWay_8 : decode cX2_lettersUnderWay 8 = .ok (.arraylength, 1) := by decide +kernel
theorem dX2_lettersUnderWay_9 : decode cX2_lettersUnderWay 9 = .ok (.istore_n 3, 1) := by decide +kernel
theorem dX2_lettersUnderWay_10 : decode cX2_lettersUnderWay 10 = .ok (.iconst 0, 1) := by decide +kernel
theorem dX2_lettersUnderWay_11 : decode cX2_lettersUnderWay 11 = .ok (.istore 4, 2) := by decide +kernel
theorem dX2_lettersUnderWay_13 : decode cX2_lettersUnderWay 13 = .ok (.iload 4, 2) := by decide +kernel
theorem dX2_lettersUnderWay_15 : decode cX2_lettersUnderWay 15 = .ok (.iload_n 3, 1) := by decide +kernel
theorem dX2_lettersUnderWay_16 : decode cX2_lettersUnderWay 16 = .ok (.if_icmp .ge 61, 3) := by decide +kernel
theorem dX2_lettersUnderWay_19 : decode cX2_lettersUnderWay 19 = .ok (.aload_n 2, 1) := by decide +kernel
theorem dX2_lettersUnderWay_20 : decode cX2_lettersUnderWay 20 = .ok (.iload 4, 2) := by decide +kernel
theorem dX2_lettersUnderWay_22 : decode cX2_lettersUnderWay 22 = .ok (.aaload, 1) := by decide +kernel
theorem dX2_lettersUnderWay_23 : decode cX2_lettersUnderWay 23 = .ok (.astore 5, 2) := by decide +kernel
theorem dX2_lettersUnderWay_25 : decode cX2_lettersUnderWay 25 = .ok (.iload_n 1, 1) := by decide +kernel
theorem dX2_lettersUnderWay_26 : decode cX2_lettersUnderWay 26 = .ok (.aload 5, 2) := by decide +kernel
theorem dX2_lettersUnderWay_28 : decode cX2_lettersUnderWay 28 = .ok (.getfield 74, 3) := by decide +kernel
theorem dX2_lettersUnderWay_31 : decode cX2_lettersUnderWay 31 = .ok (.invokestatic 215, 3) := by decide +kernel
theorem dX2_lettersUnderWay_34 : decode cX2_lettersUnderWay 34 = .ok (.iadd, 1) := by decide +kernel
theorem dX2_lettersUnderWay_35 : decode cX2_lettersUnderWay 35 = .ok (.istore_n 1, 1) := by decide +kernel
theorem dX2_lettersUnderWay_36 : decode cX2_lettersUnderWay 36 = .ok (.iconst 0, 1) := by decide +kernel
theorem dX2_lettersUnderWay_37 : decode cX2_lettersUnderWay 37 = .ok (.istore 6, 2) := by decide +kernel
theorem dX2_lettersUnderWay_39 : decode cX2_lettersUnderWay 39 = .ok (.iload 6, 2) := by decide +kernel
theorem dX2_lettersUnderWay_41 : decode cX2_lettersUnderWay 41 = .ok (.aload_n 0, 1) := by decide +kernel
theorem dX2_lettersUnderWay_42 : decode cX2_lettersUnderWay 42 = .ok (.getfield 21, 3) := by decide +kernel
theorem dX2_lettersUnderWay_45 : decode cX2_lettersUnderWay 45 = .ok (.getfield 173, 3) := by decide +kernel
theorem dX2_lettersUnderWay_48 : decode cX2_lettersUnderWay 48 = .ok (.if_icmp .ge 23, 3) := by decide +kernel
theorem dX2_lettersUnderWay_51 : decode cX2_lettersUnderWay 51 = .ok (.iload_n 1, 1) := by decide +kernel
theorem dX2_lettersUnderWay_52 : decode cX2_lettersUnderWay 52 = .ok (.aload 5, 2) := by decide +kernel
theorem dX2_lettersUnderWay_54 : decode cX2_lettersUnderWay 54 = .ok (.getfield 86, 3) := by decide +kernel
theorem dX2_lettersUnderWay_57 : decode cX2_lettersUnderWay 57 = .ok (.iload 6, 2) := by decide +kernel
theorem dX2_lettersUnderWay_59 : decode cX2_lettersUnderWay 59 = .ok (.iaload, 1) := by decide +kernel
theorem dX2_lettersUnderWay_60 : decode cX2_lettersUnderWay 60 = .ok (.invokestatic 154, 3) := by decide +kernel
theorem dX2_lettersUnderWay_63 : decode cX2_lettersUnderWay 63 = .ok (.iadd, 1) := by decide +kernel
theorem dX2_lettersUnderWay_64 : decode cX2_lettersUnderWay 64 = .ok (.istore_n 1, 1) := by decide +kernel
theorem dX2_lettersUnderWay_65 : decode cX2_lettersUnderWay 65 = .ok (.iinc 6 1, 3) := by decide +kernel
theorem dX2_lettersUnderWay_68 : decode cX2_lettersUnderWay 68 = .ok (.goto (-29), 3) := by decide +kernel
theorem dX2_lettersUnderWay_71 : decode cX2_lettersUnderWay 71 = .ok (.iinc 4 1, 3) := by decide +kernel
theorem dX2_lettersUnderWay_74 : decode cX2_lettersUnderWay 74 = .ok (.goto (-61), 3) := by decide +kernel
theorem dX2_lettersUnderWay_77 : decode cX2_lettersUnderWay 77 = .ok (.iload_n 1, 1) := by decide +kernel
theorem dX2_lettersUnderWay_78 : decode cX2_lettersUnderWay 78 = .ok (.ireturn, 1) := by decide +kernel
theorem dX2_areInLine_0 : decode cX2_areInLine 0 = .ok (.aload_n 0, 1) := by decide +kernel
theorem dX2_areInLine_1 : decode cX2_areInLine 1 = .ok (.getfield 21, 3) := by decide +kernel
theorem dX2_areInLine_4 : decode cX2_areInLine 4 = .ok (.getfield 169, 3) := by decide +kernel
theorem dX2_areInLine_7 : decode cX2_areInLine 7 = .ok (.iload_n 1, 1) := by decide +kernel
theorem dX2_areInLine_8 : decode cX2_areInLine 8 = .ok (.laload, 1) := by decide +kernel
theorem dX2_areInLine_9 : decode cX2_areInLine 9 = .ok (.iload_n 2, 1) := by decide +kernel
theorem dX2_areInLine_10 : decode cX2_areInLine 10 = .ok (.invokestatic 78, 3) := by decide +kernel
theorem dX2_areInLine_13 : decode cX2_areInLine 13 = .ok (.ifCond .ne 19, 3) := by decide +kernel
theorem dX2_areInLine_16 : decode cX2_areInLine 16 = .ok (.aload_n 0, 1) := by decide +kernel
theorem dX2_areInLine_17 : decode cX2_areInLine 17 = .ok (.getfield 21, 3) := by decide +kernel
theorem dX2_areInLine_20 : decode cX2_areInLine 20 = .ok (.getfield 169, 3) := by decide +kernel
theorem dX2_areInLine_23 : decode cX2_areInLine 23 = .ok (.iload_n 2, 1) := by decide +kernel
theorem dX2_areInLine_24 : decode cX2_areInLine 24 = .ok (.laload, 1) := by decide +kernel
theorem dX2_areInLine_25 : decode cX2_areInLine 25 = .ok (.iload_n 1, 1) := by decide +kernel
theorem dX2_areInLine_26 : decode cX2_areInLine 26 = .ok (.invokestatic 78, 3) := by decide +kernel
theorem dX2_areInLine_29 : decode cX2_areInLine 29 = .ok (.ifCond .eq 7, 3) := by decide +kernel
theorem dX2_areInLine_32 : decode cX2_areInLine 32 = .ok (.iconst 1, 1) := by decide +kernel
theorem dX2_areInLine_33 : decode cX2_areInLine 33 = .ok (.goto 4, 3) := by decide +kernel
theorem dX2_areInLine_36 : decode cX2_areInLine 36 = .ok (.iconst 0, 1) := by decide +kernel
theorem dX2_areInLine_37 : decode cX2_areInLine 37 = .ok (.ireturn, 1) := by decide +kernel
