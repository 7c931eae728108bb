theorem dX5_init_0 : decode cX5_init 0 = .ok (.aload_n 0, 1) := by decide +kernel
theorem dX5_init_1 : decode cX5_init 1 = .ok (.invokespecial 1, 3) := by decide +kernel
theorem dX5_init_4 : decode cX5_init 4 = .ok (.aload_n 0, 1) := by decide +kernel
theorem dX5_init_5 : decode cX5_init 5 = .ok (.bipush 100, 2) := by decide +kernel
theorem dX5_init_7 : decode cX5_init 7 = .ok (.putfield 7, 3) := by decide +kernel
theorem dX5_init_10 : decode cX5_init 10 = .ok (.aload_n 0, 1) := by decide +kernel
theorem dX5_init_11 : decode cX5_init 11 = .ok (.bipush 10, 2) := by decide +kernel
theorem dX5_init_13 : decode cX5_init 13 = .ok (.iconst 3, 1) := by decide +kernel
theorem dX5_init_14 : decode cX5_init 14 = .ok (.multianewarray 13 2, 4) := by decide +kernel
theorem dX5_init_18 : decode cX5_init 18 = .ok (.putfield 15, 3) := by decide +kernel
theorem dX5_init_21 : decode cX5_init 21 = .ok (.aload_n 0, 1) := by decide +kernel
theorem dX5_init_22 : decode cX5_init 22 = .ok (.iconst 0, 1) := by decide +kernel
theorem dX5_init_23 : decode cX5_init 23 = .ok (.anewarray 18, 3) := by decide +kernel
theorem dX5_init_26 : decode cX5_init 26 = .ok (.putfield 20, 3) := by decide +kernel
theorem dX5_init_29 : decode cX5_init 29 = .ok (.aload_n 0, 1) := by decide +kernel
theorem dX5_init_30 : decode cX5_init 30 = .ok (.iconst 0, 1) := by decide +kernel
theorem dX5_init_31 : decode cX5_init 31 = .ok (.anewarray 18, 3) := by decide +kernel
theorem dX5_init_34 : decode cX5_init 34 = .ok (.putfield 23, 3) := by decide +kernel
theorem dX5_init_37 : decode cX5_init 37 = .ok (.return_, 1) := by decide +kernel
theorem dX5_more_0 : decode cX5_more 0 = .ok (.aload_n 0, 1) := by decide +kernel
theorem dX5_more_1 : decode cX5_more 1 = .ok (.arraylength, 1) := by decide +kernel
theorem dX5_more_2 : decode cX5_more 2 = .ok (.iconst 1, 1) := by decide +kernel
theorem dX5_more_3 : decode cX5_more 3 = .ok (.iadd, 1) := by decide +kernel
theorem dX5_more_4 : decode cX5_more 4 = .ok (.anewarray 18, 3) := by decide +kernel
theorem dX5_more_7 : decode cX5_more 7 = .ok (.astore_n 2, 1) := by decide +kernel
theorem dX5_more_8 : decode cX5_more 8 = .ok (.iconst 0, 1) := by decide +kernel
theorem dX5_more_9 : decode cX5_more 9 = .ok (.istore_n 3, 1) := by decide +kernel
theorem dX5_more_10 : decode cX5_more 10 = .ok (.iload_n 3, 1) := by decide +kernel
theorem dX5_more_11 : decode cX5_more 11 = .ok (.aload_n 0, 1) := by decide +kernel
theorem dX5_more_12 : decode cX5_more 12 = .ok (.arraylength, 1) := by decide +kernel
theorem dX5_more_13 : decode cX5_more 13 = .ok (.if_icmp .ge 15, 3) := by decide +kernel
theorem dX5_more_16 : decode cX5_more 16 = .ok (.aload_n 2, 1) := by decide +kernel
theorem dX5_more_17 : decode cX5_more 17 = .ok (.iload_n 3, 1) := by decide +kernel
theorem dX5_more_18 : decode cX5_more 18 = .ok (.aload_n 0, 1) := by decide +kernel
theorem dX5_more_19 : decode cX5_more 19 = .ok (.iload_n 3, 1) := by decide +kernel
theorem dX5_more_20 : decode cX5_more 20 = .ok (.aaload, 1) := by decide +kernel
theorem dX5_more_21 : decode cX5_more 21 = .ok (.aastore, 1) := by decide +kernel
theorem dX5_more_22 : decode cX5_more 22 = .ok (.iinc 3 1, 3) := by decide +kernel
theorem dX5_more_25 : decode cX5_more 25 = .ok (.goto (-15), 3) := by decide +kernel
theorem dX5_more_28 : decode cX5_more 28 = .ok (.aload_n 2, 1) := by decide +kernel
theorem dX5_more_29 : decode cX5_more 29 = .ok (.aload_n 0, 1) := by decide +kernel
theorem dX5_more_30 : decode cX5_more 30 = .ok (.arraylength, 1) := by decide +kernel
theorem dX5_more_31 : decode cX5_more 31 = .ok (.aload_n 1, 1) := by decide +kernel
theorem dX5_more_32 : decode cX5_more 32 = .ok (.aastore, 1) := by decide +kernel
theorem dX5_more_33 : decode cX5_more 33 = .ok (.aload_n 2, 1) := by decide +kernel
theorem dX5_more_34 : decode cX5_more 34 = .ok (.areturn, 1) := by decide +kernel
theorem dX5_holds_0 : decode cX5_holds 0 = .ok (.bipush 10, 2) := by decide +kernel
theorem dX5_holds_2 : decode cX5_holds 2 = .ok (.aload_n 0, 1) := by decide +kernel
theorem dX5_holds_3 : decode cX5_holds 3 = .ok (.getfield 20, 3) := by decide +kernel
theorem dX5_holds_6 : decode cX5_holds 6 = .ok (.iload_n 1, 1) := by decide +kernel
theorem dX5_holds_7 : decode cX5_holds 7 = .ok (.aaload, 1) := by decide +kernel
theorem dX5_holds_8 : decode cX5_holds 8 = .ok (.iconst 3, 1) := by decide +kernel
theorem dX5_holds_9 : decode cX5_holds 9 = .ok (.iaload, 1) := by decide +kernel
theorem dX5_holds_10 : decode cX5_holds 10 = .ok (.imul, 1) := by decide +kernel
theorem dX5_holds_11 : decode cX5_holds 11 = .ok (.aload_n 0, 1) := by decide +kernel
theorem dX5_holds_12 : decode cX5_holds 12 = .ok (.getfield 20, 3) := by decide +kernel
theorem dX5_holds_15 : decode cX5_holds 15 = .ok (.iload_n 1, 1) := by decide +kernel
theorem dX5_holds_16 : decode cX5_holds 16 = .ok (.aaload, 1) := by decide +kernel
theorem dX5_holds_17 : decode cX5_holds 17 = .ok (.iconst 4, 1) := by decide +kernel
theorem dX5_holds_18 : decode cX5_holds 18 = .ok (.iaload, 1) := by decide +kernel
theorem dX5_holds_19 : decode cX5_holds 19 = .ok (.imul, 1) := by decide +kernel
theorem dX5_holds_20 : decode cX5_holds 20 = .ok (.ireturn, 1) := by decide +kernel
theorem dX5_far_0 : decode cX5_far 0 = .ok (.aload_n 0, 1) := by decide +kernel
theorem dX5_far_1 : decode cX5_far 1 = .ok (.getfield 20, 3) := by decide +kernel
theorem dX5_far_4 : decode cX5_far 4 = .ok (.iload_n 1, 1) := by decide +kernel
theorem dX5_far_5 : decode cX5_far 5 = .ok (.aaload, 1) := by decide +kernel
theorem dX5_far_6 : decode cX5_far 6 = .ok (.iconst 0, 1) := by decide +kernel
theorem dX5_far_7 : decode cX5_far 7 = .ok (.iaload, 1) := by decide +kernel
theorem dX5_far_8 : decode cX5_far 8 = .ok (.aload_n 0, 1) := by decide +kernel
theorem dX5_far_9 : decode cX5_far 9 = .ok (.getfield 20, 3) := by decide +kernel
theorem dX5_far_12 : decode cX5_far 12 = .ok (.iload_n 2, 1) := by decide +kernel
theorem dX5_far_13 : decode cX5_far 13 = .ok (.aaload, 1) := by decide +kernel
theorem dX5_far_14 : decode cX5_far 14 = .ok (.iconst 0, 1) := by decide +kernel
theorem dX5_far_15 : decode cX5_far 15 = .ok (.iaload, 1) := by decide +kernel
theorem dX5_far_16 : decode cX5_far 16 = .ok (.isub, 1) := by decide +kernel
theorem dX5_far_17 : decode cX5_far 17 = .ok (.invokestatic 34, 3) := by decide +kernel
theorem dX5_far_20 : decode cX5_far 20 = .ok (.aload_n 0, 1) := by decide +kernel
theorem dX5_far_21 : decode cX5_far 21 = .ok (.getfield 20, 3) := by decide +kernel
theorem dX5_far_24 : decode cX5_far 24 = .ok (.iload_n 1, 1) := by decide +kernel
theorem dX5_far_25 : decode cX5_far 25 = .ok (.aaload, 1) := by decide +kernel
theorem dX5_far_26 : decode cX5_far 26 = .ok (.iconst 1, 1) := by decide +kernel
theorem dX5_far_27 : decode cX5_far 27 = .ok (.iaload, 1) := by decide +kernel
theorem dX5_far_28 : decode cX5_far 28 = .ok (.aload_n 0, 1) := by decide +kernel
theorem dX5_far_29 : decode cX5_far 29 = .ok (.getfield 20, 3) := by decide +kernel
theorem dX5_far_32 : decode cX5_far 32 = .ok (.iload_n 2, 1) := by decide +kernel
theorem dX5_far_33 : decode cX5_far 33 = .ok (.aaload, 1) := by decide +kernel
theorem dX5_far_34 : decode cX5_far 34 = .ok (.iconst 1, 1) := by decide +kernel
theorem dX5_far_35 : decode cX5_far 35 = .ok (.iaload, 1) := by decide +kernel
theorem dX5_far_36 : decode cX5_far 36 = .ok (.isub, 1) := by decide +kernel
theorem dX5_far_37 : decode cX5_far 37 = .ok (.invokestatic 34, 3) := by decide +kernel
theorem dX5_far_40 : decode cX5_far 40 = .ok (.iadd, 1) := by decide +kernel
theorem dX5_far_41 : decode cX5_far 41 = .ok (.ireturn, 1) := by decide +kernel
theorem dX5_to_0 : decode cX5_to 0 = .ok (.aload_n 1, 1) := by decide +kernel
theorem dX5_to_1 : decode cX5_to 1 = .ok (.iconst 3, 1) := by decide +kernel
theorem dX5_to_2 : decode cX5_to 2 = .ok (.iaload, 1) := by decide +kernel
theorem dX5_to_3 : decode cX5_to 3 = .ok (.ifCond .eq 9, 3) := by decide +kernel
theorem dX5_to_6 : decode cX5_to 6 = .ok (.aload_n 1, 1) := by decide +kernel
theorem dX5_to_7 : decode cX5_to 7 = .ok (.iconst 2, 1) := by decide +kernel
theorem dX5_to_8 : decode cX5_to 8 = .ok (.iaload, 1) := by decide +kernel
theorem dX5_to_9 : decode cX5_to 9 = .ok (.ifCond .ne 7, 3) := by decide +kernel
theorem dX5_to_12 : decode cX5_to 12 = .ok (.aload_n 1, 1) := by decide +kernel
theorem dX5_to_13 : decode cX5_to 13 = .ok (.iconst 1, 1) := by decide +kernel
theorem dX5_to_14 : decode cX5_to 14 = .ok (.iaload, 1) := by decide +kernel
theorem dX5_to_15 : decode cX5_to 15 = .ok (.ireturn, 1) := by decide +kernel
theorem dX5_to_16 : decode cX5_to 16 = .ok (.aload_n 1, 1) := by decide +kernel
theorem dX5_to_17 : decode cX5_to 17 = .ok (.iconst 1, 1) := by decide +kernel
theorem dX5_to_18 : decode cX5_to 18 = .ok (.iaload, 1) := by decide +kernel
theorem dX5_to_19 : decode cX5_to 19 = .ok (.istore_n 2, 1) := by decide +kernel
theorem dX5_to_20 : decode cX5_to 20 = .ok (.aload_n 0, 1) := by decide +kernel
theorem dX5_to_21 : decode cX5_to 21 = .ok (.getfield 20, 3) := by decide +kernel
theorem dX5_to_24 : decode cX5_to 24 = .ok (.aload_n 1, 1) := by decide +kernel
theorem dX5_to_25 : decode cX5_to 25 = .ok (.iconst 1, 1) := by decide +kernel
theorem dX5_to_26 : decode cX5_to 26 = .ok (.iaload, 1) := by decide +kernel
theorem dX5_to_27 : decode cX5_to 27 = .ok (.aaload, 1) := by decide +kernel
theorem dX5_to_28 : decode cX5_to 28 = .ok (.iconst 5, 1) := by decide +kernel
theorem dX5_to_29 : decode cX5_to 29 = .ok (.iaload, 1) := by decide +kernel
theorem dX5_to_30 : decode cX5_to 30 = .ok (.iconst 2, 1) := by decide +kernel
theorem dX5_to_31 : decode cX5_to 31 = .ok (.aload_n 1, 1) := by decide +kernel
theorem dX5_to_32 : decode cX5_to 32 = .ok (.iconst 0, 1) := by decide +kernel
theorem dX5_to_33 : decode cX5_to 33 = .ok (.iaload, 1) := by decide +kernel
theorem dX5_to_34 : decode cX5_to 34 = .ok (.imul, 1) := by decide +kernel
theorem dX5_to_35 : decode cX5_to 35 = .ok (.if_icmp .lt 7, 3) := by decide +kernel
theorem dX5_to_38 : decode cX5_to 38 = .ok (.iconst 1, 1) := by decide +kernel
theorem dX5_to_39 : decode cX5_to 39 = .ok (.goto 4, 3) := by decide +kernel
theorem dX5_to_42 : decode cX5_to 42 = .ok (.iconst 0, 1) := by decide +kernel
theorem dX5_to_43 : decode cX5_to 43 = .ok (.istore_n 3, 1) := by decide +kernel
theorem dX5_to_44 : decode cX5_to 44 = .ok (.aload_n 0, 1) := by decide +kernel
theorem dX5_to_45 : decode cX5_to 45 = .ok (.getfield 20, 3) := by decide +kernel
theorem dX5_to_48 : decode cX5_to 48 = .ok (.arraylength, 1) := by decide +kernel
theorem dX5_to_49 : decode cX5_to 49 = .ok (.iconst 1, 1) := by decide +kernel
theorem dX5_to_50 : decode cX5_to 50 = .ok (.isub, 1) := by decide +kernel
theorem dX5_to_51 : decode cX5_to 51 = .ok (.istore 4, 2) := by decide +kernel
theorem dX5_to_53 : decode cX5_to 53 = .ok (.iload 4, 2) := by decide +kernel
theorem dX5_to_55 : decode cX5_to 55 = .ok (.ifCond .lt 71, 3) := by decide +kernel
theorem dX5_to_58 : decode cX5_to 58 = .ok (.iload_n 3, 1) := by decide +kernel
theorem dX5_to_59 : decode cX5_to 59 = .ok (.ifCond .ne 67, 3) := by decide +kernel
theorem dX5_to_62 : decode cX5_to 62 = .ok (.iload 4, 2) := by decide +kernel
theorem dX5_to_64 : decode cX5_to 64 = .ok (.aload_n 1, 1) := by decide +kernel
theorem dX5_to_65 : decode cX5_to 65 = .ok (.iconst 1, 1) := by decide +kernel
theorem dX5_to_66 : decode cX5_to 66 = .ok (.iaload, 1) := by decide +kernel
theorem dX5_to_67 : decode cX5_to 67 = .ok (.if_icmp .eq 53, 3) := by decide +kernel
theorem dX5_to_70 : decode cX5_to 70 = .ok (.aload_n 0, 1) := by decide +kernel
theorem dX5_to_71 : decode cX5_to 71 = .ok (.getfield 20, 3) := by decide +kernel
theorem dX5_to_74 : decode cX5_to 74 = .ok (.iload 4, 2) := by decide +kernel
theorem dX5_to_76 : decode cX5_to 76 = .ok (.aaload, 1) := by decide +kernel
theorem dX5_to_77 : decode cX5_to 77 = .ok (.iconst 5, 1) := by decide +kernel
theorem dX5_to_78 : decode cX5_to 78 = .ok (.iaload, 1) := by decide +kernel
theorem dX5_to_79 : decode cX5_to 79 = .ok (.iconst 2, 1) := by decide +kernel
theorem dX5_to_80 : decode cX5_to 80 = .ok (.aload_n 1, 1) := by decide +kernel
theorem dX5_to_81 : decode cX5_to 81 = .ok (.iconst 0, 1) := by decide +kernel
theorem dX5_to_82 : decode cX5_to 82 = .ok (.iaload, 1) := by decide +kernel
theorem dX5_to_83 : decode cX5_to 83 = .ok (.imul, 1) := by decide +kernel
theorem dX5_to_84 : decode cX5_to 84 = .ok (.if_icmp .ge 6, 3) := by decide +kernel
theorem dX5_to_87 : decode cX5_to 87 = .ok (.goto 33, 3) := by decide +kernel
theorem dX5_to_90 : decode cX5_to 90 = .ok (.iload_n 2, 1) := by decide +kernel
theorem dX5_to_91 : decode cX5_to 91 = .ok (.aload_n 1, 1) := by decide +kernel
theorem dX5_to_92 : decode cX5_to 92 = .ok (.iconst 1, 1) := by decide +kernel
theorem dX5_to_93 : decode cX5_to 93 = .ok (.iaload, 1) := by decide +kernel
theorem dX5_to_94 : decode cX5_to 94 = .ok (.if_icmp .eq 23, 3) := by decide +kernel
theorem dX5_to_97 : decode cX5_to 97 = .ok (.aload_n 0, 1) := by decide +kernel
theorem dX5_to_98 : decode cX5_to 98 = .ok (.aload_n 1, 1) := by decide +kernel
theorem dX5_to_99 : decode cX5_to 99 = .ok (.iconst 1, 1) := by decide +kernel
theorem dX5_to_100 : decode cX5_to 100 = .ok (.iaload, 1) := by decide +kernel
theorem dX5_to_101 : decode cX5_to 101 = .ok (.iload 4, 2) := by decide +kernel
theorem dX5_to_103 : decode cX5_to 103 = .ok (.invokevirtual 40, 3) := by decide +kernel
theorem dX5_to_106 : decode cX5_to 106 = .ok (.aload_n 0, 1) := by decide +kernel
theorem dX5_to_107 : decode cX5_to 107 = .ok (.aload_n 1, 1) := by decide +kernel
theorem dX5_to_108 : decode cX5_to 108 = .ok (.iconst 1, 1) := by decide +kernel
theorem dX5_to_109 : decode cX5_to 109 = .ok (.iaload, 1) := by decide +kernel
theorem dX5_to_110 : decode cX5_to 110 = .ok (.iload_n 2, 1) := by decide +kernel
theorem dX5_to_111 : decode cX5_to 111 = .ok (.invokevirtual 40, 3) := by decide +kernel
theorem dX5_to_114 : decode cX5_to 114 = .ok (.if_icmp .gt 6, 3) := by decide +kernel
theorem dX5_to_117 : decode cX5_to 117 = .ok (.iload 4, 2) := by decide +kernel
theorem dX5_to_119 : decode cX5_to 119 = .ok (.istore_n 2, 1) := by decide +kernel
theorem dX5_to_120 : decode cX5_to 120 = .ok (.iinc 4 (-1), 3) := by decide +kernel
theorem dX5_to_123 : decode cX5_to 123 = .ok (.goto (-70), 3) := by decide +kernel
theorem dX5_to_126 : decode cX5_to 126 = .ok (.iload_n 2, 1) := by decide +kernel
theorem dX5_to_127 : decode cX5_to 127 = .ok (.ireturn, 1) := by decide +kernel
theorem dX5_pass_0 : decode cX5_pass 0 = .ok (.aload_n 0, 1) := by decide +kernel
theorem dX5_pass_1 : decode cX5_pass 1 = .ok (.getfield 15, 3) := by decide +kernel
theorem dX5_pass_4 : decode cX5_pass 4 = .ok (.aload_n 0, 1) := by decide +kernel
theorem dX5_pass_5 : decode cX5_pass 5 = .ok (.getfield 27, 3) := by decide +kernel
theorem dX5_pass_8 : decode cX5_pass 8 = .ok (.bipush 10, 2) := by decide +kernel
theorem dX5_pass_10 : decode cX5_pass 10 = .ok (.irem, 1) := by decide +kernel
theorem dX5_pass_11 : decode cX5_pass 11 = .ok (.aaload, 1) := by decide +kernel
theorem dX5_pass_12 : decode cX5_pass 12 = .ok (.astore_n 1, 1) := by decide +kernel
theorem dX5_pass_13 : decode cX5_pass 13 = .ok (.iconst 0, 1) := by decide +kernel
theorem dX5_pass_14 : decode cX5_pass 14 = .ok (.istore_n 2, 1) := by decide +kernel
theorem dX5_pass_15 : decode cX5_pass 15 = .ok (.aload_n 0, 1) := by decide +kernel
theorem dX5_pass_16 : decode cX5_pass 16 = .ok (.getfield 20, 3) := by decide +kernel
theorem dX5_pass_19 : decode cX5_pass 19 = .ok (.astore_n 3, 1) := by decide +kernel
theorem dX5_pass_20 : decode cX5_pass 20 = .ok (.aload_n 3, 1) := by decide +kernel
theorem dX5_pass_21 : decode cX5_pass 21 = .ok (.arraylength, 1) := by decide +kernel
theorem dX5_pass_22 : decode cX5_pass 22 = .ok (.istore 4, 2) := by decide +kernel
theorem dX5_pass_24 : decode cX5_pass 24 = .ok (.iconst 0, 1) := by decide +kernel
theorem dX5_pass_25 : decode cX5_pass 25 = .ok (.istore 5, 2) := by decide +kernel
theorem dX5_pass_27 : decode cX5_pass 27 = .ok (.iload 5, 2) := by decide +kernel
theorem dX5_pass_29 : decode cX5_pass 29 = .ok (.iload 4, 2) := by decide +kernel
theorem dX5_pass_31 : decode cX5_pass 31 = .ok (.if_icmp .ge 65, 3) := by decide +kernel
theorem dX5_pass_34 : decode cX5_pass 34 = .ok (.aload_n 3, 1) := by decide +kernel
theorem dX5_pass_35 : decode cX5_pass 35 = .ok (.iload 5, 2) := by decide +kernel
theorem dX5_pass_37 : decode cX5_pass 37 = .ok (.aaload, 1) := by decide +kernel
theorem dX5_pass_38 : decode cX5_pass 38 = .ok (.astore 6, 2) := by decide +kernel
theorem dX5_pass_40 : decode cX5_pass 40 = .ok (.aload_n 1, 1) := by decide +kernel
theorem dX5_pass_41 : decode cX5_pass 41 = .ok (.iconst 0, 1) := by decide +kernel
theorem dX5_pass_42 : decode cX5_pass 42 = .ok (.iaload, 1) := by decide +kernel
theorem dX5_pass_43 : decode cX5_pass 43 = .ok (.aload 6, 2) := by decide +kernel
theorem dX5_pass_45 : decode cX5_pass 45 = .ok (.iconst 3, 1) := by decide +kernel
theorem dX5_pass_46 : decode cX5_pass 46 = .ok (.iaload, 1) := by decide +kernel
theorem dX5_pass_47 : decode cX5_pass 47 = .ok (.imul, 1) := by decide +kernel
theorem dX5_pass_48 : decode cX5_pass 48 = .ok (.iconst 4, 1) := by decide +kernel
theorem dX5_pass_49 : decode cX5_pass 49 = .ok (.idiv, 1) := by decide +kernel
theorem dX5_pass_50 : decode cX5_pass 50 = .ok (.istore 7, 2) := by decide +kernel
theorem dX5_pass_52 : decode cX5_pass 52 = .ok (.aload 6, 2) := by decide +kernel
theorem dX5_pass_54 : decode cX5_pass 54 = .ok (.iconst 5, 1) := by decide +kernel
theorem dX5_pass_55 : decode cX5_pass 55 = .ok (.dup2, 1) := by decide +kernel
theorem dX5_pass_56 : decode cX5_pass 56 = .ok (.iaload, 1) := by decide +kernel
theorem dX5_pass_57 : decode cX5_pass 57 = .ok (.aload 6, 2) := by decide +kernel
theorem dX5_pass_59 : decode cX5_pass 59 = .ok (.iconst 2, 1) := by decide +kernel
theorem dX5_pass_60 : decode cX5_pass 60 = .ok (.iaload, 1) := by decide +kernel
theorem dX5_pass_61 : decode cX5_pass 61 = .ok (.sipush 150, 3) := by decide +kernel
theorem dX5_pass_64 : decode cX5_pass 64 = .ok (.if_icmp .ge 8, 3) := by decide +kernel
theorem dX5_pass_67 : decode cX5_pass 67 = .ok (.iload 7, 2) := by decide +kernel
theorem dX5_pass_69 : decode cX5_pass 69 = .ok (.goto 8, 3) := by decide +kernel
theorem dX5_pass_72 : decode cX5_pass 72 = .ok (.iload 7, 2) := by decide +kernel
theorem dX5_pass_74 : decode cX5_pass 74 = .ok (.iload 7, 2) := by decide +kernel
theorem dX5_pass_76 : decode cX5_pass 76 = .ok (.iadd, 1) := by decide +kernel
theorem dX5_pass_77 : decode cX5_pass 77 = .ok (.aload_n 1, 1) := by decide +kernel
theorem dX5_pass_78 : decode cX5_pass 78 = .ok (.iconst 1, 1) := by decide +kernel
theorem dX5_pass_79 : decode cX5_pass 79 = .ok (.iaload, 1) := by decide +kernel
theorem dX5_pass_80 : decode cX5_pass 80 = .ok (.aload 6, 2) := by decide +kernel
theorem dX5_pass_82 : decode cX5_pass 82 = .ok (.iconst 3, 1) := by decide +kernel
theorem dX5_pass_83 : decode cX5_pass 83 = .ok (.iaload, 1) := by decide +kernel
theorem dX5_pass_84 : decode cX5_pass 84 = .ok (.imul, 1) := by decide +kernel
theorem dX5_pass_85 : decode cX5_pass 85 = .ok (.iconst 2, 1) := by decide +kernel
theorem dX5_pass_86 : decode cX5_pass 86 = .ok (.idiv, 1) := by decide +kernel
theorem dX5_pass_87 : decode cX5_pass 87 = .ok (.iadd, 1) := by decide +kernel
theorem dX5_pass_88 : decode cX5_pass 88 = .ok (.iadd, 1) := by decide +kernel
theorem dX5_pass_89 : decode cX5_pass 89 = .ok (.iastore, 1) := by decide +kernel
theorem dX5_pass_90 : decode cX5_pass 90 = .ok (.iinc 5 1, 3) := by decide +kernel
theorem dX5_pass_93 : decode cX5_pass 93 = .ok (.goto (-66), 3) := by decide +kernel
theorem dX5_pass_96 : decode cX5_pass 96 = .ok (.aload_n 0, 1) := by decide +kernel
theorem dX5_pass_97 : decode cX5_pass 97 = .ok (.getfield 23, 3) := by decide +kernel
theorem dX5_pass_100 : decode cX5_pass 100 = .ok (.astore_n 3, 1) := by decide +kernel
theorem dX5_pass_101 : decode cX5_pass 101 = .ok (.aload_n 3, 1) := by decide +kernel
theorem dX5_pass_102 : decode cX5_pass 102 = .ok (.arraylength, 1) := by decide +kernel
theorem dX5_pass_103 : decode cX5_pass 103 = .ok (.istore 4, 2) := by decide +kernel
theorem dX5_pass_105 : decode cX5_pass 105 = .ok (.iconst 0, 1) := by decide +kernel
theorem dX5_pass_106 : decode cX5_pass 106 = .ok (.istore 5, 2) := by decide +kernel
theorem dX5_pass_108 : decode cX5_pass 108 = .ok (.iload 5, 2) := by decide +kernel
theorem dX5_pass_110 : decode cX5_pass 110 = .ok (.iload 4, 2) := by decide +kernel
theorem dX5_pass_112 : decode cX5_pass 112 = .ok (.if_icmp .ge 189, 3) := by decide +kernel
theorem dX5_pass_115 : decode cX5_pass 115 = .ok (.aload_n 3, 1) := by decide +kernel
theorem dX5_pass_116 : decode cX5_pass 116 = .ok (.iload 5, 2) := by decide +kernel
theorem dX5_pass_118 : decode cX5_pass 118 = .ok (.aaload, 1) := by decide +kernel
theorem dX5_pass_119 : decode cX5_pass 119 = .ok (.astore 6, 2) := by decide +kernel
theorem dX5_pass_121 : decode cX5_pass 121 = .ok (.aload 6, 2) := by decide +kernel
theorem dX5_pass_123 : decode cX5_pass 123 = .ok (.iconst 2, 1) := by decide +kernel
theorem dX5_pass_124 : decode cX5_pass 124 = .ok (.iaload, 1) := by decide +kernel
theorem dX5_pass_125 : decode cX5_pass 125 = .ok (.bipush 10, 2) := by decide +kernel
theorem dX5_pass_127 : decode cX5_pass 127 = .ok (.if_icmp .ne 6, 3) := by decide +kernel
theorem dX5_pass_130 : decode cX5_pass 130 = .ok (.goto 165, 3) := by decide +kernel
theorem dX5_pass_133 : decode cX5_pass 133 = .ok (.aload 6, 2) := by decide +kernel
theorem dX5_pass_135 : decode cX5_pass 135 = .ok (.iconst 1, 1) := by decide +kernel
theorem dX5_pass_136 : decode cX5_pass 136 = .ok (.aload_n 0, 1) := by decide +kernel
theorem dX5_pass_137 : decode cX5_pass 137 = .ok (.aload 6, 2) := by decide +kernel
theorem dX5_pass_139 : decode cX5_pass 139 = .ok (.invokevirtual 44, 3) := by decide +kernel
theorem dX5_pass_142 : decode cX5_pass 142 = .ok (.iastore, 1) := by decide +kernel
theorem dX5_pass_143 : decode cX5_pass 143 = .ok (.aload_n 0, 1) := by decide +kernel
theorem dX5_pass_144 : decode cX5_pass 144 = .ok (.getfield 20, 3) := by decide +kernel
theorem dX5_pass_147 : decode cX5_pass 147 = .ok (.aload 6, 2) := by decide +kernel
theorem dX5_pass_149 : decode cX5_pass 149 = .ok (.iconst 1, 1) := by decide +kernel
theorem dX5_pass_150 : decode cX5_pass 150 = .ok (.iaload, 1) := by decide +kernel
theorem dX5_pass_151 : decode cX5_pass 151 = .ok (.aaload, 1) := by decide +kernel
theorem dX5_pass_152 : decode cX5_pass 152 = .ok (.astore 7, 2) := by decide +kernel
theorem dX5_pass_154 : decode cX5_pass 154 = .ok (.aload 7, 2) := by decide +kernel
theorem dX5_pass_156 : decode cX5_pass 156 = .ok (.iconst 5, 1) := by decide +kernel
theorem dX5_pass_157 : decode cX5_pass 157 = .ok (.iaload, 1) := by decide +kernel
theorem dX5_pass_158 : decode cX5_pass 158 = .ok (.iconst 2, 1) := by decide +kernel
theorem dX5_pass_159 : decode cX5_pass 159 = .ok (.aload 6, 2) := by decide +kernel
theorem dX5_pass_161 : decode cX5_pass 161 = .ok (.iconst 0, 1) := by decide +kernel
theorem dX5_pass_162 : decode cX5_pass 162 = .ok (.iaload, 1) := by decide +kernel
theorem dX5_pass_163 : decode cX5_pass 163 = .ok (.imul, 1) := by decide +kernel
theorem dX5_pass_164 : decode cX5_pass 164 = .ok (.if_icmp .ge 10, 3) := by decide +kernel
theorem dX5_pass_167 : decode cX5_pass 167 = .ok (.aload 7, 2) := by decide +kernel
theorem dX5_pass_169 : decode cX5_pass 169 = .ok (.iconst 5, 1) := by decide +kernel
theorem dX5_pass_170 : decode cX5_pass 170 = .ok (.iaload, 1) := by decide +kernel
theorem dX5_pass_171 : decode cX5_pass 171 = .ok (.goto 9, 3) := by decide +kernel
theorem dX5_pass_174 : decode cX5_pass 174 = .ok (.iconst 2, 1) := by decide +kernel
theorem dX5_pass_175 : decode cX5_pass 175 = .ok (.aload 6, 2) := by decide +kernel
theorem dX5_pass_177 : decode cX5_pass 177 = .ok (.iconst 0, 1) := by decide +kernel
theorem dX5_pass_178 : decode cX5_pass 178 = .ok (.iaload, 1) := by decide +kernel
theorem dX5_pass_179 : decode cX5_pass 179 = .ok (.imul, 1) := by decide +kernel
theorem dX5_pass_180 : decode cX5_pass 180 = .ok (.istore 8, 2) := by decide +kernel
theorem dX5_pass_182 : decode cX5_pass 182 = .ok (.aload 7, 2) := by decide +kernel
theorem dX5_pass_184 : decode cX5_pass 184 = .ok (.iconst 5, 1) := by decide +kernel
theorem dX5_pass_185 : decode cX5_pass 185 = .ok (.dup2, 1) := by decide +kernel
theorem dX5_pass_186 : decode cX5_pass 186 = .ok (.iaload, 1) := by decide +kernel
theorem dX5_pass_187 : decode cX5_pass 187 = .ok (.iload 8, 2) := by decide +kernel
theorem dX5_pass_189 : decode cX5_pass 189 = .ok (.isub, 1) := by decide +kernel
theorem dX5_pass_190 : decode cX5_pass 190 = .ok (.iastore, 1) := by decide +kernel
theorem dX5_pass_191 : decode cX5_pass 191 = .ok (.aload 6, 2) := by decide +kernel
theorem dX5_pass_193 : decode cX5_pass 193 = .ok (.iconst 4, 1) := by decide +kernel
theorem dX5_pass_194 : decode cX5_pass 194 = .ok (.dup2, 1) := by decide +kernel
theorem dX5_pass_195 : decode cX5_pass 195 = .ok (.iaload, 1) := by decide +kernel
theorem dX5_pass_196 : decode cX5_pass 196 = .ok (.iload 8, 2) := by decide +kernel
theorem dX5_pass_198 : decode cX5_pass 198 = .ok (.iadd, 1) := by decide +kernel
theorem dX5_pass_199 : decode cX5_pass 199 = .ok (.iastore, 1) := by decide +kernel
theorem dX5_pass_200 : decode cX5_pass 200 = .ok (.iload_n 2, 1) := by decide +kernel
theorem dX5_pass_201 : decode cX5_pass 201 = .ok (.iload 8, 2) := by decide +kernel
theorem dX5_pass_203 : decode cX5_pass 203 = .ok (.iadd, 1) := by decide +kernel
theorem dX5_pass_204 : decode cX5_pass 204 = .ok (.istore_n 2, 1) := by decide +kernel
theorem dX5_pass_205 : decode cX5_pass 205 = .ok (.iload 8, 2) := by decide +kernel
theorem dX5_pass_207 : decode cX5_pass 207 = .ok (.iconst 2, 1) := by decide +kernel
theorem dX5_pass_208 : decode cX5_pass 208 = .ok (.aload 6, 2) := by decide +kernel
theorem dX5_pass_210 : decode cX5_pass 210 = .ok (.iconst 0, 1) := by decide +kernel
theorem dX5_pass_211 : decode cX5_pass 211 = .ok (.iaload, 1) := by decide +kernel
theorem dX5_pass_212 : decode cX5_pass 212 = .ok (.imul, 1) := by decide +kernel
theorem dX5_pass_213 : decode cX5_pass 213 = .ok (.if_icmp .ne 28, 3) := by decide +kernel
theorem dX5_pass_216 : decode cX5_pass 216 = .ok (.aload 6, 2) := by decide +kernel
theorem dX5_pass_218 : decode cX5_pass 218 = .ok (.iconst 2, 1) := by decide +kernel
theorem dX5_pass_219 : decode cX5_pass 219 = .ok (.aload 6, 2) := by decide +kernel
theorem dX5_pass_221 : decode cX5_pass 221 = .ok (.iconst 2, 1) := by decide +kernel
theorem dX5_pass_222 : decode cX5_pass 222 = .ok (.iaload, 1) := by decide +kernel
theorem dX5_pass_223 : decode cX5_pass 223 = .ok (.iconst 2, 1) := by decide +kernel
theorem dX5_pass_224 : decode cX5_pass 224 = .ok (.if_icmp .le 12, 3) := by decide +kernel
theorem dX5_pass_227 : decode cX5_pass 227 = .ok (.aload 6, 2) := by decide +kernel
theorem dX5_pass_229 : decode cX5_pass 229 = .ok (.iconst 2, 1) := by decide +kernel
theorem dX5_pass_230 : decode cX5_pass 230 = .ok (.iaload, 1) := by decide +kernel
theorem dX5_pass_231 : decode cX5_pass 231 = .ok (.iconst 2, 1) := by decide +kernel
theorem dX5_pass_232 : decode cX5_pass 232 = .ok (.isub, 1) := by decide +kernel
theorem dX5_pass_233 : decode cX5_pass 233 = .ok (.goto 4, 3) := by decide +kernel
theorem dX5_pass_236 : decode cX5_pass 236 = .ok (.iconst 0, 1) := by decide +kernel
theorem dX5_pass_237 : decode cX5_pass 237 = .ok (.iastore, 1) := by decide +kernel
theorem dX5_pass_238 : decode cX5_pass 238 = .ok (.goto 27, 3) := by decide +kernel
theorem dX5_pass_241 : decode cX5_pass 241 = .ok (.aload 6, 2) := by decide +kernel
theorem dX5_pass_243 : decode cX5_pass 243 = .ok (.iconst 2, 1) := by decide +kernel
theorem dX5_pass_244 : decode cX5_pass 244 = .ok (.aload 6, 2) := by decide +kernel
theorem dX5_pass_246 : decode cX5_pass 246 = .ok (.iconst 2, 1) := by decide +kernel
theorem dX5_pass_247 : decode cX5_pass 247 = .ok (.iaload, 1) := by decide +kernel
theorem dX5_pass_248 : decode cX5_pass 248 = .ok (.bipush 7, 2) := by decide +kernel
theorem dX5_pass_250 : decode cX5_pass 250 = .ok (.if_icmp .le 8, 3) := by decide +kernel
theorem dX5_pass_253 : decode cX5_pass 253 = .ok (.bipush 10, 2) := by decide +kernel
theorem dX5_pass_255 : decode cX5_pass 255 = .ok (.goto 9, 3) := by decide +kernel
theorem dX5_pass_258 : decode cX5_pass 258 = .ok (.aload 6, 2) := by decide +kernel
theorem dX5_pass_260 : decode cX5_pass 260 = .ok (.iconst 2, 1) := by decide +kernel
theorem dX5_pass_261 : decode cX5_pass 261 = .ok (.iaload, 1) := by decide +kernel
theorem dX5_pass_262 : decode cX5_pass 262 = .ok (.iconst 3, 1) := by decide +kernel
theorem dX5_pass_263 : decode cX5_pass 263 = .ok (.iadd, 1) := by decide +kernel
theorem dX5_pass_264 : decode cX5_pass 264 = .ok (.iastore, 1) := by decide +kernel
theorem dX5_pass_265 : decode cX5_pass 265 = .ok (.aload 7, 2) := by decide +kernel
theorem dX5_pass_267 : decode cX5_pass 267 = .ok (.bipush 7, 2) := by decide +kernel
theorem dX5_pass_269 : decode cX5_pass 269 = .ok (.iaload, 1) := by decide +kernel
theorem dX5_pass_270 : decode cX5_pass 270 = .ok (.ifCond .ne 25, 3) := by decide +kernel
theorem dX5_pass_273 : decode cX5_pass 273 = .ok (.aload 7, 2) := by decide +kernel
theorem dX5_pass_275 : decode cX5_pass 275 = .ok (.bipush 6, 2) := by decide +kernel
theorem dX5_pass_277 : decode cX5_pass 277 = .ok (.iconst 0, 1) := by decide +kernel
theorem dX5_pass_278 : decode cX5_pass 278 = .ok (.aload 7, 2) := by decide +kernel
theorem dX5_pass_280 : decode cX5_pass 280 = .ok (.bipush 6, 2) := by decide +kernel
theorem dX5_pass_282 : decode cX5_pass 282 = .ok (.iaload, 1) := by decide +kernel
theorem dX5_pass_283 : decode cX5_pass 283 = .ok (.aload 6, 2) := by decide +kernel
theorem dX5_pass_285 : decode cX5_pass 285 = .ok (.iconst 0, 1) := by decide +kernel
theorem dX5_pass_286 : decode cX5_pass 286 = .ok (.iaload, 1) := by decide +kernel
theorem dX5_pass_287 : decode cX5_pass 287 = .ok (.bipush 10, 2) := by decide +kernel
theorem dX5_pass_289 : decode cX5_pass 289 = .ok (.idiv, 1) := by decide +kernel
theorem dX5_pass_290 : decode cX5_pass 290 = .ok (.isub, 1) := by decide +kernel
theorem dX5_pass_291 : decode cX5_pass 291 = .ok (.invokestatic 48, 3) := by decide +kernel
theorem dX5_pass_294 : decode cX5_pass 294 = .ok (.iastore, 1) := by decide +kernel
theorem dX5_pass_295 : decode cX5_pass 295 = .ok (.iinc 5 1, 3) := by decide +kernel
theorem dX5_pass_298 : decode cX5_pass 298 = .ok (.goto (-190), 3) := by decide +kernel
theorem dX5_pass_301 : decode cX5_pass 301 = .ok (.aload_n 0, 1) := by decide +kernel
theorem dX5_pass_302 : decode cX5_pass 302 = .ok (.getfield 20, 3) := by decide +kernel
theorem dX5_pass_305 : decode cX5_pass 305 = .ok (.astore_n 3, 1) := by decide +kernel
theorem dX5_pass_306 : decode cX5_pass 306 = .ok (.aload_n 3, 1) := by decide +kernel
theorem dX5_pass_307 : decode cX5_pass 307 = .ok (.arraylength, 1) := by decide +kernel
theorem dX5_pass_308 : decode cX5_pass 308 = .ok (.istore 4, 2) := by decide +kernel
theorem dX5_pass_310 : decode cX5_pass 310 = .ok (.iconst 0, 1) := by decide +kernel
theorem dX5_pass_311 : decode cX5_pass 311 = .ok (.istore 5, 2) := by decide +kernel
theorem dX5_pass_313 : decode cX5_pass 313 = .ok (.iload 5, 2) := by decide +kernel
theorem dX5_pass_315 : decode cX5_pass 315 = .ok (.iload 4, 2) := by decide +kernel
theorem dX5_pass_317 : decode cX5_pass 317 = .ok (.if_icmp .ge 90, 3) := by decide +kernel
theorem dX5_pass_320 : decode cX5_pass 320 = .ok (.aload_n 3, 1) := by decide +kernel
theorem dX5_pass_321 : decode cX5_pass 321 = .ok (.iload 5, 2) := by decide +kernel
theorem dX5_pass_323 : decode cX5_pass 323 = .ok (.aaload, 1) := by decide +kernel
theorem dX5_pass_324 : decode cX5_pass 324 = .ok (.astore 6, 2) := by decide +kernel
theorem dX5_pass_326 : decode cX5_pass 326 = .ok (.aload_n 1, 1) := by decide +kernel
theorem dX5_pass_327 : decode cX5_pass 327 = .ok (.iconst 2, 1) := by decide +kernel
theorem dX5_pass_328 : decode cX5_pass 328 = .ok (.iaload, 1) := by decide +kernel
theorem dX5_pass_329 : decode cX5_pass 329 = .ok (.aload 6, 2) := by decide +kernel
theorem dX5_pass_331 : decode cX5_pass 331 = .ok (.iconst 3, 1) := by decide +kernel
theorem dX5_pass_332 : decode cX5_pass 332 = .ok (.iaload, 1) := by decide +kernel
theorem dX5_pass_333 : decode cX5_pass 333 = .ok (.imul, 1) := by decide +kernel
theorem dX5_pass_334 : decode cX5_pass 334 = .ok (.iconst 5, 1) := by decide +kernel
theorem dX5_pass_335 : decode cX5_pass 335 = .ok (.idiv, 1) := by decide +kernel
theorem dX5_pass_336 : decode cX5_pass 336 = .ok (.istore 7, 2) := by decide +kernel
theorem dX5_pass_338 : decode cX5_pass 338 = .ok (.aload 6, 2) := by decide +kernel
theorem dX5_pass_340 : decode cX5_pass 340 = .ok (.bipush 7, 2) := by decide +kernel
theorem dX5_pass_342 : decode cX5_pass 342 = .ok (.iaload, 1) := by decide +kernel
theorem dX5_pass_343 : decode cX5_pass 343 = .ok (.iconst 1, 1) := by decide +kernel
theorem dX5_pass_344 : decode cX5_pass 344 = .ok (.if_icmp .ne 9, 3) := by decide +kernel
theorem dX5_pass_347 : decode cX5_pass 347 = .ok (.iload 7, 2) := by decide +kernel
theorem dX5_pass_349 : decode cX5_pass 349 = .ok (.iconst 2, 1) := by decide +kernel
theorem dX5_pass_350 : decode cX5_pass 350 = .ok (.idiv, 1) := by decide +kernel
theorem dX5_pass_351 : decode cX5_pass 351 = .ok (.istore 7, 2) := by decide +kernel
theorem dX5_pass_353 : decode cX5_pass 353 = .ok (.aload 6, 2) := by decide +kernel
theorem dX5_pass_355 : decode cX5_pass 355 = .ok (.iconst 5, 1) := by decide +kernel
theorem dX5_pass_356 : decode cX5_pass 356 = .ok (.aload 6, 2) := by decide +kernel
theorem dX5_pass_358 : decode cX5_pass 358 = .ok (.iconst 5, 1) := by decide +kernel
theorem dX5_pass_359 : decode cX5_pass 359 = .ok (.iaload, 1) := by decide +kernel
theorem dX5_pass_360 : decode cX5_pass 360 = .ok (.iload 7, 2) := by decide +kernel
theorem dX5_pass_362 : decode cX5_pass 362 = .ok (.if_icmp .le 13, 3) := by decide +kernel
theorem dX5_pass_365 : decode cX5_pass 365 = .ok (.aload 6, 2) := by decide +kernel
theorem dX5_pass_367 : decode cX5_pass 367 = .ok (.iconst 5, 1) := by decide +kernel
theorem dX5_pass_368 : decode cX5_pass 368 = .ok (.iaload, 1) := by decide +kernel
theorem dX5_pass_369 : decode cX5_pass 369 = .ok (.iload 7, 2) := by decide +kernel
theorem dX5_pass_371 : decode cX5_pass 371 = .ok (.isub, 1) := by decide +kernel
theorem dX5_pass_372 : decode cX5_pass 372 = .ok (.goto 4, 3) := by decide +kernel
theorem dX5_pass_375 : decode cX5_pass 375 = .ok (.iconst 0, 1) := by decide +kernel
theorem dX5_pass_376 : decode cX5_pass 376 = .ok (.iastore, 1) := by decide +kernel
theorem dX5_pass_377 : decode cX5_pass 377 = .ok (.aload 6, 2) := by decide +kernel
theorem dX5_pass_379 : decode cX5_pass 379 = .ok (.iconst 5, 1) := by decide +kernel
theorem dX5_pass_380 : decode cX5_pass 380 = .ok (.dup2, 1) := by decide +kernel
theorem dX5_pass_381 : decode cX5_pass 381 = .ok (.iaload, 1) := by decide +kernel
theorem dX5_pass_382 : decode cX5_pass 382 = .ok (.aload 6, 2) := by decide +kernel
theorem dX5_pass_384 : decode cX5_pass 384 = .ok (.iconst 5, 1) := by decide +kernel
theorem dX5_pass_385 : decode cX5_pass 385 = .ok (.iaload, 1) := by decide +kernel
theorem dX5_pass_386 : decode cX5_pass 386 = .ok (.bipush 100, 2) := by decide +kernel
theorem dX5_pass_388 : decode cX5_pass 388 = .ok (.aload 6, 2) := by decide +kernel
theorem dX5_pass_390 : decode cX5_pass 390 = .ok (.bipush 6, 2) := by decide +kernel
theorem dX5_pass_392 : decode cX5_pass 392 = .ok (.iaload, 1) := by decide +kernel
theorem dX5_pass_393 : decode cX5_pass 393 = .ok (.isub, 1) := by decide +kernel
theorem dX5_pass_394 : decode cX5_pass 394 = .ok (.imul, 1) := by decide +kernel
theorem dX5_pass_395 : decode cX5_pass 395 = .ok (.sipush 200, 3) := by decide +kernel
theorem dX5_pass_398 : decode cX5_pass 398 = .ok (.idiv, 1) := by decide +kernel
theorem dX5_pass_399 : decode cX5_pass 399 = .ok (.isub, 1) := by decide +kernel
theorem dX5_pass_400 : decode cX5_pass 400 = .ok (.iastore, 1) := by decide +kernel
theorem dX5_pass_401 : decode cX5_pass 401 = .ok (.iinc 5 1, 3) := by decide +kernel
theorem dX5_pass_404 : decode cX5_pass 404 = .ok (.goto (-91), 3) := by decide +kernel
theorem dX5_pass_407 : decode cX5_pass 407 = .ok (.aload_n 0, 1) := by decide +kernel
theorem dX5_pass_408 : decode cX5_pass 408 = .ok (.getfield 20, 3) := by decide +kernel
theorem dX5_pass_411 : decode cX5_pass 411 = .ok (.arraylength, 1) := by decide +kernel
theorem dX5_pass_412 : decode cX5_pass 412 = .ok (.newarray .boolean, 2) := by decide +kernel
theorem dX5_pass_414 : decode cX5_pass 414 = .ok (.astore_n 3, 1) := by decide +kernel
theorem dX5_pass_415 : decode cX5_pass 415 = .ok (.iconst 0, 1) := by decide +kernel
theorem dX5_pass_416 : decode cX5_pass 416 = .ok (.istore 4, 2) := by decide +kernel
theorem dX5_pass_418 : decode cX5_pass 418 = .ok (.iload 4, 2) := by decide +kernel
theorem dX5_pass_420 : decode cX5_pass 420 = .ok (.aload_n 0, 1) := by decide +kernel
theorem dX5_pass_421 : decode cX5_pass 421 = .ok (.getfield 20, 3) := by decide +kernel
theorem dX5_pass_424 : decode cX5_pass 424 = .ok (.arraylength, 1) := by decide +kernel
theorem dX5_pass_425 : decode cX5_pass 425 = .ok (.if_icmp .ge 163, 3) := by decide +kernel
theorem dX5_pass_428 : decode cX5_pass 428 = .ok (.iconst (-1), 1) := by decide +kernel
theorem dX5_pass_429 : decode cX5_pass 429 = .ok (.istore 5, 2) := by decide +kernel
theorem dX5_pass_431 : decode cX5_pass 431 = .ok (.iconst 0, 1) := by decide +kernel
theorem dX5_pass_432 : decode cX5_pass 432 = .ok (.istore 6, 2) := by decide +kernel
theorem dX5_pass_434 : decode cX5_pass 434 = .ok (.iload 6, 2) := by decide +kernel
theorem dX5_pass_436 : decode cX5_pass 436 = .ok (.aload_n 0, 1) := by decide +kernel
theorem dX5_pass_437 : decode cX5_pass 437 = .ok (.getfield 20, 3) := by decide +kernel
theorem dX5_pass_440 : decode cX5_pass 440 = .ok (.arraylength, 1) := by decide +kernel
theorem dX5_pass_441 : decode cX5_pass 441 = .ok (.if_icmp .ge 46, 3) := by decide +kernel
theorem dX5_pass_444 : decode cX5_pass 444 = .ok (.aload_n 3, 1) := by decide +kernel
theorem dX5_pass_445 : decode cX5_pass 445 = .ok (.iload 6, 2) := by decide +kernel
theorem dX5_pass_447 : decode cX5_pass 447 = .ok (.baload, 1) := by decide +kernel
theorem dX5_pass_448 : decode cX5_pass 448 = .ok (.ifCond .ne 33, 3) := by decide +kernel
theorem dX5_pass_451 : decode cX5_pass 451 = .ok (.iload 5, 2) := by decide +kernel
theorem dX5_pass_453 : decode cX5_pass 453 = .ok (.ifCond .lt 24, 3) := by decide +kernel
theorem dX5_pass_456 : decode cX5_pass 456 = .ok (.aload_n 0, 1) := by decide +kernel
theorem dX5_pass_457 : decode cX5_pass 457 = .ok (.getfield 20, 3) := by decide +kernel
theorem dX5_pass_460 : decode cX5_pass 460 = .ok (.iload 6, 2) := by decide +kernel
theorem dX5_pass_462 : decode cX5_pass 462 = .ok (.aaload, 1) := by decide +kernel
theorem dX5_pass_463 : decode cX5_pass 463 = .ok (.iconst 2, 1) := by decide +kernel
theorem dX5_pass_464 : decode cX5_pass 464 = .ok (.iaload, 1) := by decide +kernel
theorem dX5_pass_465 : decode cX5_pass 465 = .ok (.aload_n 0, 1) := by decide +kernel
theorem dX5_pass_466 : decode cX5_pass 466 = .ok (.getfield 20, 3) := by decide +kernel
theorem dX5_pass_469 : decode cX5_pass 469 = .ok (.iload 5, 2) := by decide +kernel
theorem dX5_pass_471 : decode cX5_pass 471 = .ok (.aaload, 1) := by decide +kernel
theorem dX5_pass_472 : decode cX5_pass 472 = .ok (.iconst 2, 1) := by decide +kernel
theorem dX5_pass_473 : decode cX5_pass 473 = .ok (.iaload, 1) := by decide +kernel
theorem dX5_pass_474 : decode cX5_pass 474 = .ok (.if_icmp .le 7, 3) := by decide +kernel
theorem dX5_pass_477 : decode cX5_pass 477 = .ok (.iload 6, 2) := by decide +kernel
theorem dX5_pass_479 : decode cX5_pass 479 = .ok (.istore 5, 2) := by decide +kernel
theorem dX5_pass_481 : decode cX5_pass 481 = .ok (.iinc 6 1, 3) := by decide +kernel
theorem dX5_pass_484 : decode cX5_pass 484 = .ok (.goto (-50), 3) := by decide +kernel
theorem dX5_pass_487 : decode cX5_pass 487 = .ok (.aload_n 3, 1) := by decide +kernel
theorem dX5_pass_488 : decode cX5_pass 488 = .ok (.iload 5, 2) := by decide +kernel
theorem dX5_pass_490 : decode cX5_pass 490 = .ok (.iconst 1, 1) := by decide +kernel
theorem dX5_pass_491 : decode cX5_pass 491 = .ok (.bastore, 1) := by decide +kernel
theorem dX5_pass_492 : decode cX5_pass 492 = .ok (.aload_n 0, 1) := by decide +kernel
theorem dX5_pass_493 : decode cX5_pass 493 = .ok (.getfield 20, 3) := by decide +kernel
theorem dX5_pass_496 : decode cX5_pass 496 = .ok (.iload 5, 2) := by decide +kernel
theorem dX5_pass_498 : decode cX5_pass 498 = .ok (.aaload, 1) := by decide +kernel
theorem dX5_pass_499 : decode cX5_pass 499 = .ok (.iconst 5, 1) := by decide +kernel
theorem dX5_pass_500 : decode cX5_pass 500 = .ok (.iaload, 1) := by decide +kernel
theorem dX5_pass_501 : decode cX5_pass 501 = .ok (.aload_n 0, 1) := by decide +kernel
theorem dX5_pass_502 : decode cX5_pass 502 = .ok (.iload 5, 2) := by decide +kernel
theorem dX5_pass_504 : decode cX5_pass 504 = .ok (.invokevirtual 51, 3) := by decide +kernel
theorem dX5_pass_507 : decode cX5_pass 507 = .ok (.isub, 1) := by decide +kernel
theorem dX5_pass_508 : decode cX5_pass 508 = .ok (.istore 6, 2) := by decide +kernel
theorem dX5_pass_510 : decode cX5_pass 510 = .ok (.iload 6, 2) := by decide +kernel
theorem dX5_pass_512 : decode cX5_pass 512 = .ok (.ifCond .gt 6, 3) := by decide +kernel
theorem dX5_pass_515 : decode cX5_pass 515 = .ok (.goto 67, 3) := by decide +kernel
theorem dX5_pass_518 : decode cX5_pass 518 = .ok (.aload_n 0, 1) := by decide +kernel
theorem dX5_pass_519 : decode cX5_pass 519 = .ok (.getfield 20, 3) := by decide +kernel
theorem dX5_pass_522 : decode cX5_pass 522 = .ok (.iload 5, 2) := by decide +kernel
theorem dX5_pass_524 : decode cX5_pass 524 = .ok (.aaload, 1) := by decide +kernel
theorem dX5_pass_525 : decode cX5_pass 525 = .ok (.iconst 5, 1) := by decide +kernel
theorem dX5_pass_526 : decode cX5_pass 526 = .ok (.dup2, 1) := by decide +kernel
theorem dX5_pass_527 : decode cX5_pass 527 = .ok (.iaload, 1) := by decide +kernel
theorem dX5_pass_528 : decode cX5_pass 528 = .ok (.iload 6, 2) := by decide +kernel
theorem dX5_pass_530 : decode cX5_pass 530 = .ok (.isub, 1) := by decide +kernel
theorem dX5_pass_531 : decode cX5_pass 531 = .ok (.iastore, 1) := by decide +kernel
theorem dX5_pass_532 : decode cX5_pass 532 = .ok (.aload_n 0, 1) := by decide +kernel
theorem dX5_pass_533 : decode cX5_pass 533 = .ok (.getfield 20, 3) := by decide +kernel
theorem dX5_pass_536 : decode cX5_pass 536 = .ok (.iload 5, 2) := by decide +kernel
theorem dX5_pass_538 : decode cX5_pass 538 = .ok (.aaload, 1) := by decide +kernel
theorem dX5_pass_539 : decode cX5_pass 539 = .ok (.bipush 9, 2) := by decide +kernel
theorem dX5_pass_541 : decode cX5_pass 541 = .ok (.dup2, 1) := by decide +kernel
theorem dX5_pass_542 : decode cX5_pass 542 = .ok (.iaload, 1) := by decide +kernel
theorem dX5_pass_543 : decode cX5_pass 543 = .ok (.iload 6, 2) := by decide +kernel
theorem dX5_pass_545 : decode cX5_pass 545 = .ok (.iadd, 1) := by decide +kernel
theorem dX5_pass_546 : decode cX5_pass 546 = .ok (.iastore, 1) := by decide +kernel
theorem dX5_pass_547 : decode cX5_pass 547 = .ok (.aload_n 0, 1) := by decide +kernel
theorem dX5_pass_548 : decode cX5_pass 548 = .ok (.getfield 20, 3) := by decide +kernel
theorem dX5_pass_551 : decode cX5_pass 551 = .ok (.iload 5, 2) := by decide +kernel
theorem dX5_pass_553 : decode cX5_pass 553 = .ok (.aaload, 1) := by decide +kernel
theorem dX5_pass_554 : decode cX5_pass 554 = .ok (.bipush 8, 2) := by decide +kernel
theorem dX5_pass_556 : decode cX5_pass 556 = .ok (.iaload, 1) := by decide +kernel
theorem dX5_pass_557 : decode cX5_pass 557 = .ok (.ifCond .lt 25, 3) := by decide +kernel
theorem dX5_pass_560 : decode cX5_pass 560 = .ok (.aload_n 0, 1) := by decide +kernel
theorem dX5_pass_561 : decode cX5_pass 561 = .ok (.getfield 20, 3) := by decide +kernel
theorem dX5_pass_564 : decode cX5_pass 564 = .ok (.aload_n 0, 1) := by decide +kernel
theorem dX5_pass_565 : decode cX5_pass 565 = .ok (.getfield 20, 3) := by decide +kernel
theorem dX5_pass_568 : decode cX5_pass 568 = .ok (.iload 5, 2) := by decide +kernel
theorem dX5_pass_570 : decode cX5_pass 570 = .ok (.aaload, 1) := by decide +kernel
theorem dX5_pass_571 : decode cX5_pass 571 = .ok (.bipush 8, 2) := by decide +kernel
theorem dX5_pass_573 : decode cX5_pass 573 = .ok (.iaload, 1) := by decide +kernel
theorem dX5_pass_574 : decode cX5_pass 574 = .ok (.aaload, 1) := by decide +kernel
theorem dX5_pass_575 : decode cX5_pass 575 = .ok (.iconst 5, 1) := by decide +kernel
theorem dX5_pass_576 : decode cX5_pass 576 = .ok (.dup2, 1) := by decide +kernel
theorem dX5_pass_577 : decode cX5_pass 577 = .ok (.iaload, 1) := by decide +kernel
theorem dX5_pass_578 : decode cX5_pass 578 = .ok (.iload 6, 2) := by decide +kernel
theorem dX5_pass_580 : decode cX5_pass 580 = .ok (.iadd, 1) := by decide +kernel
theorem dX5_pass_581 : decode cX5_pass 581 = .ok (.iastore, 1) := by decide +kernel
theorem dX5_pass_582 : decode cX5_pass 582 = .ok (.iinc 4 1, 3) := by decide +kernel
theorem dX5_pass_585 : decode cX5_pass 585 = .ok (.goto (-167), 3) := by decide +kernel
theorem dX5_pass_588 : decode cX5_pass 588 = .ok (.aload_n 0, 1) := by decide +kernel
theorem dX5_pass_589 : decode cX5_pass 589 = .ok (.getfield 27, 3) := by decide +kernel
theorem dX5_pass_592 : decode cX5_pass 592 = .ok (.bipush 10, 2) := by decide +kernel
theorem dX5_pass_594 : decode cX5_pass 594 = .ok (.irem, 1) := by decide +kernel
theorem dX5_pass_595 : decode cX5_pass 595 = .ok (.bipush 9, 2) := by decide +kernel
theorem dX5_pass_597 : decode cX5_pass 597 = .ok (.if_icmp .ne 43, 3) := by decide +kernel
theorem dX5_pass_600 : decode cX5_pass 600 = .ok (.aload_n 0, 1) := by decide +kernel
theorem dX5_pass_601 : decode cX5_pass 601 = .ok (.getfield 20, 3) := by decide +kernel
theorem dX5_pass_604 : decode cX5_pass 604 = .ok (.astore 4, 2) := by decide +kernel
theorem dX5_pass_606 : decode cX5_pass 606 = .ok (.aload 4, 2) := by decide +kernel
theorem dX5_pass_608 : decode cX5_pass 608 = .ok (.arraylength, 1) := by decide +kernel
theorem dX5_pass_609 : decode cX5_pass 609 = .ok (.istore 5, 2) := by decide +kernel
theorem dX5_pass_611 : decode cX5_pass 611 = .ok (.iconst 0, 1) := by decide +kernel
theorem dX5_pass_612 : decode cX5_pass 612 = .ok (.istore 6, 2) := by decide +kernel
theorem dX5_pass_614 : decode cX5_pass 614 = .ok (.iload 6, 2) := by decide +kernel
theorem dX5_pass_616 : decode cX5_pass 616 = .ok (.iload 5, 2) := by decide +kernel
theorem dX5_pass_618 : decode cX5_pass 618 = .ok (.if_icmp .ge 22, 3) := by decide +kernel
theorem dX5_pass_621 : decode cX5_pass 621 = .ok (.aload 4, 2) := by decide +kernel
theorem dX5_pass_623 : decode cX5_pass 623 = .ok (.iload 6, 2) := by decide +kernel
theorem dX5_pass_625 : decode cX5_pass 625 = .ok (.aaload, 1) := by decide +kernel
theorem dX5_pass_626 : decode cX5_pass 626 = .ok (.astore 7, 2) := by decide +kernel
theorem dX5_pass_628 : decode cX5_pass 628 = .ok (.aload 7, 2) := by decide +kernel
theorem dX5_pass_630 : decode cX5_pass 630 = .ok (.bipush 7, 2) := by decide +kernel
theorem dX5_pass_632 : decode cX5_pass 632 = .ok (.iconst 0, 1) := by decide +kernel
theorem dX5_pass_633 : decode cX5_pass 633 = .ok (.iastore, 1) := by decide +kernel
theorem dX5_pass_634 : decode cX5_pass 634 = .ok (.iinc 6 1, 3) := by decide +kernel
theorem dX5_pass_637 : decode cX5_pass 637 = .ok (.goto (-23), 3) := by decide +kernel
theorem dX5_pass_640 : decode cX5_pass 640 = .ok (.aload_n 0, 1) := by decide +kernel
theorem dX5_pass_641 : decode cX5_pass 641 = .ok (.dup, 1) := by decide +kernel
theorem dX5_pass_642 : decode cX5_pass 642 = .ok (.getfield 27, 3) := by decide +kernel
theorem dX5_pass_645 : decode cX5_pass 645 = .ok (.iconst 1, 1) := by decide +kernel
theorem dX5_pass_646 : decode cX5_pass 646 = .ok (.iadd, 1) := by decide +kernel
theorem dX5_pass_647 : decode cX5_pass 647 = .ok (.putfield 27, 3) := by decide +kernel
theorem dX5_pass_650 : decode cX5_pass 650 = .ok (.iload_n 2, 1) := by decide +kernel
theorem dX5_pass_651 : decode cX5_pass 651 = .ok (.ireturn, 1) := by decide +kernel
