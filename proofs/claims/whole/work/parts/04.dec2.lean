theorem dX5_init_0 : decode cX5_init 0 = .ok (.aload_n 0, 1) := by decide +kernel
theorem dX5_init_1 : decode cX5_init 1 = .ok (.invokespecial 1, 3) := by decide +kernel
theorem dX5_init_4 : decode cX5_init 4 = .ok (.aload_n 0, 1) := by decide +kernel
theorem dX5_init_5 : decode cX5_init 5 = .ok (.bipush 50, 2) := by decide +kernel
theorem dX5_init_7 : decode cX5_init 7 = .ok (.newarray .int, 2) := by decide +kernel
theorem dX5_init_9 : decode cX5_init 9 = .ok (.putfield 9, 3) := by decide +kernel
theorem dX5_init_12 : decode cX5_init 12 = .ok (.aload_n 0, 1) := by decide +kernel
theorem dX5_init_13 : decode cX5_init 13 = .ok (.bipush 30, 2) := by decide +kernel
theorem dX5_init_15 : decode cX5_init 15 = .ok (.newarray .int, 2) := by decide +kernel
theorem dX5_init_17 : decode cX5_init 17 = .ok (.putfield 13, 3) := by decide +kernel
theorem dX5_init_20 : decode cX5_init 20 = .ok (.aload_n 0, 1) := by decide +kernel
theorem dX5_init_21 : decode cX5_init 21 = .ok (.bipush 50, 2) := by decide +kernel
theorem dX5_init_23 : decode cX5_init 23 = .ok (.newarray .int, 2) := by decide +kernel
theorem dX5_init_25 : decode cX5_init 25 = .ok (.putfield 16, 3) := by decide +kernel
theorem dX5_init_28 : decode cX5_init 28 = .ok (.aload_n 0, 1) := by decide +kernel
theorem dX5_init_29 : decode cX5_init 29 = .ok (.bipush 35, 2) := by decide +kernel
theorem dX5_init_31 : decode cX5_init 31 = .ok (.newarray .int, 2) := by decide +kernel
theorem dX5_init_33 : decode cX5_init 33 = .ok (.putfield 19, 3) := by decide +kernel
theorem dX5_init_36 : decode cX5_init 36 = .ok (.aload_n 0, 1) := by decide +kernel
theorem dX5_init_37 : decode cX5_init 37 = .ok (.iconst 2, 1) := by decide +kernel
theorem dX5_init_38 : decode cX5_init 38 = .ok (.newarray .int, 2) := by decide +kernel
theorem dX5_init_40 : decode cX5_init 40 = .ok (.dup, 1) := by decide +kernel
theorem dX5_init_41 : decode cX5_init 41 = .ok (.iconst 0, 1) := by decide +kernel
theorem dX5_init_42 : decode cX5_init 42 = .ok (.iconst 0, 1) := by decide +kernel
theorem dX5_init_43 : decode cX5_init 43 = .ok (.iastore, 1) := by decide +kernel
theorem dX5_init_44 : decode cX5_init 44 = .ok (.dup, 1) := by decide +kernel
theorem dX5_init_45 : decode cX5_init 45 = .ok (.iconst 1, 1) := by decide +kernel
theorem dX5_init_46 : decode cX5_init 46 = .ok (.bipush 100, 2) := by decide +kernel
theorem dX5_init_48 : decode cX5_init 48 = .ok (.iastore, 1) := by decide +kernel
theorem dX5_init_49 : decode cX5_init 49 = .ok (.putfield 22, 3) := by decide +kernel
theorem dX5_init_52 : decode cX5_init 52 = .ok (.return_, 1) := by decide +kernel
theorem dX5_thrown_0 : decode cX5_thrown 0 = .ok (.aload_n 0, 1) := by decide +kernel
theorem dX5_thrown_1 : decode cX5_thrown 1 = .ok (.getfield 25, 3) := by decide +kernel
theorem dX5_thrown_4 : decode cX5_thrown 4 = .ok (.ireturn, 1) := by decide +kernel
theorem dX5_fail_0 : decode cX5_fail 0 = .ok (.aload_n 0, 1) := by decide +kernel
theorem dX5_fail_1 : decode cX5_fail 1 = .ok (.iload_n 1, 1) := by decide +kernel
theorem dX5_fail_2 : decode cX5_fail 2 = .ok (.putfield 25, 3) := by decide +kernel
theorem dX5_fail_5 : decode cX5_fail 5 = .ok (.iconst 0, 1) := by decide +kernel
theorem dX5_fail_6 : decode cX5_fail 6 = .ok (.ireturn, 1) := by decide +kernel
theorem dX5_isIn_0 : decode cX5_isIn 0 = .ok (.iload_n 0, 1) := by decide +kernel
theorem dX5_isIn_1 : decode cX5_isIn 1 = .ok (.iload_n 1, 1) := by decide +kernel
theorem dX5_isIn_2 : decode cX5_isIn 2 = .ok (.if_icmp .lt 12, 3) := by decide +kernel
theorem dX5_isIn_5 : decode cX5_isIn 5 = .ok (.iload_n 0, 1) := by decide +kernel
theorem dX5_isIn_6 : decode cX5_isIn 6 = .ok (.iload_n 2, 1) := by decide +kernel
theorem dX5_isIn_7 : decode cX5_isIn 7 = .ok (.if_icmp .gt 7, 3) := by decide +kernel
theorem dX5_isIn_10 : decode cX5_isIn 10 = .ok (.iconst 1, 1) := by decide +kernel
theorem dX5_isIn_11 : decode cX5_isIn 11 = .ok (.goto 4, 3) := by decide +kernel
theorem dX5_isIn_14 : decode cX5_isIn 14 = .ok (.iconst 0, 1) := by decide +kernel
theorem dX5_isIn_15 : decode cX5_isIn 15 = .ok (.ireturn, 1) := by decide +kernel
theorem dX5_isPond_0 : decode cX5_isPond 0 = .ok (.iload_n 1, 1) := by decide +kernel
theorem dX5_isPond_1 : decode cX5_isPond 1 = .ok (.iconst 0, 1) := by decide +kernel
theorem dX5_isPond_2 : decode cX5_isPond 2 = .ok (.aload_n 0, 1) := by decide +kernel
theorem dX5_isPond_3 : decode cX5_isPond 3 = .ok (.getfield 29, 3) := by decide +kernel
theorem dX5_isPond_6 : decode cX5_isPond 6 = .ok (.iconst 1, 1) := by decide +kernel
theorem dX5_isPond_7 : decode cX5_isPond 7 = .ok (.isub, 1) := by decide +kernel
theorem dX5_isPond_8 : decode cX5_isPond 8 = .ok (.invokestatic 32, 3) := by decide +kernel
theorem dX5_isPond_11 : decode cX5_isPond 11 = .ok (.ireturn, 1) := by decide +kernel
theorem dX5_isFlock_0 : decode cX5_isFlock 0 = .ok (.iload_n 1, 1) := by decide +kernel
theorem dX5_isFlock_1 : decode cX5_isFlock 1 = .ok (.iconst 0, 1) := by decide +kernel
theorem dX5_isFlock_2 : decode cX5_isFlock 2 = .ok (.aload_n 0, 1) := by decide +kernel
theorem dX5_isFlock_3 : decode cX5_isFlock 3 = .ok (.getfield 36, 3) := by decide +kernel
theorem dX5_isFlock_6 : decode cX5_isFlock 6 = .ok (.iconst 1, 1) := by decide +kernel
theorem dX5_isFlock_7 : decode cX5_isFlock 7 = .ok (.isub, 1) := by decide +kernel
theorem dX5_isFlock_8 : decode cX5_isFlock 8 = .ok (.invokestatic 32, 3) := by decide +kernel
theorem dX5_isFlock_11 : decode cX5_isFlock 11 = .ok (.ireturn, 1) := by decide +kernel
theorem dX5_fx_0 : decode cX5_fx 0 = .ok (.aload_n 0, 1) := by decide +kernel
theorem dX5_fx_1 : decode cX5_fx 1 = .ok (.getfield 9, 3) := by decide +kernel
theorem dX5_fx_4 : decode cX5_fx 4 = .ok (.iconst 5, 1) := by decide +kernel
theorem dX5_fx_5 : decode cX5_fx 5 = .ok (.iload_n 1, 1) := by decide +kernel
theorem dX5_fx_6 : decode cX5_fx 6 = .ok (.imul, 1) := by decide +kernel
theorem dX5_fx_7 : decode cX5_fx 7 = .ok (.iload_n 2, 1) := by decide +kernel
theorem dX5_fx_8 : decode cX5_fx 8 = .ok (.iadd, 1) := by decide +kernel
theorem dX5_fx_9 : decode cX5_fx 9 = .ok (.iaload, 1) := by decide +kernel
theorem dX5_fx_10 : decode cX5_fx 10 = .ok (.ireturn, 1) := by decide +kernel
theorem dX5_po_0 : decode cX5_po 0 = .ok (.aload_n 0, 1) := by decide +kernel
theorem dX5_po_1 : decode cX5_po 1 = .ok (.getfield 16, 3) := by decide +kernel
theorem dX5_po_4 : decode cX5_po 4 = .ok (.iconst 5, 1) := by decide +kernel
theorem dX5_po_5 : decode cX5_po 5 = .ok (.iload_n 1, 1) := by decide +kernel
theorem dX5_po_6 : decode cX5_po 6 = .ok (.imul, 1) := by decide +kernel
theorem dX5_po_7 : decode cX5_po 7 = .ok (.iload_n 2, 1) := by decide +kernel
theorem dX5_po_8 : decode cX5_po 8 = .ok (.iadd, 1) := by decide +kernel
theorem dX5_po_9 : decode cX5_po 9 = .ok (.iaload, 1) := by decide +kernel
theorem dX5_po_10 : decode cX5_po 10 = .ok (.ireturn, 1) := by decide +kernel
theorem dX5_set_0 : decode cX5_set 0 = .ok (.aload_n 0, 1) := by decide +kernel
theorem dX5_set_1 : decode cX5_set 1 = .ok (.getfield 16, 3) := by decide +kernel
theorem dX5_set_4 : decode cX5_set 4 = .ok (.iconst 5, 1) := by decide +kernel
theorem dX5_set_5 : decode cX5_set 5 = .ok (.iload_n 1, 1) := by decide +kernel
theorem dX5_set_6 : decode cX5_set 6 = .ok (.imul, 1) := by decide +kernel
theorem dX5_set_7 : decode cX5_set 7 = .ok (.iload_n 2, 1) := by decide +kernel
theorem dX5_set_8 : decode cX5_set 8 = .ok (.iadd, 1) := by decide +kernel
theorem dX5_set_9 : decode cX5_set 9 = .ok (.iload_n 3, 1) := by decide +kernel
theorem dX5_set_10 : decode cX5_set 10 = .ok (.iastore, 1) := by decide +kernel
theorem dX5_set_11 : decode cX5_set 11 = .ok (.return_, 1) := by decide +kernel
theorem dX5_fl_0 : decode cX5_fl 0 = .ok (.aload_n 0, 1) := by decide +kernel
theorem dX5_fl_1 : decode cX5_fl 1 = .ok (.getfield 19, 3) := by decide +kernel
theorem dX5_fl_4 : decode cX5_fl 4 = .ok (.iconst 5, 1) := by decide +kernel
theorem dX5_fl_5 : decode cX5_fl 5 = .ok (.iload_n 1, 1) := by decide +kernel
theorem dX5_fl_6 : decode cX5_fl 6 = .ok (.imul, 1) := by decide +kernel
theorem dX5_fl_7 : decode cX5_fl 7 = .ok (.iload_n 2, 1) := by decide +kernel
theorem dX5_fl_8 : decode cX5_fl 8 = .ok (.iadd, 1) := by decide +kernel
theorem dX5_fl_9 : decode cX5_fl 9 = .ok (.iaload, 1) := by decide +kernel
theorem dX5_fl_10 : decode cX5_fl 10 = .ok (.ireturn, 1) := by decide +kernel
theorem dX5_setFl_0 : decode cX5_setFl 0 = .ok (.aload_n 0, 1) := by decide +kernel
theorem dX5_setFl_1 : decode cX5_setFl 1 = .ok (.getfield 19, 3) := by decide +kernel
theorem dX5_setFl_4 : decode cX5_setFl 4 = .ok (.iconst 5, 1) := by decide +kernel
theorem dX5_setFl_5 : decode cX5_setFl 5 = .ok (.iload_n 1, 1) := by decide +kernel
theorem dX5_setFl_6 : decode cX5_setFl 6 = .ok (.imul, 1) := by decide +kernel
theorem dX5_setFl_7 : decode cX5_setFl 7 = .ok (.iload_n 2, 1) := by decide +kernel
theorem dX5_setFl_8 : decode cX5_setFl 8 = .ok (.iadd, 1) := by decide +kernel
theorem dX5_setFl_9 : decode cX5_setFl 9 = .ok (.iload_n 3, 1) := by decide +kernel
theorem dX5_setFl_10 : decode cX5_setFl 10 = .ok (.iastore, 1) := by decide +kernel
theorem dX5_setFl_11 : decode cX5_setFl 11 = .ok (.return_, 1) := by decide +kernel
theorem dX5_holds_0 : decode cX5_holds 0 = .ok (.aload_n 0, 1) := by decide +kernel
theorem dX5_holds_1 : decode cX5_holds 1 = .ok (.iload_n 1, 1) := by decide +kernel
theorem dX5_holds_2 : decode cX5_holds 2 = .ok (.iconst 3, 1) := by decide +kernel
theorem dX5_holds_3 : decode cX5_holds 3 = .ok (.invokevirtual 39, 3) := by decide +kernel
theorem dX5_holds_6 : decode cX5_holds 6 = .ok (.aload_n 0, 1) := by decide +kernel
theorem dX5_holds_7 : decode cX5_holds 7 = .ok (.iload_n 1, 1) := by decide +kernel
theorem dX5_holds_8 : decode cX5_holds 8 = .ok (.iconst 4, 1) := by decide +kernel
theorem dX5_holds_9 : decode cX5_holds 9 = .ok (.invokevirtual 39, 3) := by decide +kernel
theorem dX5_holds_12 : decode cX5_holds 12 = .ok (.imul, 1) := by decide +kernel
theorem dX5_holds_13 : decode cX5_holds 13 = .ok (.bipush 10, 2) := by decide +kernel
theorem dX5_holds_15 : decode cX5_holds 15 = .ok (.imul, 1) := by decide +kernel
theorem dX5_holds_16 : decode cX5_holds 16 = .ok (.ireturn, 1) := by decide +kernel
theorem dX5_far_0 : decode cX5_far 0 = .ok (.aload_n 0, 1) := by decide +kernel
theorem dX5_far_1 : decode cX5_far 1 = .ok (.iload_n 1, 1) := by decide +kernel
theorem dX5_far_2 : decode cX5_far 2 = .ok (.iconst 0, 1) := by decide +kernel
theorem dX5_far_3 : decode cX5_far 3 = .ok (.invokevirtual 39, 3) := by decide +kernel
theorem dX5_far_6 : decode cX5_far 6 = .ok (.aload_n 0, 1) := by decide +kernel
theorem dX5_far_7 : decode cX5_far 7 = .ok (.iload_n 2, 1) := by decide +kernel
theorem dX5_far_8 : decode cX5_far 8 = .ok (.iconst 0, 1) := by decide +kernel
theorem dX5_far_9 : decode cX5_far 9 = .ok (.invokevirtual 39, 3) := by decide +kernel
theorem dX5_far_12 : decode cX5_far 12 = .ok (.isub, 1) := by decide +kernel
theorem dX5_far_13 : decode cX5_far 13 = .ok (.invokestatic 43, 3) := by decide +kernel
theorem dX5_far_16 : decode cX5_far 16 = .ok (.aload_n 0, 1) := by decide +kernel
theorem dX5_far_17 : decode cX5_far 17 = .ok (.iload_n 1, 1) := by decide +kernel
theorem dX5_far_18 : decode cX5_far 18 = .ok (.iconst 1, 1) := by decide +kernel
theorem dX5_far_19 : decode cX5_far 19 = .ok (.invokevirtual 39, 3) := by decide +kernel
theorem dX5_far_22 : decode cX5_far 22 = .ok (.aload_n 0, 1) := by decide +kernel
theorem dX5_far_23 : decode cX5_far 23 = .ok (.iload_n 2, 1) := by decide +kernel
theorem dX5_far_24 : decode cX5_far 24 = .ok (.iconst 1, 1) := by decide +kernel
theorem dX5_far_25 : decode cX5_far 25 = .ok (.invokevirtual 39, 3) := by decide +kernel
theorem dX5_far_28 : decode cX5_far 28 = .ok (.isub, 1) := by decide +kernel
theorem dX5_far_29 : decode cX5_far 29 = .ok (.invokestatic 43, 3) := by decide +kernel
theorem dX5_far_32 : decode cX5_far 32 = .ok (.iadd, 1) := by decide +kernel
theorem dX5_far_33 : decode cX5_far 33 = .ok (.ireturn, 1) := by decide +kernel
theorem dX5_dig_0 : decode cX5_dig 0 = .ok (.aload_n 0, 1) := by decide +kernel
theorem dX5_dig_1 : decode cX5_dig 1 = .ok (.iconst 0, 1) := by decide +kernel
theorem dX5_dig_2 : decode cX5_dig 2 = .ok (.putfield 25, 3) := by decide +kernel
theorem dX5_dig_5 : decode cX5_dig 5 = .ok (.iload_n 1, 1) := by decide +kernel
theorem dX5_dig_6 : decode cX5_dig 6 = .ok (.iconst 0, 1) := by decide +kernel
theorem dX5_dig_7 : decode cX5_dig 7 = .ok (.bipush 40, 2) := by decide +kernel
theorem dX5_dig_9 : decode cX5_dig 9 = .ok (.invokestatic 32, 3) := by decide +kernel
theorem dX5_dig_12 : decode cX5_dig 12 = .ok (.ifCond .eq 46, 3) := by decide +kernel
theorem dX5_dig_15 : decode cX5_dig 15 = .ok (.iload_n 2, 1) := by decide +kernel
theorem dX5_dig_16 : decode cX5_dig 16 = .ok (.iconst 0, 1) := by decide +kernel
theorem dX5_dig_17 : decode cX5_dig 17 = .ok (.bipush 40, 2) := by decide +kernel
theorem dX5_dig_19 : decode cX5_dig 19 = .ok (.invokestatic 32, 3) := by decide +kernel
theorem dX5_dig_22 : decode cX5_dig 22 = .ok (.ifCond .eq 36, 3) := by decide +kernel
theorem dX5_dig_25 : decode cX5_dig 25 = .ok (.iload_n 3, 1) := by decide +kernel
theorem dX5_dig_26 : decode cX5_dig 26 = .ok (.iconst 0, 1) := by decide +kernel
theorem dX5_dig_27 : decode cX5_dig 27 = .ok (.sipush 300, 3) := by decide +kernel
theorem dX5_dig_30 : decode cX5_dig 30 = .ok (.invokestatic 32, 3) := by decide +kernel
theorem dX5_dig_33 : decode cX5_dig 33 = .ok (.ifCond .eq 25, 3) := by decide +kernel
theorem dX5_dig_36 : decode cX5_dig 36 = .ok (.iload 4, 2) := by decide +kernel
theorem dX5_dig_38 : decode cX5_dig 38 = .ok (.iconst 1, 1) := by decide +kernel
theorem dX5_dig_39 : decode cX5_dig 39 = .ok (.bipush 60, 2) := by decide +kernel
theorem dX5_dig_41 : decode cX5_dig 41 = .ok (.invokestatic 32, 3) := by decide +kernel
theorem dX5_dig_44 : decode cX5_dig 44 = .ok (.ifCond .eq 14, 3) := by decide +kernel
theorem dX5_dig_47 : decode cX5_dig 47 = .ok (.iload 5, 2) := by decide +kernel
theorem dX5_dig_49 : decode cX5_dig 49 = .ok (.iconst 1, 1) := by decide +kernel
theorem dX5_dig_50 : decode cX5_dig 50 = .ok (.bipush 9, 2) := by decide +kernel
theorem dX5_dig_52 : decode cX5_dig 52 = .ok (.invokestatic 32, 3) := by decide +kernel
theorem dX5_dig_55 : decode cX5_dig 55 = .ok (.ifCond .ne 9, 3) := by decide +kernel
theorem dX5_dig_58 : decode cX5_dig 58 = .ok (.aload_n 0, 1) := by decide +kernel
theorem dX5_dig_59 : decode cX5_dig 59 = .ok (.iconst 1, 1) := by decide +kernel
theorem dX5_dig_60 : decode cX5_dig 60 = .ok (.invokevirtual 49, 3) := by decide +kernel
theorem dX5_dig_63 : decode cX5_dig 63 = .ok (.ireturn, 1) := by decide +kernel
theorem dX5_dig_64 : decode cX5_dig 64 = .ok (.aload_n 0, 1) := by decide +kernel
theorem dX5_dig_65 : decode cX5_dig 65 = .ok (.getfield 29, 3) := by decide +kernel
theorem dX5_dig_68 : decode cX5_dig 68 = .ok (.bipush 10, 2) := by decide +kernel
theorem dX5_dig_70 : decode cX5_dig 70 = .ok (.if_icmp .ge 7, 3) := by decide +kernel
theorem dX5_dig_73 : decode cX5_dig 73 = .ok (.iconst 1, 1) := by decide +kernel
theorem dX5_dig_74 : decode cX5_dig 74 = .ok (.goto 4, 3) := by decide +kernel
theorem dX5_dig_77 : decode cX5_dig 77 = .ok (.iconst 0, 1) := by decide +kernel
theorem dX5_dig_78 : decode cX5_dig 78 = .ok (.istore 6, 2) := by decide +kernel
theorem dX5_dig_80 : decode cX5_dig 80 = .ok (.iconst 0, 1) := by decide +kernel
theorem dX5_dig_81 : decode cX5_dig 81 = .ok (.istore 7, 2) := by decide +kernel
theorem dX5_dig_83 : decode cX5_dig 83 = .ok (.iload 7, 2) := by decide +kernel
theorem dX5_dig_85 : decode cX5_dig 85 = .ok (.aload_n 0, 1) := by decide +kernel
theorem dX5_dig_86 : decode cX5_dig 86 = .ok (.getfield 29, 3) := by decide +kernel
theorem dX5_dig_89 : decode cX5_dig 89 = .ok (.if_icmp .ge 43, 3) := by decide +kernel
theorem dX5_dig_92 : decode cX5_dig 92 = .ok (.iload 6, 2) := by decide +kernel
theorem dX5_dig_94 : decode cX5_dig 94 = .ok (.ifCond .eq 29, 3) := by decide +kernel
theorem dX5_dig_97 : decode cX5_dig 97 = .ok (.aload_n 0, 1) := by decide +kernel
theorem dX5_dig_98 : decode cX5_dig 98 = .ok (.iload 7, 2) := by decide +kernel
theorem dX5_dig_100 : decode cX5_dig 100 = .ok (.iconst 0, 1) := by decide +kernel
theorem dX5_dig_101 : decode cX5_dig 101 = .ok (.invokevirtual 39, 3) := by decide +kernel
theorem dX5_dig_104 : decode cX5_dig 104 = .ok (.iload_n 1, 1) := by decide +kernel
theorem dX5_dig_105 : decode cX5_dig 105 = .ok (.if_icmp .ne 14, 3) := by decide +kernel
theorem dX5_dig_108 : decode cX5_dig 108 = .ok (.aload_n 0, 1) := by decide +kernel
theorem dX5_dig_109 : decode cX5_dig 109 = .ok (.iload 7, 2) := by decide +kernel
theorem dX5_dig_111 : decode cX5_dig 111 = .ok (.iconst 1, 1) := by decide +kernel
theorem dX5_dig_112 : decode cX5_dig 112 = .ok (.invokevirtual 39, 3) := by decide +kernel
theorem dX5_dig_115 : decode cX5_dig 115 = .ok (.iload_n 2, 1) := by decide +kernel
theorem dX5_dig_116 : decode cX5_dig 116 = .ok (.if_icmp .eq 7, 3) := by decide +kernel
theorem dX5_dig_119 : decode cX5_dig 119 = .ok (.iconst 1, 1) := by decide +kernel
theorem dX5_dig_120 : decode cX5_dig 120 = .ok (.goto 4, 3) := by decide +kernel
theorem dX5_dig_123 : decode cX5_dig 123 = .ok (.iconst 0, 1) := by decide +kernel
theorem dX5_dig_124 : decode cX5_dig 124 = .ok (.istore 6, 2) := by decide +kernel
theorem dX5_dig_126 : decode cX5_dig 126 = .ok (.iinc 7 1, 3) := by decide +kernel
theorem dX5_dig_129 : decode cX5_dig 129 = .ok (.goto (-46), 3) := by decide +kernel
theorem dX5_dig_132 : decode cX5_dig 132 = .ok (.iload 6, 2) := by decide +kernel
theorem dX5_dig_134 : decode cX5_dig 134 = .ok (.ifCond .ne 9, 3) := by decide +kernel
theorem dX5_dig_137 : decode cX5_dig 137 = .ok (.aload_n 0, 1) := by decide +kernel
theorem dX5_dig_138 : decode cX5_dig 138 = .ok (.iconst 2, 1) := by decide +kernel
theorem dX5_dig_139 : decode cX5_dig 139 = .ok (.invokevirtual 49, 3) := by decide +kernel
theorem dX5_dig_142 : decode cX5_dig 142 = .ok (.ireturn, 1) := by decide +kernel
theorem dX5_dig_143 : decode cX5_dig 143 = .ok (.iconst 5, 1) := by decide +kernel
theorem dX5_dig_144 : decode cX5_dig 144 = .ok (.newarray .int, 2) := by decide +kernel
theorem dX5_dig_146 : decode cX5_dig 146 = .ok (.dup, 1) := by decide +kernel
theorem dX5_dig_147 : decode cX5_dig 147 = .ok (.iconst 0, 1) := by decide +kernel
theorem dX5_dig_148 : decode cX5_dig 148 = .ok (.iload_n 1, 1) := by decide +kernel
theorem dX5_dig_149 : decode cX5_dig 149 = .ok (.iastore, 1) := by decide +kernel
theorem dX5_dig_150 : decode cX5_dig 150 = .ok (.dup, 1) := by decide +kernel
theorem dX5_dig_151 : decode cX5_dig 151 = .ok (.iconst 1, 1) := by decide +kernel
theorem dX5_dig_152 : decode cX5_dig 152 = .ok (.iload_n 2, 1) := by decide +kernel
theorem dX5_dig_153 : decode cX5_dig 153 = .ok (.iastore, 1) := by decide +kernel
theorem dX5_dig_154 : decode cX5_dig 154 = .ok (.dup, 1) := by decide +kernel
theorem dX5_dig_155 : decode cX5_dig 155 = .ok (.iconst 2, 1) := by decide +kernel
theorem dX5_dig_156 : decode cX5_dig 156 = .ok (.iload_n 3, 1) := by decide +kernel
theorem dX5_dig_157 : decode cX5_dig 157 = .ok (.iastore, 1) := by decide +kernel
theorem dX5_dig_158 : decode cX5_dig 158 = .ok (.dup, 1) := by decide +kernel
theorem dX5_dig_159 : decode cX5_dig 159 = .ok (.iconst 3, 1) := by decide +kernel
theorem dX5_dig_160 : decode cX5_dig 160 = .ok (.iload 4, 2) := by decide +kernel
theorem dX5_dig_162 : decode cX5_dig 162 = .ok (.iastore, 1) := by decide +kernel
theorem dX5_dig_163 : decode cX5_dig 163 = .ok (.dup, 1) := by decide +kernel
theorem dX5_dig_164 : decode cX5_dig 164 = .ok (.iconst 4, 1) := by decide +kernel
theorem dX5_dig_165 : decode cX5_dig 165 = .ok (.iload 5, 2) := by decide +kernel
theorem dX5_dig_167 : decode cX5_dig 167 = .ok (.iastore, 1) := by decide +kernel
theorem dX5_dig_168 : decode cX5_dig 168 = .ok (.astore 7, 2) := by decide +kernel
theorem dX5_dig_170 : decode cX5_dig 170 = .ok (.aload 7, 2) := by decide +kernel
theorem dX5_dig_172 : decode cX5_dig 172 = .ok (.iconst 0, 1) := by decide +kernel
theorem dX5_dig_173 : decode cX5_dig 173 = .ok (.aload_n 0, 1) := by decide +kernel
theorem dX5_dig_174 : decode cX5_dig 174 = .ok (.getfield 9, 3) := by decide +kernel
theorem dX5_dig_177 : decode cX5_dig 177 = .ok (.iconst 5, 1) := by decide +kernel
theorem dX5_dig_178 : decode cX5_dig 178 = .ok (.aload_n 0, 1) := by decide +kernel
theorem dX5_dig_179 : decode cX5_dig 179 = .ok (.getfield 29, 3) := by decide +kernel
theorem dX5_dig_182 : decode cX5_dig 182 = .ok (.imul, 1) := by decide +kernel
theorem dX5_dig_183 : decode cX5_dig 183 = .ok (.iconst 5, 1) := by decide +kernel
theorem dX5_dig_184 : decode cX5_dig 184 = .ok (.invokestatic 52, 3) := by decide +kernel
theorem dX5_dig_187 : decode cX5_dig 187 = .ok (.aload_n 0, 1) := by decide +kernel
theorem dX5_dig_188 : decode cX5_dig 188 = .ok (.aload_n 0, 1) := by decide +kernel
theorem dX5_dig_189 : decode cX5_dig 189 = .ok (.getfield 29, 3) := by decide +kernel
theorem dX5_dig_192 : decode cX5_dig 192 = .ok (.iconst 3, 1) := by decide +kernel
theorem dX5_dig_193 : decode cX5_dig 193 = .ok (.iconst (-1), 1) := by decide +kernel
theorem dX5_dig_194 : decode cX5_dig 194 = .ok (.invokevirtual 58, 3) := by decide +kernel
theorem dX5_dig_197 : decode cX5_dig 197 = .ok (.aload_n 0, 1) := by decide +kernel
theorem dX5_dig_198 : decode cX5_dig 198 = .ok (.dup, 1) := by decide +kernel
theorem dX5_dig_199 : decode cX5_dig 199 = .ok (.getfield 29, 3) := by decide +kernel
theorem dX5_dig_202 : decode cX5_dig 202 = .ok (.iconst 1, 1) := by decide +kernel
theorem dX5_dig_203 : decode cX5_dig 203 = .ok (.iadd, 1) := by decide +kernel
theorem dX5_dig_204 : decode cX5_dig 204 = .ok (.putfield 29, 3) := by decide +kernel
theorem dX5_dig_207 : decode cX5_dig 207 = .ok (.aload_n 0, 1) := by decide +kernel
theorem dX5_dig_208 : decode cX5_dig 208 = .ok (.getfield 29, 3) := by decide +kernel
theorem dX5_dig_211 : decode cX5_dig 211 = .ok (.iconst 1, 1) := by decide +kernel
theorem dX5_dig_212 : decode cX5_dig 212 = .ok (.isub, 1) := by decide +kernel
theorem dX5_dig_213 : decode cX5_dig 213 = .ok (.ireturn, 1) := by decide +kernel
theorem dX5_link_0 : decode cX5_link 0 = .ok (.aload_n 0, 1) := by decide +kernel
theorem dX5_link_1 : decode cX5_link 1 = .ok (.iconst 0, 1) := by decide +kernel
theorem dX5_link_2 : decode cX5_link 2 = .ok (.putfield 25, 3) := by decide +kernel
theorem dX5_link_5 : decode cX5_link 5 = .ok (.aload_n 0, 1) := by decide +kernel
theorem dX5_link_6 : decode cX5_link 6 = .ok (.iload_n 1, 1) := by decide +kernel
theorem dX5_link_7 : decode cX5_link 7 = .ok (.invokevirtual 62, 3) := by decide +kernel
theorem dX5_link_10 : decode cX5_link 10 = .ok (.ifCond .eq 16, 3) := by decide +kernel
theorem dX5_link_13 : decode cX5_link 13 = .ok (.iload_n 2, 1) := by decide +kernel
theorem dX5_link_14 : decode cX5_link 14 = .ok (.iconst (-1), 1) := by decide +kernel
theorem dX5_link_15 : decode cX5_link 15 = .ok (.if_icmp .eq 17, 3) := by decide +kernel
theorem dX5_link_18 : decode cX5_link 18 = .ok (.aload_n 0, 1) := by decide +kernel
theorem dX5_link_19 : decode cX5_link 19 = .ok (.iload_n 2, 1) := by decide +kernel
theorem dX5_link_20 : decode cX5_link 20 = .ok (.invokevirtual 62, 3) := by decide +kernel
theorem dX5_link_23 : decode cX5_link 23 = .ok (.ifCond .ne 9, 3) := by decide +kernel
theorem dX5_link_26 : decode cX5_link 26 = .ok (.aload_n 0, 1) := by decide +kernel
theorem dX5_link_27 : decode cX5_link 27 = .ok (.iconst 1, 1) := by decide +kernel
theorem dX5_link_28 : decode cX5_link 28 = .ok (.invokevirtual 49, 3) := by decide +kernel
theorem dX5_link_31 : decode cX5_link 31 = .ok (.ireturn, 1) := by decide +kernel
theorem dX5_link_32 : decode cX5_link 32 = .ok (.iload_n 2, 1) := by decide +kernel
theorem dX5_link_33 : decode cX5_link 33 = .ok (.iconst (-1), 1) := by decide +kernel
theorem dX5_link_34 : decode cX5_link 34 = .ok (.if_icmp .eq 24, 3) := by decide +kernel
theorem dX5_link_37 : decode cX5_link 37 = .ok (.aload_n 0, 1) := by decide +kernel
theorem dX5_link_38 : decode cX5_link 38 = .ok (.iload_n 2, 1) := by decide +kernel
theorem dX5_link_39 : decode cX5_link 39 = .ok (.iconst 2, 1) := by decide +kernel
theorem dX5_link_40 : decode cX5_link 40 = .ok (.invokevirtual 39, 3) := by decide +kernel
theorem dX5_link_43 : decode cX5_link 43 = .ok (.aload_n 0, 1) := by decide +kernel
theorem dX5_link_44 : decode cX5_link 44 = .ok (.iload_n 1, 1) := by decide +kernel
theorem dX5_link_45 : decode cX5_link 45 = .ok (.iconst 2, 1) := by decide +kernel
theorem dX5_link_46 : decode cX5_link 46 = .ok (.invokevirtual 39, 3) := by decide +kernel
theorem dX5_link_49 : decode cX5_link 49 = .ok (.if_icmp .lt 9, 3) := by decide +kernel
theorem dX5_link_52 : decode cX5_link 52 = .ok (.aload_n 0, 1) := by decide +kernel
theorem dX5_link_53 : decode cX5_link 53 = .ok (.iconst 2, 1) := by decide +kernel
theorem dX5_link_54 : decode cX5_link 54 = .ok (.invokevirtual 49, 3) := by decide +kernel
theorem dX5_link_57 : decode cX5_link 57 = .ok (.ireturn, 1) := by decide +kernel
theorem dX5_link_58 : decode cX5_link 58 = .ok (.aload_n 0, 1) := by decide +kernel
theorem dX5_link_59 : decode cX5_link 59 = .ok (.iload_n 1, 1) := by decide +kernel
theorem dX5_link_60 : decode cX5_link 60 = .ok (.iconst 3, 1) := by decide +kernel
theorem dX5_link_61 : decode cX5_link 61 = .ok (.invokevirtual 66, 3) := by decide +kernel
theorem dX5_link_64 : decode cX5_link 64 = .ok (.istore_n 3, 1) := by decide +kernel
theorem dX5_link_65 : decode cX5_link 65 = .ok (.aload_n 0, 1) := by decide +kernel
theorem dX5_link_66 : decode cX5_link 66 = .ok (.iload_n 1, 1) := by decide +kernel
theorem dX5_link_67 : decode cX5_link 67 = .ok (.iconst 3, 1) := by decide +kernel
theorem dX5_link_68 : decode cX5_link 68 = .ok (.iload_n 2, 1) := by decide +kernel
theorem dX5_link_69 : decode cX5_link 69 = .ok (.invokevirtual 58, 3) := by decide +kernel
theorem dX5_link_72 : decode cX5_link 72 = .ok (.iload_n 3, 1) := by decide +kernel
theorem dX5_link_73 : decode cX5_link 73 = .ok (.ireturn, 1) := by decide +kernel
theorem dX5_isLow_0 : decode cX5_isLow 0 = .ok (.aload_n 0, 1) := by decide +kernel
theorem dX5_isLow_1 : decode cX5_isLow 1 = .ok (.iload_n 1, 1) := by decide +kernel
theorem dX5_isLow_2 : decode cX5_isLow 2 = .ok (.iconst 0, 1) := by decide +kernel
theorem dX5_isLow_3 : decode cX5_isLow 3 = .ok (.invokevirtual 66, 3) := by decide +kernel
theorem dX5_isLow_6 : decode cX5_isLow 6 = .ok (.aload_n 0, 1) := by decide +kernel
theorem dX5_isLow_7 : decode cX5_isLow 7 = .ok (.iload_n 1, 1) := by decide +kernel
theorem dX5_isLow_8 : decode cX5_isLow 8 = .ok (.invokevirtual 69, 3) := by decide +kernel
theorem dX5_isLow_11 : decode cX5_isLow 11 = .ok (.iconst 4, 1) := by decide +kernel
theorem dX5_isLow_12 : decode cX5_isLow 12 = .ok (.idiv, 1) := by decide +kernel
theorem dX5_isLow_13 : decode cX5_isLow 13 = .ok (.if_icmp .gt 7, 3) := by decide +kernel
theorem dX5_isLow_16 : decode cX5_isLow 16 = .ok (.iconst 1, 1) := by decide +kernel
theorem dX5_isLow_17 : decode cX5_isLow 17 = .ok (.goto 4, 3) := by decide +kernel
theorem dX5_isLow_20 : decode cX5_isLow 20 = .ok (.iconst 0, 1) := by decide +kernel
theorem dX5_isLow_21 : decode cX5_isLow 21 = .ok (.ireturn, 1) := by decide +kernel
theorem dX5_use_0 : decode cX5_use 0 = .ok (.iload_n 2, 1) := by decide +kernel
theorem dX5_use_1 : decode cX5_use 1 = .ok (.bipush 100, 2) := by decide +kernel
theorem dX5_use_3 : decode cX5_use 3 = .ok (.aload_n 0, 1) := by decide +kernel
theorem dX5_use_4 : decode cX5_use 4 = .ok (.iload_n 1, 1) := by decide +kernel
theorem dX5_use_5 : decode cX5_use 5 = .ok (.iconst 1, 1) := by decide +kernel
theorem dX5_use_6 : decode cX5_use 6 = .ok (.invokevirtual 66, 3) := by decide +kernel
theorem dX5_use_9 : decode cX5_use 9 = .ok (.isub, 1) := by decide +kernel
theorem dX5_use_10 : decode cX5_use 10 = .ok (.aload_n 0, 1) := by decide +kernel
theorem dX5_use_11 : decode cX5_use 11 = .ok (.getfield 22, 3) := by decide +kernel
theorem dX5_use_14 : decode cX5_use 14 = .ok (.iconst 1, 1) := by decide +kernel
theorem dX5_use_15 : decode cX5_use 15 = .ok (.iaload, 1) := by decide +kernel
theorem dX5_use_16 : decode cX5_use 16 = .ok (.invokestatic 72, 3) := by decide +kernel
theorem dX5_use_19 : decode cX5_use 19 = .ok (.invokestatic 72, 3) := by decide +kernel
theorem dX5_use_22 : decode cX5_use 22 = .ok (.istore_n 3, 1) := by decide +kernel
theorem dX5_use_23 : decode cX5_use 23 = .ok (.aload_n 0, 1) := by decide +kernel
theorem dX5_use_24 : decode cX5_use 24 = .ok (.iload_n 1, 1) := by decide +kernel
theorem dX5_use_25 : decode cX5_use 25 = .ok (.iconst 1, 1) := by decide +kernel
theorem dX5_use_26 : decode cX5_use 26 = .ok (.aload_n 0, 1) := by decide +kernel
theorem dX5_use_27 : decode cX5_use 27 = .ok (.iload_n 1, 1) := by decide +kernel
theorem dX5_use_28 : decode cX5_use 28 = .ok (.iconst 1, 1) := by decide +kernel
theorem dX5_use_29 : decode cX5_use 29 = .ok (.invokevirtual 66, 3) := by decide +kernel
theorem dX5_use_32 : decode cX5_use 32 = .ok (.iload_n 3, 1) := by decide +kernel
theorem dX5_use_33 : decode cX5_use 33 = .ok (.iadd, 1) := by decide +kernel
theorem dX5_use_34 : decode cX5_use 34 = .ok (.invokevirtual 58, 3) := by decide +kernel
theorem dX5_use_37 : decode cX5_use 37 = .ok (.aload_n 0, 1) := by decide +kernel
theorem dX5_use_38 : decode cX5_use 38 = .ok (.getfield 22, 3) := by decide +kernel
theorem dX5_use_41 : decode cX5_use 41 = .ok (.iconst 1, 1) := by decide +kernel
theorem dX5_use_42 : decode cX5_use 42 = .ok (.dup2, 1) := by decide +kernel
theorem dX5_use_43 : decode cX5_use 43 = .ok (.iaload, 1) := by decide +kernel
theorem dX5_use_44 : decode cX5_use 44 = .ok (.iload_n 3, 1) := by decide +kernel
theorem dX5_use_45 : decode cX5_use 45 = .ok (.isub, 1) := by decide +kernel
theorem dX5_use_46 : decode cX5_use 46 = .ok (.iastore, 1) := by decide +kernel
theorem dX5_use_47 : decode cX5_use 47 = .ok (.iload_n 3, 1) := by decide +kernel
theorem dX5_use_48 : decode cX5_use 48 = .ok (.ireturn, 1) := by decide +kernel
theorem dX5_puddle_0 : decode cX5_puddle 0 = .ok (.aload_n 0, 1) := by decide +kernel
theorem dX5_puddle_1 : decode cX5_puddle 1 = .ok (.iconst 0, 1) := by decide +kernel
theorem dX5_puddle_2 : decode cX5_puddle 2 = .ok (.putfield 25, 3) := by decide +kernel
theorem dX5_puddle_5 : decode cX5_puddle 5 = .ok (.aload_n 0, 1) := by decide +kernel
theorem dX5_puddle_6 : decode cX5_puddle 6 = .ok (.iload_n 1, 1) := by decide +kernel
theorem dX5_puddle_7 : decode cX5_puddle 7 = .ok (.invokevirtual 62, 3) := by decide +kernel
theorem dX5_puddle_10 : decode cX5_puddle 10 = .ok (.ifCond .ne 9, 3) := by decide +kernel
theorem dX5_puddle_13 : decode cX5_puddle 13 = .ok (.aload_n 0, 1) := by decide +kernel
theorem dX5_puddle_14 : decode cX5_puddle 14 = .ok (.iconst 1, 1) := by decide +kernel
theorem dX5_puddle_15 : decode cX5_puddle 15 = .ok (.invokevirtual 49, 3) := by decide +kernel
theorem dX5_puddle_18 : decode cX5_puddle 18 = .ok (.ireturn, 1) := by decide +kernel
theorem dX5_puddle_19 : decode cX5_puddle 19 = .ok (.iload_n 2, 1) := by decide +kernel
theorem dX5_puddle_20 : decode cX5_puddle 20 = .ok (.iconst 1, 1) := by decide +kernel
theorem dX5_puddle_21 : decode cX5_puddle 21 = .ok (.bipush 100, 2) := by decide +kernel
theorem dX5_puddle_23 : decode cX5_puddle 23 = .ok (.invokestatic 32, 3) := by decide +kernel
theorem dX5_puddle_26 : decode cX5_puddle 26 = .ok (.ifCond .ne 9, 3) := by decide +kernel
theorem dX5_puddle_29 : decode cX5_puddle 29 = .ok (.aload_n 0, 1) := by decide +kernel
theorem dX5_puddle_30 : decode cX5_puddle 30 = .ok (.iconst 2, 1) := by decide +kernel
theorem dX5_puddle_31 : decode cX5_puddle 31 = .ok (.invokevirtual 49, 3) := by decide +kernel
theorem dX5_puddle_34 : decode cX5_puddle 34 = .ok (.ireturn, 1) := by decide +kernel
theorem dX5_puddle_35 : decode cX5_puddle 35 = .ok (.aload_n 0, 1) := by decide +kernel
theorem dX5_puddle_36 : decode cX5_puddle 36 = .ok (.iload_n 1, 1) := by decide +kernel
theorem dX5_puddle_37 : decode cX5_puddle 37 = .ok (.invokevirtual 75, 3) := by decide +kernel
theorem dX5_puddle_40 : decode cX5_puddle 40 = .ok (.ifCond .eq 12, 3) := by decide +kernel
theorem dX5_puddle_43 : decode cX5_puddle 43 = .ok (.aload_n 0, 1) := by decide +kernel
theorem dX5_puddle_44 : decode cX5_puddle 44 = .ok (.iload_n 1, 1) := by decide +kernel
theorem dX5_puddle_45 : decode cX5_puddle 45 = .ok (.iload_n 2, 1) := by decide +kernel
theorem dX5_puddle_46 : decode cX5_puddle 46 = .ok (.invokevirtual 78, 3) := by decide +kernel
theorem dX5_puddle_49 : decode cX5_puddle 49 = .ok (.goto 8, 3) := by decide +kernel
theorem dX5_puddle_52 : decode cX5_puddle 52 = .ok (.aload_n 0, 1) := by decide +kernel
theorem dX5_puddle_53 : decode cX5_puddle 53 = .ok (.iconst 3, 1) := by decide +kernel
theorem dX5_puddle_54 : decode cX5_puddle 54 = .ok (.invokevirtual 49, 3) := by decide +kernel
theorem dX5_puddle_57 : decode cX5_puddle 57 = .ok (.ireturn, 1) := by decide +kernel
theorem dX5_strew_0 : decode cX5_strew 0 = .ok (.aload_n 0, 1) := by decide +kernel
theorem dX5_strew_1 : decode cX5_strew 1 = .ok (.aload_n 0, 1) := by decide +kernel
theorem dX5_strew_2 : decode cX5_strew 2 = .ok (.iload_n 1, 1) := by decide +kernel
theorem dX5_strew_3 : decode cX5_strew 3 = .ok (.invokevirtual 62, 3) := by decide +kernel
theorem dX5_strew_6 : decode cX5_strew 6 = .ok (.ifCond .eq 7, 3) := by decide +kernel
theorem dX5_strew_9 : decode cX5_strew 9 = .ok (.iconst 0, 1) := by decide +kernel
theorem dX5_strew_10 : decode cX5_strew 10 = .ok (.goto 4, 3) := by decide +kernel
theorem dX5_strew_13 : decode cX5_strew 13 = .ok (.iconst 1, 1) := by decide +kernel
theorem dX5_strew_14 : decode cX5_strew 14 = .ok (.putfield 25, 3) := by decide +kernel
theorem dX5_strew_17 : decode cX5_strew 17 = .ok (.aload_n 0, 1) := by decide +kernel
theorem dX5_strew_18 : decode cX5_strew 18 = .ok (.getfield 25, 3) := by decide +kernel
theorem dX5_strew_21 : decode cX5_strew 21 = .ok (.ifCond .eq 5, 3) := by decide +kernel
theorem dX5_strew_24 : decode cX5_strew 24 = .ok (.iconst 0, 1) := by decide +kernel
theorem dX5_strew_25 : decode cX5_strew 25 = .ok (.ireturn, 1) := by decide +kernel
theorem dX5_strew_26 : decode cX5_strew 26 = .ok (.aload_n 0, 1) := by decide +kernel
theorem dX5_strew_27 : decode cX5_strew 27 = .ok (.iload_n 1, 1) := by decide +kernel
theorem dX5_strew_28 : decode cX5_strew 28 = .ok (.iconst 2, 1) := by decide +kernel
theorem dX5_strew_29 : decode cX5_strew 29 = .ok (.invokevirtual 66, 3) := by decide +kernel
theorem dX5_strew_32 : decode cX5_strew 32 = .ok (.iconst 1, 1) := by decide +kernel
theorem dX5_strew_33 : decode cX5_strew 33 = .ok (.if_icmp .ne 7, 3) := by decide +kernel
theorem dX5_strew_36 : decode cX5_strew 36 = .ok (.iconst 1, 1) := by decide +kernel
theorem dX5_strew_37 : decode cX5_strew 37 = .ok (.goto 4, 3) := by decide +kernel
theorem dX5_strew_40 : decode cX5_strew 40 = .ok (.iconst 0, 1) := by decide +kernel
theorem dX5_strew_41 : decode cX5_strew 41 = .ok (.istore_n 3, 1) := by decide +kernel
theorem dX5_strew_42 : decode cX5_strew 42 = .ok (.aload_n 0, 1) := by decide +kernel
theorem dX5_strew_43 : decode cX5_strew 43 = .ok (.iload_n 1, 1) := by decide +kernel
theorem dX5_strew_44 : decode cX5_strew 44 = .ok (.iconst 2, 1) := by decide +kernel
theorem dX5_strew_45 : decode cX5_strew 45 = .ok (.iload_n 2, 1) := by decide +kernel
theorem dX5_strew_46 : decode cX5_strew 46 = .ok (.ifCond .eq 7, 3) := by decide +kernel
theorem dX5_strew_49 : decode cX5_strew 49 = .ok (.iconst 1, 1) := by decide +kernel
theorem dX5_strew_50 : decode cX5_strew 50 = .ok (.goto 4, 3) := by decide +kernel
theorem dX5_strew_53 : decode cX5_strew 53 = .ok (.iconst 0, 1) := by decide +kernel
theorem dX5_strew_54 : decode cX5_strew 54 = .ok (.invokevirtual 58, 3) := by decide +kernel
theorem dX5_strew_57 : decode cX5_strew 57 = .ok (.iload_n 3, 1) := by decide +kernel
theorem dX5_strew_58 : decode cX5_strew 58 = .ok (.ireturn, 1) := by decide +kernel
theorem dX5_pour_0 : decode cX5_pour 0 = .ok (.aload_n 0, 1) := by decide +kernel
theorem dX5_pour_1 : decode cX5_pour 1 = .ok (.iconst 0, 1) := by decide +kernel
theorem dX5_pour_2 : decode cX5_pour 2 = .ok (.putfield 25, 3) := by decide +kernel
theorem dX5_pour_5 : decode cX5_pour 5 = .ok (.aload_n 0, 1) := by decide +kernel
theorem dX5_pour_6 : decode cX5_pour 6 = .ok (.iload_n 1, 1) := by decide +kernel
theorem dX5_pour_7 : decode cX5_pour 7 = .ok (.invokevirtual 62, 3) := by decide +kernel
theorem dX5_pour_10 : decode cX5_pour 10 = .ok (.ifCond .ne 9, 3) := by decide +kernel
theorem dX5_pour_13 : decode cX5_pour 13 = .ok (.aload_n 0, 1) := by decide +kernel
theorem dX5_pour_14 : decode cX5_pour 14 = .ok (.iconst 1, 1) := by decide +kernel
theorem dX5_pour_15 : decode cX5_pour 15 = .ok (.invokevirtual 49, 3) := by decide +kernel
theorem dX5_pour_18 : decode cX5_pour 18 = .ok (.ireturn, 1) := by decide +kernel
theorem dX5_pour_19 : decode cX5_pour 19 = .ok (.iload_n 2, 1) := by decide +kernel
theorem dX5_pour_20 : decode cX5_pour 20 = .ok (.sipush (-10000), 3) := by decide +kernel
theorem dX5_pour_23 : decode cX5_pour 23 = .ok (.sipush 10000, 3) := by decide +kernel
theorem dX5_pour_26 : decode cX5_pour 26 = .ok (.invokestatic 32, 3) := by decide +kernel
theorem dX5_pour_29 : decode cX5_pour 29 = .ok (.ifCond .ne 9, 3) := by decide +kernel
theorem dX5_pour_32 : decode cX5_pour 32 = .ok (.aload_n 0, 1) := by decide +kernel
theorem dX5_pour_33 : decode cX5_pour 33 = .ok (.iconst 2, 1) := by decide +kernel
theorem dX5_pour_34 : decode cX5_pour 34 = .ok (.invokevirtual 49, 3) := by decide +kernel
theorem dX5_pour_37 : decode cX5_pour 37 = .ok (.ireturn, 1) := by decide +kernel
theorem dX5_pour_38 : decode cX5_pour 38 = .ok (.aload_n 0, 1) := by decide +kernel
theorem dX5_pour_39 : decode cX5_pour 39 = .ok (.iload_n 1, 1) := by decide +kernel
theorem dX5_pour_40 : decode cX5_pour 40 = .ok (.iconst 0, 1) := by decide +kernel
theorem dX5_pour_41 : decode cX5_pour 41 = .ok (.iconst 0, 1) := by decide +kernel
theorem dX5_pour_42 : decode cX5_pour 42 = .ok (.aload_n 0, 1) := by decide +kernel
theorem dX5_pour_43 : decode cX5_pour 43 = .ok (.iload_n 1, 1) := by decide +kernel
theorem dX5_pour_44 : decode cX5_pour 44 = .ok (.invokevirtual 69, 3) := by decide +kernel
theorem dX5_pour_47 : decode cX5_pour 47 = .ok (.aload_n 0, 1) := by decide +kernel
theorem dX5_pour_48 : decode cX5_pour 48 = .ok (.iload_n 1, 1) := by decide +kernel
theorem dX5_pour_49 : decode cX5_pour 49 = .ok (.iconst 0, 1) := by decide +kernel
theorem dX5_pour_50 : decode cX5_pour 50 = .ok (.invokevirtual 66, 3) := by decide +kernel
theorem dX5_pour_53 : decode cX5_pour 53 = .ok (.iload_n 2, 1) := by decide +kernel
theorem dX5_pour_54 : decode cX5_pour 54 = .ok (.iadd, 1) := by decide +kernel
theorem dX5_pour_55 : decode cX5_pour 55 = .ok (.invokestatic 72, 3) := by decide +kernel
theorem dX5_pour_58 : decode cX5_pour 58 = .ok (.invokestatic 81, 3) := by decide +kernel
theorem dX5_pour_61 : decode cX5_pour 61 = .ok (.invokevirtual 58, 3) := by decide +kernel
theorem dX5_pour_64 : decode cX5_pour 64 = .ok (.aload_n 0, 1) := by decide +kernel
theorem dX5_pour_65 : decode cX5_pour 65 = .ok (.iload_n 1, 1) := by decide +kernel
theorem dX5_pour_66 : decode cX5_pour 66 = .ok (.iconst 0, 1) := by decide +kernel
theorem dX5_pour_67 : decode cX5_pour 67 = .ok (.invokevirtual 66, 3) := by decide +kernel
theorem dX5_pour_70 : decode cX5_pour 70 = .ok (.ireturn, 1) := by decide +kernel
theorem dX5_flocksAt_0 : decode cX5_flocksAt 0 = .ok (.iconst 0, 1) := by decide +kernel
theorem dX5_flocksAt_1 : decode cX5_flocksAt 1 = .ok (.istore_n 2, 1) := by decide +kernel
theorem dX5_flocksAt_2 : decode cX5_flocksAt 2 = .ok (.iconst 0, 1) := by decide +kernel
theorem dX5_flocksAt_3 : decode cX5_flocksAt 3 = .ok (.istore_n 3, 1) := by decide +kernel
theorem dX5_flocksAt_4 : decode cX5_flocksAt 4 = .ok (.iload_n 3, 1) := by decide +kernel
theorem dX5_flocksAt_5 : decode cX5_flocksAt 5 = .ok (.aload_n 0, 1) := by decide +kernel
theorem dX5_flocksAt_6 : decode cX5_flocksAt 6 = .ok (.getfield 36, 3) := by decide +kernel
theorem dX5_flocksAt_9 : decode cX5_flocksAt 9 = .ok (.if_icmp .ge 35, 3) := by decide +kernel
theorem dX5_flocksAt_12 : decode cX5_flocksAt 12 = .ok (.iload_n 2, 1) := by decide +kernel
theorem dX5_flocksAt_13 : decode cX5_flocksAt 13 = .ok (.aload_n 0, 1) := by decide +kernel
theorem dX5_flocksAt_14 : decode cX5_flocksAt 14 = .ok (.iload_n 3, 1) := by decide +kernel
theorem dX5_flocksAt_15 : decode cX5_flocksAt 15 = .ok (.iconst 1, 1) := by decide +kernel
theorem dX5_flocksAt_16 : decode cX5_flocksAt 16 = .ok (.invokevirtual 84, 3) := by decide +kernel
theorem dX5_flocksAt_19 : decode cX5_flocksAt 19 = .ok (.iload_n 1, 1) := by decide +kernel
theorem dX5_flocksAt_20 : decode cX5_flocksAt 20 = .ok (.if_icmp .ne 15, 3) := by decide +kernel
theorem dX5_flocksAt_23 : decode cX5_flocksAt 23 = .ok (.aload_n 0, 1) := by decide +kernel
theorem dX5_flocksAt_24 : decode cX5_flocksAt 24 = .ok (.iload_n 3, 1) := by decide +kernel
theorem dX5_flocksAt_25 : decode cX5_flocksAt 25 = .ok (.invokevirtual 87, 3) := by decide +kernel
theorem dX5_flocksAt_28 : decode cX5_flocksAt 28 = .ok (.ifCond .ne 7, 3) := by decide +kernel
theorem dX5_flocksAt_31 : decode cX5_flocksAt 31 = .ok (.iconst 1, 1) := by decide +kernel
theorem dX5_flocksAt_32 : decode cX5_flocksAt 32 = .ok (.goto 4, 3) := by decide +kernel
theorem dX5_flocksAt_35 : decode cX5_flocksAt 35 = .ok (.iconst 0, 1) := by decide +kernel
theorem dX5_flocksAt_36 : decode cX5_flocksAt 36 = .ok (.iadd, 1) := by decide +kernel
theorem dX5_flocksAt_37 : decode cX5_flocksAt 37 = .ok (.istore_n 2, 1) := by decide +kernel
theorem dX5_flocksAt_38 : decode cX5_flocksAt 38 = .ok (.iinc 3 1, 3) := by decide +kernel
theorem dX5_flocksAt_41 : decode cX5_flocksAt 41 = .ok (.goto (-37), 3) := by decide +kernel
theorem dX5_flocksAt_44 : decode cX5_flocksAt 44 = .ok (.iload_n 2, 1) := by decide +kernel
theorem dX5_flocksAt_45 : decode cX5_flocksAt 45 = .ok (.ireturn, 1) := by decide +kernel
theorem dX5_above_0 : decode cX5_above 0 = .ok (.iconst 0, 1) := by decide +kernel
theorem dX5_above_1 : decode cX5_above 1 = .ok (.istore_n 2, 1) := by decide +kernel
theorem dX5_above_2 : decode cX5_above 2 = .ok (.iconst 0, 1) := by decide +kernel
theorem dX5_above_3 : decode cX5_above 3 = .ok (.istore_n 3, 1) := by decide +kernel
theorem dX5_above_4 : decode cX5_above 4 = .ok (.iload_n 3, 1) := by decide +kernel
theorem dX5_above_5 : decode cX5_above 5 = .ok (.aload_n 0, 1) := by decide +kernel
theorem dX5_above_6 : decode cX5_above 6 = .ok (.getfield 29, 3) := by decide +kernel
theorem dX5_above_9 : decode cX5_above 9 = .ok (.if_icmp .ge 47, 3) := by decide +kernel
theorem dX5_above_12 : decode cX5_above 12 = .ok (.aload_n 0, 1) := by decide +kernel
theorem dX5_above_13 : decode cX5_above 13 = .ok (.iload_n 3, 1) := by decide +kernel
theorem dX5_above_14 : decode cX5_above 14 = .ok (.iconst 3, 1) := by decide +kernel
theorem dX5_above_15 : decode cX5_above 15 = .ok (.invokevirtual 66, 3) := by decide +kernel
theorem dX5_above_18 : decode cX5_above 18 = .ok (.istore 4, 2) := by decide +kernel
theorem dX5_above_20 : decode cX5_above 20 = .ok (.iload 4, 2) := by decide +kernel
theorem dX5_above_22 : decode cX5_above 22 = .ok (.iconst (-1), 1) := by decide +kernel
theorem dX5_above_23 : decode cX5_above 23 = .ok (.if_icmp .eq 27, 3) := by decide +kernel
theorem dX5_above_26 : decode cX5_above 26 = .ok (.iload 4, 2) := by decide +kernel
theorem dX5_above_28 : decode cX5_above 28 = .ok (.iload_n 1, 1) := by decide +kernel
theorem dX5_above_29 : decode cX5_above 29 = .ok (.if_icmp .ne 9, 3) := by decide +kernel
theorem dX5_above_32 : decode cX5_above 32 = .ok (.iload_n 2, 1) := by decide +kernel
theorem dX5_above_33 : decode cX5_above 33 = .ok (.iconst 1, 1) := by decide +kernel
theorem dX5_above_34 : decode cX5_above 34 = .ok (.iload_n 3, 1) := by decide +kernel
theorem dX5_above_35 : decode cX5_above 35 = .ok (.ishl, 1) := by decide +kernel
theorem dX5_above_36 : decode cX5_above 36 = .ok (.ior, 1) := by decide +kernel
theorem dX5_above_37 : decode cX5_above 37 = .ok (.istore_n 2, 1) := by decide +kernel
theorem dX5_above_38 : decode cX5_above 38 = .ok (.aload_n 0, 1) := by decide +kernel
theorem dX5_above_39 : decode cX5_above 39 = .ok (.iload 4, 2) := by decide +kernel
theorem dX5_above_41 : decode cX5_above 41 = .ok (.iconst 3, 1) := by decide +kernel
theorem dX5_above_42 : decode cX5_above 42 = .ok (.invokevirtual 66, 3) := by decide +kernel
theorem dX5_above_45 : decode cX5_above 45 = .ok (.istore 4, 2) := by decide +kernel
theorem dX5_above_47 : decode cX5_above 47 = .ok (.goto (-27), 3) := by decide +kernel
theorem dX5_above_50 : decode cX5_above 50 = .ok (.iinc 3 1, 3) := by decide +kernel
theorem dX5_above_53 : decode cX5_above 53 = .ok (.goto (-49), 3) := by decide +kernel
theorem dX5_above_56 : decode cX5_above 56 = .ok (.iload_n 2, 1) := by decide +kernel
theorem dX5_above_57 : decode cX5_above 57 = .ok (.ireturn, 1) := by decide +kernel
theorem dX5_pondTold_0 : decode cX5_pondTold 0 = .ok (.iload_n 2, 1) := by decide +kernel
theorem dX5_pondTold_1 : decode cX5_pondTold 1 = .ok (.tableswitch 94 0 10 #[59, 59, 59, 59, 66, 72, 72, 72, 72, 81, 87], 59) := by decide +kernel
theorem dX5_pondTold_60 : decode cX5_pondTold 60 = .ok (.aload_n 0, 1) := by decide +kernel
theorem dX5_pondTold_61 : decode cX5_pondTold 61 = .ok (.iload_n 1, 1) := by decide +kernel
theorem dX5_pondTold_62 : decode cX5_pondTold 62 = .ok (.iload_n 2, 1) := by decide +kernel
theorem dX5_pondTold_63 : decode cX5_pondTold 63 = .ok (.invokevirtual 39, 3) := by decide +kernel
theorem dX5_pondTold_66 : decode cX5_pondTold 66 = .ok (.ireturn, 1) := by decide +kernel
theorem dX5_pondTold_67 : decode cX5_pondTold 67 = .ok (.aload_n 0, 1) := by decide +kernel
theorem dX5_pondTold_68 : decode cX5_pondTold 68 = .ok (.iload_n 1, 1) := by decide +kernel
theorem dX5_pondTold_69 : decode cX5_pondTold 69 = .ok (.invokevirtual 69, 3) := by decide +kernel
theorem dX5_pondTold_72 : decode cX5_pondTold 72 = .ok (.ireturn, 1) := by decide +kernel
theorem dX5_pondTold_73 : decode cX5_pondTold 73 = .ok (.aload_n 0, 1) := by decide +kernel
theorem dX5_pondTold_74 : decode cX5_pondTold 74 = .ok (.iload_n 1, 1) := by decide +kernel
theorem dX5_pondTold_75 : decode cX5_pondTold 75 = .ok (.iload_n 2, 1) := by decide +kernel
theorem dX5_pondTold_76 : decode cX5_pondTold 76 = .ok (.iconst 5, 1) := by decide +kernel
theorem dX5_pondTold_77 : decode cX5_pondTold 77 = .ok (.isub, 1) := by decide +kernel
theorem dX5_pondTold_78 : decode cX5_pondTold 78 = .ok (.invokevirtual 66, 3) := by decide +kernel
theorem dX5_pondTold_81 : decode cX5_pondTold 81 = .ok (.ireturn, 1) := by decide +kernel
theorem dX5_pondTold_82 : decode cX5_pondTold 82 = .ok (.aload_n 0, 1) := by decide +kernel
theorem dX5_pondTold_83 : decode cX5_pondTold 83 = .ok (.iload_n 1, 1) := by decide +kernel
theorem dX5_pondTold_84 : decode cX5_pondTold 84 = .ok (.invokevirtual 90, 3) := by decide +kernel
theorem dX5_pondTold_87 : decode cX5_pondTold 87 = .ok (.ireturn, 1) := by decide +kernel
theorem dX5_pondTold_88 : decode cX5_pondTold 88 = .ok (.aload_n 0, 1) := by decide +kernel
theorem dX5_pondTold_89 : decode cX5_pondTold 89 = .ok (.iload_n 1, 1) := by decide +kernel
theorem dX5_pondTold_90 : decode cX5_pondTold 90 = .ok (.iconst 4, 1) := by decide +kernel
theorem dX5_pondTold_91 : decode cX5_pondTold 91 = .ok (.invokevirtual 66, 3) := by decide +kernel
theorem dX5_pondTold_94 : decode cX5_pondTold 94 = .ok (.ireturn, 1) := by decide +kernel
theorem dX5_pondTold_95 : decode cX5_pondTold 95 = .ok (.aload_n 0, 1) := by decide +kernel
theorem dX5_pondTold_96 : decode cX5_pondTold 96 = .ok (.iload_n 1, 1) := by decide +kernel
theorem dX5_pondTold_97 : decode cX5_pondTold 97 = .ok (.invokevirtual 93, 3) := by decide +kernel
theorem dX5_pondTold_100 : decode cX5_pondTold 100 = .ok (.ireturn, 1) := by decide +kernel
theorem dX5_pond_0 : decode cX5_pond 0 = .ok (.aload_n 0, 1) := by decide +kernel
theorem dX5_pond_1 : decode cX5_pond 1 = .ok (.iconst 0, 1) := by decide +kernel
theorem dX5_pond_2 : decode cX5_pond 2 = .ok (.putfield 25, 3) := by decide +kernel
theorem dX5_pond_5 : decode cX5_pond 5 = .ok (.aload_n 0, 1) := by decide +kernel
theorem dX5_pond_6 : decode cX5_pond 6 = .ok (.iload_n 1, 1) := by decide +kernel
theorem dX5_pond_7 : decode cX5_pond 7 = .ok (.invokevirtual 62, 3) := by decide +kernel
theorem dX5_pond_10 : decode cX5_pond 10 = .ok (.ifCond .eq 22, 3) := by decide +kernel
theorem dX5_pond_13 : decode cX5_pond 13 = .ok (.iload_n 2, 1) := by decide +kernel
theorem dX5_pond_14 : decode cX5_pond 14 = .ok (.iconst 0, 1) := by decide +kernel
theorem dX5_pond_15 : decode cX5_pond 15 = .ok (.bipush 11, 2) := by decide +kernel
theorem dX5_pond_17 : decode cX5_pond 17 = .ok (.invokestatic 32, 3) := by decide +kernel
theorem dX5_pond_20 : decode cX5_pond 20 = .ok (.ifCond .eq 12, 3) := by decide +kernel
theorem dX5_pond_23 : decode cX5_pond 23 = .ok (.aload_n 0, 1) := by decide +kernel
theorem dX5_pond_24 : decode cX5_pond 24 = .ok (.iload_n 1, 1) := by decide +kernel
theorem dX5_pond_25 : decode cX5_pond 25 = .ok (.iload_n 2, 1) := by decide +kernel
theorem dX5_pond_26 : decode cX5_pond 26 = .ok (.invokevirtual 96, 3) := by decide +kernel
theorem dX5_pond_29 : decode cX5_pond 29 = .ok (.goto 8, 3) := by decide +kernel
theorem dX5_pond_32 : decode cX5_pond 32 = .ok (.aload_n 0, 1) := by decide +kernel
theorem dX5_pond_33 : decode cX5_pond 33 = .ok (.iconst 1, 1) := by decide +kernel
theorem dX5_pond_34 : decode cX5_pond 34 = .ok (.invokevirtual 49, 3) := by decide +kernel
theorem dX5_pond_37 : decode cX5_pond 37 = .ok (.ireturn, 1) := by decide +kernel
theorem dX5_weatherTold_0 : decode cX5_weatherTold 0 = .ok (.bipush 100, 2) := by decide +kernel
theorem dX5_weatherTold_2 : decode cX5_weatherTold 2 = .ok (.aload_n 0, 1) := by decide +kernel
theorem dX5_weatherTold_3 : decode cX5_weatherTold 3 = .ok (.getfield 13, 3) := by decide +kernel
theorem dX5_weatherTold_6 : decode cX5_weatherTold 6 = .ok (.iconst 3, 1) := by decide +kernel
theorem dX5_weatherTold_7 : decode cX5_weatherTold 7 = .ok (.iload_n 1, 1) := by decide +kernel
theorem dX5_weatherTold_8 : decode cX5_weatherTold 8 = .ok (.imul, 1) := by decide +kernel
theorem dX5_weatherTold_9 : decode cX5_weatherTold 9 = .ok (.iaload, 1) := by decide +kernel
theorem dX5_weatherTold_10 : decode cX5_weatherTold 10 = .ok (.imul, 1) := by decide +kernel
theorem dX5_weatherTold_11 : decode cX5_weatherTold 11 = .ok (.bipush 10, 2) := by decide +kernel
theorem dX5_weatherTold_13 : decode cX5_weatherTold 13 = .ok (.aload_n 0, 1) := by decide +kernel
theorem dX5_weatherTold_14 : decode cX5_weatherTold 14 = .ok (.getfield 13, 3) := by decide +kernel
theorem dX5_weatherTold_17 : decode cX5_weatherTold 17 = .ok (.iconst 3, 1) := by decide +kernel
theorem dX5_weatherTold_18 : decode cX5_weatherTold 18 = .ok (.iload_n 1, 1) := by decide +kernel
theorem dX5_weatherTold_19 : decode cX5_weatherTold 19 = .ok (.imul, 1) := by decide +kernel
theorem dX5_weatherTold_20 : decode cX5_weatherTold 20 = .ok (.iconst 1, 1) := by decide +kernel
theorem dX5_weatherTold_21 : decode cX5_weatherTold 21 = .ok (.iadd, 1) := by decide +kernel
theorem dX5_weatherTold_22 : decode cX5_weatherTold 22 = .ok (.iaload, 1) := by decide +kernel
theorem dX5_weatherTold_23 : decode cX5_weatherTold 23 = .ok (.imul, 1) := by decide +kernel
theorem dX5_weatherTold_24 : decode cX5_weatherTold 24 = .ok (.iadd, 1) := by decide +kernel
theorem dX5_weatherTold_25 : decode cX5_weatherTold 25 = .ok (.aload_n 0, 1) := by decide +kernel
theorem dX5_weatherTold_26 : decode cX5_weatherTold 26 = .ok (.getfield 13, 3) := by decide +kernel
theorem dX5_weatherTold_29 : decode cX5_weatherTold 29 = .ok (.iconst 3, 1) := by decide +kernel
theorem dX5_weatherTold_30 : decode cX5_weatherTold 30 = .ok (.iload_n 1, 1) := by decide +kernel
theorem dX5_weatherTold_31 : decode cX5_weatherTold 31 = .ok (.imul, 1) := by decide +kernel
theorem dX5_weatherTold_32 : decode cX5_weatherTold 32 = .ok (.iconst 2, 1) := by decide +kernel
theorem dX5_weatherTold_33 : decode cX5_weatherTold 33 = .ok (.iadd, 1) := by decide +kernel
theorem dX5_weatherTold_34 : decode cX5_weatherTold 34 = .ok (.iaload, 1) := by decide +kernel
theorem dX5_weatherTold_35 : decode cX5_weatherTold 35 = .ok (.iadd, 1) := by decide +kernel
theorem dX5_weatherTold_36 : decode cX5_weatherTold 36 = .ok (.ireturn, 1) := by decide +kernel
theorem dX5_setWeather_0 : decode cX5_setWeather 0 = .ok (.aload_n 0, 1) := by decide +kernel
theorem dX5_setWeather_1 : decode cX5_setWeather 1 = .ok (.iconst 0, 1) := by decide +kernel
theorem dX5_setWeather_2 : decode cX5_setWeather 2 = .ok (.putfield 25, 3) := by decide +kernel
theorem dX5_setWeather_5 : decode cX5_setWeather 5 = .ok (.iload_n 1, 1) := by decide +kernel
theorem dX5_setWeather_6 : decode cX5_setWeather 6 = .ok (.iconst 0, 1) := by decide +kernel
theorem dX5_setWeather_7 : decode cX5_setWeather 7 = .ok (.bipush 9, 2) := by decide +kernel
theorem dX5_setWeather_9 : decode cX5_setWeather 9 = .ok (.invokestatic 32, 3) := by decide +kernel
theorem dX5_setWeather_12 : decode cX5_setWeather 12 = .ok (.ifCond .ne 9, 3) := by decide +kernel
theorem dX5_setWeather_15 : decode cX5_setWeather 15 = .ok (.aload_n 0, 1) := by decide +kernel
theorem dX5_setWeather_16 : decode cX5_setWeather 16 = .ok (.iconst 1, 1) := by decide +kernel
theorem dX5_setWeather_17 : decode cX5_setWeather 17 = .ok (.invokevirtual 49, 3) := by decide +kernel
theorem dX5_setWeather_20 : decode cX5_setWeather 20 = .ok (.ireturn, 1) := by decide +kernel
theorem dX5_setWeather_21 : decode cX5_setWeather 21 = .ok (.iload_n 2, 1) := by decide +kernel
theorem dX5_setWeather_22 : decode cX5_setWeather 22 = .ok (.iconst 0, 1) := by decide +kernel
theorem dX5_setWeather_23 : decode cX5_setWeather 23 = .ok (.bipush 9, 2) := by decide +kernel
theorem dX5_setWeather_25 : decode cX5_setWeather 25 = .ok (.invokestatic 32, 3) := by decide +kernel
theorem dX5_setWeather_28 : decode cX5_setWeather 28 = .ok (.ifCond .eq 24, 3) := by decide +kernel
theorem dX5_setWeather_31 : decode cX5_setWeather 31 = .ok (.iload_n 3, 1) := by decide +kernel
theorem dX5_setWeather_32 : decode cX5_setWeather 32 = .ok (.iconst 0, 1) := by decide +kernel
theorem dX5_setWeather_33 : decode cX5_setWeather 33 = .ok (.bipush 9, 2) := by decide +kernel
theorem dX5_setWeather_35 : decode cX5_setWeather 35 = .ok (.invokestatic 32, 3) := by decide +kernel
theorem dX5_setWeather_38 : decode cX5_setWeather 38 = .ok (.ifCond .eq 14, 3) := by decide +kernel
theorem dX5_setWeather_41 : decode cX5_setWeather 41 = .ok (.iload 4, 2) := by decide +kernel
theorem dX5_setWeather_43 : decode cX5_setWeather 43 = .ok (.iconst 0, 1) := by decide +kernel
theorem dX5_setWeather_44 : decode cX5_setWeather 44 = .ok (.bipush 9, 2) := by decide +kernel
theorem dX5_setWeather_46 : decode cX5_setWeather 46 = .ok (.invokestatic 32, 3) := by decide +kernel
theorem dX5_setWeather_49 : decode cX5_setWeather 49 = .ok (.ifCond .ne 9, 3) := by decide +kernel
theorem dX5_setWeather_52 : decode cX5_setWeather 52 = .ok (.aload_n 0, 1) := by decide +kernel
theorem dX5_setWeather_53 : decode cX5_setWeather 53 = .ok (.iconst 2, 1) := by decide +kernel
theorem dX5_setWeather_54 : decode cX5_setWeather 54 = .ok (.invokevirtual 49, 3) := by decide +kernel
theorem dX5_setWeather_57 : decode cX5_setWeather 57 = .ok (.ireturn, 1) := by decide +kernel
theorem dX5_setWeather_58 : decode cX5_setWeather 58 = .ok (.aload_n 0, 1) := by decide +kernel
theorem dX5_setWeather_59 : decode cX5_setWeather 59 = .ok (.iload_n 1, 1) := by decide +kernel
theorem dX5_setWeather_60 : decode cX5_setWeather 60 = .ok (.invokevirtual 99, 3) := by decide +kernel
theorem dX5_setWeather_63 : decode cX5_setWeather 63 = .ok (.istore 5, 2) := by decide +kernel
theorem dX5_setWeather_65 : decode cX5_setWeather 65 = .ok (.aload_n 0, 1) := by decide +kernel
theorem dX5_setWeather_66 : decode cX5_setWeather 66 = .ok (.getfield 13, 3) := by decide +kernel
theorem dX5_setWeather_69 : decode cX5_setWeather 69 = .ok (.iconst 3, 1) := by decide +kernel
theorem dX5_setWeather_70 : decode cX5_setWeather 70 = .ok (.iload_n 1, 1) := by decide +kernel
theorem dX5_setWeather_71 : decode cX5_setWeather 71 = .ok (.imul, 1) := by decide +kernel
theorem dX5_setWeather_72 : decode cX5_setWeather 72 = .ok (.iload_n 2, 1) := by decide +kernel
theorem dX5_setWeather_73 : decode cX5_setWeather 73 = .ok (.iastore, 1) := by decide +kernel
theorem dX5_setWeather_74 : decode cX5_setWeather 74 = .ok (.aload_n 0, 1) := by decide +kernel
theorem dX5_setWeather_75 : decode cX5_setWeather 75 = .ok (.getfield 13, 3) := by decide +kernel
theorem dX5_setWeather_78 : decode cX5_setWeather 78 = .ok (.iconst 3, 1) := by decide +kernel
theorem dX5_setWeather_79 : decode cX5_setWeather 79 = .ok (.iload_n 1, 1) := by decide +kernel
theorem dX5_setWeather_80 : decode cX5_setWeather 80 = .ok (.imul, 1) := by decide +kernel
theorem dX5_setWeather_81 : decode cX5_setWeather 81 = .ok (.iconst 1, 1) := by decide +kernel
theorem dX5_setWeather_82 : decode cX5_setWeather 82 = .ok (.iadd, 1) := by decide +kernel
theorem dX5_setWeather_83 : decode cX5_setWeather 83 = .ok (.iload_n 3, 1) := by decide +kernel
theorem dX5_setWeather_84 : decode cX5_setWeather 84 = .ok (.iastore, 1) := by decide +kernel
theorem dX5_setWeather_85 : decode cX5_setWeather 85 = .ok (.aload_n 0, 1) := by decide +kernel
theorem dX5_setWeather_86 : decode cX5_setWeather 86 = .ok (.getfield 13, 3) := by decide +kernel
theorem dX5_setWeather_89 : decode cX5_setWeather 89 = .ok (.iconst 3, 1) := by decide +kernel
theorem dX5_setWeather_90 : decode cX5_setWeather 90 = .ok (.iload_n 1, 1) := by decide +kernel
theorem dX5_setWeather_91 : decode cX5_setWeather 91 = .ok (.imul, 1) := by decide +kernel
theorem dX5_setWeather_92 : decode cX5_setWeather 92 = .ok (.iconst 2, 1) := by decide +kernel
theorem dX5_setWeather_93 : decode cX5_setWeather 93 = .ok (.iadd, 1) := by decide +kernel
theorem dX5_setWeather_94 : decode cX5_setWeather 94 = .ok (.iload 4, 2) := by decide +kernel
theorem dX5_setWeather_96 : decode cX5_setWeather 96 = .ok (.iastore, 1) := by decide +kernel
theorem dX5_setWeather_97 : decode cX5_setWeather 97 = .ok (.iload 5, 2) := by decide +kernel
theorem dX5_setWeather_99 : decode cX5_setWeather 99 = .ok (.ireturn, 1) := by decide +kernel
theorem dX5_bring_0 : decode cX5_bring 0 = .ok (.aload_n 0, 1) := by decide +kernel
theorem dX5_bring_1 : decode cX5_bring 1 = .ok (.iconst 0, 1) := by decide +kernel
theorem dX5_bring_2 : decode cX5_bring 2 = .ok (.putfield 25, 3) := by decide +kernel
theorem dX5_bring_5 : decode cX5_bring 5 = .ok (.iload_n 1, 1) := by decide +kernel
theorem dX5_bring_6 : decode cX5_bring 6 = .ok (.iconst 1, 1) := by decide +kernel
theorem dX5_bring_7 : decode cX5_bring 7 = .ok (.bipush 100, 2) := by decide +kernel
theorem dX5_bring_9 : decode cX5_bring 9 = .ok (.invokestatic 32, 3) := by decide +kernel
theorem dX5_bring_12 : decode cX5_bring 12 = .ok (.ifCond .ne 9, 3) := by decide +kernel
theorem dX5_bring_15 : decode cX5_bring 15 = .ok (.aload_n 0, 1) := by decide +kernel
theorem dX5_bring_16 : decode cX5_bring 16 = .ok (.iconst 1, 1) := by decide +kernel
theorem dX5_bring_17 : decode cX5_bring 17 = .ok (.invokevirtual 49, 3) := by decide +kernel
theorem dX5_bring_20 : decode cX5_bring 20 = .ok (.ireturn, 1) := by decide +kernel
theorem dX5_bring_21 : decode cX5_bring 21 = .ok (.aload_n 0, 1) := by decide +kernel
theorem dX5_bring_22 : decode cX5_bring 22 = .ok (.getfield 22, 3) := by decide +kernel
theorem dX5_bring_25 : decode cX5_bring 25 = .ok (.iconst 1, 1) := by decide +kernel
theorem dX5_bring_26 : decode cX5_bring 26 = .ok (.iaload, 1) := by decide +kernel
theorem dX5_bring_27 : decode cX5_bring 27 = .ok (.iload_n 1, 1) := by decide +kernel
theorem dX5_bring_28 : decode cX5_bring 28 = .ok (.iadd, 1) := by decide +kernel
theorem dX5_bring_29 : decode cX5_bring 29 = .ok (.sipush 500, 3) := by decide +kernel
theorem dX5_bring_32 : decode cX5_bring 32 = .ok (.if_icmp .le 9, 3) := by decide +kernel
theorem dX5_bring_35 : decode cX5_bring 35 = .ok (.aload_n 0, 1) := by decide +kernel
theorem dX5_bring_36 : decode cX5_bring 36 = .ok (.iconst 2, 1) := by decide +kernel
theorem dX5_bring_37 : decode cX5_bring 37 = .ok (.invokevirtual 49, 3) := by decide +kernel
theorem dX5_bring_40 : decode cX5_bring 40 = .ok (.ireturn, 1) := by decide +kernel
theorem dX5_bring_41 : decode cX5_bring 41 = .ok (.aload_n 0, 1) := by decide +kernel
theorem dX5_bring_42 : decode cX5_bring 42 = .ok (.getfield 22, 3) := by decide +kernel
theorem dX5_bring_45 : decode cX5_bring 45 = .ok (.iconst 1, 1) := by decide +kernel
theorem dX5_bring_46 : decode cX5_bring 46 = .ok (.dup2, 1) := by decide +kernel
theorem dX5_bring_47 : decode cX5_bring 47 = .ok (.iaload, 1) := by decide +kernel
theorem dX5_bring_48 : decode cX5_bring 48 = .ok (.iload_n 1, 1) := by decide +kernel
theorem dX5_bring_49 : decode cX5_bring 49 = .ok (.iadd, 1) := by decide +kernel
theorem dX5_bring_50 : decode cX5_bring 50 = .ok (.iastore, 1) := by decide +kernel
theorem dX5_bring_51 : decode cX5_bring 51 = .ok (.aload_n 0, 1) := by decide +kernel
theorem dX5_bring_52 : decode cX5_bring 52 = .ok (.getfield 22, 3) := by decide +kernel
theorem dX5_bring_55 : decode cX5_bring 55 = .ok (.iconst 1, 1) := by decide +kernel
theorem dX5_bring_56 : decode cX5_bring 56 = .ok (.iaload, 1) := by decide +kernel
theorem dX5_bring_57 : decode cX5_bring 57 = .ok (.ireturn, 1) := by decide +kernel
theorem dX5_putFlock_0 : decode cX5_putFlock 0 = .ok (.iconst 5, 1) := by decide +kernel
theorem dX5_putFlock_1 : decode cX5_putFlock 1 = .ok (.newarray .int, 2) := by decide +kernel
theorem dX5_putFlock_3 : decode cX5_putFlock 3 = .ok (.dup, 1) := by decide +kernel
theorem dX5_putFlock_4 : decode cX5_putFlock 4 = .ok (.iconst 0, 1) := by decide +kernel
theorem dX5_putFlock_5 : decode cX5_putFlock 5 = .ok (.iload_n 2, 1) := by decide +kernel
theorem dX5_putFlock_6 : decode cX5_putFlock 6 = .ok (.iastore, 1) := by decide +kernel
theorem dX5_putFlock_7 : decode cX5_putFlock 7 = .ok (.dup, 1) := by decide +kernel
theorem dX5_putFlock_8 : decode cX5_putFlock 8 = .ok (.iconst 1, 1) := by decide +kernel
theorem dX5_putFlock_9 : decode cX5_putFlock 9 = .ok (.iload_n 1, 1) := by decide +kernel
theorem dX5_putFlock_10 : decode cX5_putFlock 10 = .ok (.iastore, 1) := by decide +kernel
theorem dX5_putFlock_11 : decode cX5_putFlock 11 = .ok (.dup, 1) := by decide +kernel
theorem dX5_putFlock_12 : decode cX5_putFlock 12 = .ok (.iconst 2, 1) := by decide +kernel
theorem dX5_putFlock_13 : decode cX5_putFlock 13 = .ok (.iconst 0, 1) := by decide +kernel
theorem dX5_putFlock_14 : decode cX5_putFlock 14 = .ok (.iastore, 1) := by decide +kernel
theorem dX5_putFlock_15 : decode cX5_putFlock 15 = .ok (.dup, 1) := by decide +kernel
theorem dX5_putFlock_16 : decode cX5_putFlock 16 = .ok (.iconst 3, 1) := by decide +kernel
theorem dX5_putFlock_17 : decode cX5_putFlock 17 = .ok (.iconst 0, 1) := by decide +kernel
theorem dX5_putFlock_18 : decode cX5_putFlock 18 = .ok (.iastore, 1) := by decide +kernel
theorem dX5_putFlock_19 : decode cX5_putFlock 19 = .ok (.dup, 1) := by decide +kernel
theorem dX5_putFlock_20 : decode cX5_putFlock 20 = .ok (.iconst 4, 1) := by decide +kernel
theorem dX5_putFlock_21 : decode cX5_putFlock 21 = .ok (.iconst 0, 1) := by decide +kernel
theorem dX5_putFlock_22 : decode cX5_putFlock 22 = .ok (.iastore, 1) := by decide +kernel
theorem dX5_putFlock_23 : decode cX5_putFlock 23 = .ok (.astore_n 3, 1) := by decide +kernel
theorem dX5_putFlock_24 : decode cX5_putFlock 24 = .ok (.aload_n 3, 1) := by decide +kernel
theorem dX5_putFlock_25 : decode cX5_putFlock 25 = .ok (.iconst 0, 1) := by decide +kernel
theorem dX5_putFlock_26 : decode cX5_putFlock 26 = .ok (.aload_n 0, 1) := by decide +kernel
theorem dX5_putFlock_27 : decode cX5_putFlock 27 = .ok (.getfield 19, 3) := by decide +kernel
theorem dX5_putFlock_30 : decode cX5_putFlock 30 = .ok (.iconst 5, 1) := by decide +kernel
theorem dX5_putFlock_31 : decode cX5_putFlock 31 = .ok (.aload_n 0, 1) := by decide +kernel
theorem dX5_putFlock_32 : decode cX5_putFlock 32 = .ok (.getfield 36, 3) := by decide +kernel
theorem dX5_putFlock_35 : decode cX5_putFlock 35 = .ok (.imul, 1) := by decide +kernel
theorem dX5_putFlock_36 : decode cX5_putFlock 36 = .ok (.iconst 5, 1) := by decide +kernel
theorem dX5_putFlock_37 : decode cX5_putFlock 37 = .ok (.invokestatic 52, 3) := by decide +kernel
theorem dX5_putFlock_40 : decode cX5_putFlock 40 = .ok (.aload_n 0, 1) := by decide +kernel
theorem dX5_putFlock_41 : decode cX5_putFlock 41 = .ok (.dup, 1) := by decide +kernel
theorem dX5_putFlock_42 : decode cX5_putFlock 42 = .ok (.getfield 36, 3) := by decide +kernel
theorem dX5_putFlock_45 : decode cX5_putFlock 45 = .ok (.iconst 1, 1) := by decide +kernel
theorem dX5_putFlock_46 : decode cX5_putFlock 46 = .ok (.iadd, 1) := by decide +kernel
theorem dX5_putFlock_47 : decode cX5_putFlock 47 = .ok (.putfield 36, 3) := by decide +kernel
theorem dX5_putFlock_50 : decode cX5_putFlock 50 = .ok (.return_, 1) := by decide +kernel
theorem dX5_addFlock_0 : decode cX5_addFlock 0 = .ok (.aload_n 0, 1) := by decide +kernel
theorem dX5_addFlock_1 : decode cX5_addFlock 1 = .ok (.iconst 0, 1) := by decide +kernel
theorem dX5_addFlock_2 : decode cX5_addFlock 2 = .ok (.putfield 25, 3) := by decide +kernel
theorem dX5_addFlock_5 : decode cX5_addFlock 5 = .ok (.aload_n 0, 1) := by decide +kernel
theorem dX5_addFlock_6 : decode cX5_addFlock 6 = .ok (.iload_n 1, 1) := by decide +kernel
theorem dX5_addFlock_7 : decode cX5_addFlock 7 = .ok (.invokevirtual 62, 3) := by decide +kernel
theorem dX5_addFlock_10 : decode cX5_addFlock 10 = .ok (.ifCond .ne 9, 3) := by decide +kernel
theorem dX5_addFlock_13 : decode cX5_addFlock 13 = .ok (.aload_n 0, 1) := by decide +kernel
theorem dX5_addFlock_14 : decode cX5_addFlock 14 = .ok (.iconst 1, 1) := by decide +kernel
theorem dX5_addFlock_15 : decode cX5_addFlock 15 = .ok (.invokevirtual 49, 3) := by decide +kernel
theorem dX5_addFlock_18 : decode cX5_addFlock 18 = .ok (.ireturn, 1) := by decide +kernel
theorem dX5_addFlock_19 : decode cX5_addFlock 19 = .ok (.iload_n 2, 1) := by decide +kernel
theorem dX5_addFlock_20 : decode cX5_addFlock 20 = .ok (.iconst 1, 1) := by decide +kernel
theorem dX5_addFlock_21 : decode cX5_addFlock 21 = .ok (.bipush 80, 2) := by decide +kernel
theorem dX5_addFlock_23 : decode cX5_addFlock 23 = .ok (.invokestatic 32, 3) := by decide +kernel
theorem dX5_addFlock_26 : decode cX5_addFlock 26 = .ok (.ifCond .ne 9, 3) := by decide +kernel
theorem dX5_addFlock_29 : decode cX5_addFlock 29 = .ok (.aload_n 0, 1) := by decide +kernel
theorem dX5_addFlock_30 : decode cX5_addFlock 30 = .ok (.iconst 2, 1) := by decide +kernel
theorem dX5_addFlock_31 : decode cX5_addFlock 31 = .ok (.invokevirtual 49, 3) := by decide +kernel
theorem dX5_addFlock_34 : decode cX5_addFlock 34 = .ok (.ireturn, 1) := by decide +kernel
theorem dX5_addFlock_35 : decode cX5_addFlock 35 = .ok (.aload_n 0, 1) := by decide +kernel
theorem dX5_addFlock_36 : decode cX5_addFlock 36 = .ok (.getfield 36, 3) := by decide +kernel
theorem dX5_addFlock_39 : decode cX5_addFlock 39 = .ok (.bipush 6, 2) := by decide +kernel
theorem dX5_addFlock_41 : decode cX5_addFlock 41 = .ok (.if_icmp .ne 9, 3) := by decide +kernel
theorem dX5_addFlock_44 : decode cX5_addFlock 44 = .ok (.aload_n 0, 1) := by decide +kernel
theorem dX5_addFlock_45 : decode cX5_addFlock 45 = .ok (.iconst 3, 1) := by decide +kernel
theorem dX5_addFlock_46 : decode cX5_addFlock 46 = .ok (.invokevirtual 49, 3) := by decide +kernel
theorem dX5_addFlock_49 : decode cX5_addFlock 49 = .ok (.ireturn, 1) := by decide +kernel
theorem dX5_addFlock_50 : decode cX5_addFlock 50 = .ok (.aload_n 0, 1) := by decide +kernel
theorem dX5_addFlock_51 : decode cX5_addFlock 51 = .ok (.iload_n 1, 1) := by decide +kernel
theorem dX5_addFlock_52 : decode cX5_addFlock 52 = .ok (.iload_n 2, 1) := by decide +kernel
theorem dX5_addFlock_53 : decode cX5_addFlock 53 = .ok (.invokevirtual 102, 3) := by decide +kernel
theorem dX5_addFlock_56 : decode cX5_addFlock 56 = .ok (.aload_n 0, 1) := by decide +kernel
theorem dX5_addFlock_57 : decode cX5_addFlock 57 = .ok (.getfield 36, 3) := by decide +kernel
theorem dX5_addFlock_60 : decode cX5_addFlock 60 = .ok (.iconst 1, 1) := by decide +kernel
theorem dX5_addFlock_61 : decode cX5_addFlock 61 = .ok (.isub, 1) := by decide +kernel
theorem dX5_addFlock_62 : decode cX5_addFlock 62 = .ok (.ireturn, 1) := by decide +kernel
theorem dX5_isLost_0 : decode cX5_isLost 0 = .ok (.aload_n 0, 1) := by decide +kernel
theorem dX5_isLost_1 : decode cX5_isLost 1 = .ok (.iload_n 1, 1) := by decide +kernel
theorem dX5_isLost_2 : decode cX5_isLost 2 = .ok (.iconst 2, 1) := by decide +kernel
theorem dX5_isLost_3 : decode cX5_isLost 3 = .ok (.invokevirtual 84, 3) := by decide +kernel
theorem dX5_isLost_6 : decode cX5_isLost 6 = .ok (.bipush 10, 2) := by decide +kernel
theorem dX5_isLost_8 : decode cX5_isLost 8 = .ok (.if_icmp .ne 7, 3) := by decide +kernel
theorem dX5_isLost_11 : decode cX5_isLost 11 = .ok (.iconst 1, 1) := by decide +kernel
theorem dX5_isLost_12 : decode cX5_isLost 12 = .ok (.goto 4, 3) := by decide +kernel
theorem dX5_isLost_15 : decode cX5_isLost 15 = .ok (.iconst 0, 1) := by decide +kernel
theorem dX5_isLost_16 : decode cX5_isLost 16 = .ok (.ireturn, 1) := by decide +kernel
theorem dX5_drive_0 : decode cX5_drive 0 = .ok (.aload_n 0, 1) := by decide +kernel
theorem dX5_drive_1 : decode cX5_drive 1 = .ok (.iconst 0, 1) := by decide +kernel
theorem dX5_drive_2 : decode cX5_drive 2 = .ok (.putfield 25, 3) := by decide +kernel
theorem dX5_drive_5 : decode cX5_drive 5 = .ok (.aload_n 0, 1) := by decide +kernel
theorem dX5_drive_6 : decode cX5_drive 6 = .ok (.iload_n 1, 1) := by decide +kernel
theorem dX5_drive_7 : decode cX5_drive 7 = .ok (.invokevirtual 106, 3) := by decide +kernel
theorem dX5_drive_10 : decode cX5_drive 10 = .ok (.ifCond .eq 11, 3) := by decide +kernel
theorem dX5_drive_13 : decode cX5_drive 13 = .ok (.aload_n 0, 1) := by decide +kernel
theorem dX5_drive_14 : decode cX5_drive 14 = .ok (.iload_n 2, 1) := by decide +kernel
theorem dX5_drive_15 : decode cX5_drive 15 = .ok (.invokevirtual 62, 3) := by decide +kernel
theorem dX5_drive_18 : decode cX5_drive 18 = .ok (.ifCond .ne 9, 3) := by decide +kernel
theorem dX5_drive_21 : decode cX5_drive 21 = .ok (.aload_n 0, 1) := by decide +kernel
theorem dX5_drive_22 : decode cX5_drive 22 = .ok (.iconst 1, 1) := by decide +kernel
theorem dX5_drive_23 : decode cX5_drive 23 = .ok (.invokevirtual 49, 3) := by decide +kernel
theorem dX5_drive_26 : decode cX5_drive 26 = .ok (.ireturn, 1) := by decide +kernel
theorem dX5_drive_27 : decode cX5_drive 27 = .ok (.aload_n 0, 1) := by decide +kernel
theorem dX5_drive_28 : decode cX5_drive 28 = .ok (.iload_n 1, 1) := by decide +kernel
theorem dX5_drive_29 : decode cX5_drive 29 = .ok (.invokevirtual 87, 3) := by decide +kernel
theorem dX5_drive_32 : decode cX5_drive 32 = .ok (.ifCond .eq 9, 3) := by decide +kernel
theorem dX5_drive_35 : decode cX5_drive 35 = .ok (.aload_n 0, 1) := by decide +kernel
theorem dX5_drive_36 : decode cX5_drive 36 = .ok (.iconst 2, 1) := by decide +kernel
theorem dX5_drive_37 : decode cX5_drive 37 = .ok (.invokevirtual 49, 3) := by decide +kernel
theorem dX5_drive_40 : decode cX5_drive 40 = .ok (.ireturn, 1) := by decide +kernel
theorem dX5_drive_41 : decode cX5_drive 41 = .ok (.aload_n 0, 1) := by decide +kernel
theorem dX5_drive_42 : decode cX5_drive 42 = .ok (.aload_n 0, 1) := by decide +kernel
theorem dX5_drive_43 : decode cX5_drive 43 = .ok (.iload_n 1, 1) := by decide +kernel
theorem dX5_drive_44 : decode cX5_drive 44 = .ok (.iconst 1, 1) := by decide +kernel
theorem dX5_drive_45 : decode cX5_drive 45 = .ok (.invokevirtual 84, 3) := by decide +kernel
theorem dX5_drive_48 : decode cX5_drive 48 = .ok (.iload_n 2, 1) := by decide +kernel
theorem dX5_drive_49 : decode cX5_drive 49 = .ok (.invokevirtual 109, 3) := by decide +kernel
theorem dX5_drive_52 : decode cX5_drive 52 = .ok (.istore_n 3, 1) := by decide +kernel
theorem dX5_drive_53 : decode cX5_drive 53 = .ok (.aload_n 0, 1) := by decide +kernel
theorem dX5_drive_54 : decode cX5_drive 54 = .ok (.iload_n 1, 1) := by decide +kernel
theorem dX5_drive_55 : decode cX5_drive 55 = .ok (.iconst 1, 1) := by decide +kernel
theorem dX5_drive_56 : decode cX5_drive 56 = .ok (.iload_n 2, 1) := by decide +kernel
theorem dX5_drive_57 : decode cX5_drive 57 = .ok (.invokevirtual 112, 3) := by decide +kernel
theorem dX5_drive_60 : decode cX5_drive 60 = .ok (.iload_n 3, 1) := by decide +kernel
theorem dX5_drive_61 : decode cX5_drive 61 = .ok (.ireturn, 1) := by decide +kernel
theorem dX5_setRoams_0 : decode cX5_setRoams 0 = .ok (.aload_n 0, 1) := by decide +kernel
theorem dX5_setRoams_1 : decode cX5_setRoams 1 = .ok (.aload_n 0, 1) := by decide +kernel
theorem dX5_setRoams_2 : decode cX5_setRoams 2 = .ok (.iload_n 1, 1) := by decide +kernel
theorem dX5_setRoams_3 : decode cX5_setRoams 3 = .ok (.invokevirtual 106, 3) := by decide +kernel
theorem dX5_setRoams_6 : decode cX5_setRoams 6 = .ok (.ifCond .eq 7, 3) := by decide +kernel
theorem dX5_setRoams_9 : decode cX5_setRoams 9 = .ok (.iconst 0, 1) := by decide +kernel
theorem dX5_setRoams_10 : decode cX5_setRoams 10 = .ok (.goto 4, 3) := by decide +kernel
theorem dX5_setRoams_13 : decode cX5_setRoams 13 = .ok (.iconst 1, 1) := by decide +kernel
theorem dX5_setRoams_14 : decode cX5_setRoams 14 = .ok (.putfield 25, 3) := by decide +kernel
theorem dX5_setRoams_17 : decode cX5_setRoams 17 = .ok (.aload_n 0, 1) := by decide +kernel
theorem dX5_setRoams_18 : decode cX5_setRoams 18 = .ok (.getfield 25, 3) := by decide +kernel
theorem dX5_setRoams_21 : decode cX5_setRoams 21 = .ok (.ifCond .eq 5, 3) := by decide +kernel
theorem dX5_setRoams_24 : decode cX5_setRoams 24 = .ok (.iconst 0, 1) := by decide +kernel
theorem dX5_setRoams_25 : decode cX5_setRoams 25 = .ok (.ireturn, 1) := by decide +kernel
theorem dX5_setRoams_26 : decode cX5_setRoams 26 = .ok (.aload_n 0, 1) := by decide +kernel
theorem dX5_setRoams_27 : decode cX5_setRoams 27 = .ok (.iload_n 1, 1) := by decide +kernel
theorem dX5_setRoams_28 : decode cX5_setRoams 28 = .ok (.iconst 3, 1) := by decide +kernel
theorem dX5_setRoams_29 : decode cX5_setRoams 29 = .ok (.invokevirtual 84, 3) := by decide +kernel
theorem dX5_setRoams_32 : decode cX5_setRoams 32 = .ok (.iconst 1, 1) := by decide +kernel
theorem dX5_setRoams_33 : decode cX5_setRoams 33 = .ok (.if_icmp .ne 7, 3) := by decide +kernel
theorem dX5_setRoams_36 : decode cX5_setRoams 36 = .ok (.iconst 1, 1) := by decide +kernel
theorem dX5_setRoams_37 : decode cX5_setRoams 37 = .ok (.goto 4, 3) := by decide +kernel
theorem dX5_setRoams_40 : decode cX5_setRoams 40 = .ok (.iconst 0, 1) := by decide +kernel
theorem dX5_setRoams_41 : decode cX5_setRoams 41 = .ok (.istore_n 3, 1) := by decide +kernel
theorem dX5_setRoams_42 : decode cX5_setRoams 42 = .ok (.aload_n 0, 1) := by decide +kernel
theorem dX5_setRoams_43 : decode cX5_setRoams 43 = .ok (.iload_n 1, 1) := by decide +kernel
theorem dX5_setRoams_44 : decode cX5_setRoams 44 = .ok (.iconst 3, 1) := by decide +kernel
theorem dX5_setRoams_45 : decode cX5_setRoams 45 = .ok (.iload_n 2, 1) := by decide +kernel
theorem dX5_setRoams_46 : decode cX5_setRoams 46 = .ok (.ifCond .eq 7, 3) := by decide +kernel
theorem dX5_setRoams_49 : decode cX5_setRoams 49 = .ok (.iconst 1, 1) := by decide +kernel
theorem dX5_setRoams_50 : decode cX5_setRoams 50 = .ok (.goto 4, 3) := by decide +kernel
theorem dX5_setRoams_53 : decode cX5_setRoams 53 = .ok (.iconst 0, 1) := by decide +kernel
theorem dX5_setRoams_54 : decode cX5_setRoams 54 = .ok (.invokevirtual 112, 3) := by decide +kernel
theorem dX5_setRoams_57 : decode cX5_setRoams 57 = .ok (.iload_n 3, 1) := by decide +kernel
theorem dX5_setRoams_58 : decode cX5_setRoams 58 = .ok (.ireturn, 1) := by decide +kernel
theorem dX5_flockTold_0 : decode cX5_flockTold 0 = .ok (.iload_n 2, 1) := by decide +kernel
theorem dX5_flockTold_1 : decode cX5_flockTold 1 = .ok (.iconst 4, 1) := by decide +kernel
theorem dX5_flockTold_2 : decode cX5_flockTold 2 = .ok (.if_icmp .ge 12, 3) := by decide +kernel
theorem dX5_flockTold_5 : decode cX5_flockTold 5 = .ok (.aload_n 0, 1) := by decide +kernel
theorem dX5_flockTold_6 : decode cX5_flockTold 6 = .ok (.iload_n 1, 1) := by decide +kernel
theorem dX5_flockTold_7 : decode cX5_flockTold 7 = .ok (.iload_n 2, 1) := by decide +kernel
theorem dX5_flockTold_8 : decode cX5_flockTold 8 = .ok (.invokevirtual 84, 3) := by decide +kernel
theorem dX5_flockTold_11 : decode cX5_flockTold 11 = .ok (.goto 30, 3) := by decide +kernel
theorem dX5_flockTold_14 : decode cX5_flockTold 14 = .ok (.iload_n 2, 1) := by decide +kernel
theorem dX5_flockTold_15 : decode cX5_flockTold 15 = .ok (.iconst 5, 1) := by decide +kernel
theorem dX5_flockTold_16 : decode cX5_flockTold 16 = .ok (.if_icmp .ne 12, 3) := by decide +kernel
theorem dX5_flockTold_19 : decode cX5_flockTold 19 = .ok (.aload_n 0, 1) := by decide +kernel
theorem dX5_flockTold_20 : decode cX5_flockTold 20 = .ok (.iload_n 1, 1) := by decide +kernel
theorem dX5_flockTold_21 : decode cX5_flockTold 21 = .ok (.iconst 4, 1) := by decide +kernel
theorem dX5_flockTold_22 : decode cX5_flockTold 22 = .ok (.invokevirtual 84, 3) := by decide +kernel
theorem dX5_flockTold_25 : decode cX5_flockTold 25 = .ok (.goto 16, 3) := by decide +kernel
theorem dX5_flockTold_28 : decode cX5_flockTold 28 = .ok (.aload_n 0, 1) := by decide +kernel
theorem dX5_flockTold_29 : decode cX5_flockTold 29 = .ok (.iload_n 1, 1) := by decide +kernel
theorem dX5_flockTold_30 : decode cX5_flockTold 30 = .ok (.invokevirtual 87, 3) := by decide +kernel
theorem dX5_flockTold_33 : decode cX5_flockTold 33 = .ok (.ifCond .eq 7, 3) := by decide +kernel
theorem dX5_flockTold_36 : decode cX5_flockTold 36 = .ok (.iconst 1, 1) := by decide +kernel
theorem dX5_flockTold_37 : decode cX5_flockTold 37 = .ok (.goto 4, 3) := by decide +kernel
theorem dX5_flockTold_40 : decode cX5_flockTold 40 = .ok (.iconst 0, 1) := by decide +kernel
theorem dX5_flockTold_41 : decode cX5_flockTold 41 = .ok (.ireturn, 1) := by decide +kernel
theorem dX5_flock_0 : decode cX5_flock 0 = .ok (.aload_n 0, 1) := by decide +kernel
theorem dX5_flock_1 : decode cX5_flock 1 = .ok (.iconst 0, 1) := by decide +kernel
theorem dX5_flock_2 : decode cX5_flock 2 = .ok (.putfield 25, 3) := by decide +kernel
theorem dX5_flock_5 : decode cX5_flock 5 = .ok (.aload_n 0, 1) := by decide +kernel
theorem dX5_flock_6 : decode cX5_flock 6 = .ok (.iload_n 1, 1) := by decide +kernel
theorem dX5_flock_7 : decode cX5_flock 7 = .ok (.invokevirtual 106, 3) := by decide +kernel
theorem dX5_flock_10 : decode cX5_flock 10 = .ok (.ifCond .eq 21, 3) := by decide +kernel
theorem dX5_flock_13 : decode cX5_flock 13 = .ok (.iload_n 2, 1) := by decide +kernel
theorem dX5_flock_14 : decode cX5_flock 14 = .ok (.iconst 0, 1) := by decide +kernel
theorem dX5_flock_15 : decode cX5_flock 15 = .ok (.iconst 5, 1) := by decide +kernel
theorem dX5_flock_16 : decode cX5_flock 16 = .ok (.invokestatic 32, 3) := by decide +kernel
theorem dX5_flock_19 : decode cX5_flock 19 = .ok (.ifCond .eq 12, 3) := by decide +kernel
theorem dX5_flock_22 : decode cX5_flock 22 = .ok (.aload_n 0, 1) := by decide +kernel
theorem dX5_flock_23 : decode cX5_flock 23 = .ok (.iload_n 1, 1) := by decide +kernel
theorem dX5_flock_24 : decode cX5_flock 24 = .ok (.iload_n 2, 1) := by decide +kernel
theorem dX5_flock_25 : decode cX5_flock 25 = .ok (.invokevirtual 115, 3) := by decide +kernel
theorem dX5_flock_28 : decode cX5_flock 28 = .ok (.goto 8, 3) := by decide +kernel
theorem dX5_flock_31 : decode cX5_flock 31 = .ok (.aload_n 0, 1) := by decide +kernel
theorem dX5_flock_32 : decode cX5_flock 32 = .ok (.iconst 1, 1) := by decide +kernel
theorem dX5_flock_33 : decode cX5_flock 33 = .ok (.invokevirtual 49, 3) := by decide +kernel
theorem dX5_flock_36 : decode cX5_flock 36 = .ok (.ireturn, 1) := by decide +kernel
theorem dX5_roam_0 : decode cX5_roam 0 = .ok (.iconst 2, 1) := by decide +kernel
theorem dX5_roam_1 : decode cX5_roam 1 = .ok (.aload_n 0, 1) := by decide +kernel
theorem dX5_roam_2 : decode cX5_roam 2 = .ok (.iload_n 1, 1) := by decide +kernel
theorem dX5_roam_3 : decode cX5_roam 3 = .ok (.iconst 0, 1) := by decide +kernel
theorem dX5_roam_4 : decode cX5_roam 4 = .ok (.invokevirtual 84, 3) := by decide +kernel
theorem dX5_roam_7 : decode cX5_roam 7 = .ok (.imul, 1) := by decide +kernel
theorem dX5_roam_8 : decode cX5_roam 8 = .ok (.istore_n 2, 1) := by decide +kernel
theorem dX5_roam_9 : decode cX5_roam 9 = .ok (.aload_n 0, 1) := by decide +kernel
theorem dX5_roam_10 : decode cX5_roam 10 = .ok (.iload_n 1, 1) := by decide +kernel
theorem dX5_roam_11 : decode cX5_roam 11 = .ok (.iconst 1, 1) := by decide +kernel
theorem dX5_roam_12 : decode cX5_roam 12 = .ok (.invokevirtual 84, 3) := by decide +kernel
theorem dX5_roam_15 : decode cX5_roam 15 = .ok (.istore_n 3, 1) := by decide +kernel
theorem dX5_roam_16 : decode cX5_roam 16 = .ok (.aload_n 0, 1) := by decide +kernel
theorem dX5_roam_17 : decode cX5_roam 17 = .ok (.iload_n 1, 1) := by decide +kernel
theorem dX5_roam_18 : decode cX5_roam 18 = .ok (.iconst 3, 1) := by decide +kernel
theorem dX5_roam_19 : decode cX5_roam 19 = .ok (.invokevirtual 84, 3) := by decide +kernel
theorem dX5_roam_22 : decode cX5_roam 22 = .ok (.ifCond .eq 22, 3) := by decide +kernel
theorem dX5_roam_25 : decode cX5_roam 25 = .ok (.aload_n 0, 1) := by decide +kernel
theorem dX5_roam_26 : decode cX5_roam 26 = .ok (.iload_n 1, 1) := by decide +kernel
theorem dX5_roam_27 : decode cX5_roam 27 = .ok (.iconst 2, 1) := by decide +kernel
theorem dX5_roam_28 : decode cX5_roam 28 = .ok (.invokevirtual 84, 3) := by decide +kernel
theorem dX5_roam_31 : decode cX5_roam 31 = .ok (.ifCond .eq 13, 3) := by decide +kernel
theorem dX5_roam_34 : decode cX5_roam 34 = .ok (.aload_n 0, 1) := by decide +kernel
theorem dX5_roam_35 : decode cX5_roam 35 = .ok (.iload_n 3, 1) := by decide +kernel
theorem dX5_roam_36 : decode cX5_roam 36 = .ok (.iconst 0, 1) := by decide +kernel
theorem dX5_roam_37 : decode cX5_roam 37 = .ok (.invokevirtual 66, 3) := by decide +kernel
theorem dX5_roam_40 : decode cX5_roam 40 = .ok (.iload_n 2, 1) := by decide +kernel
theorem dX5_roam_41 : decode cX5_roam 41 = .ok (.if_icmp .lt 4, 3) := by decide +kernel
theorem dX5_roam_44 : decode cX5_roam 44 = .ok (.return_, 1) := by decide +kernel
theorem dX5_roam_45 : decode cX5_roam 45 = .ok (.iconst (-1), 1) := by decide +kernel
theorem dX5_roam_46 : decode cX5_roam 46 = .ok (.istore 4, 2) := by decide +kernel
theorem dX5_roam_48 : decode cX5_roam 48 = .ok (.iconst 0, 1) := by decide +kernel
theorem dX5_roam_49 : decode cX5_roam 49 = .ok (.istore 5, 2) := by decide +kernel
theorem dX5_roam_51 : decode cX5_roam 51 = .ok (.iload 5, 2) := by decide +kernel
theorem dX5_roam_53 : decode cX5_roam 53 = .ok (.aload_n 0, 1) := by decide +kernel
theorem dX5_roam_54 : decode cX5_roam 54 = .ok (.getfield 29, 3) := by decide +kernel
theorem dX5_roam_57 : decode cX5_roam 57 = .ok (.if_icmp .ge 53, 3) := by decide +kernel
theorem dX5_roam_60 : decode cX5_roam 60 = .ok (.iload 5, 2) := by decide +kernel
theorem dX5_roam_62 : decode cX5_roam 62 = .ok (.iload_n 3, 1) := by decide +kernel
theorem dX5_roam_63 : decode cX5_roam 63 = .ok (.if_icmp .eq 41, 3) := by decide +kernel
theorem dX5_roam_66 : decode cX5_roam 66 = .ok (.aload_n 0, 1) := by decide +kernel
theorem dX5_roam_67 : decode cX5_roam 67 = .ok (.iload 5, 2) := by decide +kernel
theorem dX5_roam_69 : decode cX5_roam 69 = .ok (.iconst 0, 1) := by decide +kernel
theorem dX5_roam_70 : decode cX5_roam 70 = .ok (.invokevirtual 66, 3) := by decide +kernel
theorem dX5_roam_73 : decode cX5_roam 73 = .ok (.iload_n 2, 1) := by decide +kernel
theorem dX5_roam_74 : decode cX5_roam 74 = .ok (.if_icmp .lt 30, 3) := by decide +kernel
theorem dX5_roam_77 : decode cX5_roam 77 = .ok (.iload 4, 2) := by decide +kernel
theorem dX5_roam_79 : decode cX5_roam 79 = .ok (.iconst (-1), 1) := by decide +kernel
theorem dX5_roam_80 : decode cX5_roam 80 = .ok (.if_icmp .eq 20, 3) := by decide +kernel
theorem dX5_roam_83 : decode cX5_roam 83 = .ok (.aload_n 0, 1) := by decide +kernel
theorem dX5_roam_84 : decode cX5_roam 84 = .ok (.iload_n 3, 1) := by decide +kernel
theorem dX5_roam_85 : decode cX5_roam 85 = .ok (.iload 5, 2) := by decide +kernel
theorem dX5_roam_87 : decode cX5_roam 87 = .ok (.invokevirtual 109, 3) := by decide +kernel
theorem dX5_roam_90 : decode cX5_roam 90 = .ok (.aload_n 0, 1) := by decide +kernel
theorem dX5_roam_91 : decode cX5_roam 91 = .ok (.iload_n 3, 1) := by decide +kernel
theorem dX5_roam_92 : decode cX5_roam 92 = .ok (.iload 4, 2) := by decide +kernel
theorem dX5_roam_94 : decode cX5_roam 94 = .ok (.invokevirtual 109, 3) := by decide +kernel
theorem dX5_roam_97 : decode cX5_roam 97 = .ok (.if_icmp .ge 7, 3) := by decide +kernel
theorem dX5_roam_100 : decode cX5_roam 100 = .ok (.iload 5, 2) := by decide +kernel
theorem dX5_roam_102 : decode cX5_roam 102 = .ok (.istore 4, 2) := by decide +kernel
theorem dX5_roam_104 : decode cX5_roam 104 = .ok (.iinc 5 1, 3) := by decide +kernel
theorem dX5_roam_107 : decode cX5_roam 107 = .ok (.goto (-56), 3) := by decide +kernel
theorem dX5_roam_110 : decode cX5_roam 110 = .ok (.iload 4, 2) := by decide +kernel
theorem dX5_roam_112 : decode cX5_roam 112 = .ok (.iconst (-1), 1) := by decide +kernel
theorem dX5_roam_113 : decode cX5_roam 113 = .ok (.if_icmp .eq 11, 3) := by decide +kernel
theorem dX5_roam_116 : decode cX5_roam 116 = .ok (.aload_n 0, 1) := by decide +kernel
theorem dX5_roam_117 : decode cX5_roam 117 = .ok (.iload_n 1, 1) := by decide +kernel
theorem dX5_roam_118 : decode cX5_roam 118 = .ok (.iconst 1, 1) := by decide +kernel
theorem dX5_roam_119 : decode cX5_roam 119 = .ok (.iload 4, 2) := by decide +kernel
theorem dX5_roam_121 : decode cX5_roam 121 = .ok (.invokevirtual 112, 3) := by decide +kernel
theorem dX5_roam_124 : decode cX5_roam 124 = .ok (.return_, 1) := by decide +kernel
theorem dX5_drink_0 : decode cX5_drink 0 = .ok (.aload_n 0, 1) := by decide +kernel
theorem dX5_drink_1 : decode cX5_drink 1 = .ok (.iload_n 1, 1) := by decide +kernel
theorem dX5_drink_2 : decode cX5_drink 2 = .ok (.invokevirtual 118, 3) := by decide +kernel
theorem dX5_drink_5 : decode cX5_drink 5 = .ok (.aload_n 0, 1) := by decide +kernel
theorem dX5_drink_6 : decode cX5_drink 6 = .ok (.iload_n 1, 1) := by decide +kernel
theorem dX5_drink_7 : decode cX5_drink 7 = .ok (.iconst 1, 1) := by decide +kernel
theorem dX5_drink_8 : decode cX5_drink 8 = .ok (.invokevirtual 84, 3) := by decide +kernel
theorem dX5_drink_11 : decode cX5_drink 11 = .ok (.istore_n 2, 1) := by decide +kernel
theorem dX5_drink_12 : decode cX5_drink 12 = .ok (.iconst 2, 1) := by decide +kernel
theorem dX5_drink_13 : decode cX5_drink 13 = .ok (.aload_n 0, 1) := by decide +kernel
theorem dX5_drink_14 : decode cX5_drink 14 = .ok (.iload_n 1, 1) := by decide +kernel
theorem dX5_drink_15 : decode cX5_drink 15 = .ok (.iconst 0, 1) := by decide +kernel
theorem dX5_drink_16 : decode cX5_drink 16 = .ok (.invokevirtual 84, 3) := by decide +kernel
theorem dX5_drink_19 : decode cX5_drink 19 = .ok (.imul, 1) := by decide +kernel
theorem dX5_drink_20 : decode cX5_drink 20 = .ok (.istore_n 3, 1) := by decide +kernel
theorem dX5_drink_21 : decode cX5_drink 21 = .ok (.iload_n 3, 1) := by decide +kernel
theorem dX5_drink_22 : decode cX5_drink 22 = .ok (.aload_n 0, 1) := by decide +kernel
theorem dX5_drink_23 : decode cX5_drink 23 = .ok (.iload_n 2, 1) := by decide +kernel
theorem dX5_drink_24 : decode cX5_drink 24 = .ok (.iconst 0, 1) := by decide +kernel
theorem dX5_drink_25 : decode cX5_drink 25 = .ok (.invokevirtual 66, 3) := by decide +kernel
theorem dX5_drink_28 : decode cX5_drink 28 = .ok (.invokestatic 72, 3) := by decide +kernel
theorem dX5_drink_31 : decode cX5_drink 31 = .ok (.istore 4, 2) := by decide +kernel
theorem dX5_drink_33 : decode cX5_drink 33 = .ok (.aload_n 0, 1) := by decide +kernel
theorem dX5_drink_34 : decode cX5_drink 34 = .ok (.iload_n 2, 1) := by decide +kernel
theorem dX5_drink_35 : decode cX5_drink 35 = .ok (.iconst 0, 1) := by decide +kernel
theorem dX5_drink_36 : decode cX5_drink 36 = .ok (.aload_n 0, 1) := by decide +kernel
theorem dX5_drink_37 : decode cX5_drink 37 = .ok (.iload_n 2, 1) := by decide +kernel
theorem dX5_drink_38 : decode cX5_drink 38 = .ok (.iconst 0, 1) := by decide +kernel
theorem dX5_drink_39 : decode cX5_drink 39 = .ok (.invokevirtual 66, 3) := by decide +kernel
theorem dX5_drink_42 : decode cX5_drink 42 = .ok (.iload 4, 2) := by decide +kernel
theorem dX5_drink_44 : decode cX5_drink 44 = .ok (.isub, 1) := by decide +kernel
theorem dX5_drink_45 : decode cX5_drink 45 = .ok (.invokevirtual 58, 3) := by decide +kernel
theorem dX5_drink_48 : decode cX5_drink 48 = .ok (.aload_n 0, 1) := by decide +kernel
theorem dX5_drink_49 : decode cX5_drink 49 = .ok (.iload_n 1, 1) := by decide +kernel
theorem dX5_drink_50 : decode cX5_drink 50 = .ok (.iconst 4, 1) := by decide +kernel
theorem dX5_drink_51 : decode cX5_drink 51 = .ok (.aload_n 0, 1) := by decide +kernel
theorem dX5_drink_52 : decode cX5_drink 52 = .ok (.iload_n 1, 1) := by decide +kernel
theorem dX5_drink_53 : decode cX5_drink 53 = .ok (.iconst 4, 1) := by decide +kernel
theorem dX5_drink_54 : decode cX5_drink 54 = .ok (.invokevirtual 84, 3) := by decide +kernel
theorem dX5_drink_57 : decode cX5_drink 57 = .ok (.iload 4, 2) := by decide +kernel
theorem dX5_drink_59 : decode cX5_drink 59 = .ok (.iadd, 1) := by decide +kernel
theorem dX5_drink_60 : decode cX5_drink 60 = .ok (.invokevirtual 112, 3) := by decide +kernel
theorem dX5_drink_63 : decode cX5_drink 63 = .ok (.aload_n 0, 1) := by decide +kernel
theorem dX5_drink_64 : decode cX5_drink 64 = .ok (.iload_n 1, 1) := by decide +kernel
theorem dX5_drink_65 : decode cX5_drink 65 = .ok (.iconst 2, 1) := by decide +kernel
theorem dX5_drink_66 : decode cX5_drink 66 = .ok (.iload 4, 2) := by decide +kernel
theorem dX5_drink_68 : decode cX5_drink 68 = .ok (.iload_n 3, 1) := by decide +kernel
theorem dX5_drink_69 : decode cX5_drink 69 = .ok (.if_icmp .ne 18, 3) := by decide +kernel
theorem dX5_drink_72 : decode cX5_drink 72 = .ok (.iconst 0, 1) := by decide +kernel
theorem dX5_drink_73 : decode cX5_drink 73 = .ok (.aload_n 0, 1) := by decide +kernel
theorem dX5_drink_74 : decode cX5_drink 74 = .ok (.iload_n 1, 1) := by decide +kernel
theorem dX5_drink_75 : decode cX5_drink 75 = .ok (.iconst 2, 1) := by decide +kernel
theorem dX5_drink_76 : decode cX5_drink 76 = .ok (.invokevirtual 84, 3) := by decide +kernel
theorem dX5_drink_79 : decode cX5_drink 79 = .ok (.iconst 2, 1) := by decide +kernel
theorem dX5_drink_80 : decode cX5_drink 80 = .ok (.isub, 1) := by decide +kernel
theorem dX5_drink_81 : decode cX5_drink 81 = .ok (.invokestatic 81, 3) := by decide +kernel
theorem dX5_drink_84 : decode cX5_drink 84 = .ok (.goto 16, 3) := by decide +kernel
theorem dX5_drink_87 : decode cX5_drink 87 = .ok (.bipush 10, 2) := by decide +kernel
theorem dX5_drink_89 : decode cX5_drink 89 = .ok (.aload_n 0, 1) := by decide +kernel
theorem dX5_drink_90 : decode cX5_drink 90 = .ok (.iload_n 1, 1) := by decide +kernel
theorem dX5_drink_91 : decode cX5_drink 91 = .ok (.iconst 2, 1) := by decide +kernel
theorem dX5_drink_92 : decode cX5_drink 92 = .ok (.invokevirtual 84, 3) := by decide +kernel
theorem dX5_drink_95 : decode cX5_drink 95 = .ok (.iconst 3, 1) := by decide +kernel
theorem dX5_drink_96 : decode cX5_drink 96 = .ok (.iadd, 1) := by decide +kernel
theorem dX5_drink_97 : decode cX5_drink 97 = .ok (.invokestatic 72, 3) := by decide +kernel
theorem dX5_drink_100 : decode cX5_drink 100 = .ok (.invokevirtual 112, 3) := by decide +kernel
theorem dX5_drink_103 : decode cX5_drink 103 = .ok (.aload_n 0, 1) := by decide +kernel
theorem dX5_drink_104 : decode cX5_drink 104 = .ok (.iload_n 2, 1) := by decide +kernel
theorem dX5_drink_105 : decode cX5_drink 105 = .ok (.iconst 2, 1) := by decide +kernel
theorem dX5_drink_106 : decode cX5_drink 106 = .ok (.invokevirtual 66, 3) := by decide +kernel
theorem dX5_drink_109 : decode cX5_drink 109 = .ok (.ifCond .ne 29, 3) := by decide +kernel
theorem dX5_drink_112 : decode cX5_drink 112 = .ok (.aload_n 0, 1) := by decide +kernel
theorem dX5_drink_113 : decode cX5_drink 113 = .ok (.iload_n 2, 1) := by decide +kernel
theorem dX5_drink_114 : decode cX5_drink 114 = .ok (.iconst 1, 1) := by decide +kernel
theorem dX5_drink_115 : decode cX5_drink 115 = .ok (.iconst 0, 1) := by decide +kernel
theorem dX5_drink_116 : decode cX5_drink 116 = .ok (.aload_n 0, 1) := by decide +kernel
theorem dX5_drink_117 : decode cX5_drink 117 = .ok (.iload_n 2, 1) := by decide +kernel
theorem dX5_drink_118 : decode cX5_drink 118 = .ok (.iconst 1, 1) := by decide +kernel
theorem dX5_drink_119 : decode cX5_drink 119 = .ok (.invokevirtual 66, 3) := by decide +kernel
theorem dX5_drink_122 : decode cX5_drink 122 = .ok (.aload_n 0, 1) := by decide +kernel
theorem dX5_drink_123 : decode cX5_drink 123 = .ok (.iload_n 1, 1) := by decide +kernel
theorem dX5_drink_124 : decode cX5_drink 124 = .ok (.iconst 0, 1) := by decide +kernel
theorem dX5_drink_125 : decode cX5_drink 125 = .ok (.invokevirtual 84, 3) := by decide +kernel
theorem dX5_drink_128 : decode cX5_drink 128 = .ok (.bipush 10, 2) := by decide +kernel
theorem dX5_drink_130 : decode cX5_drink 130 = .ok (.idiv, 1) := by decide +kernel
theorem dX5_drink_131 : decode cX5_drink 131 = .ok (.isub, 1) := by decide +kernel
theorem dX5_drink_132 : decode cX5_drink 132 = .ok (.invokestatic 81, 3) := by decide +kernel
theorem dX5_drink_135 : decode cX5_drink 135 = .ok (.invokevirtual 58, 3) := by decide +kernel
theorem dX5_drink_138 : decode cX5_drink 138 = .ok (.iload 4, 2) := by decide +kernel
theorem dX5_drink_140 : decode cX5_drink 140 = .ok (.ireturn, 1) := by decide +kernel
theorem dX5_change_0 : decode cX5_change 0 = .ok (.aload_n 0, 1) := by decide +kernel
theorem dX5_change_1 : decode cX5_change 1 = .ok (.iload_n 1, 1) := by decide +kernel
theorem dX5_change_2 : decode cX5_change 2 = .ok (.iconst 0, 1) := by decide +kernel
theorem dX5_change_3 : decode cX5_change 3 = .ok (.iconst 0, 1) := by decide +kernel
theorem dX5_change_4 : decode cX5_change 4 = .ok (.aload_n 0, 1) := by decide +kernel
theorem dX5_change_5 : decode cX5_change 5 = .ok (.iload_n 1, 1) := by decide +kernel
theorem dX5_change_6 : decode cX5_change 6 = .ok (.iconst 0, 1) := by decide +kernel
theorem dX5_change_7 : decode cX5_change 7 = .ok (.invokevirtual 66, 3) := by decide +kernel
theorem dX5_change_10 : decode cX5_change 10 = .ok (.iload_n 2, 1) := by decide +kernel
theorem dX5_change_11 : decode cX5_change 11 = .ok (.iadd, 1) := by decide +kernel
theorem dX5_change_12 : decode cX5_change 12 = .ok (.invokestatic 81, 3) := by decide +kernel
theorem dX5_change_15 : decode cX5_change 15 = .ok (.invokevirtual 58, 3) := by decide +kernel
theorem dX5_change_18 : decode cX5_change 18 = .ok (.return_, 1) := by decide +kernel
theorem dX5_runOver_0 : decode cX5_runOver 0 = .ok (.sipush 300, 3) := by decide +kernel
theorem dX5_runOver_3 : decode cX5_runOver 3 = .ok (.istore_n 1, 1) := by decide +kernel
theorem dX5_runOver_4 : decode cX5_runOver 4 = .ok (.iload_n 1, 1) := by decide +kernel
theorem dX5_runOver_5 : decode cX5_runOver 5 = .ok (.ifCond .lt 97, 3) := by decide +kernel
theorem dX5_runOver_8 : decode cX5_runOver 8 = .ok (.iconst 0, 1) := by decide +kernel
theorem dX5_runOver_9 : decode cX5_runOver 9 = .ok (.istore_n 2, 1) := by decide +kernel
theorem dX5_runOver_10 : decode cX5_runOver 10 = .ok (.iload_n 2, 1) := by decide +kernel
theorem dX5_runOver_11 : decode cX5_runOver 11 = .ok (.aload_n 0, 1) := by decide +kernel
theorem dX5_runOver_12 : decode cX5_runOver 12 = .ok (.getfield 29, 3) := by decide +kernel
theorem dX5_runOver_15 : decode cX5_runOver 15 = .ok (.if_icmp .ge 81, 3) := by decide +kernel
theorem dX5_runOver_18 : decode cX5_runOver 18 = .ok (.aload_n 0, 1) := by decide +kernel
theorem dX5_runOver_19 : decode cX5_runOver 19 = .ok (.iload_n 2, 1) := by decide +kernel
theorem dX5_runOver_20 : decode cX5_runOver 20 = .ok (.iconst 0, 1) := by decide +kernel
theorem dX5_runOver_21 : decode cX5_runOver 21 = .ok (.invokevirtual 66, 3) := by decide +kernel
theorem dX5_runOver_24 : decode cX5_runOver 24 = .ok (.aload_n 0, 1) := by decide +kernel
theorem dX5_runOver_25 : decode cX5_runOver 25 = .ok (.iload_n 2, 1) := by decide +kernel
theorem dX5_runOver_26 : decode cX5_runOver 26 = .ok (.invokevirtual 69, 3) := by decide +kernel
theorem dX5_runOver_29 : decode cX5_runOver 29 = .ok (.isub, 1) := by decide +kernel
theorem dX5_runOver_30 : decode cX5_runOver 30 = .ok (.istore_n 3, 1) := by decide +kernel
theorem dX5_runOver_31 : decode cX5_runOver 31 = .ok (.aload_n 0, 1) := by decide +kernel
theorem dX5_runOver_32 : decode cX5_runOver 32 = .ok (.iload_n 2, 1) := by decide +kernel
theorem dX5_runOver_33 : decode cX5_runOver 33 = .ok (.iconst 2, 1) := by decide +kernel
theorem dX5_runOver_34 : decode cX5_runOver 34 = .ok (.invokevirtual 39, 3) := by decide +kernel
theorem dX5_runOver_37 : decode cX5_runOver 37 = .ok (.iload_n 1, 1) := by decide +kernel
theorem dX5_runOver_38 : decode cX5_runOver 38 = .ok (.if_icmp .ne 52, 3) := by decide +kernel
theorem dX5_runOver_41 : decode cX5_runOver 41 = .ok (.iload_n 3, 1) := by decide +kernel
theorem dX5_runOver_42 : decode cX5_runOver 42 = .ok (.ifCond .gt 6, 3) := by decide +kernel
theorem dX5_runOver_45 : decode cX5_runOver 45 = .ok (.goto 45, 3) := by decide +kernel
theorem dX5_runOver_48 : decode cX5_runOver 48 = .ok (.aload_n 0, 1) := by decide +kernel
theorem dX5_runOver_49 : decode cX5_runOver 49 = .ok (.iload_n 2, 1) := by decide +kernel
theorem dX5_runOver_50 : decode cX5_runOver 50 = .ok (.iload_n 3, 1) := by decide +kernel
theorem dX5_runOver_51 : decode cX5_runOver 51 = .ok (.ineg, 1) := by decide +kernel
theorem dX5_runOver_52 : decode cX5_runOver 52 = .ok (.invokevirtual 122, 3) := by decide +kernel
theorem dX5_runOver_55 : decode cX5_runOver 55 = .ok (.aload_n 0, 1) := by decide +kernel
theorem dX5_runOver_56 : decode cX5_runOver 56 = .ok (.iload_n 2, 1) := by decide +kernel
theorem dX5_runOver_57 : decode cX5_runOver 57 = .ok (.iconst 4, 1) := by decide +kernel
theorem dX5_runOver_58 : decode cX5_runOver 58 = .ok (.aload_n 0, 1) := by decide +kernel
theorem dX5_runOver_59 : decode cX5_runOver 59 = .ok (.iload_n 2, 1) := by decide +kernel
theorem dX5_runOver_60 : decode cX5_runOver 60 = .ok (.iconst 4, 1) := by decide +kernel
theorem dX5_runOver_61 : decode cX5_runOver 61 = .ok (.invokevirtual 66, 3) := by decide +kernel
theorem dX5_runOver_64 : decode cX5_runOver 64 = .ok (.iload_n 3, 1) := by decide +kernel
theorem dX5_runOver_65 : decode cX5_runOver 65 = .ok (.iadd, 1) := by decide +kernel
theorem dX5_runOver_66 : decode cX5_runOver 66 = .ok (.invokevirtual 58, 3) := by decide +kernel
theorem dX5_runOver_69 : decode cX5_runOver 69 = .ok (.aload_n 0, 1) := by decide +kernel
theorem dX5_runOver_70 : decode cX5_runOver 70 = .ok (.iload_n 2, 1) := by decide +kernel
theorem dX5_runOver_71 : decode cX5_runOver 71 = .ok (.iconst 3, 1) := by decide +kernel
theorem dX5_runOver_72 : decode cX5_runOver 72 = .ok (.invokevirtual 66, 3) := by decide +kernel
theorem dX5_runOver_75 : decode cX5_runOver 75 = .ok (.iconst (-1), 1) := by decide +kernel
theorem dX5_runOver_76 : decode cX5_runOver 76 = .ok (.if_icmp .eq 14, 3) := by decide +kernel
theorem dX5_runOver_79 : decode cX5_runOver 79 = .ok (.aload_n 0, 1) := by decide +kernel
theorem dX5_runOver_80 : decode cX5_runOver 80 = .ok (.aload_n 0, 1) := by decide +kernel
theorem dX5_runOver_81 : decode cX5_runOver 81 = .ok (.iload_n 2, 1) := by decide +kernel
theorem dX5_runOver_82 : decode cX5_runOver 82 = .ok (.iconst 3, 1) := by decide +kernel
theorem dX5_runOver_83 : decode cX5_runOver 83 = .ok (.invokevirtual 66, 3) := by decide +kernel
theorem dX5_runOver_86 : decode cX5_runOver 86 = .ok (.iload_n 3, 1) := by decide +kernel
theorem dX5_runOver_87 : decode cX5_runOver 87 = .ok (.invokevirtual 122, 3) := by decide +kernel
theorem dX5_runOver_90 : decode cX5_runOver 90 = .ok (.iinc 2 1, 3) := by decide +kernel
theorem dX5_runOver_93 : decode cX5_runOver 93 = .ok (.goto (-83), 3) := by decide +kernel
theorem dX5_runOver_96 : decode cX5_runOver 96 = .ok (.iinc 1 (-1), 3) := by decide +kernel
theorem dX5_runOver_99 : decode cX5_runOver 99 = .ok (.goto (-95), 3) := by decide +kernel
theorem dX5_runOver_102 : decode cX5_runOver 102 = .ok (.return_, 1) := by decide +kernel
theorem dX5_dayOn_0 : decode cX5_dayOn 0 = .ok (.aload_n 0, 1) := by decide +kernel
theorem dX5_dayOn_1 : decode cX5_dayOn 1 = .ok (.getfield 22, 3) := by decide +kernel
theorem dX5_dayOn_4 : decode cX5_dayOn 4 = .ok (.iconst 0, 1) := by decide +kernel
theorem dX5_dayOn_5 : decode cX5_dayOn 5 = .ok (.iaload, 1) := by decide +kernel
theorem dX5_dayOn_6 : decode cX5_dayOn 6 = .ok (.bipush 10, 2) := by decide +kernel
theorem dX5_dayOn_8 : decode cX5_dayOn 8 = .ok (.irem, 1) := by decide +kernel
theorem dX5_dayOn_9 : decode cX5_dayOn 9 = .ok (.istore_n 1, 1) := by decide +kernel
theorem dX5_dayOn_10 : decode cX5_dayOn 10 = .ok (.iconst 0, 1) := by decide +kernel
theorem dX5_dayOn_11 : decode cX5_dayOn 11 = .ok (.istore_n 2, 1) := by decide +kernel
theorem dX5_dayOn_12 : decode cX5_dayOn 12 = .ok (.iconst 0, 1) := by decide +kernel
theorem dX5_dayOn_13 : decode cX5_dayOn 13 = .ok (.istore_n 3, 1) := by decide +kernel
theorem dX5_dayOn_14 : decode cX5_dayOn 14 = .ok (.iload_n 3, 1) := by decide +kernel
theorem dX5_dayOn_15 : decode cX5_dayOn 15 = .ok (.aload_n 0, 1) := by decide +kernel
theorem dX5_dayOn_16 : decode cX5_dayOn 16 = .ok (.getfield 29, 3) := by decide +kernel
theorem dX5_dayOn_19 : decode cX5_dayOn 19 = .ok (.if_icmp .ge 73, 3) := by decide +kernel
theorem dX5_dayOn_22 : decode cX5_dayOn 22 = .ok (.aload_n 0, 1) := by decide +kernel
theorem dX5_dayOn_23 : decode cX5_dayOn 23 = .ok (.iload_n 3, 1) := by decide +kernel
theorem dX5_dayOn_24 : decode cX5_dayOn 24 = .ok (.aload_n 0, 1) := by decide +kernel
theorem dX5_dayOn_25 : decode cX5_dayOn 25 = .ok (.getfield 13, 3) := by decide +kernel
theorem dX5_dayOn_28 : decode cX5_dayOn 28 = .ok (.iconst 3, 1) := by decide +kernel
theorem dX5_dayOn_29 : decode cX5_dayOn 29 = .ok (.iload_n 1, 1) := by decide +kernel
theorem dX5_dayOn_30 : decode cX5_dayOn 30 = .ok (.imul, 1) := by decide +kernel
theorem dX5_dayOn_31 : decode cX5_dayOn 31 = .ok (.iaload, 1) := by decide +kernel
theorem dX5_dayOn_32 : decode cX5_dayOn 32 = .ok (.aload_n 0, 1) := by decide +kernel
theorem dX5_dayOn_33 : decode cX5_dayOn 33 = .ok (.iload_n 3, 1) := by decide +kernel
theorem dX5_dayOn_34 : decode cX5_dayOn 34 = .ok (.iconst 3, 1) := by decide +kernel
theorem dX5_dayOn_35 : decode cX5_dayOn 35 = .ok (.invokevirtual 39, 3) := by decide +kernel
theorem dX5_dayOn_38 : decode cX5_dayOn 38 = .ok (.imul, 1) := by decide +kernel
theorem dX5_dayOn_39 : decode cX5_dayOn 39 = .ok (.iconst 4, 1) := by decide +kernel
theorem dX5_dayOn_40 : decode cX5_dayOn 40 = .ok (.idiv, 1) := by decide +kernel
theorem dX5_dayOn_41 : decode cX5_dayOn 41 = .ok (.aload_n 0, 1) := by decide +kernel
theorem dX5_dayOn_42 : decode cX5_dayOn 42 = .ok (.iload_n 3, 1) := by decide +kernel
theorem dX5_dayOn_43 : decode cX5_dayOn 43 = .ok (.iconst 2, 1) := by decide +kernel
theorem dX5_dayOn_44 : decode cX5_dayOn 44 = .ok (.invokevirtual 39, 3) := by decide +kernel
theorem dX5_dayOn_47 : decode cX5_dayOn 47 = .ok (.sipush 150, 3) := by decide +kernel
theorem dX5_dayOn_50 : decode cX5_dayOn 50 = .ok (.if_icmp .lt 7, 3) := by decide +kernel
theorem dX5_dayOn_53 : decode cX5_dayOn 53 = .ok (.iconst 2, 1) := by decide +kernel
theorem dX5_dayOn_54 : decode cX5_dayOn 54 = .ok (.goto 4, 3) := by decide +kernel
theorem dX5_dayOn_57 : decode cX5_dayOn 57 = .ok (.iconst 1, 1) := by decide +kernel
theorem dX5_dayOn_58 : decode cX5_dayOn 58 = .ok (.imul, 1) := by decide +kernel
theorem dX5_dayOn_59 : decode cX5_dayOn 59 = .ok (.invokevirtual 122, 3) := by decide +kernel
theorem dX5_dayOn_62 : decode cX5_dayOn 62 = .ok (.aload_n 0, 1) := by decide +kernel
theorem dX5_dayOn_63 : decode cX5_dayOn 63 = .ok (.iload_n 3, 1) := by decide +kernel
theorem dX5_dayOn_64 : decode cX5_dayOn 64 = .ok (.aload_n 0, 1) := by decide +kernel
theorem dX5_dayOn_65 : decode cX5_dayOn 65 = .ok (.getfield 13, 3) := by decide +kernel
theorem dX5_dayOn_68 : decode cX5_dayOn 68 = .ok (.iconst 3, 1) := by decide +kernel
theorem dX5_dayOn_69 : decode cX5_dayOn 69 = .ok (.iload_n 1, 1) := by decide +kernel
theorem dX5_dayOn_70 : decode cX5_dayOn 70 = .ok (.imul, 1) := by decide +kernel
theorem dX5_dayOn_71 : decode cX5_dayOn 71 = .ok (.iconst 1, 1) := by decide +kernel
theorem dX5_dayOn_72 : decode cX5_dayOn 72 = .ok (.iadd, 1) := by decide +kernel
theorem dX5_dayOn_73 : decode cX5_dayOn 73 = .ok (.iaload, 1) := by decide +kernel
theorem dX5_dayOn_74 : decode cX5_dayOn 74 = .ok (.aload_n 0, 1) := by decide +kernel
theorem dX5_dayOn_75 : decode cX5_dayOn 75 = .ok (.iload_n 3, 1) := by decide +kernel
theorem dX5_dayOn_76 : decode cX5_dayOn 76 = .ok (.iconst 3, 1) := by decide +kernel
theorem dX5_dayOn_77 : decode cX5_dayOn 77 = .ok (.invokevirtual 39, 3) := by decide +kernel
theorem dX5_dayOn_80 : decode cX5_dayOn 80 = .ok (.imul, 1) := by decide +kernel
theorem dX5_dayOn_81 : decode cX5_dayOn 81 = .ok (.iconst 2, 1) := by decide +kernel
theorem dX5_dayOn_82 : decode cX5_dayOn 82 = .ok (.idiv, 1) := by decide +kernel
theorem dX5_dayOn_83 : decode cX5_dayOn 83 = .ok (.invokevirtual 122, 3) := by decide +kernel
theorem dX5_dayOn_86 : decode cX5_dayOn 86 = .ok (.iinc 3 1, 3) := by decide +kernel
theorem dX5_dayOn_89 : decode cX5_dayOn 89 = .ok (.goto (-75), 3) := by decide +kernel
theorem dX5_dayOn_92 : decode cX5_dayOn 92 = .ok (.iconst 0, 1) := by decide +kernel
theorem dX5_dayOn_93 : decode cX5_dayOn 93 = .ok (.istore_n 3, 1) := by decide +kernel
theorem dX5_dayOn_94 : decode cX5_dayOn 94 = .ok (.iload_n 3, 1) := by decide +kernel
theorem dX5_dayOn_95 : decode cX5_dayOn 95 = .ok (.aload_n 0, 1) := by decide +kernel
theorem dX5_dayOn_96 : decode cX5_dayOn 96 = .ok (.getfield 36, 3) := by decide +kernel
theorem dX5_dayOn_99 : decode cX5_dayOn 99 = .ok (.if_icmp .ge 25, 3) := by decide +kernel
theorem dX5_dayOn_102 : decode cX5_dayOn 102 = .ok (.aload_n 0, 1) := by decide +kernel
theorem dX5_dayOn_103 : decode cX5_dayOn 103 = .ok (.iload_n 3, 1) := by decide +kernel
theorem dX5_dayOn_104 : decode cX5_dayOn 104 = .ok (.invokevirtual 87, 3) := by decide +kernel
theorem dX5_dayOn_107 : decode cX5_dayOn 107 = .ok (.ifCond .ne 11, 3) := by decide +kernel
theorem dX5_dayOn_110 : decode cX5_dayOn 110 = .ok (.iload_n 2, 1) := by decide +kernel
theorem dX5_dayOn_111 : decode cX5_dayOn 111 = .ok (.aload_n 0, 1) := by decide +kernel
theorem dX5_dayOn_112 : decode cX5_dayOn 112 = .ok (.iload_n 3, 1) := by decide +kernel
theorem dX5_dayOn_113 : decode cX5_dayOn 113 = .ok (.invokevirtual 125, 3) := by decide +kernel
theorem dX5_dayOn_116 : decode cX5_dayOn 116 = .ok (.iadd, 1) := by decide +kernel
theorem dX5_dayOn_117 : decode cX5_dayOn 117 = .ok (.istore_n 2, 1) := by decide +kernel
theorem dX5_dayOn_118 : decode cX5_dayOn 118 = .ok (.iinc 3 1, 3) := by decide +kernel
theorem dX5_dayOn_121 : decode cX5_dayOn 121 = .ok (.goto (-27), 3) := by decide +kernel
theorem dX5_dayOn_124 : decode cX5_dayOn 124 = .ok (.iconst 0, 1) := by decide +kernel
theorem dX5_dayOn_125 : decode cX5_dayOn 125 = .ok (.istore_n 3, 1) := by decide +kernel
theorem dX5_dayOn_126 : decode cX5_dayOn 126 = .ok (.iload_n 3, 1) := by decide +kernel
theorem dX5_dayOn_127 : decode cX5_dayOn 127 = .ok (.aload_n 0, 1) := by decide +kernel
theorem dX5_dayOn_128 : decode cX5_dayOn 128 = .ok (.getfield 29, 3) := by decide +kernel
theorem dX5_dayOn_131 : decode cX5_dayOn 131 = .ok (.if_icmp .ge 76, 3) := by decide +kernel
theorem dX5_dayOn_134 : decode cX5_dayOn 134 = .ok (.aload_n 0, 1) := by decide +kernel
theorem dX5_dayOn_135 : decode cX5_dayOn 135 = .ok (.iload_n 3, 1) := by decide +kernel
theorem dX5_dayOn_136 : decode cX5_dayOn 136 = .ok (.aload_n 0, 1) := by decide +kernel
theorem dX5_dayOn_137 : decode cX5_dayOn 137 = .ok (.getfield 13, 3) := by decide +kernel
theorem dX5_dayOn_140 : decode cX5_dayOn 140 = .ok (.iconst 3, 1) := by decide +kernel
theorem dX5_dayOn_141 : decode cX5_dayOn 141 = .ok (.iload_n 1, 1) := by decide +kernel
theorem dX5_dayOn_142 : decode cX5_dayOn 142 = .ok (.imul, 1) := by decide +kernel
theorem dX5_dayOn_143 : decode cX5_dayOn 143 = .ok (.iconst 2, 1) := by decide +kernel
theorem dX5_dayOn_144 : decode cX5_dayOn 144 = .ok (.iadd, 1) := by decide +kernel
theorem dX5_dayOn_145 : decode cX5_dayOn 145 = .ok (.iaload, 1) := by decide +kernel
theorem dX5_dayOn_146 : decode cX5_dayOn 146 = .ok (.aload_n 0, 1) := by decide +kernel
theorem dX5_dayOn_147 : decode cX5_dayOn 147 = .ok (.iload_n 3, 1) := by decide +kernel
theorem dX5_dayOn_148 : decode cX5_dayOn 148 = .ok (.iconst 3, 1) := by decide +kernel
theorem dX5_dayOn_149 : decode cX5_dayOn 149 = .ok (.invokevirtual 39, 3) := by decide +kernel
theorem dX5_dayOn_152 : decode cX5_dayOn 152 = .ok (.imul, 1) := by decide +kernel
theorem dX5_dayOn_153 : decode cX5_dayOn 153 = .ok (.iconst 5, 1) := by decide +kernel
theorem dX5_dayOn_154 : decode cX5_dayOn 154 = .ok (.idiv, 1) := by decide +kernel
theorem dX5_dayOn_155 : decode cX5_dayOn 155 = .ok (.aload_n 0, 1) := by decide +kernel
theorem dX5_dayOn_156 : decode cX5_dayOn 156 = .ok (.iload_n 3, 1) := by decide +kernel
theorem dX5_dayOn_157 : decode cX5_dayOn 157 = .ok (.iconst 2, 1) := by decide +kernel
theorem dX5_dayOn_158 : decode cX5_dayOn 158 = .ok (.invokevirtual 66, 3) := by decide +kernel
theorem dX5_dayOn_161 : decode cX5_dayOn 161 = .ok (.iconst 1, 1) := by decide +kernel
theorem dX5_dayOn_162 : decode cX5_dayOn 162 = .ok (.if_icmp .ne 7, 3) := by decide +kernel
theorem dX5_dayOn_165 : decode cX5_dayOn 165 = .ok (.iconst 2, 1) := by decide +kernel
theorem dX5_dayOn_166 : decode cX5_dayOn 166 = .ok (.goto 4, 3) := by decide +kernel
theorem dX5_dayOn_169 : decode cX5_dayOn 169 = .ok (.iconst 1, 1) := by decide +kernel
theorem dX5_dayOn_170 : decode cX5_dayOn 170 = .ok (.idiv, 1) := by decide +kernel
theorem dX5_dayOn_171 : decode cX5_dayOn 171 = .ok (.ineg, 1) := by decide +kernel
theorem dX5_dayOn_172 : decode cX5_dayOn 172 = .ok (.invokevirtual 122, 3) := by decide +kernel
theorem dX5_dayOn_175 : decode cX5_dayOn 175 = .ok (.aload_n 0, 1) := by decide +kernel
theorem dX5_dayOn_176 : decode cX5_dayOn 176 = .ok (.iload_n 3, 1) := by decide +kernel
theorem dX5_dayOn_177 : decode cX5_dayOn 177 = .ok (.aload_n 0, 1) := by decide +kernel
theorem dX5_dayOn_178 : decode cX5_dayOn 178 = .ok (.iload_n 3, 1) := by decide +kernel
theorem dX5_dayOn_179 : decode cX5_dayOn 179 = .ok (.iconst 0, 1) := by decide +kernel
theorem dX5_dayOn_180 : decode cX5_dayOn 180 = .ok (.invokevirtual 66, 3) := by decide +kernel
theorem dX5_dayOn_183 : decode cX5_dayOn 183 = .ok (.bipush 100, 2) := by decide +kernel
theorem dX5_dayOn_185 : decode cX5_dayOn 185 = .ok (.aload_n 0, 1) := by decide +kernel
theorem dX5_dayOn_186 : decode cX5_dayOn 186 = .ok (.iload_n 3, 1) := by decide +kernel
theorem dX5_dayOn_187 : decode cX5_dayOn 187 = .ok (.iconst 1, 1) := by decide +kernel
theorem dX5_dayOn_188 : decode cX5_dayOn 188 = .ok (.invokevirtual 66, 3) := by decide +kernel
theorem dX5_dayOn_191 : decode cX5_dayOn 191 = .ok (.isub, 1) := by decide +kernel
theorem dX5_dayOn_192 : decode cX5_dayOn 192 = .ok (.imul, 1) := by decide +kernel
theorem dX5_dayOn_193 : decode cX5_dayOn 193 = .ok (.sipush 200, 3) := by decide +kernel
theorem dX5_dayOn_196 : decode cX5_dayOn 196 = .ok (.idiv, 1) := by decide +kernel
theorem dX5_dayOn_197 : decode cX5_dayOn 197 = .ok (.ineg, 1) := by decide +kernel
theorem dX5_dayOn_198 : decode cX5_dayOn 198 = .ok (.invokevirtual 122, 3) := by decide +kernel
theorem dX5_dayOn_201 : decode cX5_dayOn 201 = .ok (.iinc 3 1, 3) := by decide +kernel
theorem dX5_dayOn_204 : decode cX5_dayOn 204 = .ok (.goto (-78), 3) := by decide +kernel
theorem dX5_dayOn_207 : decode cX5_dayOn 207 = .ok (.aload_n 0, 1) := by decide +kernel
theorem dX5_dayOn_208 : decode cX5_dayOn 208 = .ok (.invokevirtual 128, 3) := by decide +kernel
theorem dX5_dayOn_211 : decode cX5_dayOn 211 = .ok (.iconst 0, 1) := by decide +kernel
theorem dX5_dayOn_212 : decode cX5_dayOn 212 = .ok (.istore_n 3, 1) := by decide +kernel
theorem dX5_dayOn_213 : decode cX5_dayOn 213 = .ok (.iload_n 3, 1) := by decide +kernel
theorem dX5_dayOn_214 : decode cX5_dayOn 214 = .ok (.aload_n 0, 1) := by decide +kernel
theorem dX5_dayOn_215 : decode cX5_dayOn 215 = .ok (.getfield 29, 3) := by decide +kernel
theorem dX5_dayOn_218 : decode cX5_dayOn 218 = .ok (.if_icmp .ge 22, 3) := by decide +kernel
theorem dX5_dayOn_221 : decode cX5_dayOn 221 = .ok (.iload_n 1, 1) := by decide +kernel
theorem dX5_dayOn_222 : decode cX5_dayOn 222 = .ok (.bipush 9, 2) := by decide +kernel
theorem dX5_dayOn_224 : decode cX5_dayOn 224 = .ok (.if_icmp .ne 16, 3) := by decide +kernel
theorem dX5_dayOn_227 : decode cX5_dayOn 227 = .ok (.aload_n 0, 1) := by decide +kernel
theorem dX5_dayOn_228 : decode cX5_dayOn 228 = .ok (.iload_n 3, 1) := by decide +kernel
theorem dX5_dayOn_229 : decode cX5_dayOn 229 = .ok (.iconst 2, 1) := by decide +kernel
theorem dX5_dayOn_230 : decode cX5_dayOn 230 = .ok (.iconst 0, 1) := by decide +kernel
theorem dX5_dayOn_231 : decode cX5_dayOn 231 = .ok (.invokevirtual 58, 3) := by decide +kernel
theorem dX5_dayOn_234 : decode cX5_dayOn 234 = .ok (.iinc 3 1, 3) := by decide +kernel
theorem dX5_dayOn_237 : decode cX5_dayOn 237 = .ok (.goto (-24), 3) := by decide +kernel
theorem dX5_dayOn_240 : decode cX5_dayOn 240 = .ok (.aload_n 0, 1) := by decide +kernel
theorem dX5_dayOn_241 : decode cX5_dayOn 241 = .ok (.getfield 22, 3) := by decide +kernel
theorem dX5_dayOn_244 : decode cX5_dayOn 244 = .ok (.iconst 0, 1) := by decide +kernel
theorem dX5_dayOn_245 : decode cX5_dayOn 245 = .ok (.dup2, 1) := by decide +kernel
theorem dX5_dayOn_246 : decode cX5_dayOn 246 = .ok (.iaload, 1) := by decide +kernel
theorem dX5_dayOn_247 : decode cX5_dayOn 247 = .ok (.iconst 1, 1) := by decide +kernel
theorem dX5_dayOn_248 : decode cX5_dayOn 248 = .ok (.iadd, 1) := by decide +kernel
theorem dX5_dayOn_249 : decode cX5_dayOn 249 = .ok (.iastore, 1) := by decide +kernel
theorem dX5_dayOn_250 : decode cX5_dayOn 250 = .ok (.iload_n 2, 1) := by decide +kernel
theorem dX5_dayOn_251 : decode cX5_dayOn 251 = .ok (.ireturn, 1) := by decide +kernel
theorem dX5_pass_0 : decode cX5_pass 0 = .ok (.aload_n 0, 1) := by decide +kernel
theorem dX5_pass_1 : decode cX5_pass 1 = .ok (.iconst 0, 1) := by decide +kernel
theorem dX5_pass_2 : decode cX5_pass 2 = .ok (.putfield 25, 3) := by decide +kernel
theorem dX5_pass_5 : decode cX5_pass 5 = .ok (.iload_n 1, 1) := by decide +kernel
theorem dX5_pass_6 : decode cX5_pass 6 = .ok (.iconst 1, 1) := by decide +kernel
theorem dX5_pass_7 : decode cX5_pass 7 = .ok (.bipush 100, 2) := by decide +kernel
theorem dX5_pass_9 : decode cX5_pass 9 = .ok (.invokestatic 32, 3) := by decide +kernel
theorem dX5_pass_12 : decode cX5_pass 12 = .ok (.ifCond .ne 9, 3) := by decide +kernel
theorem dX5_pass_15 : decode cX5_pass 15 = .ok (.aload_n 0, 1) := by decide +kernel
theorem dX5_pass_16 : decode cX5_pass 16 = .ok (.iconst 1, 1) := by decide +kernel
theorem dX5_pass_17 : decode cX5_pass 17 = .ok (.invokevirtual 49, 3) := by decide +kernel
theorem dX5_pass_20 : decode cX5_pass 20 = .ok (.ireturn, 1) := by decide +kernel
theorem dX5_pass_21 : decode cX5_pass 21 = .ok (.iconst 0, 1) := by decide +kernel
theorem dX5_pass_22 : decode cX5_pass 22 = .ok (.istore_n 2, 1) := by decide +kernel
theorem dX5_pass_23 : decode cX5_pass 23 = .ok (.iconst 0, 1) := by decide +kernel
theorem dX5_pass_24 : decode cX5_pass 24 = .ok (.istore_n 3, 1) := by decide +kernel
theorem dX5_pass_25 : decode cX5_pass 25 = .ok (.iload_n 3, 1) := by decide +kernel
theorem dX5_pass_26 : decode cX5_pass 26 = .ok (.iload_n 1, 1) := by decide +kernel
theorem dX5_pass_27 : decode cX5_pass 27 = .ok (.if_icmp .ge 16, 3) := by decide +kernel
theorem dX5_pass_30 : decode cX5_pass 30 = .ok (.iload_n 2, 1) := by decide +kernel
theorem dX5_pass_31 : decode cX5_pass 31 = .ok (.aload_n 0, 1) := by decide +kernel
theorem dX5_pass_32 : decode cX5_pass 32 = .ok (.invokevirtual 131, 3) := by decide +kernel
theorem dX5_pass_35 : decode cX5_pass 35 = .ok (.iadd, 1) := by decide +kernel
theorem dX5_pass_36 : decode cX5_pass 36 = .ok (.istore_n 2, 1) := by decide +kernel
theorem dX5_pass_37 : decode cX5_pass 37 = .ok (.iinc 3 1, 3) := by decide +kernel
theorem dX5_pass_40 : decode cX5_pass 40 = .ok (.goto (-15), 3) := by decide +kernel
theorem dX5_pass_43 : decode cX5_pass 43 = .ok (.iload_n 2, 1) := by decide +kernel
theorem dX5_pass_44 : decode cX5_pass 44 = .ok (.ireturn, 1) := by decide +kernel
theorem dX5_allWater_0 : decode cX5_allWater 0 = .ok (.iconst 0, 1) := by decide +kernel
theorem dX5_allWater_1 : decode cX5_allWater 1 = .ok (.istore_n 1, 1) := by decide +kernel
theorem dX5_allWater_2 : decode cX5_allWater 2 = .ok (.iconst 0, 1) := by decide +kernel
theorem dX5_allWater_3 : decode cX5_allWater 3 = .ok (.istore_n 2, 1) := by decide +kernel
theorem dX5_allWater_4 : decode cX5_allWater 4 = .ok (.iload_n 2, 1) := by decide +kernel
theorem dX5_allWater_5 : decode cX5_allWater 5 = .ok (.aload_n 0, 1) := by decide +kernel
theorem dX5_allWater_6 : decode cX5_allWater 6 = .ok (.getfield 29, 3) := by decide +kernel
theorem dX5_allWater_9 : decode cX5_allWater 9 = .ok (.if_icmp .ge 18, 3) := by decide +kernel
theorem dX5_allWater_12 : decode cX5_allWater 12 = .ok (.iload_n 1, 1) := by decide +kernel
theorem dX5_allWater_13 : decode cX5_allWater 13 = .ok (.aload_n 0, 1) := by decide +kernel
theorem dX5_allWater_14 : decode cX5_allWater 14 = .ok (.iload_n 2, 1) := by decide +kernel
theorem dX5_allWater_15 : decode cX5_allWater 15 = .ok (.iconst 0, 1) := by decide +kernel
theorem dX5_allWater_16 : decode cX5_allWater 16 = .ok (.invokevirtual 66, 3) := by decide +kernel
theorem dX5_allWater_19 : decode cX5_allWater 19 = .ok (.iadd, 1) := by decide +kernel
theorem dX5_allWater_20 : decode cX5_allWater 20 = .ok (.istore_n 1, 1) := by decide +kernel
theorem dX5_allWater_21 : decode cX5_allWater 21 = .ok (.iinc 2 1, 3) := by decide +kernel
theorem dX5_allWater_24 : decode cX5_allWater 24 = .ok (.goto (-20), 3) := by decide +kernel
theorem dX5_allWater_27 : decode cX5_allWater 27 = .ok (.iload_n 1, 1) := by decide +kernel
theorem dX5_allWater_28 : decode cX5_allWater 28 = .ok (.ireturn, 1) := by decide +kernel
theorem dX5_counted_0 : decode cX5_counted 0 = .ok (.iconst 0, 1) := by decide +kernel
theorem dX5_counted_1 : decode cX5_counted 1 = .ok (.istore_n 2, 1) := by decide +kernel
theorem dX5_counted_2 : decode cX5_counted 2 = .ok (.iload_n 1, 1) := by decide +kernel
theorem dX5_counted_3 : decode cX5_counted 3 = .ok (.tableswitch 105 0 6 #[41, 48, 53, 105, 58, 65, 70], 41) := by decide +kernel
theorem dX5_counted_44 : decode cX5_counted 44 = .ok (.aload_n 0, 1) := by decide +kernel
theorem dX5_counted_45 : decode cX5_counted 45 = .ok (.getfield 22, 3) := by decide +kernel
theorem dX5_counted_48 : decode cX5_counted 48 = .ok (.iconst 0, 1) := by decide +kernel
theorem dX5_counted_49 : decode cX5_counted 49 = .ok (.iaload, 1) := by decide +kernel
theorem dX5_counted_50 : decode cX5_counted 50 = .ok (.ireturn, 1) := by decide +kernel
theorem dX5_counted_51 : decode cX5_counted 51 = .ok (.aload_n 0, 1) := by decide +kernel
theorem dX5_counted_52 : decode cX5_counted 52 = .ok (.getfield 29, 3) := by decide +kernel
theorem dX5_counted_55 : decode cX5_counted 55 = .ok (.ireturn, 1) := by decide +kernel
theorem dX5_counted_56 : decode cX5_counted 56 = .ok (.aload_n 0, 1) := by decide +kernel
theorem dX5_counted_57 : decode cX5_counted 57 = .ok (.getfield 36, 3) := by decide +kernel
theorem dX5_counted_60 : decode cX5_counted 60 = .ok (.ireturn, 1) := by decide +kernel
theorem dX5_counted_61 : decode cX5_counted 61 = .ok (.aload_n 0, 1) := by decide +kernel
theorem dX5_counted_62 : decode cX5_counted 62 = .ok (.getfield 22, 3) := by decide +kernel
theorem dX5_counted_65 : decode cX5_counted 65 = .ok (.iconst 1, 1) := by decide +kernel
theorem dX5_counted_66 : decode cX5_counted 66 = .ok (.iaload, 1) := by decide +kernel
theorem dX5_counted_67 : decode cX5_counted 67 = .ok (.ireturn, 1) := by decide +kernel
theorem dX5_counted_68 : decode cX5_counted 68 = .ok (.aload_n 0, 1) := by decide +kernel
theorem dX5_counted_69 : decode cX5_counted 69 = .ok (.invokevirtual 135, 3) := by decide +kernel
theorem dX5_counted_72 : decode cX5_counted 72 = .ok (.ireturn, 1) := by decide +kernel
theorem dX5_counted_73 : decode cX5_counted 73 = .ok (.iconst 0, 1) := by decide +kernel
theorem dX5_counted_74 : decode cX5_counted 74 = .ok (.istore_n 3, 1) := by decide +kernel
theorem dX5_counted_75 : decode cX5_counted 75 = .ok (.iload_n 3, 1) := by decide +kernel
theorem dX5_counted_76 : decode cX5_counted 76 = .ok (.aload_n 0, 1) := by decide +kernel
theorem dX5_counted_77 : decode cX5_counted 77 = .ok (.getfield 29, 3) := by decide +kernel
theorem dX5_counted_80 : decode cX5_counted 80 = .ok (.if_icmp .ge 26, 3) := by decide +kernel
theorem dX5_counted_83 : decode cX5_counted 83 = .ok (.iload_n 2, 1) := by decide +kernel
theorem dX5_counted_84 : decode cX5_counted 84 = .ok (.aload_n 0, 1) := by decide +kernel
theorem dX5_counted_85 : decode cX5_counted 85 = .ok (.iload_n 3, 1) := by decide +kernel
theorem dX5_counted_86 : decode cX5_counted 86 = .ok (.iconst 0, 1) := by decide +kernel
theorem dX5_counted_87 : decode cX5_counted 87 = .ok (.invokevirtual 66, 3) := by decide +kernel
theorem dX5_counted_90 : decode cX5_counted 90 = .ok (.ifCond .ne 7, 3) := by decide +kernel
theorem dX5_counted_93 : decode cX5_counted 93 = .ok (.iconst 1, 1) := by decide +kernel
theorem dX5_counted_94 : decode cX5_counted 94 = .ok (.goto 4, 3) := by decide +kernel
theorem dX5_counted_97 : decode cX5_counted 97 = .ok (.iconst 0, 1) := by decide +kernel
theorem dX5_counted_98 : decode cX5_counted 98 = .ok (.iadd, 1) := by decide +kernel
theorem dX5_counted_99 : decode cX5_counted 99 = .ok (.istore_n 2, 1) := by decide +kernel
theorem dX5_counted_100 : decode cX5_counted 100 = .ok (.iinc 3 1, 3) := by decide +kernel
theorem dX5_counted_103 : decode cX5_counted 103 = .ok (.goto (-28), 3) := by decide +kernel
theorem dX5_counted_106 : decode cX5_counted 106 = .ok (.iload_n 2, 1) := by decide +kernel
theorem dX5_counted_107 : decode cX5_counted 107 = .ok (.ireturn, 1) := by decide +kernel
theorem dX5_counted_108 : decode cX5_counted 108 = .ok (.iconst 0, 1) := by decide +kernel
theorem dX5_counted_109 : decode cX5_counted 109 = .ok (.istore_n 3, 1) := by decide +kernel
theorem dX5_counted_110 : decode cX5_counted 110 = .ok (.iload_n 3, 1) := by decide +kernel
theorem dX5_counted_111 : decode cX5_counted 111 = .ok (.aload_n 0, 1) := by decide +kernel
theorem dX5_counted_112 : decode cX5_counted 112 = .ok (.getfield 36, 3) := by decide +kernel
theorem dX5_counted_115 : decode cX5_counted 115 = .ok (.if_icmp .ge 51, 3) := by decide +kernel
theorem dX5_counted_118 : decode cX5_counted 118 = .ok (.iload_n 2, 1) := by decide +kernel
theorem dX5_counted_119 : decode cX5_counted 119 = .ok (.iload_n 1, 1) := by decide +kernel
theorem dX5_counted_120 : decode cX5_counted 120 = .ok (.iconst 3, 1) := by decide +kernel
theorem dX5_counted_121 : decode cX5_counted 121 = .ok (.if_icmp .ne 19, 3) := by decide +kernel
theorem dX5_counted_124 : decode cX5_counted 124 = .ok (.aload_n 0, 1) := by decide +kernel
theorem dX5_counted_125 : decode cX5_counted 125 = .ok (.iload_n 3, 1) := by decide +kernel
theorem dX5_counted_126 : decode cX5_counted 126 = .ok (.invokevirtual 87, 3) := by decide +kernel
theorem dX5_counted_129 : decode cX5_counted 129 = .ok (.ifCond .eq 7, 3) := by decide +kernel
theorem dX5_counted_132 : decode cX5_counted 132 = .ok (.iconst 1, 1) := by decide +kernel
theorem dX5_counted_133 : decode cX5_counted 133 = .ok (.goto 25, 3) := by decide +kernel
theorem dX5_counted_136 : decode cX5_counted 136 = .ok (.iconst 0, 1) := by decide +kernel
theorem dX5_counted_137 : decode cX5_counted 137 = .ok (.goto 21, 3) := by decide +kernel
theorem dX5_counted_140 : decode cX5_counted 140 = .ok (.aload_n 0, 1) := by decide +kernel
theorem dX5_counted_141 : decode cX5_counted 141 = .ok (.iload_n 3, 1) := by decide +kernel
theorem dX5_counted_142 : decode cX5_counted 142 = .ok (.invokevirtual 87, 3) := by decide +kernel
theorem dX5_counted_145 : decode cX5_counted 145 = .ok (.ifCond .eq 7, 3) := by decide +kernel
theorem dX5_counted_148 : decode cX5_counted 148 = .ok (.iconst 0, 1) := by decide +kernel
theorem dX5_counted_149 : decode cX5_counted 149 = .ok (.goto 9, 3) := by decide +kernel
theorem dX5_counted_152 : decode cX5_counted 152 = .ok (.aload_n 0, 1) := by decide +kernel
theorem dX5_counted_153 : decode cX5_counted 153 = .ok (.iload_n 3, 1) := by decide +kernel
theorem dX5_counted_154 : decode cX5_counted 154 = .ok (.iconst 0, 1) := by decide +kernel
theorem dX5_counted_155 : decode cX5_counted 155 = .ok (.invokevirtual 84, 3) := by decide +kernel
theorem dX5_counted_158 : decode cX5_counted 158 = .ok (.iadd, 1) := by decide +kernel
theorem dX5_counted_159 : decode cX5_counted 159 = .ok (.istore_n 2, 1) := by decide +kernel
theorem dX5_counted_160 : decode cX5_counted 160 = .ok (.iinc 3 1, 3) := by decide +kernel
theorem dX5_counted_163 : decode cX5_counted 163 = .ok (.goto (-53), 3) := by decide +kernel
theorem dX5_counted_166 : decode cX5_counted 166 = .ok (.iload_n 2, 1) := by decide +kernel
theorem dX5_counted_167 : decode cX5_counted 167 = .ok (.ireturn, 1) := by decide +kernel
theorem dX5_count_0 : decode cX5_count 0 = .ok (.aload_n 0, 1) := by decide +kernel
theorem dX5_count_1 : decode cX5_count 1 = .ok (.iconst 0, 1) := by decide +kernel
theorem dX5_count_2 : decode cX5_count 2 = .ok (.putfield 25, 3) := by decide +kernel
theorem dX5_count_5 : decode cX5_count 5 = .ok (.iload_n 1, 1) := by decide +kernel
theorem dX5_count_6 : decode cX5_count 6 = .ok (.iconst 0, 1) := by decide +kernel
theorem dX5_count_7 : decode cX5_count 7 = .ok (.bipush 7, 2) := by decide +kernel
theorem dX5_count_9 : decode cX5_count 9 = .ok (.invokestatic 32, 3) := by decide +kernel
theorem dX5_count_12 : decode cX5_count 12 = .ok (.ifCond .eq 11, 3) := by decide +kernel
theorem dX5_count_15 : decode cX5_count 15 = .ok (.aload_n 0, 1) := by decide +kernel
theorem dX5_count_16 : decode cX5_count 16 = .ok (.iload_n 1, 1) := by decide +kernel
theorem dX5_count_17 : decode cX5_count 17 = .ok (.invokevirtual 138, 3) := by decide +kernel
theorem dX5_count_20 : decode cX5_count 20 = .ok (.goto 8, 3) := by decide +kernel
theorem dX5_count_23 : decode cX5_count 23 = .ok (.aload_n 0, 1) := by decide +kernel
theorem dX5_count_24 : decode cX5_count 24 = .ok (.iconst 1, 1) := by decide +kernel
theorem dX5_count_25 : decode cX5_count 25 = .ok (.invokevirtual 49, 3) := by decide +kernel
theorem dX5_count_28 : decode cX5_count 28 = .ok (.ireturn, 1) := by decide +kernel
theorem dX5_kept_0 : decode cX5_kept 0 = .ok (.iconst 3, 1) := by decide +kernel
theorem dX5_kept_1 : decode cX5_kept 1 = .ok (.anewarray 141, 3) := by decide +kernel
theorem dX5_kept_4 : decode cX5_kept 4 = .ok (.dup, 1) := by decide +kernel
theorem dX5_kept_5 : decode cX5_kept 5 = .ok (.iconst 0, 1) := by decide +kernel
theorem dX5_kept_6 : decode cX5_kept 6 = .ok (.aload_n 0, 1) := by decide +kernel
theorem dX5_kept_7 : decode cX5_kept 7 = .ok (.getfield 16, 3) := by decide +kernel
theorem dX5_kept_10 : decode cX5_kept 10 = .ok (.invokevirtual 142, 3) := by decide +kernel
theorem dX5_kept_13 : decode cX5_kept 13 = .ok (.checkcast 141, 3) := by decide +kernel
theorem dX5_kept_16 : decode cX5_kept 16 = .ok (.aastore, 1) := by decide +kernel
theorem dX5_kept_17 : decode cX5_kept 17 = .ok (.dup, 1) := by decide +kernel
theorem dX5_kept_18 : decode cX5_kept 18 = .ok (.iconst 1, 1) := by decide +kernel
theorem dX5_kept_19 : decode cX5_kept 19 = .ok (.aload_n 0, 1) := by decide +kernel
theorem dX5_kept_20 : decode cX5_kept 20 = .ok (.getfield 19, 3) := by decide +kernel
theorem dX5_kept_23 : decode cX5_kept 23 = .ok (.invokevirtual 142, 3) := by decide +kernel
theorem dX5_kept_26 : decode cX5_kept 26 = .ok (.checkcast 141, 3) := by decide +kernel
theorem dX5_kept_29 : decode cX5_kept 29 = .ok (.aastore, 1) := by decide +kernel
theorem dX5_kept_30 : decode cX5_kept 30 = .ok (.dup, 1) := by decide +kernel
theorem dX5_kept_31 : decode cX5_kept 31 = .ok (.iconst 2, 1) := by decide +kernel
theorem dX5_kept_32 : decode cX5_kept 32 = .ok (.aload_n 0, 1) := by decide +kernel
theorem dX5_kept_33 : decode cX5_kept 33 = .ok (.getfield 22, 3) := by decide +kernel
theorem dX5_kept_36 : decode cX5_kept 36 = .ok (.invokevirtual 142, 3) := by decide +kernel
theorem dX5_kept_39 : decode cX5_kept 39 = .ok (.checkcast 141, 3) := by decide +kernel
theorem dX5_kept_42 : decode cX5_kept 42 = .ok (.aastore, 1) := by decide +kernel
theorem dX5_kept_43 : decode cX5_kept 43 = .ok (.areturn, 1) := by decide +kernel
theorem dX5_bringBack_0 : decode cX5_bringBack 0 = .ok (.aload_n 1, 1) := by decide +kernel
theorem dX5_bringBack_1 : decode cX5_bringBack 1 = .ok (.iconst 0, 1) := by decide +kernel
theorem dX5_bringBack_2 : decode cX5_bringBack 2 = .ok (.aaload, 1) := by decide +kernel
theorem dX5_bringBack_3 : decode cX5_bringBack 3 = .ok (.iconst 0, 1) := by decide +kernel
theorem dX5_bringBack_4 : decode cX5_bringBack 4 = .ok (.aload_n 0, 1) := by decide +kernel
theorem dX5_bringBack_5 : decode cX5_bringBack 5 = .ok (.getfield 16, 3) := by decide +kernel
theorem dX5_bringBack_8 : decode cX5_bringBack 8 = .ok (.iconst 0, 1) := by decide +kernel
theorem dX5_bringBack_9 : decode cX5_bringBack 9 = .ok (.aload_n 0, 1) := by decide +kernel
theorem dX5_bringBack_10 : decode cX5_bringBack 10 = .ok (.getfield 16, 3) := by decide +kernel
theorem dX5_bringBack_13 : decode cX5_bringBack 13 = .ok (.arraylength, 1) := by decide +kernel
theorem dX5_bringBack_14 : decode cX5_bringBack 14 = .ok (.invokestatic 52, 3) := by decide +kernel
theorem dX5_bringBack_17 : decode cX5_bringBack 17 = .ok (.aload_n 1, 1) := by decide +kernel
theorem dX5_bringBack_18 : decode cX5_bringBack 18 = .ok (.iconst 1, 1) := by decide +kernel
theorem dX5_bringBack_19 : decode cX5_bringBack 19 = .ok (.aaload, 1) := by decide +kernel
theorem dX5_bringBack_20 : decode cX5_bringBack 20 = .ok (.iconst 0, 1) := by decide +kernel
theorem dX5_bringBack_21 : decode cX5_bringBack 21 = .ok (.aload_n 0, 1) := by decide +kernel
theorem dX5_bringBack_22 : decode cX5_bringBack 22 = .ok (.getfield 19, 3) := by decide +kernel
theorem dX5_bringBack_25 : decode cX5_bringBack 25 = .ok (.iconst 0, 1) := by decide +kernel
theorem dX5_bringBack_26 : decode cX5_bringBack 26 = .ok (.aload_n 0, 1) := by decide +kernel
theorem dX5_bringBack_27 : decode cX5_bringBack 27 = .ok (.getfield 19, 3) := by decide +kernel
theorem dX5_bringBack_30 : decode cX5_bringBack 30 = .ok (.arraylength, 1) := by decide +kernel
theorem dX5_bringBack_31 : decode cX5_bringBack 31 = .ok (.invokestatic 52, 3) := by decide +kernel
theorem dX5_bringBack_34 : decode cX5_bringBack 34 = .ok (.aload_n 1, 1) := by decide +kernel
theorem dX5_bringBack_35 : decode cX5_bringBack 35 = .ok (.iconst 2, 1) := by decide +kernel
theorem dX5_bringBack_36 : decode cX5_bringBack 36 = .ok (.aaload, 1) := by decide +kernel
theorem dX5_bringBack_37 : decode cX5_bringBack 37 = .ok (.iconst 0, 1) := by decide +kernel
theorem dX5_bringBack_38 : decode cX5_bringBack 38 = .ok (.aload_n 0, 1) := by decide +kernel
theorem dX5_bringBack_39 : decode cX5_bringBack 39 = .ok (.getfield 22, 3) := by decide +kernel
theorem dX5_bringBack_42 : decode cX5_bringBack 42 = .ok (.iconst 0, 1) := by decide +kernel
theorem dX5_bringBack_43 : decode cX5_bringBack 43 = .ok (.aload_n 0, 1) := by decide +kernel
theorem dX5_bringBack_44 : decode cX5_bringBack 44 = .ok (.getfield 22, 3) := by decide +kernel
theorem dX5_bringBack_47 : decode cX5_bringBack 47 = .ok (.arraylength, 1) := by decide +kernel
theorem dX5_bringBack_48 : decode cX5_bringBack 48 = .ok (.invokestatic 52, 3) := by decide +kernel
theorem dX5_bringBack_51 : decode cX5_bringBack 51 = .ok (.return_, 1) := by decide +kernel
theorem dX5_foresee_0 : decode cX5_foresee 0 = .ok (.aload_n 0, 1) := by decide +kernel
theorem dX5_foresee_1 : decode cX5_foresee 1 = .ok (.iconst 0, 1) := by decide +kernel
theorem dX5_foresee_2 : decode cX5_foresee 2 = .ok (.putfield 25, 3) := by decide +kernel
theorem dX5_foresee_5 : decode cX5_foresee 5 = .ok (.aload_n 0, 1) := by decide +kernel
theorem dX5_foresee_6 : decode cX5_foresee 6 = .ok (.iload_n 1, 1) := by decide +kernel
theorem dX5_foresee_7 : decode cX5_foresee 7 = .ok (.invokevirtual 62, 3) := by decide +kernel
theorem dX5_foresee_10 : decode cX5_foresee 10 = .ok (.ifCond .ne 9, 3) := by decide +kernel
theorem dX5_foresee_13 : decode cX5_foresee 13 = .ok (.aload_n 0, 1) := by decide +kernel
theorem dX5_foresee_14 : decode cX5_foresee 14 = .ok (.iconst 1, 1) := by decide +kernel
theorem dX5_foresee_15 : decode cX5_foresee 15 = .ok (.invokevirtual 49, 3) := by decide +kernel
theorem dX5_foresee_18 : decode cX5_foresee 18 = .ok (.ireturn, 1) := by decide +kernel
theorem dX5_foresee_19 : decode cX5_foresee 19 = .ok (.iload_n 2, 1) := by decide +kernel
theorem dX5_foresee_20 : decode cX5_foresee 20 = .ok (.iconst 1, 1) := by decide +kernel
theorem dX5_foresee_21 : decode cX5_foresee 21 = .ok (.bipush 100, 2) := by decide +kernel
theorem dX5_foresee_23 : decode cX5_foresee 23 = .ok (.invokestatic 32, 3) := by decide +kernel
theorem dX5_foresee_26 : decode cX5_foresee 26 = .ok (.ifCond .ne 9, 3) := by decide +kernel
theorem dX5_foresee_29 : decode cX5_foresee 29 = .ok (.aload_n 0, 1) := by decide +kernel
theorem dX5_foresee_30 : decode cX5_foresee 30 = .ok (.iconst 2, 1) := by decide +kernel
theorem dX5_foresee_31 : decode cX5_foresee 31 = .ok (.invokevirtual 49, 3) := by decide +kernel
theorem dX5_foresee_34 : decode cX5_foresee 34 = .ok (.ireturn, 1) := by decide +kernel
theorem dX5_foresee_35 : decode cX5_foresee 35 = .ok (.aload_n 0, 1) := by decide +kernel
theorem dX5_foresee_36 : decode cX5_foresee 36 = .ok (.invokevirtual 146, 3) := by decide +kernel
theorem dX5_foresee_39 : decode cX5_foresee 39 = .ok (.astore_n 3, 1) := by decide +kernel
theorem dX5_foresee_40 : decode cX5_foresee 40 = .ok (.iconst 0, 1) := by decide +kernel
theorem dX5_foresee_41 : decode cX5_foresee 41 = .ok (.istore 4, 2) := by decide +kernel
theorem dX5_foresee_43 : decode cX5_foresee 43 = .ok (.iload 4, 2) := by decide +kernel
theorem dX5_foresee_45 : decode cX5_foresee 45 = .ok (.iload_n 2, 1) := by decide +kernel
theorem dX5_foresee_46 : decode cX5_foresee 46 = .ok (.if_icmp .ge 14, 3) := by decide +kernel
theorem dX5_foresee_49 : decode cX5_foresee 49 = .ok (.aload_n 0, 1) := by decide +kernel
theorem dX5_foresee_50 : decode cX5_foresee 50 = .ok (.invokevirtual 131, 3) := by decide +kernel
theorem dX5_foresee_53 : decode cX5_foresee 53 = .ok (.pop, 1) := by decide +kernel
theorem dX5_foresee_54 : decode cX5_foresee 54 = .ok (.iinc 4 1, 3) := by decide +kernel
theorem dX5_foresee_57 : decode cX5_foresee 57 = .ok (.goto (-14), 3) := by decide +kernel
theorem dX5_foresee_60 : decode cX5_foresee 60 = .ok (.aload_n 0, 1) := by decide +kernel
theorem dX5_foresee_61 : decode cX5_foresee 61 = .ok (.iload_n 1, 1) := by decide +kernel
theorem dX5_foresee_62 : decode cX5_foresee 62 = .ok (.iconst 0, 1) := by decide +kernel
theorem dX5_foresee_63 : decode cX5_foresee 63 = .ok (.invokevirtual 66, 3) := by decide +kernel
theorem dX5_foresee_66 : decode cX5_foresee 66 = .ok (.istore 4, 2) := by decide +kernel
theorem dX5_foresee_68 : decode cX5_foresee 68 = .ok (.aload_n 0, 1) := by decide +kernel
theorem dX5_foresee_69 : decode cX5_foresee 69 = .ok (.aload_n 3, 1) := by decide +kernel
theorem dX5_foresee_70 : decode cX5_foresee 70 = .ok (.invokevirtual 150, 3) := by decide +kernel
theorem dX5_foresee_73 : decode cX5_foresee 73 = .ok (.iload 4, 2) := by decide +kernel
theorem dX5_foresee_75 : decode cX5_foresee 75 = .ok (.ireturn, 1) := by decide +kernel
theorem dX5_lasts_0 : decode cX5_lasts 0 = .ok (.aload_n 0, 1) := by decide +kernel
theorem dX5_lasts_1 : decode cX5_lasts 1 = .ok (.iconst 0, 1) := by decide +kernel
theorem dX5_lasts_2 : decode cX5_lasts 2 = .ok (.putfield 25, 3) := by decide +kernel
theorem dX5_lasts_5 : decode cX5_lasts 5 = .ok (.aload_n 0, 1) := by decide +kernel
theorem dX5_lasts_6 : decode cX5_lasts 6 = .ok (.iload_n 1, 1) := by decide +kernel
theorem dX5_lasts_7 : decode cX5_lasts 7 = .ok (.invokevirtual 62, 3) := by decide +kernel
theorem dX5_lasts_10 : decode cX5_lasts 10 = .ok (.ifCond .ne 9, 3) := by decide +kernel
theorem dX5_lasts_13 : decode cX5_lasts 13 = .ok (.aload_n 0, 1) := by decide +kernel
theorem dX5_lasts_14 : decode cX5_lasts 14 = .ok (.iconst 1, 1) := by decide +kernel
theorem dX5_lasts_15 : decode cX5_lasts 15 = .ok (.invokevirtual 49, 3) := by decide +kernel
theorem dX5_lasts_18 : decode cX5_lasts 18 = .ok (.ireturn, 1) := by decide +kernel
theorem dX5_lasts_19 : decode cX5_lasts 19 = .ok (.aload_n 0, 1) := by decide +kernel
theorem dX5_lasts_20 : decode cX5_lasts 20 = .ok (.invokevirtual 146, 3) := by decide +kernel
theorem dX5_lasts_23 : decode cX5_lasts 23 = .ok (.astore_n 2, 1) := by decide +kernel
theorem dX5_lasts_24 : decode cX5_lasts 24 = .ok (.iconst 0, 1) := by decide +kernel
theorem dX5_lasts_25 : decode cX5_lasts 25 = .ok (.istore_n 3, 1) := by decide +kernel
theorem dX5_lasts_26 : decode cX5_lasts 26 = .ok (.iload_n 3, 1) := by decide +kernel
theorem dX5_lasts_27 : decode cX5_lasts 27 = .ok (.sipush 200, 3) := by decide +kernel
theorem dX5_lasts_30 : decode cX5_lasts 30 = .ok (.if_icmp .ge 23, 3) := by decide +kernel
theorem dX5_lasts_33 : decode cX5_lasts 33 = .ok (.aload_n 0, 1) := by decide +kernel
theorem dX5_lasts_34 : decode cX5_lasts 34 = .ok (.iload_n 1, 1) := by decide +kernel
theorem dX5_lasts_35 : decode cX5_lasts 35 = .ok (.iconst 0, 1) := by decide +kernel
theorem dX5_lasts_36 : decode cX5_lasts 36 = .ok (.invokevirtual 66, 3) := by decide +kernel
theorem dX5_lasts_39 : decode cX5_lasts 39 = .ok (.ifCond .le 14, 3) := by decide +kernel
theorem dX5_lasts_42 : decode cX5_lasts 42 = .ok (.aload_n 0, 1) := by decide +kernel
theorem dX5_lasts_43 : decode cX5_lasts 43 = .ok (.invokevirtual 131, 3) := by decide +kernel
theorem dX5_lasts_46 : decode cX5_lasts 46 = .ok (.pop, 1) := by decide +kernel
theorem dX5_lasts_47 : decode cX5_lasts 47 = .ok (.iinc 3 1, 3) := by decide +kernel
theorem dX5_lasts_50 : decode cX5_lasts 50 = .ok (.goto (-24), 3) := by decide +kernel
theorem dX5_lasts_53 : decode cX5_lasts 53 = .ok (.aload_n 0, 1) := by decide +kernel
theorem dX5_lasts_54 : decode cX5_lasts 54 = .ok (.iload_n 1, 1) := by decide +kernel
theorem dX5_lasts_55 : decode cX5_lasts 55 = .ok (.iconst 0, 1) := by decide +kernel
theorem dX5_lasts_56 : decode cX5_lasts 56 = .ok (.invokevirtual 66, 3) := by decide +kernel
theorem dX5_lasts_59 : decode cX5_lasts 59 = .ok (.ifCond .le 5, 3) := by decide +kernel
theorem dX5_lasts_62 : decode cX5_lasts 62 = .ok (.iconst (-1), 1) := by decide +kernel
theorem dX5_lasts_63 : decode cX5_lasts 63 = .ok (.istore_n 3, 1) := by decide +kernel
theorem dX5_lasts_64 : decode cX5_lasts 64 = .ok (.aload_n 0, 1) := by decide +kernel
theorem dX5_lasts_65 : decode cX5_lasts 65 = .ok (.aload_n 2, 1) := by decide +kernel
theorem dX5_lasts_66 : decode cX5_lasts 66 = .ok (.invokevirtual 150, 3) := by decide +kernel
theorem dX5_lasts_69 : decode cX5_lasts 69 = .ok (.iload_n 3, 1) := by decide +kernel
theorem dX5_lasts_70 : decode cX5_lasts 70 = .ok (.ireturn, 1) := by decide +kernel
theorem dX5_keep_0 : decode cX5_keep 0 = .ok (.aload_n 0, 1) := by decide +kernel
theorem dX5_keep_1 : decode cX5_keep 1 = .ok (.iconst 0, 1) := by decide +kernel
theorem dX5_keep_2 : decode cX5_keep 2 = .ok (.putfield 25, 3) := by decide +kernel
theorem dX5_keep_5 : decode cX5_keep 5 = .ok (.aload_n 0, 1) := by decide +kernel
theorem dX5_keep_6 : decode cX5_keep 6 = .ok (.iload_n 1, 1) := by decide +kernel
theorem dX5_keep_7 : decode cX5_keep 7 = .ok (.invokevirtual 62, 3) := by decide +kernel
theorem dX5_keep_10 : decode cX5_keep 10 = .ok (.ifCond .ne 9, 3) := by decide +kernel
theorem dX5_keep_13 : decode cX5_keep 13 = .ok (.aload_n 0, 1) := by decide +kernel
theorem dX5_keep_14 : decode cX5_keep 14 = .ok (.iconst 1, 1) := by decide +kernel
theorem dX5_keep_15 : decode cX5_keep 15 = .ok (.invokevirtual 49, 3) := by decide +kernel
theorem dX5_keep_18 : decode cX5_keep 18 = .ok (.ireturn, 1) := by decide +kernel
theorem dX5_keep_19 : decode cX5_keep 19 = .ok (.iload_n 2, 1) := by decide +kernel
theorem dX5_keep_20 : decode cX5_keep 20 = .ok (.iconst 1, 1) := by decide +kernel
theorem dX5_keep_21 : decode cX5_keep 21 = .ok (.bipush 50, 2) := by decide +kernel
theorem dX5_keep_23 : decode cX5_keep 23 = .ok (.invokestatic 32, 3) := by decide +kernel
theorem dX5_keep_26 : decode cX5_keep 26 = .ok (.ifCond .ne 9, 3) := by decide +kernel
theorem dX5_keep_29 : decode cX5_keep 29 = .ok (.aload_n 0, 1) := by decide +kernel
theorem dX5_keep_30 : decode cX5_keep 30 = .ok (.iconst 2, 1) := by decide +kernel
theorem dX5_keep_31 : decode cX5_keep 31 = .ok (.invokevirtual 49, 3) := by decide +kernel
theorem dX5_keep_34 : decode cX5_keep 34 = .ok (.ireturn, 1) := by decide +kernel
theorem dX5_keep_35 : decode cX5_keep 35 = .ok (.aload_n 0, 1) := by decide +kernel
theorem dX5_keep_36 : decode cX5_keep 36 = .ok (.invokevirtual 146, 3) := by decide +kernel
theorem dX5_keep_39 : decode cX5_keep 39 = .ok (.astore_n 3, 1) := by decide +kernel
theorem dX5_keep_40 : decode cX5_keep 40 = .ok (.iconst 0, 1) := by decide +kernel
theorem dX5_keep_41 : decode cX5_keep 41 = .ok (.istore 4, 2) := by decide +kernel
theorem dX5_keep_43 : decode cX5_keep 43 = .ok (.bipush 80, 2) := by decide +kernel
theorem dX5_keep_45 : decode cX5_keep 45 = .ok (.istore 5, 2) := by decide +kernel
theorem dX5_keep_47 : decode cX5_keep 47 = .ok (.iload 5, 2) := by decide +kernel
theorem dX5_keep_49 : decode cX5_keep 49 = .ok (.ifCond .le 94, 3) := by decide +kernel
theorem dX5_keep_52 : decode cX5_keep 52 = .ok (.iload 4, 2) := by decide +kernel
theorem dX5_keep_54 : decode cX5_keep 54 = .ok (.ifCond .ne 89, 3) := by decide +kernel
theorem dX5_keep_57 : decode cX5_keep 57 = .ok (.aload_n 0, 1) := by decide +kernel
theorem dX5_keep_58 : decode cX5_keep 58 = .ok (.iload_n 1, 1) := by decide +kernel
theorem dX5_keep_59 : decode cX5_keep 59 = .ok (.iload 5, 2) := by decide +kernel
theorem dX5_keep_61 : decode cX5_keep 61 = .ok (.invokevirtual 102, 3) := by decide +kernel
theorem dX5_keep_64 : decode cX5_keep 64 = .ok (.iconst 1, 1) := by decide +kernel
theorem dX5_keep_65 : decode cX5_keep 65 = .ok (.istore 6, 2) := by decide +kernel
theorem dX5_keep_67 : decode cX5_keep 67 = .ok (.iconst 0, 1) := by decide +kernel
theorem dX5_keep_68 : decode cX5_keep 68 = .ok (.istore 7, 2) := by decide +kernel
theorem dX5_keep_70 : decode cX5_keep 70 = .ok (.iload 7, 2) := by decide +kernel
theorem dX5_keep_72 : decode cX5_keep 72 = .ok (.iload_n 2, 1) := by decide +kernel
theorem dX5_keep_73 : decode cX5_keep 73 = .ok (.if_icmp .ge 40, 3) := by decide +kernel
theorem dX5_keep_76 : decode cX5_keep 76 = .ok (.iload 6, 2) := by decide +kernel
theorem dX5_keep_78 : decode cX5_keep 78 = .ok (.ifCond .eq 35, 3) := by decide +kernel
theorem dX5_keep_81 : decode cX5_keep 81 = .ok (.aload_n 0, 1) := by decide +kernel
theorem dX5_keep_82 : decode cX5_keep 82 = .ok (.invokevirtual 131, 3) := by decide +kernel
theorem dX5_keep_85 : decode cX5_keep 85 = .ok (.pop, 1) := by decide +kernel
theorem dX5_keep_86 : decode cX5_keep 86 = .ok (.aload_n 0, 1) := by decide +kernel
theorem dX5_keep_87 : decode cX5_keep 87 = .ok (.aload_n 0, 1) := by decide +kernel
theorem dX5_keep_88 : decode cX5_keep 88 = .ok (.getfield 36, 3) := by decide +kernel
theorem dX5_keep_91 : decode cX5_keep 91 = .ok (.iconst 1, 1) := by decide +kernel
theorem dX5_keep_92 : decode cX5_keep 92 = .ok (.isub, 1) := by decide +kernel
theorem dX5_keep_93 : decode cX5_keep 93 = .ok (.iconst 2, 1) := by decide +kernel
theorem dX5_keep_94 : decode cX5_keep 94 = .ok (.invokevirtual 84, 3) := by decide +kernel
theorem dX5_keep_97 : decode cX5_keep 97 = .ok (.ifCond .ne 7, 3) := by decide +kernel
theorem dX5_keep_100 : decode cX5_keep 100 = .ok (.iconst 1, 1) := by decide +kernel
theorem dX5_keep_101 : decode cX5_keep 101 = .ok (.goto 4, 3) := by decide +kernel
theorem dX5_keep_104 : decode cX5_keep 104 = .ok (.iconst 0, 1) := by decide +kernel
theorem dX5_keep_105 : decode cX5_keep 105 = .ok (.istore 6, 2) := by decide +kernel
theorem dX5_keep_107 : decode cX5_keep 107 = .ok (.iinc 7 1, 3) := by decide +kernel
theorem dX5_keep_110 : decode cX5_keep 110 = .ok (.goto (-40), 3) := by decide +kernel
theorem dX5_keep_113 : decode cX5_keep 113 = .ok (.aload_n 0, 1) := by decide +kernel
theorem dX5_keep_114 : decode cX5_keep 114 = .ok (.dup, 1) := by decide +kernel
theorem dX5_keep_115 : decode cX5_keep 115 = .ok (.getfield 36, 3) := by decide +kernel
theorem dX5_keep_118 : decode cX5_keep 118 = .ok (.iconst 1, 1) := by decide +kernel
theorem dX5_keep_119 : decode cX5_keep 119 = .ok (.isub, 1) := by decide +kernel
theorem dX5_keep_120 : decode cX5_keep 120 = .ok (.putfield 36, 3) := by decide +kernel
theorem dX5_keep_123 : decode cX5_keep 123 = .ok (.aload_n 0, 1) := by decide +kernel
theorem dX5_keep_124 : decode cX5_keep 124 = .ok (.aload_n 3, 1) := by decide +kernel
theorem dX5_keep_125 : decode cX5_keep 125 = .ok (.invokevirtual 150, 3) := by decide +kernel
theorem dX5_keep_128 : decode cX5_keep 128 = .ok (.iload 6, 2) := by decide +kernel
theorem dX5_keep_130 : decode cX5_keep 130 = .ok (.ifCond .eq 7, 3) := by decide +kernel
theorem dX5_keep_133 : decode cX5_keep 133 = .ok (.iload 5, 2) := by decide +kernel
theorem dX5_keep_135 : decode cX5_keep 135 = .ok (.istore 4, 2) := by decide +kernel
theorem dX5_keep_137 : decode cX5_keep 137 = .ok (.iinc 5 (-1), 3) := by decide +kernel
theorem dX5_keep_140 : decode cX5_keep 140 = .ok (.goto (-93), 3) := by decide +kernel
theorem dX5_keep_143 : decode cX5_keep 143 = .ok (.iload 4, 2) := by decide +kernel
theorem dX5_keep_145 : decode cX5_keep 145 = .ok (.ireturn, 1) := by decide +kernel
theorem dX5_waterBy_0 : decode cX5_waterBy 0 = .ok (.iconst 0, 1) := by decide +kernel
theorem dX5_waterBy_1 : decode cX5_waterBy 1 = .ok (.istore_n 2, 1) := by decide +kernel
theorem dX5_waterBy_2 : decode cX5_waterBy 2 = .ok (.iload_n 2, 1) := by decide +kernel
theorem dX5_waterBy_3 : decode cX5_waterBy 3 = .ok (.iload_n 1, 1) := by decide +kernel
theorem dX5_waterBy_4 : decode cX5_waterBy 4 = .ok (.if_icmp .ge 14, 3) := by decide +kernel
theorem dX5_waterBy_7 : decode cX5_waterBy 7 = .ok (.aload_n 0, 1) := by decide +kernel
theorem dX5_waterBy_8 : decode cX5_waterBy 8 = .ok (.invokevirtual 131, 3) := by decide +kernel
theorem dX5_waterBy_11 : decode cX5_waterBy 11 = .ok (.pop, 1) := by decide +kernel
theorem dX5_waterBy_12 : decode cX5_waterBy 12 = .ok (.iinc 2 1, 3) := by decide +kernel
theorem dX5_waterBy_15 : decode cX5_waterBy 15 = .ok (.goto (-13), 3) := by decide +kernel
theorem dX5_waterBy_18 : decode cX5_waterBy 18 = .ok (.aload_n 0, 1) := by decide +kernel
theorem dX5_waterBy_19 : decode cX5_waterBy 19 = .ok (.invokevirtual 135, 3) := by decide +kernel
theorem dX5_waterBy_22 : decode cX5_waterBy 22 = .ok (.ireturn, 1) := by decide +kernel
theorem dX5_advise_0 : decode cX5_advise 0 = .ok (.aload_n 0, 1) := by decide +kernel
theorem dX5_advise_1 : decode cX5_advise 1 = .ok (.iconst 0, 1) := by decide +kernel
theorem dX5_advise_2 : decode cX5_advise 2 = .ok (.putfield 25, 3) := by decide +kernel
theorem dX5_advise_5 : decode cX5_advise 5 = .ok (.iload_n 1, 1) := by decide +kernel
theorem dX5_advise_6 : decode cX5_advise 6 = .ok (.iconst 1, 1) := by decide +kernel
theorem dX5_advise_7 : decode cX5_advise 7 = .ok (.bipush 50, 2) := by decide +kernel
theorem dX5_advise_9 : decode cX5_advise 9 = .ok (.invokestatic 32, 3) := by decide +kernel
theorem dX5_advise_12 : decode cX5_advise 12 = .ok (.ifCond .ne 9, 3) := by decide +kernel
theorem dX5_advise_15 : decode cX5_advise 15 = .ok (.aload_n 0, 1) := by decide +kernel
theorem dX5_advise_16 : decode cX5_advise 16 = .ok (.iconst 1, 1) := by decide +kernel
theorem dX5_advise_17 : decode cX5_advise 17 = .ok (.invokevirtual 49, 3) := by decide +kernel
theorem dX5_advise_20 : decode cX5_advise 20 = .ok (.ireturn, 1) := by decide +kernel
theorem dX5_advise_21 : decode cX5_advise 21 = .ok (.aload_n 0, 1) := by decide +kernel
theorem dX5_advise_22 : decode cX5_advise 22 = .ok (.invokevirtual 146, 3) := by decide +kernel
theorem dX5_advise_25 : decode cX5_advise 25 = .ok (.astore_n 2, 1) := by decide +kernel
theorem dX5_advise_26 : decode cX5_advise 26 = .ok (.aload_n 0, 1) := by decide +kernel
theorem dX5_advise_27 : decode cX5_advise 27 = .ok (.iload_n 1, 1) := by decide +kernel
theorem dX5_advise_28 : decode cX5_advise 28 = .ok (.invokevirtual 154, 3) := by decide +kernel
theorem dX5_advise_31 : decode cX5_advise 31 = .ok (.istore_n 3, 1) := by decide +kernel
theorem dX5_advise_32 : decode cX5_advise 32 = .ok (.aload_n 0, 1) := by decide +kernel
theorem dX5_advise_33 : decode cX5_advise 33 = .ok (.aload_n 2, 1) := by decide +kernel
theorem dX5_advise_34 : decode cX5_advise 34 = .ok (.invokevirtual 150, 3) := by decide +kernel
theorem dX5_advise_37 : decode cX5_advise 37 = .ok (.iconst (-1), 1) := by decide +kernel
theorem dX5_advise_38 : decode cX5_advise 38 = .ok (.istore 4, 2) := by decide +kernel
theorem dX5_advise_40 : decode cX5_advise 40 = .ok (.iconst 0, 1) := by decide +kernel
theorem dX5_advise_41 : decode cX5_advise 41 = .ok (.istore 5, 2) := by decide +kernel
theorem dX5_advise_43 : decode cX5_advise 43 = .ok (.iload 5, 2) := by decide +kernel
theorem dX5_advise_45 : decode cX5_advise 45 = .ok (.aload_n 0, 1) := by decide +kernel
theorem dX5_advise_46 : decode cX5_advise 46 = .ok (.getfield 29, 3) := by decide +kernel
theorem dX5_advise_49 : decode cX5_advise 49 = .ok (.if_icmp .ge 59, 3) := by decide +kernel
theorem dX5_advise_52 : decode cX5_advise 52 = .ok (.aload_n 0, 1) := by decide +kernel
theorem dX5_advise_53 : decode cX5_advise 53 = .ok (.iload 5, 2) := by decide +kernel
theorem dX5_advise_55 : decode cX5_advise 55 = .ok (.invokevirtual 75, 3) := by decide +kernel
theorem dX5_advise_58 : decode cX5_advise 58 = .ok (.ifCond .ne 6, 3) := by decide +kernel
theorem dX5_advise_61 : decode cX5_advise 61 = .ok (.goto 41, 3) := by decide +kernel
theorem dX5_advise_64 : decode cX5_advise 64 = .ok (.aload_n 0, 1) := by decide +kernel
theorem dX5_advise_65 : decode cX5_advise 65 = .ok (.iload 5, 2) := by decide +kernel
theorem dX5_advise_67 : decode cX5_advise 67 = .ok (.sipush 500, 3) := by decide +kernel
theorem dX5_advise_70 : decode cX5_advise 70 = .ok (.invokevirtual 78, 3) := by decide +kernel
theorem dX5_advise_73 : decode cX5_advise 73 = .ok (.pop, 1) := by decide +kernel
theorem dX5_advise_74 : decode cX5_advise 74 = .ok (.aload_n 0, 1) := by decide +kernel
theorem dX5_advise_75 : decode cX5_advise 75 = .ok (.iload_n 1, 1) := by decide +kernel
theorem dX5_advise_76 : decode cX5_advise 76 = .ok (.invokevirtual 154, 3) := by decide +kernel
theorem dX5_advise_79 : decode cX5_advise 79 = .ok (.istore 6, 2) := by decide +kernel
theorem dX5_advise_81 : decode cX5_advise 81 = .ok (.aload_n 0, 1) := by decide +kernel
theorem dX5_advise_82 : decode cX5_advise 82 = .ok (.aload_n 2, 1) := by decide +kernel
theorem dX5_advise_83 : decode cX5_advise 83 = .ok (.invokevirtual 150, 3) := by decide +kernel
theorem dX5_advise_86 : decode cX5_advise 86 = .ok (.iload 6, 2) := by decide +kernel
theorem dX5_advise_88 : decode cX5_advise 88 = .ok (.iload_n 3, 1) := by decide +kernel
theorem dX5_advise_89 : decode cX5_advise 89 = .ok (.if_icmp .gt 6, 3) := by decide +kernel
theorem dX5_advise_92 : decode cX5_advise 92 = .ok (.goto 10, 3) := by decide +kernel
theorem dX5_advise_95 : decode cX5_advise 95 = .ok (.iload 5, 2) := by decide +kernel
theorem dX5_advise_97 : decode cX5_advise 97 = .ok (.istore 4, 2) := by decide +kernel
theorem dX5_advise_99 : decode cX5_advise 99 = .ok (.iload 6, 2) := by decide +kernel
theorem dX5_advise_101 : decode cX5_advise 101 = .ok (.istore_n 3, 1) := by decide +kernel
theorem dX5_advise_102 : decode cX5_advise 102 = .ok (.iinc 5 1, 3) := by decide +kernel
theorem dX5_advise_105 : decode cX5_advise 105 = .ok (.goto (-62), 3) := by decide +kernel
theorem dX5_advise_108 : decode cX5_advise 108 = .ok (.iload 4, 2) := by decide +kernel
theorem dX5_advise_110 : decode cX5_advise 110 = .ok (.ireturn, 1) := by decide +kernel
theorem dX5_full_0 : decode cX5_full 0 = .ok (.aload_n 0, 1) := by decide +kernel
theorem dX5_full_1 : decode cX5_full 1 = .ok (.iconst 0, 1) := by decide +kernel
theorem dX5_full_2 : decode cX5_full 2 = .ok (.putfield 25, 3) := by decide +kernel
theorem dX5_full_5 : decode cX5_full 5 = .ok (.iconst 0, 1) := by decide +kernel
theorem dX5_full_6 : decode cX5_full 6 = .ok (.istore_n 1, 1) := by decide +kernel
theorem dX5_full_7 : decode cX5_full 7 = .ok (.iconst 0, 1) := by decide +kernel
theorem dX5_full_8 : decode cX5_full 8 = .ok (.istore_n 2, 1) := by decide +kernel
theorem dX5_full_9 : decode cX5_full 9 = .ok (.iload_n 2, 1) := by decide +kernel
theorem dX5_full_10 : decode cX5_full 10 = .ok (.aload_n 0, 1) := by decide +kernel
theorem dX5_full_11 : decode cX5_full 11 = .ok (.getfield 29, 3) := by decide +kernel
theorem dX5_full_14 : decode cX5_full 14 = .ok (.if_icmp .ge 17, 3) := by decide +kernel
theorem dX5_full_17 : decode cX5_full 17 = .ok (.iload_n 1, 1) := by decide +kernel
theorem dX5_full_18 : decode cX5_full 18 = .ok (.aload_n 0, 1) := by decide +kernel
theorem dX5_full_19 : decode cX5_full 19 = .ok (.iload_n 2, 1) := by decide +kernel
theorem dX5_full_20 : decode cX5_full 20 = .ok (.invokevirtual 69, 3) := by decide +kernel
theorem dX5_full_23 : decode cX5_full 23 = .ok (.iadd, 1) := by decide +kernel
theorem dX5_full_24 : decode cX5_full 24 = .ok (.istore_n 1, 1) := by decide +kernel
theorem dX5_full_25 : decode cX5_full 25 = .ok (.iinc 2 1, 3) := by decide +kernel
theorem dX5_full_28 : decode cX5_full 28 = .ok (.goto (-19), 3) := by decide +kernel
theorem dX5_full_31 : decode cX5_full 31 = .ok (.aload_n 0, 1) := by decide +kernel
theorem dX5_full_32 : decode cX5_full 32 = .ok (.getfield 29, 3) := by decide +kernel
theorem dX5_full_35 : decode cX5_full 35 = .ok (.ifCond .ne 7, 3) := by decide +kernel
theorem dX5_full_38 : decode cX5_full 38 = .ok (.dconst 0, 1) := by decide +kernel
theorem dX5_full_39 : decode cX5_full 39 = .ok (.goto 11, 3) := by decide +kernel
theorem dX5_full_42 : decode cX5_full 42 = .ok (.aload_n 0, 1) := by decide +kernel
theorem dX5_full_43 : decode cX5_full 43 = .ok (.invokevirtual 135, 3) := by decide +kernel
theorem dX5_full_46 : decode cX5_full 46 = .ok (.i2d, 1) := by decide +kernel
theorem dX5_full_47 : decode cX5_full 47 = .ok (.iload_n 1, 1) := by decide +kernel
theorem dX5_full_48 : decode cX5_full 48 = .ok (.i2d, 1) := by decide +kernel
theorem dX5_full_49 : decode cX5_full 49 = .ok (.ddiv, 1) := by decide +kernel
theorem dX5_full_50 : decode cX5_full 50 = .ok (.dreturn, 1) := by decide +kernel
theorem dX5_digest_0 : decode cX5_digest 0 = .ok (.aload_n 0, 1) := by decide +kernel
theorem dX5_digest_1 : decode cX5_digest 1 = .ok (.iconst 0, 1) := by decide +kernel
theorem dX5_digest_2 : decode cX5_digest 2 = .ok (.putfield 25, 3) := by decide +kernel
theorem dX5_digest_5 : decode cX5_digest 5 = .ok (.ldc2_w 157, 3) := by decide +kernel
theorem dX5_digest_8 : decode cX5_digest 8 = .ok (.lstore_n 1, 1) := by decide +kernel
theorem dX5_digest_9 : decode cX5_digest 9 = .ok (.iconst 0, 1) := by decide +kernel
theorem dX5_digest_10 : decode cX5_digest 10 = .ok (.istore_n 3, 1) := by decide +kernel
theorem dX5_digest_11 : decode cX5_digest 11 = .ok (.iload_n 3, 1) := by decide +kernel
theorem dX5_digest_12 : decode cX5_digest 12 = .ok (.bipush 8, 2) := by decide +kernel
theorem dX5_digest_14 : decode cX5_digest 14 = .ok (.if_icmp .ge 22, 3) := by decide +kernel
theorem dX5_digest_17 : decode cX5_digest 17 = .ok (.lload_n 1, 1) := by decide +kernel
theorem dX5_digest_18 : decode cX5_digest 18 = .ok (.ldc2_w 159, 3) := by decide +kernel
theorem dX5_digest_21 : decode cX5_digest 21 = .ok (.lmul, 1) := by decide +kernel
theorem dX5_digest_22 : decode cX5_digest 22 = .ok (.aload_n 0, 1) := by decide +kernel
theorem dX5_digest_23 : decode cX5_digest 23 = .ok (.iload_n 3, 1) := by decide +kernel
theorem dX5_digest_24 : decode cX5_digest 24 = .ok (.invokevirtual 138, 3) := by decide +kernel
theorem dX5_digest_27 : decode cX5_digest 27 = .ok (.i2l, 1) := by decide +kernel
theorem dX5_digest_28 : decode cX5_digest 28 = .ok (.ladd, 1) := by decide +kernel
theorem dX5_digest_29 : decode cX5_digest 29 = .ok (.lstore_n 1, 1) := by decide +kernel
theorem dX5_digest_30 : decode cX5_digest 30 = .ok (.iinc 3 1, 3) := by decide +kernel
theorem dX5_digest_33 : decode cX5_digest 33 = .ok (.goto (-22), 3) := by decide +kernel
theorem dX5_digest_36 : decode cX5_digest 36 = .ok (.iconst 0, 1) := by decide +kernel
theorem dX5_digest_37 : decode cX5_digest 37 = .ok (.istore_n 3, 1) := by decide +kernel
theorem dX5_digest_38 : decode cX5_digest 38 = .ok (.iload_n 3, 1) := by decide +kernel
theorem dX5_digest_39 : decode cX5_digest 39 = .ok (.bipush 10, 2) := by decide +kernel
theorem dX5_digest_41 : decode cX5_digest 41 = .ok (.if_icmp .ge 22, 3) := by decide +kernel
theorem dX5_digest_44 : decode cX5_digest 44 = .ok (.lload_n 1, 1) := by decide +kernel
theorem dX5_digest_45 : decode cX5_digest 45 = .ok (.ldc2_w 159, 3) := by decide +kernel
theorem dX5_digest_48 : decode cX5_digest 48 = .ok (.lmul, 1) := by decide +kernel
theorem dX5_digest_49 : decode cX5_digest 49 = .ok (.aload_n 0, 1) := by decide +kernel
theorem dX5_digest_50 : decode cX5_digest 50 = .ok (.iload_n 3, 1) := by decide +kernel
theorem dX5_digest_51 : decode cX5_digest 51 = .ok (.invokevirtual 99, 3) := by decide +kernel
theorem dX5_digest_54 : decode cX5_digest 54 = .ok (.i2l, 1) := by decide +kernel
theorem dX5_digest_55 : decode cX5_digest 55 = .ok (.ladd, 1) := by decide +kernel
theorem dX5_digest_56 : decode cX5_digest 56 = .ok (.lstore_n 1, 1) := by decide +kernel
theorem dX5_digest_57 : decode cX5_digest 57 = .ok (.iinc 3 1, 3) := by decide +kernel
theorem dX5_digest_60 : decode cX5_digest 60 = .ok (.goto (-22), 3) := by decide +kernel
theorem dX5_digest_63 : decode cX5_digest 63 = .ok (.iconst 0, 1) := by decide +kernel
theorem dX5_digest_64 : decode cX5_digest 64 = .ok (.istore_n 3, 1) := by decide +kernel
theorem dX5_digest_65 : decode cX5_digest 65 = .ok (.iload_n 3, 1) := by decide +kernel
theorem dX5_digest_66 : decode cX5_digest 66 = .ok (.aload_n 0, 1) := by decide +kernel
theorem dX5_digest_67 : decode cX5_digest 67 = .ok (.getfield 29, 3) := by decide +kernel
theorem dX5_digest_70 : decode cX5_digest 70 = .ok (.if_icmp .ge 40, 3) := by decide +kernel
theorem dX5_digest_73 : decode cX5_digest 73 = .ok (.iconst 0, 1) := by decide +kernel
theorem dX5_digest_74 : decode cX5_digest 74 = .ok (.istore 4, 2) := by decide +kernel
theorem dX5_digest_76 : decode cX5_digest 76 = .ok (.iload 4, 2) := by decide +kernel
theorem dX5_digest_78 : decode cX5_digest 78 = .ok (.bipush 12, 2) := by decide +kernel
theorem dX5_digest_80 : decode cX5_digest 80 = .ok (.if_icmp .ge 24, 3) := by decide +kernel
theorem dX5_digest_83 : decode cX5_digest 83 = .ok (.lload_n 1, 1) := by decide +kernel
theorem dX5_digest_84 : decode cX5_digest 84 = .ok (.ldc2_w 159, 3) := by decide +kernel
theorem dX5_digest_87 : decode cX5_digest 87 = .ok (.lmul, 1) := by decide +kernel
theorem dX5_digest_88 : decode cX5_digest 88 = .ok (.aload_n 0, 1) := by decide +kernel
theorem dX5_digest_89 : decode cX5_digest 89 = .ok (.iload_n 3, 1) := by decide +kernel
theorem dX5_digest_90 : decode cX5_digest 90 = .ok (.iload 4, 2) := by decide +kernel
theorem dX5_digest_92 : decode cX5_digest 92 = .ok (.invokevirtual 96, 3) := by decide +kernel
theorem dX5_digest_95 : decode cX5_digest 95 = .ok (.i2l, 1) := by decide +kernel
theorem dX5_digest_96 : decode cX5_digest 96 = .ok (.ladd, 1) := by decide +kernel
theorem dX5_digest_97 : decode cX5_digest 97 = .ok (.lstore_n 1, 1) := by decide +kernel
theorem dX5_digest_98 : decode cX5_digest 98 = .ok (.iinc 4 1, 3) := by decide +kernel
theorem dX5_digest_101 : decode cX5_digest 101 = .ok (.goto (-25), 3) := by decide +kernel
theorem dX5_digest_104 : decode cX5_digest 104 = .ok (.iinc 3 1, 3) := by decide +kernel
theorem dX5_digest_107 : decode cX5_digest 107 = .ok (.goto (-42), 3) := by decide +kernel
theorem dX5_digest_110 : decode cX5_digest 110 = .ok (.iconst 0, 1) := by decide +kernel
theorem dX5_digest_111 : decode cX5_digest 111 = .ok (.istore_n 3, 1) := by decide +kernel
theorem dX5_digest_112 : decode cX5_digest 112 = .ok (.iload_n 3, 1) := by decide +kernel
theorem dX5_digest_113 : decode cX5_digest 113 = .ok (.aload_n 0, 1) := by decide +kernel
theorem dX5_digest_114 : decode cX5_digest 114 = .ok (.getfield 36, 3) := by decide +kernel
theorem dX5_digest_117 : decode cX5_digest 117 = .ok (.if_icmp .ge 40, 3) := by decide +kernel
theorem dX5_digest_120 : decode cX5_digest 120 = .ok (.iconst 0, 1) := by decide +kernel
theorem dX5_digest_121 : decode cX5_digest 121 = .ok (.istore 4, 2) := by decide +kernel
theorem dX5_digest_123 : decode cX5_digest 123 = .ok (.iload 4, 2) := by decide +kernel
theorem dX5_digest_125 : decode cX5_digest 125 = .ok (.bipush 6, 2) := by decide +kernel
theorem dX5_digest_127 : decode cX5_digest 127 = .ok (.if_icmp .ge 24, 3) := by decide +kernel
theorem dX5_digest_130 : decode cX5_digest 130 = .ok (.lload_n 1, 1) := by decide +kernel
theorem dX5_digest_131 : decode cX5_digest 131 = .ok (.ldc2_w 159, 3) := by decide +kernel
theorem dX5_digest_134 : decode cX5_digest 134 = .ok (.lmul, 1) := by decide +kernel
theorem dX5_digest_135 : decode cX5_digest 135 = .ok (.aload_n 0, 1) := by decide +kernel
theorem dX5_digest_136 : decode cX5_digest 136 = .ok (.iload_n 3, 1) := by decide +kernel
theorem dX5_digest_137 : decode cX5_digest 137 = .ok (.iload 4, 2) := by decide +kernel
theorem dX5_digest_139 : decode cX5_digest 139 = .ok (.invokevirtual 115, 3) := by decide +kernel
theorem dX5_digest_142 : decode cX5_digest 142 = .ok (.i2l, 1) := by decide +kernel
theorem dX5_digest_143 : decode cX5_digest 143 = .ok (.ladd, 1) := by decide +kernel
theorem dX5_digest_144 : decode cX5_digest 144 = .ok (.lstore_n 1, 1) := by decide +kernel
theorem dX5_digest_145 : decode cX5_digest 145 = .ok (.iinc 4 1, 3) := by decide +kernel
theorem dX5_digest_148 : decode cX5_digest 148 = .ok (.goto (-25), 3) := by decide +kernel
theorem dX5_digest_151 : decode cX5_digest 151 = .ok (.iinc 3 1, 3) := by decide +kernel
theorem dX5_digest_154 : decode cX5_digest 154 = .ok (.goto (-42), 3) := by decide +kernel
theorem dX5_digest_157 : decode cX5_digest 157 = .ok (.lload_n 1, 1) := by decide +kernel
theorem dX5_digest_158 : decode cX5_digest 158 = .ok (.lreturn, 1) := by decide +kernel
