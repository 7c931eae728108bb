theorem dX0_init_0 : decode cX0_init 0 = .ok (.aload_n 0, 1) := by decide +kernel
theorem dX0_init_1 : decode cX0_init 1 = .ok (.invokespecial 3, 3) := by decide +kernel
theorem dX0_init_4 : decode cX0_init 4 = .ok (.aload_n 0, 1) := by decide +kernel
theorem dX0_init_5 : decode cX0_init 5 = .ok (.bipush 100, 2) := by decide +kernel
theorem dX0_init_7 : decode cX0_init 7 = .ok (.putfield 9, 3) := by decide +kernel
theorem dX0_init_10 : decode cX0_init 10 = .ok (.aload_n 0, 1) := by decide +kernel
theorem dX0_init_11 : decode cX0_init 11 = .ok (.bipush 10, 2) := by decide +kernel
theorem dX0_init_13 : decode cX0_init 13 = .ok (.anewarray 15, 3) := by decide +kernel
theorem dX0_init_16 : decode cX0_init 16 = .ok (.putfield 17, 3) := by decide +kernel
theorem dX0_init_19 : decode cX0_init 19 = .ok (.iconst 0, 1) := by decide +kernel
theorem dX0_init_20 : decode cX0_init 20 = .ok (.istore_n 2, 1) := by decide +kernel
theorem dX0_init_21 : decode cX0_init 21 = .ok (.iload_n 2, 1) := by decide +kernel
theorem dX0_init_22 : decode cX0_init 22 = .ok (.aload_n 0, 1) := by decide +kernel
theorem dX0_init_23 : decode cX0_init 23 = .ok (.getfield 17, 3) := by decide +kernel
theorem dX0_init_26 : decode cX0_init 26 = .ok (.arraylength, 1) := by decide +kernel
theorem dX0_init_27 : decode cX0_init 27 = .ok (.if_icmp .ge 22, 3) := by decide +kernel
theorem dX0_init_30 : decode cX0_init 30 = .ok (.aload_n 0, 1) := by decide +kernel
theorem dX0_init_31 : decode cX0_init 31 = .ok (.getfield 17, 3) := by decide +kernel
theorem dX0_init_34 : decode cX0_init 34 = .ok (.iload_n 2, 1) := by decide +kernel
theorem dX0_init_35 : decode cX0_init 35 = .ok (.new 15, 3) := by decide +kernel
theorem dX0_init_38 : decode cX0_init 38 = .ok (.dup, 1) := by decide +kernel
theorem dX0_init_39 : decode cX0_init 39 = .ok (.invokespecial 21, 3) := by decide +kernel
theorem dX0_init_42 : decode cX0_init 42 = .ok (.aastore, 1) := by decide +kernel
theorem dX0_init_43 : decode cX0_init 43 = .ok (.iinc 2 1, 3) := by decide +kernel
theorem dX0_init_46 : decode cX0_init 46 = .ok (.goto (-25), 3) := by decide +kernel
theorem dX0_init_49 : decode cX0_init 49 = .ok (.aload_n 0, 1) := by decide +kernel
theorem dX0_init_50 : decode cX0_init 50 = .ok (.bipush 10, 2) := by decide +kernel
theorem dX0_init_52 : decode cX0_init 52 = .ok (.anewarray 22, 3) := by decide +kernel
theorem dX0_init_55 : decode cX0_init 55 = .ok (.putfield 24, 3) := by decide +kernel
theorem dX0_init_58 : decode cX0_init 58 = .ok (.aload_n 0, 1) := by decide +kernel
theorem dX0_init_59 : decode cX0_init 59 = .ok (.bipush 10, 2) := by decide +kernel
theorem dX0_init_61 : decode cX0_init 61 = .ok (.newarray .int, 2) := by decide +kernel
theorem dX0_init_63 : decode cX0_init 63 = .ok (.putfield 28, 3) := by decide +kernel
theorem dX0_init_66 : decode cX0_init 66 = .ok (.iconst 0, 1) := by decide +kernel
theorem dX0_init_67 : decode cX0_init 67 = .ok (.istore_n 2, 1) := by decide +kernel
theorem dX0_init_68 : decode cX0_init 68 = .ok (.iload_n 2, 1) := by decide +kernel
theorem dX0_init_69 : decode cX0_init 69 = .ok (.aload_n 0, 1) := by decide +kernel
theorem dX0_init_70 : decode cX0_init 70 = .ok (.getfield 24, 3) := by decide +kernel
theorem dX0_init_73 : decode cX0_init 73 = .ok (.arraylength, 1) := by decide +kernel
theorem dX0_init_74 : decode cX0_init 74 = .ok (.if_icmp .ge 22, 3) := by decide +kernel
theorem dX0_init_77 : decode cX0_init 77 = .ok (.aload_n 0, 1) := by decide +kernel
theorem dX0_init_78 : decode cX0_init 78 = .ok (.getfield 24, 3) := by decide +kernel
theorem dX0_init_81 : decode cX0_init 81 = .ok (.iload_n 2, 1) := by decide +kernel
theorem dX0_init_82 : decode cX0_init 82 = .ok (.new 22, 3) := by decide +kernel
theorem dX0_init_85 : decode cX0_init 85 = .ok (.dup, 1) := by decide +kernel
theorem dX0_init_86 : decode cX0_init 86 = .ok (.invokespecial 32, 3) := by decide +kernel
theorem dX0_init_89 : decode cX0_init 89 = .ok (.aastore, 1) := by decide +kernel
theorem dX0_init_90 : decode cX0_init 90 = .ok (.iinc 2 1, 3) := by decide +kernel
theorem dX0_init_93 : decode cX0_init 93 = .ok (.goto (-25), 3) := by decide +kernel
theorem dX0_init_96 : decode cX0_init 96 = .ok (.aload_n 0, 1) := by decide +kernel
theorem dX0_init_97 : decode cX0_init 97 = .ok (.iconst 0, 1) := by decide +kernel
theorem dX0_init_98 : decode cX0_init 98 = .ok (.iload_n 1, 1) := by decide +kernel
theorem dX0_init_99 : decode cX0_init 99 = .ok (.invokestatic 33, 3) := by decide +kernel
theorem dX0_init_102 : decode cX0_init 102 = .ok (.anewarray 39, 3) := by decide +kernel
theorem dX0_init_105 : decode cX0_init 105 = .ok (.putfield 41, 3) := by decide +kernel
theorem dX0_init_108 : decode cX0_init 108 = .ok (.iconst 0, 1) := by decide +kernel
theorem dX0_init_109 : decode cX0_init 109 = .ok (.istore_n 2, 1) := by decide +kernel
theorem dX0_init_110 : decode cX0_init 110 = .ok (.iload_n 2, 1) := by decide +kernel
theorem dX0_init_111 : decode cX0_init 111 = .ok (.aload_n 0, 1) := by decide +kernel
theorem dX0_init_112 : decode cX0_init 112 = .ok (.getfield 41, 3) := by decide +kernel
theorem dX0_init_115 : decode cX0_init 115 = .ok (.arraylength, 1) := by decide +kernel
theorem dX0_init_116 : decode cX0_init 116 = .ok (.if_icmp .ge 22, 3) := by decide +kernel
theorem dX0_init_119 : decode cX0_init 119 = .ok (.aload_n 0, 1) := by decide +kernel
theorem dX0_init_120 : decode cX0_init 120 = .ok (.getfield 41, 3) := by decide +kernel
theorem dX0_init_123 : decode cX0_init 123 = .ok (.iload_n 2, 1) := by decide +kernel
theorem dX0_init_124 : decode cX0_init 124 = .ok (.new 39, 3) := by decide +kernel
theorem dX0_init_127 : decode cX0_init 127 = .ok (.dup, 1) := by decide +kernel
theorem dX0_init_128 : decode cX0_init 128 = .ok (.invokespecial 45, 3) := by decide +kernel
theorem dX0_init_131 : decode cX0_init 131 = .ok (.aastore, 1) := by decide +kernel
theorem dX0_init_132 : decode cX0_init 132 = .ok (.iinc 2 1, 3) := by decide +kernel
theorem dX0_init_135 : decode cX0_init 135 = .ok (.goto (-25), 3) := by decide +kernel
theorem dX0_init_138 : decode cX0_init 138 = .ok (.return_, 1) := by decide +kernel
theorem dX0_becomeLike_0 : decode cX0_becomeLike 0 = .ok (.aload_n 0, 1) := by decide +kernel
theorem dX0_becomeLike_1 : decode cX0_becomeLike 1 = .ok (.aload_n 1, 1) := by decide +kernel
theorem dX0_becomeLike_2 : decode cX0_becomeLike 2 = .ok (.getfield 46, 3) := by decide +kernel
theorem dX0_becomeLike_5 : decode cX0_becomeLike 5 = .ok (.putfield 46, 3) := by decide +kernel
theorem dX0_becomeLike_8 : decode cX0_becomeLike 8 = .ok (.aload_n 0, 1) := by decide +kernel
theorem dX0_becomeLike_9 : decode cX0_becomeLike 9 = .ok (.aload_n 1, 1) := by decide +kernel
theorem dX0_becomeLike_10 : decode cX0_becomeLike 10 = .ok (.getfield 9, 3) := by decide +kernel
theorem dX0_becomeLike_13 : decode cX0_becomeLike 13 = .ok (.putfield 9, 3) := by decide +kernel
theorem dX0_becomeLike_16 : decode cX0_becomeLike 16 = .ok (.iconst 0, 1) := by decide +kernel
theorem dX0_becomeLike_17 : decode cX0_becomeLike 17 = .ok (.istore_n 2, 1) := by decide +kernel
theorem dX0_becomeLike_18 : decode cX0_becomeLike 18 = .ok (.iload_n 2, 1) := by decide +kernel
theorem dX0_becomeLike_19 : decode cX0_becomeLike 19 = .ok (.bipush 10, 2) := by decide +kernel
theorem dX0_becomeLike_21 : decode cX0_becomeLike 21 = .ok (.if_icmp .ge 24, 3) := by decide +kernel
theorem dX0_becomeLike_24 : decode cX0_becomeLike 24 = .ok (.aload_n 0, 1) := by decide +kernel
theorem dX0_becomeLike_25 : decode cX0_becomeLike 25 = .ok (.getfield 17, 3) := by decide +kernel
theorem dX0_becomeLike_28 : decode cX0_becomeLike 28 = .ok (.iload_n 2, 1) := by decide +kernel
theorem dX0_becomeLike_29 : decode cX0_becomeLike 29 = .ok (.aaload, 1) := by decide +kernel
theorem dX0_becomeLike_30 : decode cX0_becomeLike 30 = .ok (.aload_n 1, 1) := by decide +kernel
theorem dX0_becomeLike_31 : decode cX0_becomeLike 31 = .ok (.getfield 17, 3) := by decide +kernel
theorem dX0_becomeLike_34 : decode cX0_becomeLike 34 = .ok (.iload_n 2, 1) := by decide +kernel
theorem dX0_becomeLike_35 : decode cX0_becomeLike 35 = .ok (.aaload, 1) := by decide +kernel
theorem dX0_becomeLike_36 : decode cX0_becomeLike 36 = .ok (.invokevirtual 49, 3) := by decide +kernel
theorem dX0_becomeLike_39 : decode cX0_becomeLike 39 = .ok (.iinc 2 1, 3) := by decide +kernel
theorem dX0_becomeLike_42 : decode cX0_becomeLike 42 = .ok (.goto (-24), 3) := by decide +kernel
theorem dX0_becomeLike_45 : decode cX0_becomeLike 45 = .ok (.aload_n 0, 1) := by decide +kernel
theorem dX0_becomeLike_46 : decode cX0_becomeLike 46 = .ok (.aload_n 1, 1) := by decide +kernel
theorem dX0_becomeLike_47 : decode cX0_becomeLike 47 = .ok (.getfield 53, 3) := by decide +kernel
theorem dX0_becomeLike_50 : decode cX0_becomeLike 50 = .ok (.putfield 53, 3) := by decide +kernel
theorem dX0_becomeLike_53 : decode cX0_becomeLike 53 = .ok (.iconst 0, 1) := by decide +kernel
theorem dX0_becomeLike_54 : decode cX0_becomeLike 54 = .ok (.istore_n 2, 1) := by decide +kernel
theorem dX0_becomeLike_55 : decode cX0_becomeLike 55 = .ok (.iload_n 2, 1) := by decide +kernel
theorem dX0_becomeLike_56 : decode cX0_becomeLike 56 = .ok (.aload_n 0, 1) := by decide +kernel
theorem dX0_becomeLike_57 : decode cX0_becomeLike 57 = .ok (.getfield 53, 3) := by decide +kernel
theorem dX0_becomeLike_60 : decode cX0_becomeLike 60 = .ok (.if_icmp .ge 36, 3) := by decide +kernel
theorem dX0_becomeLike_63 : decode cX0_becomeLike 63 = .ok (.aload_n 0, 1) := by decide +kernel
theorem dX0_becomeLike_64 : decode cX0_becomeLike 64 = .ok (.getfield 24, 3) := by decide +kernel
theorem dX0_becomeLike_67 : decode cX0_becomeLike 67 = .ok (.iload_n 2, 1) := by decide +kernel
theorem dX0_becomeLike_68 : decode cX0_becomeLike 68 = .ok (.aaload, 1) := by decide +kernel
theorem dX0_becomeLike_69 : decode cX0_becomeLike 69 = .ok (.aload_n 1, 1) := by decide +kernel
theorem dX0_becomeLike_70 : decode cX0_becomeLike 70 = .ok (.getfield 24, 3) := by decide +kernel
theorem dX0_becomeLike_73 : decode cX0_becomeLike 73 = .ok (.iload_n 2, 1) := by decide +kernel
theorem dX0_becomeLike_74 : decode cX0_becomeLike 74 = .ok (.aaload, 1) := by decide +kernel
theorem dX0_becomeLike_75 : decode cX0_becomeLike 75 = .ok (.invokevirtual 56, 3) := by decide +kernel
theorem dX0_becomeLike_78 : decode cX0_becomeLike 78 = .ok (.aload_n 0, 1) := by decide +kernel
theorem dX0_becomeLike_79 : decode cX0_becomeLike 79 = .ok (.getfield 28, 3) := by decide +kernel
theorem dX0_becomeLike_82 : decode cX0_becomeLike 82 = .ok (.iload_n 2, 1) := by decide +kernel
theorem dX0_becomeLike_83 : decode cX0_becomeLike 83 = .ok (.aload_n 1, 1) := by decide +kernel
theorem dX0_becomeLike_84 : decode cX0_becomeLike 84 = .ok (.getfield 28, 3) := by decide +kernel
theorem dX0_becomeLike_87 : decode cX0_becomeLike 87 = .ok (.iload_n 2, 1) := by decide +kernel
theorem dX0_becomeLike_88 : decode cX0_becomeLike 88 = .ok (.iaload, 1) := by decide +kernel
theorem dX0_becomeLike_89 : decode cX0_becomeLike 89 = .ok (.iastore, 1) := by decide +kernel
theorem dX0_becomeLike_90 : decode cX0_becomeLike 90 = .ok (.iinc 2 1, 3) := by decide +kernel
theorem dX0_becomeLike_93 : decode cX0_becomeLike 93 = .ok (.goto (-38), 3) := by decide +kernel
theorem dX0_becomeLike_96 : decode cX0_becomeLike 96 = .ok (.aload_n 0, 1) := by decide +kernel
theorem dX0_becomeLike_97 : decode cX0_becomeLike 97 = .ok (.aload_n 1, 1) := by decide +kernel
theorem dX0_becomeLike_98 : decode cX0_becomeLike 98 = .ok (.getfield 59, 3) := by decide +kernel
theorem dX0_becomeLike_101 : decode cX0_becomeLike 101 = .ok (.aload_n 0, 1) := by decide +kernel
theorem dX0_becomeLike_102 : decode cX0_becomeLike 102 = .ok (.getfield 41, 3) := by decide +kernel
theorem dX0_becomeLike_105 : decode cX0_becomeLike 105 = .ok (.arraylength, 1) := by decide +kernel
theorem dX0_becomeLike_106 : decode cX0_becomeLike 106 = .ok (.invokestatic 62, 3) := by decide +kernel
theorem dX0_becomeLike_109 : decode cX0_becomeLike 109 = .ok (.putfield 59, 3) := by decide +kernel
theorem dX0_becomeLike_112 : decode cX0_becomeLike 112 = .ok (.iconst 0, 1) := by decide +kernel
theorem dX0_becomeLike_113 : decode cX0_becomeLike 113 = .ok (.istore_n 2, 1) := by decide +kernel
theorem dX0_becomeLike_114 : decode cX0_becomeLike 114 = .ok (.iload_n 2, 1) := by decide +kernel
theorem dX0_becomeLike_115 : decode cX0_becomeLike 115 = .ok (.aload_n 0, 1) := by decide +kernel
theorem dX0_becomeLike_116 : decode cX0_becomeLike 116 = .ok (.getfield 59, 3) := by decide +kernel
theorem dX0_becomeLike_119 : decode cX0_becomeLike 119 = .ok (.if_icmp .ge 24, 3) := by decide +kernel
theorem dX0_becomeLike_122 : decode cX0_becomeLike 122 = .ok (.aload_n 0, 1) := by decide +kernel
theorem dX0_becomeLike_123 : decode cX0_becomeLike 123 = .ok (.getfield 41, 3) := by decide +kernel
theorem dX0_becomeLike_126 : decode cX0_becomeLike 126 = .ok (.iload_n 2, 1) := by decide +kernel
theorem dX0_becomeLike_127 : decode cX0_becomeLike 127 = .ok (.aaload, 1) := by decide +kernel
theorem dX0_becomeLike_128 : decode cX0_becomeLike 128 = .ok (.aload_n 1, 1) := by decide +kernel
theorem dX0_becomeLike_129 : decode cX0_becomeLike 129 = .ok (.getfield 41, 3) := by decide +kernel
theorem dX0_becomeLike_132 : decode cX0_becomeLike 132 = .ok (.iload_n 2, 1) := by decide +kernel
theorem dX0_becomeLike_133 : decode cX0_becomeLike 133 = .ok (.aaload, 1) := by decide +kernel
theorem dX0_becomeLike_134 : decode cX0_becomeLike 134 = .ok (.invokevirtual 65, 3) := by decide +kernel
theorem dX0_becomeLike_137 : decode cX0_becomeLike 137 = .ok (.iinc 2 1, 3) := by decide +kernel
theorem dX0_becomeLike_140 : decode cX0_becomeLike 140 = .ok (.goto (-26), 3) := by decide +kernel
theorem dX0_becomeLike_143 : decode cX0_becomeLike 143 = .ok (.return_, 1) := by decide +kernel
theorem dX0_weatherAt_0 : decode cX0_weatherAt 0 = .ok (.iload_n 1, 1) := by decide +kernel
theorem dX0_weatherAt_1 : decode cX0_weatherAt 1 = .ok (.ifCond .lt 12, 3) := by decide +kernel
theorem dX0_weatherAt_4 : decode cX0_weatherAt 4 = .ok (.iload_n 1, 1) := by decide +kernel
theorem dX0_weatherAt_5 : decode cX0_weatherAt 5 = .ok (.aload_n 0, 1) := by decide +kernel
theorem dX0_weatherAt_6 : decode cX0_weatherAt 6 = .ok (.getfield 17, 3) := by decide +kernel
theorem dX0_weatherAt_9 : decode cX0_weatherAt 9 = .ok (.arraylength, 1) := by decide +kernel
theorem dX0_weatherAt_10 : decode cX0_weatherAt 10 = .ok (.if_icmp .lt 13, 3) := by decide +kernel
theorem dX0_weatherAt_13 : decode cX0_weatherAt 13 = .ok (.new 68, 3) := by decide +kernel
theorem dX0_weatherAt_16 : decode cX0_weatherAt 16 = .ok (.dup, 1) := by decide +kernel
theorem dX0_weatherAt_17 : decode cX0_weatherAt 17 = .ok (.ldc 70, 2) := by decide +kernel
theorem dX0_weatherAt_19 : decode cX0_weatherAt 19 = .ok (.invokespecial 72, 3) := by decide +kernel
theorem dX0_weatherAt_22 : decode cX0_weatherAt 22 = .ok (.athrow, 1) := by decide +kernel
theorem dX0_weatherAt_23 : decode cX0_weatherAt 23 = .ok (.aload_n 0, 1) := by decide +kernel
theorem dX0_weatherAt_24 : decode cX0_weatherAt 24 = .ok (.getfield 17, 3) := by decide +kernel
theorem dX0_weatherAt_27 : decode cX0_weatherAt 27 = .ok (.iload_n 1, 1) := by decide +kernel
theorem dX0_weatherAt_28 : decode cX0_weatherAt 28 = .ok (.aaload, 1) := by decide +kernel
theorem dX0_weatherAt_29 : decode cX0_weatherAt 29 = .ok (.areturn, 1) := by decide +kernel
theorem dX0_pondAt_0 : decode cX0_pondAt 0 = .ok (.iload_n 1, 1) := by decide +kernel
theorem dX0_pondAt_1 : decode cX0_pondAt 1 = .ok (.ifCond .lt 11, 3) := by decide +kernel
theorem dX0_pondAt_4 : decode cX0_pondAt 4 = .ok (.iload_n 1, 1) := by decide +kernel
theorem dX0_pondAt_5 : decode cX0_pondAt 5 = .ok (.aload_n 0, 1) := by decide +kernel
theorem dX0_pondAt_6 : decode cX0_pondAt 6 = .ok (.getfield 53, 3) := by decide +kernel
theorem dX0_pondAt_9 : decode cX0_pondAt 9 = .ok (.if_icmp .lt 13, 3) := by decide +kernel
theorem dX0_pondAt_12 : decode cX0_pondAt 12 = .ok (.new 68, 3) := by decide +kernel
theorem dX0_pondAt_15 : decode cX0_pondAt 15 = .ok (.dup, 1) := by decide +kernel
theorem dX0_pondAt_16 : decode cX0_pondAt 16 = .ok (.ldc 75, 2) := by decide +kernel
theorem dX0_pondAt_18 : decode cX0_pondAt 18 = .ok (.invokespecial 72, 3) := by decide +kernel
theorem dX0_pondAt_21 : decode cX0_pondAt 21 = .ok (.athrow, 1) := by decide +kernel
theorem dX0_pondAt_22 : decode cX0_pondAt 22 = .ok (.aload_n 0, 1) := by decide +kernel
theorem dX0_pondAt_23 : decode cX0_pondAt 23 = .ok (.getfield 24, 3) := by decide +kernel
theorem dX0_pondAt_26 : decode cX0_pondAt 26 = .ok (.iload_n 1, 1) := by decide +kernel
theorem dX0_pondAt_27 : decode cX0_pondAt 27 = .ok (.aaload, 1) := by decide +kernel
theorem dX0_pondAt_28 : decode cX0_pondAt 28 = .ok (.areturn, 1) := by decide +kernel
theorem dX0_flockAt_0 : decode cX0_flockAt 0 = .ok (.iload_n 1, 1) := by decide +kernel
theorem dX0_flockAt_1 : decode cX0_flockAt 1 = .ok (.ifCond .lt 11, 3) := by decide +kernel
theorem dX0_flockAt_4 : decode cX0_flockAt 4 = .ok (.iload_n 1, 1) := by decide +kernel
theorem dX0_flockAt_5 : decode cX0_flockAt 5 = .ok (.aload_n 0, 1) := by decide +kernel
theorem dX0_flockAt_6 : decode cX0_flockAt 6 = .ok (.getfield 59, 3) := by decide +kernel
theorem dX0_flockAt_9 : decode cX0_flockAt 9 = .ok (.if_icmp .lt 13, 3) := by decide +kernel
theorem dX0_flockAt_12 : decode cX0_flockAt 12 = .ok (.new 68, 3) := by decide +kernel
theorem dX0_flockAt_15 : decode cX0_flockAt 15 = .ok (.dup, 1) := by decide +kernel
theorem dX0_flockAt_16 : decode cX0_flockAt 16 = .ok (.ldc 77, 2) := by decide +kernel
theorem dX0_flockAt_18 : decode cX0_flockAt 18 = .ok (.invokespecial 72, 3) := by decide +kernel
theorem dX0_flockAt_21 : decode cX0_flockAt 21 = .ok (.athrow, 1) := by decide +kernel
theorem dX0_flockAt_22 : decode cX0_flockAt 22 = .ok (.aload_n 0, 1) := by decide +kernel
theorem dX0_flockAt_23 : decode cX0_flockAt 23 = .ok (.getfield 41, 3) := by decide +kernel
theorem dX0_flockAt_26 : decode cX0_flockAt 26 = .ok (.iload_n 1, 1) := by decide +kernel
theorem dX0_flockAt_27 : decode cX0_flockAt 27 = .ok (.aaload, 1) := by decide +kernel
theorem dX0_flockAt_28 : decode cX0_flockAt 28 = .ok (.areturn, 1) := by decide +kernel
theorem dX0_makePond_0 : decode cX0_makePond 0 = .ok (.aload_n 0, 1) := by decide +kernel
theorem dX0_makePond_1 : decode cX0_makePond 1 = .ok (.getfield 53, 3) := by decide +kernel
theorem dX0_makePond_4 : decode cX0_makePond 4 = .ok (.aload_n 0, 1) := by decide +kernel
theorem dX0_makePond_5 : decode cX0_makePond 5 = .ok (.getfield 24, 3) := by decide +kernel
theorem dX0_makePond_8 : decode cX0_makePond 8 = .ok (.arraylength, 1) := by decide +kernel
theorem dX0_makePond_9 : decode cX0_makePond 9 = .ok (.if_icmp .lt 13, 3) := by decide +kernel
theorem dX0_makePond_12 : decode cX0_makePond 12 = .ok (.new 79, 3) := by decide +kernel
theorem dX0_makePond_15 : decode cX0_makePond 15 = .ok (.dup, 1) := by decide +kernel
theorem dX0_makePond_16 : decode cX0_makePond 16 = .ok (.ldc 81, 2) := by decide +kernel
theorem dX0_makePond_18 : decode cX0_makePond 18 = .ok (.invokespecial 83, 3) := by decide +kernel
theorem dX0_makePond_21 : decode cX0_makePond 21 = .ok (.athrow, 1) := by decide +kernel
theorem dX0_makePond_22 : decode cX0_makePond 22 = .ok (.aload_n 0, 1) := by decide +kernel
theorem dX0_makePond_23 : decode cX0_makePond 23 = .ok (.iload_n 1, 1) := by decide +kernel
theorem dX0_makePond_24 : decode cX0_makePond 24 = .ok (.iload_n 2, 1) := by decide +kernel
theorem dX0_makePond_25 : decode cX0_makePond 25 = .ok (.invokevirtual 84, 3) := by decide +kernel
theorem dX0_makePond_28 : decode cX0_makePond 28 = .ok (.ifCond .eq 13, 3) := by decide +kernel
theorem dX0_makePond_31 : decode cX0_makePond 31 = .ok (.new 79, 3) := by decide +kernel
theorem dX0_makePond_34 : decode cX0_makePond 34 = .ok (.dup, 1) := by decide +kernel
theorem dX0_makePond_35 : decode cX0_makePond 35 = .ok (.ldc 88, 2) := by decide +kernel
theorem dX0_makePond_37 : decode cX0_makePond 37 = .ok (.invokespecial 83, 3) := by decide +kernel
theorem dX0_makePond_40 : decode cX0_makePond 40 = .ok (.athrow, 1) := by decide +kernel
theorem dX0_makePond_41 : decode cX0_makePond 41 = .ok (.aload_n 0, 1) := by decide +kernel
theorem dX0_makePond_42 : decode cX0_makePond 42 = .ok (.getfield 53, 3) := by decide +kernel
theorem dX0_makePond_45 : decode cX0_makePond 45 = .ok (.istore 6, 2) := by decide +kernel
theorem dX0_makePond_47 : decode cX0_makePond 47 = .ok (.aload_n 0, 1) := by decide +kernel
theorem dX0_makePond_48 : decode cX0_makePond 48 = .ok (.getfield 24, 3) := by decide +kernel
theorem dX0_makePond_51 : decode cX0_makePond 51 = .ok (.iload 6, 2) := by decide +kernel
theorem dX0_makePond_53 : decode cX0_makePond 53 = .ok (.aaload, 1) := by decide +kernel
theorem dX0_makePond_54 : decode cX0_makePond 54 = .ok (.astore 7, 2) := by decide +kernel
theorem dX0_makePond_56 : decode cX0_makePond 56 = .ok (.aload 7, 2) := by decide +kernel
theorem dX0_makePond_58 : decode cX0_makePond 58 = .ok (.iload_n 1, 1) := by decide +kernel
theorem dX0_makePond_59 : decode cX0_makePond 59 = .ok (.putfield 90, 3) := by decide +kernel
theorem dX0_makePond_62 : decode cX0_makePond 62 = .ok (.aload 7, 2) := by decide +kernel
theorem dX0_makePond_64 : decode cX0_makePond 64 = .ok (.iload_n 2, 1) := by decide +kernel
theorem dX0_makePond_65 : decode cX0_makePond 65 = .ok (.putfield 93, 3) := by decide +kernel
theorem dX0_makePond_68 : decode cX0_makePond 68 = .ok (.aload 7, 2) := by decide +kernel
theorem dX0_makePond_70 : decode cX0_makePond 70 = .ok (.iload_n 3, 1) := by decide +kernel
theorem dX0_makePond_71 : decode cX0_makePond 71 = .ok (.putfield 96, 3) := by decide +kernel
theorem dX0_makePond_74 : decode cX0_makePond 74 = .ok (.aload 7, 2) := by decide +kernel
theorem dX0_makePond_76 : decode cX0_makePond 76 = .ok (.iload 4, 2) := by decide +kernel
theorem dX0_makePond_78 : decode cX0_makePond 78 = .ok (.putfield 99, 3) := by decide +kernel
theorem dX0_makePond_81 : decode cX0_makePond 81 = .ok (.aload 7, 2) := by decide +kernel
theorem dX0_makePond_83 : decode cX0_makePond 83 = .ok (.iload 5, 2) := by decide +kernel
theorem dX0_makePond_85 : decode cX0_makePond 85 = .ok (.putfield 102, 3) := by decide +kernel
theorem dX0_makePond_88 : decode cX0_makePond 88 = .ok (.iload 6, 2) := by decide +kernel
theorem dX0_makePond_90 : decode cX0_makePond 90 = .ok (.istore 8, 2) := by decide +kernel
theorem dX0_makePond_92 : decode cX0_makePond 92 = .ok (.iload 8, 2) := by decide +kernel
theorem dX0_makePond_94 : decode cX0_makePond 94 = .ok (.ifCond .le 45, 3) := by decide +kernel
theorem dX0_makePond_97 : decode cX0_makePond 97 = .ok (.aload_n 0, 1) := by decide +kernel
theorem dX0_makePond_98 : decode cX0_makePond 98 = .ok (.aload_n 0, 1) := by decide +kernel
theorem dX0_makePond_99 : decode cX0_makePond 99 = .ok (.getfield 28, 3) := by decide +kernel
theorem dX0_makePond_102 : decode cX0_makePond 102 = .ok (.iload 8, 2) := by decide +kernel
theorem dX0_makePond_104 : decode cX0_makePond 104 = .ok (.iconst 1, 1) := by decide +kernel
theorem dX0_makePond_105 : decode cX0_makePond 105 = .ok (.isub, 1) := by decide +kernel
theorem dX0_makePond_106 : decode cX0_makePond 106 = .ok (.iaload, 1) := by decide +kernel
theorem dX0_makePond_107 : decode cX0_makePond 107 = .ok (.invokevirtual 105, 3) := by decide +kernel
theorem dX0_makePond_110 : decode cX0_makePond 110 = .ok (.getfield 96, 3) := by decide +kernel
theorem dX0_makePond_113 : decode cX0_makePond 113 = .ok (.iload_n 3, 1) := by decide +kernel
theorem dX0_makePond_114 : decode cX0_makePond 114 = .ok (.if_icmp .ge 25, 3) := by decide +kernel
theorem dX0_makePond_117 : decode cX0_makePond 117 = .ok (.aload_n 0, 1) := by decide +kernel
theorem dX0_makePond_118 : decode cX0_makePond 118 = .ok (.getfield 28, 3) := by decide +kernel
theorem dX0_makePond_121 : decode cX0_makePond 121 = .ok (.iload 8, 2) := by decide +kernel
theorem dX0_makePond_123 : decode cX0_makePond 123 = .ok (.aload_n 0, 1) := by decide +kernel
theorem dX0_makePond_124 : decode cX0_makePond 124 = .ok (.getfield 28, 3) := by decide +kernel
theorem dX0_makePond_127 : decode cX0_makePond 127 = .ok (.iload 8, 2) := by decide +kernel
theorem dX0_makePond_129 : decode cX0_makePond 129 = .ok (.iconst 1, 1) := by decide +kernel
theorem dX0_makePond_130 : decode cX0_makePond 130 = .ok (.isub, 1) := by decide +kernel
theorem dX0_makePond_131 : decode cX0_makePond 131 = .ok (.iaload, 1) := by decide +kernel
theorem dX0_makePond_132 : decode cX0_makePond 132 = .ok (.iastore, 1) := by decide +kernel
theorem dX0_makePond_133 : decode cX0_makePond 133 = .ok (.iinc 8 (-1), 3) := by decide +kernel
theorem dX0_makePond_136 : decode cX0_makePond 136 = .ok (.goto (-44), 3) := by decide +kernel
theorem dX0_makePond_139 : decode cX0_makePond 139 = .ok (.aload_n 0, 1) := by decide +kernel
theorem dX0_makePond_140 : decode cX0_makePond 140 = .ok (.getfield 28, 3) := by decide +kernel
theorem dX0_makePond_143 : decode cX0_makePond 143 = .ok (.iload 8, 2) := by decide +kernel
theorem dX0_makePond_145 : decode cX0_makePond 145 = .ok (.iload 6, 2) := by decide +kernel
theorem dX0_makePond_147 : decode cX0_makePond 147 = .ok (.iastore, 1) := by decide +kernel
theorem dX0_makePond_148 : decode cX0_makePond 148 = .ok (.aload_n 0, 1) := by decide +kernel
theorem dX0_makePond_149 : decode cX0_makePond 149 = .ok (.dup, 1) := by decide +kernel
theorem dX0_makePond_150 : decode cX0_makePond 150 = .ok (.getfield 53, 3) := by decide +kernel
theorem dX0_makePond_153 : decode cX0_makePond 153 = .ok (.iconst 1, 1) := by decide +kernel
theorem dX0_makePond_154 : decode cX0_makePond 154 = .ok (.iadd, 1) := by decide +kernel
theorem dX0_makePond_155 : decode cX0_makePond 155 = .ok (.putfield 53, 3) := by decide +kernel
theorem dX0_makePond_158 : decode cX0_makePond 158 = .ok (.iload 6, 2) := by decide +kernel
theorem dX0_makePond_160 : decode cX0_makePond 160 = .ok (.ireturn, 1) := by decide +kernel
theorem dX0_makeFlock_0 : decode cX0_makeFlock 0 = .ok (.aload_n 0, 1) := by decide +kernel
theorem dX0_makeFlock_1 : decode cX0_makeFlock 1 = .ok (.getfield 59, 3) := by decide +kernel
theorem dX0_makeFlock_4 : decode cX0_makeFlock 4 = .ok (.aload_n 0, 1) := by decide +kernel
theorem dX0_makeFlock_5 : decode cX0_makeFlock 5 = .ok (.getfield 41, 3) := by decide +kernel
theorem dX0_makeFlock_8 : decode cX0_makeFlock 8 = .ok (.arraylength, 1) := by decide +kernel
theorem dX0_makeFlock_9 : decode cX0_makeFlock 9 = .ok (.if_icmp .lt 13, 3) := by decide +kernel
theorem dX0_makeFlock_12 : decode cX0_makeFlock 12 = .ok (.new 79, 3) := by decide +kernel
theorem dX0_makeFlock_15 : decode cX0_makeFlock 15 = .ok (.dup, 1) := by decide +kernel
theorem dX0_makeFlock_16 : decode cX0_makeFlock 16 = .ok (.ldc 109, 2) := by decide +kernel
theorem dX0_makeFlock_18 : decode cX0_makeFlock 18 = .ok (.invokespecial 83, 3) := by decide +kernel
theorem dX0_makeFlock_21 : decode cX0_makeFlock 21 = .ok (.athrow, 1) := by decide +kernel
theorem dX0_makeFlock_22 : decode cX0_makeFlock 22 = .ok (.aload_n 0, 1) := by decide +kernel
theorem dX0_makeFlock_23 : decode cX0_makeFlock 23 = .ok (.getfield 59, 3) := by decide +kernel
theorem dX0_makeFlock_26 : decode cX0_makeFlock 26 = .ok (.istore_n 3, 1) := by decide +kernel
theorem dX0_makeFlock_27 : decode cX0_makeFlock 27 = .ok (.aload_n 0, 1) := by decide +kernel
theorem dX0_makeFlock_28 : decode cX0_makeFlock 28 = .ok (.getfield 41, 3) := by decide +kernel
theorem dX0_makeFlock_31 : decode cX0_makeFlock 31 = .ok (.iload_n 3, 1) := by decide +kernel
theorem dX0_makeFlock_32 : decode cX0_makeFlock 32 = .ok (.aaload, 1) := by decide +kernel
theorem dX0_makeFlock_33 : decode cX0_makeFlock 33 = .ok (.iload_n 1, 1) := by decide +kernel
theorem dX0_makeFlock_34 : decode cX0_makeFlock 34 = .ok (.iload_n 2, 1) := by decide +kernel
theorem dX0_makeFlock_35 : decode cX0_makeFlock 35 = .ok (.invokevirtual 111, 3) := by decide +kernel
theorem dX0_makeFlock_38 : decode cX0_makeFlock 38 = .ok (.aload_n 0, 1) := by decide +kernel
theorem dX0_makeFlock_39 : decode cX0_makeFlock 39 = .ok (.dup, 1) := by decide +kernel
theorem dX0_makeFlock_40 : decode cX0_makeFlock 40 = .ok (.getfield 59, 3) := by decide +kernel
theorem dX0_makeFlock_43 : decode cX0_makeFlock 43 = .ok (.iconst 1, 1) := by decide +kernel
theorem dX0_makeFlock_44 : decode cX0_makeFlock 44 = .ok (.iadd, 1) := by decide +kernel
theorem dX0_makeFlock_45 : decode cX0_makeFlock 45 = .ok (.putfield 59, 3) := by decide +kernel
theorem dX0_makeFlock_48 : decode cX0_makeFlock 48 = .ok (.iload_n 3, 1) := by decide +kernel
theorem dX0_makeFlock_49 : decode cX0_makeFlock 49 = .ok (.ireturn, 1) := by decide +kernel
theorem dX0_liveDays_0 : decode cX0_liveDays 0 = .ok (.iconst 0, 1) := by decide +kernel
theorem dX0_liveDays_1 : decode cX0_liveDays 1 = .ok (.istore_n 2, 1) := by decide +kernel
theorem dX0_liveDays_2 : decode cX0_liveDays 2 = .ok (.iconst 0, 1) := by decide +kernel
theorem dX0_liveDays_3 : decode cX0_liveDays 3 = .ok (.istore_n 3, 1) := by decide +kernel
theorem dX0_liveDays_4 : decode cX0_liveDays 4 = .ok (.iload_n 3, 1) := by decide +kernel
theorem dX0_liveDays_5 : decode cX0_liveDays 5 = .ok (.iload_n 1, 1) := by decide +kernel
theorem dX0_liveDays_6 : decode cX0_liveDays 6 = .ok (.if_icmp .ge 16, 3) := by decide +kernel
theorem dX0_liveDays_9 : decode cX0_liveDays 9 = .ok (.iload_n 2, 1) := by decide +kernel
theorem dX0_liveDays_10 : decode cX0_liveDays 10 = .ok (.aload_n 0, 1) := by decide +kernel
theorem dX0_liveDays_11 : decode cX0_liveDays 11 = .ok (.invokevirtual 115, 3) := by decide +kernel
theorem dX0_liveDays_14 : decode cX0_liveDays 14 = .ok (.iadd, 1) := by decide +kernel
theorem dX0_liveDays_15 : decode cX0_liveDays 15 = .ok (.istore_n 2, 1) := by decide +kernel
theorem dX0_liveDays_16 : decode cX0_liveDays 16 = .ok (.iinc 3 1, 3) := by decide +kernel
theorem dX0_liveDays_19 : decode cX0_liveDays 19 = .ok (.goto (-15), 3) := by decide +kernel
theorem dX0_liveDays_22 : decode cX0_liveDays 22 = .ok (.iload_n 2, 1) := by decide +kernel
theorem dX0_liveDays_23 : decode cX0_liveDays 23 = .ok (.ireturn, 1) := by decide +kernel
theorem dX0_liveDay_0 : decode cX0_liveDay 0 = .ok (.aload_n 0, 1) := by decide +kernel
theorem dX0_liveDay_1 : decode cX0_liveDay 1 = .ok (.getfield 46, 3) := by decide +kernel
theorem dX0_liveDay_4 : decode cX0_liveDay 4 = .ok (.bipush 10, 2) := by decide +kernel
theorem dX0_liveDay_6 : decode cX0_liveDay 6 = .ok (.invokestatic 119, 3) := by decide +kernel
theorem dX0_liveDay_9 : decode cX0_liveDay 9 = .ok (.istore_n 1, 1) := by decide +kernel
theorem dX0_liveDay_10 : decode cX0_liveDay 10 = .ok (.aload_n 0, 1) := by decide +kernel
theorem dX0_liveDay_11 : decode cX0_liveDay 11 = .ok (.iload_n 1, 1) := by decide +kernel
theorem dX0_liveDay_12 : decode cX0_liveDay 12 = .ok (.invokevirtual 122, 3) := by decide +kernel
theorem dX0_liveDay_15 : decode cX0_liveDay 15 = .ok (.astore_n 2, 1) := by decide +kernel
theorem dX0_liveDay_16 : decode cX0_liveDay 16 = .ok (.iconst 0, 1) := by decide +kernel
theorem dX0_liveDay_17 : decode cX0_liveDay 17 = .ok (.istore_n 3, 1) := by decide +kernel
theorem dX0_liveDay_18 : decode cX0_liveDay 18 = .ok (.iload_n 3, 1) := by decide +kernel
theorem dX0_liveDay_19 : decode cX0_liveDay 19 = .ok (.aload_n 0, 1) := by decide +kernel
theorem dX0_liveDay_20 : decode cX0_liveDay 20 = .ok (.getfield 53, 3) := by decide +kernel
theorem dX0_liveDay_23 : decode cX0_liveDay 23 = .ok (.if_icmp .ge 35, 3) := by decide +kernel
theorem dX0_liveDay_26 : decode cX0_liveDay 26 = .ok (.aload_n 0, 1) := by decide +kernel
theorem dX0_liveDay_27 : decode cX0_liveDay 27 = .ok (.getfield 24, 3) := by decide +kernel
theorem dX0_liveDay_30 : decode cX0_liveDay 30 = .ok (.iload_n 3, 1) := by decide +kernel
theorem dX0_liveDay_31 : decode cX0_liveDay 31 = .ok (.aaload, 1) := by decide +kernel
theorem dX0_liveDay_32 : decode cX0_liveDay 32 = .ok (.aload_n 2, 1) := by decide +kernel
theorem dX0_liveDay_33 : decode cX0_liveDay 33 = .ok (.getfield 126, 3) := by decide +kernel
theorem dX0_liveDay_36 : decode cX0_liveDay 36 = .ok (.invokevirtual 129, 3) := by decide +kernel
theorem dX0_liveDay_39 : decode cX0_liveDay 39 = .ok (.aload_n 0, 1) := by decide +kernel
theorem dX0_liveDay_40 : decode cX0_liveDay 40 = .ok (.getfield 24, 3) := by decide +kernel
theorem dX0_liveDay_43 : decode cX0_liveDay 43 = .ok (.iload_n 3, 1) := by decide +kernel
theorem dX0_liveDay_44 : decode cX0_liveDay 44 = .ok (.aaload, 1) := by decide +kernel
theorem dX0_liveDay_45 : decode cX0_liveDay 45 = .ok (.aload_n 2, 1) := by decide +kernel
theorem dX0_liveDay_46 : decode cX0_liveDay 46 = .ok (.getfield 133, 3) := by decide +kernel
theorem dX0_liveDay_49 : decode cX0_liveDay 49 = .ok (.invokevirtual 136, 3) := by decide +kernel
theorem dX0_liveDay_52 : decode cX0_liveDay 52 = .ok (.iinc 3 1, 3) := by decide +kernel
theorem dX0_liveDay_55 : decode cX0_liveDay 55 = .ok (.goto (-37), 3) := by decide +kernel
theorem dX0_liveDay_58 : decode cX0_liveDay 58 = .ok (.aload_n 0, 1) := by decide +kernel
theorem dX0_liveDay_59 : decode cX0_liveDay 59 = .ok (.invokevirtual 139, 3) := by decide +kernel
theorem dX0_liveDay_62 : decode cX0_liveDay 62 = .ok (.istore_n 3, 1) := by decide +kernel
theorem dX0_liveDay_63 : decode cX0_liveDay 63 = .ok (.iconst 0, 1) := by decide +kernel
theorem dX0_liveDay_64 : decode cX0_liveDay 64 = .ok (.istore 4, 2) := by decide +kernel
theorem dX0_liveDay_66 : decode cX0_liveDay 66 = .ok (.iload 4, 2) := by decide +kernel
theorem dX0_liveDay_68 : decode cX0_liveDay 68 = .ok (.aload_n 0, 1) := by decide +kernel
theorem dX0_liveDay_69 : decode cX0_liveDay 69 = .ok (.getfield 53, 3) := by decide +kernel
theorem dX0_liveDay_72 : decode cX0_liveDay 72 = .ok (.if_icmp .ge 33, 3) := by decide +kernel
theorem dX0_liveDay_75 : decode cX0_liveDay 75 = .ok (.aload_n 0, 1) := by decide +kernel
theorem dX0_liveDay_76 : decode cX0_liveDay 76 = .ok (.getfield 24, 3) := by decide +kernel
theorem dX0_liveDay_79 : decode cX0_liveDay 79 = .ok (.iload 4, 2) := by decide +kernel
theorem dX0_liveDay_81 : decode cX0_liveDay 81 = .ok (.aaload, 1) := by decide +kernel
theorem dX0_liveDay_82 : decode cX0_liveDay 82 = .ok (.aload_n 2, 1) := by decide +kernel
theorem dX0_liveDay_83 : decode cX0_liveDay 83 = .ok (.getfield 142, 3) := by decide +kernel
theorem dX0_liveDay_86 : decode cX0_liveDay 86 = .ok (.invokevirtual 145, 3) := by decide +kernel
theorem dX0_liveDay_89 : decode cX0_liveDay 89 = .ok (.aload_n 0, 1) := by decide +kernel
theorem dX0_liveDay_90 : decode cX0_liveDay 90 = .ok (.getfield 24, 3) := by decide +kernel
theorem dX0_liveDay_93 : decode cX0_liveDay 93 = .ok (.iload 4, 2) := by decide +kernel
theorem dX0_liveDay_95 : decode cX0_liveDay 95 = .ok (.aaload, 1) := by decide +kernel
theorem dX0_liveDay_96 : decode cX0_liveDay 96 = .ok (.invokevirtual 148, 3) := by decide +kernel
theorem dX0_liveDay_99 : decode cX0_liveDay 99 = .ok (.iinc 4 1, 3) := by decide +kernel
theorem dX0_liveDay_102 : decode cX0_liveDay 102 = .ok (.goto (-36), 3) := by decide +kernel
theorem dX0_liveDay_105 : decode cX0_liveDay 105 = .ok (.aload_n 0, 1) := by decide +kernel
theorem dX0_liveDay_106 : decode cX0_liveDay 106 = .ok (.invokevirtual 151, 3) := by decide +kernel
theorem dX0_liveDay_109 : decode cX0_liveDay 109 = .ok (.iload_n 1, 1) := by decide +kernel
theorem dX0_liveDay_110 : decode cX0_liveDay 110 = .ok (.bipush 9, 2) := by decide +kernel
theorem dX0_liveDay_112 : decode cX0_liveDay 112 = .ok (.if_icmp .ne 7, 3) := by decide +kernel
theorem dX0_liveDay_115 : decode cX0_liveDay 115 = .ok (.aload_n 0, 1) := by decide +kernel
theorem dX0_liveDay_116 : decode cX0_liveDay 116 = .ok (.invokevirtual 154, 3) := by decide +kernel
theorem dX0_liveDay_119 : decode cX0_liveDay 119 = .ok (.aload_n 0, 1) := by decide +kernel
theorem dX0_liveDay_120 : decode cX0_liveDay 120 = .ok (.dup, 1) := by decide +kernel
theorem dX0_liveDay_121 : decode cX0_liveDay 121 = .ok (.getfield 46, 3) := by decide +kernel
theorem dX0_liveDay_124 : decode cX0_liveDay 124 = .ok (.iconst 1, 1) := by decide +kernel
theorem dX0_liveDay_125 : decode cX0_liveDay 125 = .ok (.iadd, 1) := by decide +kernel
theorem dX0_liveDay_126 : decode cX0_liveDay 126 = .ok (.putfield 46, 3) := by decide +kernel
theorem dX0_liveDay_129 : decode cX0_liveDay 129 = .ok (.iload_n 3, 1) := by decide +kernel
theorem dX0_liveDay_130 : decode cX0_liveDay 130 = .ok (.ireturn, 1) := by decide +kernel
theorem dX0_waterFlocks_0 : decode cX0_waterFlocks 0 = .ok (.iconst 0, 1) := by decide +kernel
theorem dX0_waterFlocks_1 : decode cX0_waterFlocks 1 = .ok (.istore_n 1, 1) := by decide +kernel
theorem dX0_waterFlocks_2 : decode cX0_waterFlocks 2 = .ok (.iconst 0, 1) := by decide +kernel
theorem dX0_waterFlocks_3 : decode cX0_waterFlocks 3 = .ok (.istore_n 2, 1) := by decide +kernel
theorem dX0_waterFlocks_4 : decode cX0_waterFlocks 4 = .ok (.iload_n 2, 1) := by decide +kernel
theorem dX0_waterFlocks_5 : decode cX0_waterFlocks 5 = .ok (.aload_n 0, 1) := by decide +kernel
theorem dX0_waterFlocks_6 : decode cX0_waterFlocks 6 = .ok (.getfield 59, 3) := by decide +kernel
theorem dX0_waterFlocks_9 : decode cX0_waterFlocks 9 = .ok (.if_icmp .ge 87, 3) := by decide +kernel
theorem dX0_waterFlocks_12 : decode cX0_waterFlocks 12 = .ok (.aload_n 0, 1) := by decide +kernel
theorem dX0_waterFlocks_13 : decode cX0_waterFlocks 13 = .ok (.getfield 41, 3) := by decide +kernel
theorem dX0_waterFlocks_16 : decode cX0_waterFlocks 16 = .ok (.iload_n 2, 1) := by decide +kernel
theorem dX0_waterFlocks_17 : decode cX0_waterFlocks 17 = .ok (.aaload, 1) := by decide +kernel
theorem dX0_waterFlocks_18 : decode cX0_waterFlocks 18 = .ok (.astore_n 3, 1) := by decide +kernel
theorem dX0_waterFlocks_19 : decode cX0_waterFlocks 19 = .ok (.aload_n 3, 1) := by decide +kernel
theorem dX0_waterFlocks_20 : decode cX0_waterFlocks 20 = .ok (.invokevirtual 157, 3) := by decide +kernel
theorem dX0_waterFlocks_23 : decode cX0_waterFlocks 23 = .ok (.ifCond .ne 67, 3) := by decide +kernel
theorem dX0_waterFlocks_26 : decode cX0_waterFlocks 26 = .ok (.aload_n 3, 1) := by decide +kernel
theorem dX0_waterFlocks_27 : decode cX0_waterFlocks 27 = .ok (.getfield 161, 3) := by decide +kernel
theorem dX0_waterFlocks_30 : decode cX0_waterFlocks 30 = .ok (.ifCond .eq 19, 3) := by decide +kernel
theorem dX0_waterFlocks_33 : decode cX0_waterFlocks 33 = .ok (.aload_n 3, 1) := by decide +kernel
theorem dX0_waterFlocks_34 : decode cX0_waterFlocks 34 = .ok (.getfield 165, 3) := by decide +kernel
theorem dX0_waterFlocks_37 : decode cX0_waterFlocks 37 = .ok (.ifCond .le 12, 3) := by decide +kernel
theorem dX0_waterFlocks_40 : decode cX0_waterFlocks 40 = .ok (.aload_n 3, 1) := by decide +kernel
theorem dX0_waterFlocks_41 : decode cX0_waterFlocks 41 = .ok (.aload_n 0, 1) := by decide +kernel
theorem dX0_waterFlocks_42 : decode cX0_waterFlocks 42 = .ok (.aload_n 3, 1) := by decide +kernel
theorem dX0_waterFlocks_43 : decode cX0_waterFlocks 43 = .ok (.invokevirtual 168, 3) := by decide +kernel
theorem dX0_waterFlocks_46 : decode cX0_waterFlocks 46 = .ok (.putfield 172, 3) := by decide +kernel
theorem dX0_waterFlocks_49 : decode cX0_waterFlocks 49 = .ok (.aload_n 0, 1) := by decide +kernel
theorem dX0_waterFlocks_50 : decode cX0_waterFlocks 50 = .ok (.aload_n 3, 1) := by decide +kernel
theorem dX0_waterFlocks_51 : decode cX0_waterFlocks 51 = .ok (.getfield 172, 3) := by decide +kernel
theorem dX0_waterFlocks_54 : decode cX0_waterFlocks 54 = .ok (.invokevirtual 105, 3) := by decide +kernel
theorem dX0_waterFlocks_57 : decode cX0_waterFlocks 57 = .ok (.astore 4, 2) := by decide +kernel
theorem dX0_waterFlocks_59 : decode cX0_waterFlocks 59 = .ok (.aload 4, 2) := by decide +kernel
theorem dX0_waterFlocks_61 : decode cX0_waterFlocks 61 = .ok (.aload_n 3, 1) := by decide +kernel
theorem dX0_waterFlocks_62 : decode cX0_waterFlocks 62 = .ok (.invokevirtual 175, 3) := by decide +kernel
theorem dX0_waterFlocks_65 : decode cX0_waterFlocks 65 = .ok (.invokevirtual 178, 3) := by decide +kernel
theorem dX0_waterFlocks_68 : decode cX0_waterFlocks 68 = .ok (.istore 5, 2) := by decide +kernel
theorem dX0_waterFlocks_70 : decode cX0_waterFlocks 70 = .ok (.aload_n 3, 1) := by decide +kernel
theorem dX0_waterFlocks_71 : decode cX0_waterFlocks 71 = .ok (.iload 5, 2) := by decide +kernel
theorem dX0_waterFlocks_73 : decode cX0_waterFlocks 73 = .ok (.invokevirtual 182, 3) := by decide +kernel
theorem dX0_waterFlocks_76 : decode cX0_waterFlocks 76 = .ok (.aload 4, 2) := by decide +kernel
theorem dX0_waterFlocks_78 : decode cX0_waterFlocks 78 = .ok (.aload_n 3, 1) := by decide +kernel
theorem dX0_waterFlocks_79 : decode cX0_waterFlocks 79 = .ok (.getfield 185, 3) := by decide +kernel
theorem dX0_waterFlocks_82 : decode cX0_waterFlocks 82 = .ok (.invokevirtual 188, 3) := by decide +kernel
theorem dX0_waterFlocks_85 : decode cX0_waterFlocks 85 = .ok (.iload_n 1, 1) := by decide +kernel
theorem dX0_waterFlocks_86 : decode cX0_waterFlocks 86 = .ok (.iload 5, 2) := by decide +kernel
theorem dX0_waterFlocks_88 : decode cX0_waterFlocks 88 = .ok (.iadd, 1) := by decide +kernel
theorem dX0_waterFlocks_89 : decode cX0_waterFlocks 89 = .ok (.istore_n 1, 1) := by decide +kernel
theorem dX0_waterFlocks_90 : decode cX0_waterFlocks 90 = .ok (.iinc 2 1, 3) := by decide +kernel
theorem dX0_waterFlocks_93 : decode cX0_waterFlocks 93 = .ok (.goto (-89), 3) := by decide +kernel
theorem dX0_waterFlocks_96 : decode cX0_waterFlocks 96 = .ok (.iload_n 1, 1) := by decide +kernel
theorem dX0_waterFlocks_97 : decode cX0_waterFlocks 97 = .ok (.ireturn, 1) := by decide +kernel
theorem dX0_nearestWaterFor_0 : decode cX0_nearestWaterFor 0 = .ok (.aload_n 0, 1) := by decide +kernel
theorem dX0_nearestWaterFor_1 : decode cX0_nearestWaterFor 1 = .ok (.aload_n 1, 1) := by decide +kernel
theorem dX0_nearestWaterFor_2 : decode cX0_nearestWaterFor 2 = .ok (.getfield 172, 3) := by decide +kernel
theorem dX0_nearestWaterFor_5 : decode cX0_nearestWaterFor 5 = .ok (.invokevirtual 105, 3) := by decide +kernel
theorem dX0_nearestWaterFor_8 : decode cX0_nearestWaterFor 8 = .ok (.astore_n 2, 1) := by decide +kernel
theorem dX0_nearestWaterFor_9 : decode cX0_nearestWaterFor 9 = .ok (.aload_n 1, 1) := by decide +kernel
theorem dX0_nearestWaterFor_10 : decode cX0_nearestWaterFor 10 = .ok (.getfield 172, 3) := by decide +kernel
theorem dX0_nearestWaterFor_13 : decode cX0_nearestWaterFor 13 = .ok (.istore_n 3, 1) := by decide +kernel
theorem dX0_nearestWaterFor_14 : decode cX0_nearestWaterFor 14 = .ok (.aload_n 2, 1) := by decide +kernel
theorem dX0_nearestWaterFor_15 : decode cX0_nearestWaterFor 15 = .ok (.getfield 191, 3) := by decide +kernel
theorem dX0_nearestWaterFor_18 : decode cX0_nearestWaterFor 18 = .ok (.aload_n 1, 1) := by decide +kernel
theorem dX0_nearestWaterFor_19 : decode cX0_nearestWaterFor 19 = .ok (.invokevirtual 175, 3) := by decide +kernel
theorem dX0_nearestWaterFor_22 : decode cX0_nearestWaterFor 22 = .ok (.if_icmp .lt 5, 3) := by decide +kernel
theorem dX0_nearestWaterFor_25 : decode cX0_nearestWaterFor 25 = .ok (.iload_n 3, 1) := by decide +kernel
theorem dX0_nearestWaterFor_26 : decode cX0_nearestWaterFor 26 = .ok (.ireturn, 1) := by decide +kernel
theorem dX0_nearestWaterFor_27 : decode cX0_nearestWaterFor 27 = .ok (.ldc 196, 2) := by decide +kernel
theorem dX0_nearestWaterFor_29 : decode cX0_nearestWaterFor 29 = .ok (.istore 4, 2) := by decide +kernel
theorem dX0_nearestWaterFor_31 : decode cX0_nearestWaterFor 31 = .ok (.iconst 0, 1) := by decide +kernel
theorem dX0_nearestWaterFor_32 : decode cX0_nearestWaterFor 32 = .ok (.istore 5, 2) := by decide +kernel
theorem dX0_nearestWaterFor_34 : decode cX0_nearestWaterFor 34 = .ok (.iload 5, 2) := by decide +kernel
theorem dX0_nearestWaterFor_36 : decode cX0_nearestWaterFor 36 = .ok (.aload_n 0, 1) := by decide +kernel
theorem dX0_nearestWaterFor_37 : decode cX0_nearestWaterFor 37 = .ok (.getfield 53, 3) := by decide +kernel
theorem dX0_nearestWaterFor_40 : decode cX0_nearestWaterFor 40 = .ok (.if_icmp .ge 53, 3) := by decide +kernel
theorem dX0_nearestWaterFor_43 : decode cX0_nearestWaterFor 43 = .ok (.aload_n 2, 1) := by decide +kernel
theorem dX0_nearestWaterFor_44 : decode cX0_nearestWaterFor 44 = .ok (.aload_n 0, 1) := by decide +kernel
theorem dX0_nearestWaterFor_45 : decode cX0_nearestWaterFor 45 = .ok (.getfield 24, 3) := by decide +kernel
theorem dX0_nearestWaterFor_48 : decode cX0_nearestWaterFor 48 = .ok (.iload 5, 2) := by decide +kernel
theorem dX0_nearestWaterFor_50 : decode cX0_nearestWaterFor 50 = .ok (.aaload, 1) := by decide +kernel
theorem dX0_nearestWaterFor_51 : decode cX0_nearestWaterFor 51 = .ok (.invokevirtual 197, 3) := by decide +kernel
theorem dX0_nearestWaterFor_54 : decode cX0_nearestWaterFor 54 = .ok (.istore 6, 2) := by decide +kernel
theorem dX0_nearestWaterFor_56 : decode cX0_nearestWaterFor 56 = .ok (.aload_n 0, 1) := by decide +kernel
theorem dX0_nearestWaterFor_57 : decode cX0_nearestWaterFor 57 = .ok (.getfield 24, 3) := by decide +kernel
theorem dX0_nearestWaterFor_60 : decode cX0_nearestWaterFor 60 = .ok (.iload 5, 2) := by decide +kernel
theorem dX0_nearestWaterFor_62 : decode cX0_nearestWaterFor 62 = .ok (.aaload, 1) := by decide +kernel
theorem dX0_nearestWaterFor_63 : decode cX0_nearestWaterFor 63 = .ok (.getfield 191, 3) := by decide +kernel
theorem dX0_nearestWaterFor_66 : decode cX0_nearestWaterFor 66 = .ok (.aload_n 1, 1) := by decide +kernel
theorem dX0_nearestWaterFor_67 : decode cX0_nearestWaterFor 67 = .ok (.invokevirtual 175, 3) := by decide +kernel
theorem dX0_nearestWaterFor_70 : decode cX0_nearestWaterFor 70 = .ok (.if_icmp .lt 17, 3) := by decide +kernel
theorem dX0_nearestWaterFor_73 : decode cX0_nearestWaterFor 73 = .ok (.iload 6, 2) := by decide +kernel
theorem dX0_nearestWaterFor_75 : decode cX0_nearestWaterFor 75 = .ok (.iload 4, 2) := by decide +kernel
theorem dX0_nearestWaterFor_77 : decode cX0_nearestWaterFor 77 = .ok (.if_icmp .ge 10, 3) := by decide +kernel
theorem dX0_nearestWaterFor_80 : decode cX0_nearestWaterFor 80 = .ok (.iload 6, 2) := by decide +kernel
theorem dX0_nearestWaterFor_82 : decode cX0_nearestWaterFor 82 = .ok (.istore 4, 2) := by decide +kernel
theorem dX0_nearestWaterFor_84 : decode cX0_nearestWaterFor 84 = .ok (.iload 5, 2) := by decide +kernel
theorem dX0_nearestWaterFor_86 : decode cX0_nearestWaterFor 86 = .ok (.istore_n 3, 1) := by decide +kernel
theorem dX0_nearestWaterFor_87 : decode cX0_nearestWaterFor 87 = .ok (.iinc 5 1, 3) := by decide +kernel
theorem dX0_nearestWaterFor_90 : decode cX0_nearestWaterFor 90 = .ok (.goto (-56), 3) := by decide +kernel
theorem dX0_nearestWaterFor_93 : decode cX0_nearestWaterFor 93 = .ok (.iload_n 3, 1) := by decide +kernel
theorem dX0_nearestWaterFor_94 : decode cX0_nearestWaterFor 94 = .ok (.ireturn, 1) := by decide +kernel
theorem dX0_runOver_0 : decode cX0_runOver 0 = .ok (.iconst 0, 1) := by decide +kernel
theorem dX0_runOver_1 : decode cX0_runOver 1 = .ok (.istore_n 1, 1) := by decide +kernel
theorem dX0_runOver_2 : decode cX0_runOver 2 = .ok (.iload_n 1, 1) := by decide +kernel
theorem dX0_runOver_3 : decode cX0_runOver 3 = .ok (.aload_n 0, 1) := by decide +kernel
theorem dX0_runOver_4 : decode cX0_runOver 4 = .ok (.getfield 53, 3) := by decide +kernel
theorem dX0_runOver_7 : decode cX0_runOver 7 = .ok (.if_icmp .ge 50, 3) := by decide +kernel
theorem dX0_runOver_10 : decode cX0_runOver 10 = .ok (.aload_n 0, 1) := by decide +kernel
theorem dX0_runOver_11 : decode cX0_runOver 11 = .ok (.aload_n 0, 1) := by decide +kernel
theorem dX0_runOver_12 : decode cX0_runOver 12 = .ok (.getfield 28, 3) := by decide +kernel
theorem dX0_runOver_15 : decode cX0_runOver 15 = .ok (.iload_n 1, 1) := by decide +kernel
theorem dX0_runOver_16 : decode cX0_runOver 16 = .ok (.iaload, 1) := by decide +kernel
theorem dX0_runOver_17 : decode cX0_runOver 17 = .ok (.invokevirtual 105, 3) := by decide +kernel
theorem dX0_runOver_20 : decode cX0_runOver 20 = .ok (.astore_n 2, 1) := by decide +kernel
theorem dX0_runOver_21 : decode cX0_runOver 21 = .ok (.aload_n 2, 1) := by decide +kernel
theorem dX0_runOver_22 : decode cX0_runOver 22 = .ok (.invokevirtual 201, 3) := by decide +kernel
theorem dX0_runOver_25 : decode cX0_runOver 25 = .ok (.istore_n 3, 1) := by decide +kernel
theorem dX0_runOver_26 : decode cX0_runOver 26 = .ok (.aload_n 2, 1) := by decide +kernel
theorem dX0_runOver_27 : decode cX0_runOver 27 = .ok (.getfield 204, 3) := by decide +kernel
theorem dX0_runOver_30 : decode cX0_runOver 30 = .ok (.iconst (-1), 1) := by decide +kernel
theorem dX0_runOver_31 : decode cX0_runOver 31 = .ok (.if_icmp .eq 20, 3) := by decide +kernel
theorem dX0_runOver_34 : decode cX0_runOver 34 = .ok (.aload_n 0, 1) := by decide +kernel
theorem dX0_runOver_35 : decode cX0_runOver 35 = .ok (.aload_n 2, 1) := by decide +kernel
theorem dX0_runOver_36 : decode cX0_runOver 36 = .ok (.getfield 204, 3) := by decide +kernel
theorem dX0_runOver_39 : decode cX0_runOver 39 = .ok (.invokevirtual 105, 3) := by decide +kernel
theorem dX0_runOver_42 : decode cX0_runOver 42 = .ok (.dup, 1) := by decide +kernel
theorem dX0_runOver_43 : decode cX0_runOver 43 = .ok (.getfield 191, 3) := by decide +kernel
theorem dX0_runOver_46 : decode cX0_runOver 46 = .ok (.iload_n 3, 1) := by decide +kernel
theorem dX0_runOver_47 : decode cX0_runOver 47 = .ok (.iadd, 1) := by decide +kernel
theorem dX0_runOver_48 : decode cX0_runOver 48 = .ok (.putfield 191, 3) := by decide +kernel
theorem dX0_runOver_51 : decode cX0_runOver 51 = .ok (.iinc 1 1, 3) := by decide +kernel
theorem dX0_runOver_54 : decode cX0_runOver 54 = .ok (.goto (-52), 3) := by decide +kernel
theorem dX0_runOver_57 : decode cX0_runOver 57 = .ok (.return_, 1) := by decide +kernel
theorem dX0_rotStraw_0 : decode cX0_rotStraw 0 = .ok (.iconst 0, 1) := by decide +kernel
theorem dX0_rotStraw_1 : decode cX0_rotStraw 1 = .ok (.istore_n 1, 1) := by decide +kernel
theorem dX0_rotStraw_2 : decode cX0_rotStraw 2 = .ok (.iload_n 1, 1) := by decide +kernel
theorem dX0_rotStraw_3 : decode cX0_rotStraw 3 = .ok (.aload_n 0, 1) := by decide +kernel
theorem dX0_rotStraw_4 : decode cX0_rotStraw 4 = .ok (.getfield 53, 3) := by decide +kernel
theorem dX0_rotStraw_7 : decode cX0_rotStraw 7 = .ok (.if_icmp .ge 19, 3) := by decide +kernel
theorem dX0_rotStraw_10 : decode cX0_rotStraw 10 = .ok (.aload_n 0, 1) := by decide +kernel
theorem dX0_rotStraw_11 : decode cX0_rotStraw 11 = .ok (.getfield 24, 3) := by decide +kernel
theorem dX0_rotStraw_14 : decode cX0_rotStraw 14 = .ok (.iload_n 1, 1) := by decide +kernel
theorem dX0_rotStraw_15 : decode cX0_rotStraw 15 = .ok (.aaload, 1) := by decide +kernel
theorem dX0_rotStraw_16 : decode cX0_rotStraw 16 = .ok (.iconst 0, 1) := by decide +kernel
theorem dX0_rotStraw_17 : decode cX0_rotStraw 17 = .ok (.putfield 207, 3) := by decide +kernel
theorem dX0_rotStraw_20 : decode cX0_rotStraw 20 = .ok (.iinc 1 1, 3) := by decide +kernel
theorem dX0_rotStraw_23 : decode cX0_rotStraw 23 = .ok (.goto (-21), 3) := by decide +kernel
theorem dX0_rotStraw_26 : decode cX0_rotStraw 26 = .ok (.return_, 1) := by decide +kernel
theorem dX0_isTaken_0 : decode cX0_isTaken 0 = .ok (.iconst 0, 1) := by decide +kernel
theorem dX0_isTaken_1 : decode cX0_isTaken 1 = .ok (.istore_n 3, 1) := by decide +kernel
theorem dX0_isTaken_2 : decode cX0_isTaken 2 = .ok (.iload_n 3, 1) := by decide +kernel
theorem dX0_isTaken_3 : decode cX0_isTaken 3 = .ok (.aload_n 0, 1) := by decide +kernel
theorem dX0_isTaken_4 : decode cX0_isTaken 4 = .ok (.getfield 53, 3) := by decide +kernel
theorem dX0_isTaken_7 : decode cX0_isTaken 7 = .ok (.if_icmp .ge 37, 3) := by decide +kernel
theorem dX0_isTaken_10 : decode cX0_isTaken 10 = .ok (.aload_n 0, 1) := by decide +kernel
theorem dX0_isTaken_11 : decode cX0_isTaken 11 = .ok (.getfield 24, 3) := by decide +kernel
theorem dX0_isTaken_14 : decode cX0_isTaken 14 = .ok (.iload_n 3, 1) := by decide +kernel
theorem dX0_isTaken_15 : decode cX0_isTaken 15 = .ok (.aaload, 1) := by decide +kernel
theorem dX0_isTaken_16 : decode cX0_isTaken 16 = .ok (.getfield 90, 3) := by decide +kernel
theorem dX0_isTaken_19 : decode cX0_isTaken 19 = .ok (.iload_n 1, 1) := by decide +kernel
theorem dX0_isTaken_20 : decode cX0_isTaken 20 = .ok (.if_icmp .ne 18, 3) := by decide +kernel
theorem dX0_isTaken_23 : decode cX0_isTaken 23 = .ok (.aload_n 0, 1) := by decide +kernel
theorem dX0_isTaken_24 : decode cX0_isTaken 24 = .ok (.getfield 24, 3) := by decide +kernel
theorem dX0_isTaken_27 : decode cX0_isTaken 27 = .ok (.iload_n 3, 1) := by decide +kernel
theorem dX0_isTaken_28 : decode cX0_isTaken 28 = .ok (.aaload, 1) := by decide +kernel
theorem dX0_isTaken_29 : decode cX0_isTaken 29 = .ok (.getfield 93, 3) := by decide +kernel
theorem dX0_isTaken_32 : decode cX0_isTaken 32 = .ok (.iload_n 2, 1) := by decide +kernel
theorem dX0_isTaken_33 : decode cX0_isTaken 33 = .ok (.if_icmp .ne 5, 3) := by decide +kernel
theorem dX0_isTaken_36 : decode cX0_isTaken 36 = .ok (.iconst 1, 1) := by decide +kernel
theorem dX0_isTaken_37 : decode cX0_isTaken 37 = .ok (.ireturn, 1) := by decide +kernel
theorem dX0_isTaken_38 : decode cX0_isTaken 38 = .ok (.iinc 3 1, 3) := by decide +kernel
theorem dX0_isTaken_41 : decode cX0_isTaken 41 = .ok (.goto (-39), 3) := by decide +kernel
theorem dX0_isTaken_44 : decode cX0_isTaken 44 = .ok (.iconst 0, 1) := by decide +kernel
theorem dX0_isTaken_45 : decode cX0_isTaken 45 = .ok (.ireturn, 1) := by decide +kernel
theorem dX0_sourcesOf_0 : decode cX0_sourcesOf 0 = .ok (.iconst 0, 1) := by decide +kernel
theorem dX0_sourcesOf_1 : decode cX0_sourcesOf 1 = .ok (.istore_n 2, 1) := by decide +kernel
theorem dX0_sourcesOf_2 : decode cX0_sourcesOf 2 = .ok (.iconst 0, 1) := by decide +kernel
theorem dX0_sourcesOf_3 : decode cX0_sourcesOf 3 = .ok (.istore_n 3, 1) := by decide +kernel
theorem dX0_sourcesOf_4 : decode cX0_sourcesOf 4 = .ok (.iload_n 3, 1) := by decide +kernel
theorem dX0_sourcesOf_5 : decode cX0_sourcesOf 5 = .ok (.aload_n 0, 1) := by decide +kernel
theorem dX0_sourcesOf_6 : decode cX0_sourcesOf 6 = .ok (.getfield 53, 3) := by decide +kernel
theorem dX0_sourcesOf_9 : decode cX0_sourcesOf 9 = .ok (.if_icmp .ge 24, 3) := by decide +kernel
theorem dX0_sourcesOf_12 : decode cX0_sourcesOf 12 = .ok (.aload_n 0, 1) := by decide +kernel
theorem dX0_sourcesOf_13 : decode cX0_sourcesOf 13 = .ok (.iload_n 3, 1) := by decide +kernel
theorem dX0_sourcesOf_14 : decode cX0_sourcesOf 14 = .ok (.iload_n 1, 1) := by decide +kernel
theorem dX0_sourcesOf_15 : decode cX0_sourcesOf 15 = .ok (.invokevirtual 210, 3) := by decide +kernel
theorem dX0_sourcesOf_18 : decode cX0_sourcesOf 18 = .ok (.ifCond .eq 9, 3) := by decide +kernel
theorem dX0_sourcesOf_21 : decode cX0_sourcesOf 21 = .ok (.iload_n 2, 1) := by decide +kernel
theorem dX0_sourcesOf_22 : decode cX0_sourcesOf 22 = .ok (.iconst 1, 1) := by decide +kernel
theorem dX0_sourcesOf_23 : decode cX0_sourcesOf 23 = .ok (.iload_n 3, 1) := by decide +kernel
theorem dX0_sourcesOf_24 : decode cX0_sourcesOf 24 = .ok (.ishl, 1) := by decide +kernel
theorem dX0_sourcesOf_25 : decode cX0_sourcesOf 25 = .ok (.ior, 1) := by decide +kernel
theorem dX0_sourcesOf_26 : decode cX0_sourcesOf 26 = .ok (.istore_n 2, 1) := by decide +kernel
theorem dX0_sourcesOf_27 : decode cX0_sourcesOf 27 = .ok (.iinc 3 1, 3) := by decide +kernel
theorem dX0_sourcesOf_30 : decode cX0_sourcesOf 30 = .ok (.goto (-26), 3) := by decide +kernel
theorem dX0_sourcesOf_33 : decode cX0_sourcesOf 33 = .ok (.iload_n 2, 1) := by decide +kernel
theorem dX0_sourcesOf_34 : decode cX0_sourcesOf 34 = .ok (.ireturn, 1) := by decide +kernel
theorem dX0_runsDownTo_0 : decode cX0_runsDownTo 0 = .ok (.aload_n 0, 1) := by decide +kernel
theorem dX0_runsDownTo_1 : decode cX0_runsDownTo 1 = .ok (.iload_n 1, 1) := by decide +kernel
theorem dX0_runsDownTo_2 : decode cX0_runsDownTo 2 = .ok (.invokevirtual 105, 3) := by decide +kernel
theorem dX0_runsDownTo_5 : decode cX0_runsDownTo 5 = .ok (.getfield 204, 3) := by decide +kernel
theorem dX0_runsDownTo_8 : decode cX0_runsDownTo 8 = .ok (.istore_n 3, 1) := by decide +kernel
theorem dX0_runsDownTo_9 : decode cX0_runsDownTo 9 = .ok (.iconst 0, 1) := by decide +kernel
theorem dX0_runsDownTo_10 : decode cX0_runsDownTo 10 = .ok (.istore 4, 2) := by decide +kernel
theorem dX0_runsDownTo_12 : decode cX0_runsDownTo 12 = .ok (.iload 4, 2) := by decide +kernel
theorem dX0_runsDownTo_14 : decode cX0_runsDownTo 14 = .ok (.bipush 10, 2) := by decide +kernel
theorem dX0_runsDownTo_16 : decode cX0_runsDownTo 16 = .ok (.if_icmp .ge 30, 3) := by decide +kernel
theorem dX0_runsDownTo_19 : decode cX0_runsDownTo 19 = .ok (.iload_n 3, 1) := by decide +kernel
theorem dX0_runsDownTo_20 : decode cX0_runsDownTo 20 = .ok (.iconst (-1), 1) := by decide +kernel
theorem dX0_runsDownTo_21 : decode cX0_runsDownTo 21 = .ok (.if_icmp .eq 25, 3) := by decide +kernel
theorem dX0_runsDownTo_24 : decode cX0_runsDownTo 24 = .ok (.iload_n 3, 1) := by decide +kernel
theorem dX0_runsDownTo_25 : decode cX0_runsDownTo 25 = .ok (.iload_n 2, 1) := by decide +kernel
theorem dX0_runsDownTo_26 : decode cX0_runsDownTo 26 = .ok (.if_icmp .ne 5, 3) := by decide +kernel
theorem dX0_runsDownTo_29 : decode cX0_runsDownTo 29 = .ok (.iconst 1, 1) := by decide +kernel
theorem dX0_runsDownTo_30 : decode cX0_runsDownTo 30 = .ok (.ireturn, 1) := by decide +kernel
theorem dX0_runsDownTo_31 : decode cX0_runsDownTo 31 = .ok (.aload_n 0, 1) := by decide +kernel
theorem dX0_runsDownTo_32 : decode cX0_runsDownTo 32 = .ok (.iload_n 3, 1) := by decide +kernel
theorem dX0_runsDownTo_33 : decode cX0_runsDownTo 33 = .ok (.invokevirtual 105, 3) := by decide +kernel
theorem dX0_runsDownTo_36 : decode cX0_runsDownTo 36 = .ok (.getfield 204, 3) := by decide +kernel
theorem dX0_runsDownTo_39 : decode cX0_runsDownTo 39 = .ok (.istore_n 3, 1) := by decide +kernel
theorem dX0_runsDownTo_40 : decode cX0_runsDownTo 40 = .ok (.iinc 4 1, 3) := by decide +kernel
theorem dX0_runsDownTo_43 : decode cX0_runsDownTo 43 = .ok (.goto (-31), 3) := by decide +kernel
theorem dX0_runsDownTo_46 : decode cX0_runsDownTo 46 = .ok (.iconst 0, 1) := by decide +kernel
theorem dX0_runsDownTo_47 : decode cX0_runsDownTo 47 = .ok (.ireturn, 1) := by decide +kernel
theorem dX0_flocksAt_0 : decode cX0_flocksAt 0 = .ok (.iconst 0, 1) := by decide +kernel
theorem dX0_flocksAt_1 : decode cX0_flocksAt 1 = .ok (.istore_n 2, 1) := by decide +kernel
theorem dX0_flocksAt_2 : decode cX0_flocksAt 2 = .ok (.iconst 0, 1) := by decide +kernel
theorem dX0_flocksAt_3 : decode cX0_flocksAt 3 = .ok (.istore_n 3, 1) := by decide +kernel
theorem dX0_flocksAt_4 : decode cX0_flocksAt 4 = .ok (.iload_n 3, 1) := by decide +kernel
theorem dX0_flocksAt_5 : decode cX0_flocksAt 5 = .ok (.aload_n 0, 1) := by decide +kernel
theorem dX0_flocksAt_6 : decode cX0_flocksAt 6 = .ok (.getfield 59, 3) := by decide +kernel
theorem dX0_flocksAt_9 : decode cX0_flocksAt 9 = .ok (.if_icmp .ge 37, 3) := by decide +kernel
theorem dX0_flocksAt_12 : decode cX0_flocksAt 12 = .ok (.aload_n 0, 1) := by decide +kernel
theorem dX0_flocksAt_13 : decode cX0_flocksAt 13 = .ok (.getfield 41, 3) := by decide +kernel
theorem dX0_flocksAt_16 : decode cX0_flocksAt 16 = .ok (.iload_n 3, 1) := by decide +kernel
theorem dX0_flocksAt_17 : decode cX0_flocksAt 17 = .ok (.aaload, 1) := by decide +kernel
theorem dX0_flocksAt_18 : decode cX0_flocksAt 18 = .ok (.getfield 172, 3) := by decide +kernel
theorem dX0_flocksAt_21 : decode cX0_flocksAt 21 = .ok (.iload_n 1, 1) := by decide +kernel
theorem dX0_flocksAt_22 : decode cX0_flocksAt 22 = .ok (.if_icmp .ne 18, 3) := by decide +kernel
theorem dX0_flocksAt_25 : decode cX0_flocksAt 25 = .ok (.aload_n 0, 1) := by decide +kernel
theorem dX0_flocksAt_26 : decode cX0_flocksAt 26 = .ok (.getfield 41, 3) := by decide +kernel
theorem dX0_flocksAt_29 : decode cX0_flocksAt 29 = .ok (.iload_n 3, 1) := by decide +kernel
theorem dX0_flocksAt_30 : decode cX0_flocksAt 30 = .ok (.aaload, 1) := by decide +kernel
theorem dX0_flocksAt_31 : decode cX0_flocksAt 31 = .ok (.invokevirtual 157, 3) := by decide +kernel
theorem dX0_flocksAt_34 : decode cX0_flocksAt 34 = .ok (.ifCond .ne 6, 3) := by decide +kernel
theorem dX0_flocksAt_37 : decode cX0_flocksAt 37 = .ok (.iinc 2 1, 3) := by decide +kernel
theorem dX0_flocksAt_40 : decode cX0_flocksAt 40 = .ok (.iinc 3 1, 3) := by decide +kernel
theorem dX0_flocksAt_43 : decode cX0_flocksAt 43 = .ok (.goto (-39), 3) := by decide +kernel
theorem dX0_flocksAt_46 : decode cX0_flocksAt 46 = .ok (.iload_n 2, 1) := by decide +kernel
theorem dX0_flocksAt_47 : decode cX0_flocksAt 47 = .ok (.ireturn, 1) := by decide +kernel
theorem dX0_lostFlocks_0 : decode cX0_lostFlocks 0 = .ok (.iconst 0, 1) := by decide +kernel
theorem dX0_lostFlocks_1 : decode cX0_lostFlocks 1 = .ok (.istore_n 1, 1) := by decide +kernel
theorem dX0_lostFlocks_2 : decode cX0_lostFlocks 2 = .ok (.iconst 0, 1) := by decide +kernel
theorem dX0_lostFlocks_3 : decode cX0_lostFlocks 3 = .ok (.istore_n 2, 1) := by decide +kernel
theorem dX0_lostFlocks_4 : decode cX0_lostFlocks 4 = .ok (.iload_n 2, 1) := by decide +kernel
theorem dX0_lostFlocks_5 : decode cX0_lostFlocks 5 = .ok (.aload_n 0, 1) := by decide +kernel
theorem dX0_lostFlocks_6 : decode cX0_lostFlocks 6 = .ok (.getfield 59, 3) := by decide +kernel
theorem dX0_lostFlocks_9 : decode cX0_lostFlocks 9 = .ok (.if_icmp .ge 24, 3) := by decide +kernel
theorem dX0_lostFlocks_12 : decode cX0_lostFlocks 12 = .ok (.aload_n 0, 1) := by decide +kernel
theorem dX0_lostFlocks_13 : decode cX0_lostFlocks 13 = .ok (.getfield 41, 3) := by decide +kernel
theorem dX0_lostFlocks_16 : decode cX0_lostFlocks 16 = .ok (.iload_n 2, 1) := by decide +kernel
theorem dX0_lostFlocks_17 : decode cX0_lostFlocks 17 = .ok (.aaload, 1) := by decide +kernel
theorem dX0_lostFlocks_18 : decode cX0_lostFlocks 18 = .ok (.invokevirtual 157, 3) := by decide +kernel
theorem dX0_lostFlocks_21 : decode cX0_lostFlocks 21 = .ok (.ifCond .eq 6, 3) := by decide +kernel
theorem dX0_lostFlocks_24 : decode cX0_lostFlocks 24 = .ok (.iinc 1 1, 3) := by decide +kernel
theorem dX0_lostFlocks_27 : decode cX0_lostFlocks 27 = .ok (.iinc 2 1, 3) := by decide +kernel
theorem dX0_lostFlocks_30 : decode cX0_lostFlocks 30 = .ok (.goto (-26), 3) := by decide +kernel
theorem dX0_lostFlocks_33 : decode cX0_lostFlocks 33 = .ok (.iload_n 1, 1) := by decide +kernel
theorem dX0_lostFlocks_34 : decode cX0_lostFlocks 34 = .ok (.ireturn, 1) := by decide +kernel
theorem dX0_livingSheep_0 : decode cX0_livingSheep 0 = .ok (.iconst 0, 1) := by decide +kernel
theorem dX0_livingSheep_1 : decode cX0_livingSheep 1 = .ok (.istore_n 1, 1) := by decide +kernel
theorem dX0_livingSheep_2 : decode cX0_livingSheep 2 = .ok (.iconst 0, 1) := by decide +kernel
theorem dX0_livingSheep_3 : decode cX0_livingSheep 3 = .ok (.istore_n 2, 1) := by decide +kernel
theorem dX0_livingSheep_4 : decode cX0_livingSheep 4 = .ok (.iload_n 2, 1) := by decide +kernel
theorem dX0_livingSheep_5 : decode cX0_livingSheep 5 = .ok (.aload_n 0, 1) := by decide +kernel
theorem dX0_livingSheep_6 : decode cX0_livingSheep 6 = .ok (.getfield 59, 3) := by decide +kernel
theorem dX0_livingSheep_9 : decode cX0_livingSheep 9 = .ok (.if_icmp .ge 33, 3) := by decide +kernel
theorem dX0_livingSheep_12 : decode cX0_livingSheep 12 = .ok (.aload_n 0, 1) := by decide +kernel
theorem dX0_livingSheep_13 : decode cX0_livingSheep 13 = .ok (.getfield 41, 3) := by decide +kernel
theorem dX0_livingSheep_16 : decode cX0_livingSheep 16 = .ok (.iload_n 2, 1) := by decide +kernel
theorem dX0_livingSheep_17 : decode cX0_livingSheep 17 = .ok (.aaload, 1) := by decide +kernel
theorem dX0_livingSheep_18 : decode cX0_livingSheep 18 = .ok (.invokevirtual 157, 3) := by decide +kernel
theorem dX0_livingSheep_21 : decode cX0_livingSheep 21 = .ok (.ifCond .ne 15, 3) := by decide +kernel
theorem dX0_livingSheep_24 : decode cX0_livingSheep 24 = .ok (.iload_n 1, 1) := by decide +kernel
theorem dX0_livingSheep_25 : decode cX0_livingSheep 25 = .ok (.aload_n 0, 1) := by decide +kernel
theorem dX0_livingSheep_26 : decode cX0_livingSheep 26 = .ok (.getfield 41, 3) := by decide +kernel
theorem dX0_livingSheep_29 : decode cX0_livingSheep 29 = .ok (.iload_n 2, 1) := by decide +kernel
theorem dX0_livingSheep_30 : decode cX0_livingSheep 30 = .ok (.aaload, 1) := by decide +kernel
theorem dX0_livingSheep_31 : decode cX0_livingSheep 31 = .ok (.getfield 185, 3) := by decide +kernel
theorem dX0_livingSheep_34 : decode cX0_livingSheep 34 = .ok (.iadd, 1) := by decide +kernel
theorem dX0_livingSheep_35 : decode cX0_livingSheep 35 = .ok (.istore_n 1, 1) := by decide +kernel
theorem dX0_livingSheep_36 : decode cX0_livingSheep 36 = .ok (.iinc 2 1, 3) := by decide +kernel
theorem dX0_livingSheep_39 : decode cX0_livingSheep 39 = .ok (.goto (-35), 3) := by decide +kernel
theorem dX0_livingSheep_42 : decode cX0_livingSheep 42 = .ok (.iload_n 1, 1) := by decide +kernel
theorem dX0_livingSheep_43 : decode cX0_livingSheep 43 = .ok (.ireturn, 1) := by decide +kernel
theorem dX0_allWater_0 : decode cX0_allWater 0 = .ok (.iconst 0, 1) := by decide +kernel
theorem dX0_allWater_1 : decode cX0_allWater 1 = .ok (.istore_n 1, 1) := by decide +kernel
theorem dX0_allWater_2 : decode cX0_allWater 2 = .ok (.iconst 0, 1) := by decide +kernel
theorem dX0_allWater_3 : decode cX0_allWater 3 = .ok (.istore_n 2, 1) := by decide +kernel
theorem dX0_allWater_4 : decode cX0_allWater 4 = .ok (.iload_n 2, 1) := by decide +kernel
theorem dX0_allWater_5 : decode cX0_allWater 5 = .ok (.aload_n 0, 1) := by decide +kernel
theorem dX0_allWater_6 : decode cX0_allWater 6 = .ok (.getfield 53, 3) := by decide +kernel
theorem dX0_allWater_9 : decode cX0_allWater 9 = .ok (.if_icmp .ge 21, 3) := by decide +kernel
theorem dX0_allWater_12 : decode cX0_allWater 12 = .ok (.iload_n 1, 1) := by decide +kernel
theorem dX0_allWater_13 : decode cX0_allWater 13 = .ok (.aload_n 0, 1) := by decide +kernel
theorem dX0_allWater_14 : decode cX0_allWater 14 = .ok (.getfield 24, 3) := by decide +kernel
theorem dX0_allWater_17 : decode cX0_allWater 17 = .ok (.iload_n 2, 1) := by decide +kernel
theorem dX0_allWater_18 : decode cX0_allWater 18 = .ok (.aaload, 1) := by decide +kernel
theorem dX0_allWater_19 : decode cX0_allWater 19 = .ok (.getfield 191, 3) := by decide +kernel
theorem dX0_allWater_22 : decode cX0_allWater 22 = .ok (.iadd, 1) := by decide +kernel
theorem dX0_allWater_23 : decode cX0_allWater 23 = .ok (.istore_n 1, 1) := by decide +kernel
theorem dX0_allWater_24 : decode cX0_allWater 24 = .ok (.iinc 2 1, 3) := by decide +kernel
theorem dX0_allWater_27 : decode cX0_allWater 27 = .ok (.goto (-23), 3) := by decide +kernel
theorem dX0_allWater_30 : decode cX0_allWater 30 = .ok (.iload_n 1, 1) := by decide +kernel
theorem dX0_allWater_31 : decode cX0_allWater 31 = .ok (.ireturn, 1) := by decide +kernel
theorem dX0_emptyPonds_0 : decode cX0_emptyPonds 0 = .ok (.iconst 0, 1) := by decide +kernel
theorem dX0_emptyPonds_1 : decode cX0_emptyPonds 1 = .ok (.istore_n 1, 1) := by decide +kernel
theorem dX0_emptyPonds_2 : decode cX0_emptyPonds 2 = .ok (.iconst 0, 1) := by decide +kernel
theorem dX0_emptyPonds_3 : decode cX0_emptyPonds 3 = .ok (.istore_n 2, 1) := by decide +kernel
theorem dX0_emptyPonds_4 : decode cX0_emptyPonds 4 = .ok (.iload_n 2, 1) := by decide +kernel
theorem dX0_emptyPonds_5 : decode cX0_emptyPonds 5 = .ok (.aload_n 0, 1) := by decide +kernel
theorem dX0_emptyPonds_6 : decode cX0_emptyPonds 6 = .ok (.getfield 53, 3) := by decide +kernel
theorem dX0_emptyPonds_9 : decode cX0_emptyPonds 9 = .ok (.if_icmp .ge 24, 3) := by decide +kernel
theorem dX0_emptyPonds_12 : decode cX0_emptyPonds 12 = .ok (.aload_n 0, 1) := by decide +kernel
theorem dX0_emptyPonds_13 : decode cX0_emptyPonds 13 = .ok (.getfield 24, 3) := by decide +kernel
theorem dX0_emptyPonds_16 : decode cX0_emptyPonds 16 = .ok (.iload_n 2, 1) := by decide +kernel
theorem dX0_emptyPonds_17 : decode cX0_emptyPonds 17 = .ok (.aaload, 1) := by decide +kernel
theorem dX0_emptyPonds_18 : decode cX0_emptyPonds 18 = .ok (.getfield 191, 3) := by decide +kernel
theorem dX0_emptyPonds_21 : decode cX0_emptyPonds 21 = .ok (.ifCond .ne 6, 3) := by decide +kernel
theorem dX0_emptyPonds_24 : decode cX0_emptyPonds 24 = .ok (.iinc 1 1, 3) := by decide +kernel
theorem dX0_emptyPonds_27 : decode cX0_emptyPonds 27 = .ok (.iinc 2 1, 3) := by decide +kernel
theorem dX0_emptyPonds_30 : decode cX0_emptyPonds 30 = .ok (.goto (-26), 3) := by decide +kernel
theorem dX0_emptyPonds_33 : decode cX0_emptyPonds 33 = .ok (.iload_n 1, 1) := by decide +kernel
theorem dX0_emptyPonds_34 : decode cX0_emptyPonds 34 = .ok (.ireturn, 1) := by decide +kernel
theorem dX1_init_0 : decode cX1_init 0 = .ok (.aload_n 0, 1) := by decide +kernel
theorem dX1_init_1 : decode cX1_init 1 = .ok (.invokespecial 3, 3) := by decide +kernel
theorem dX1_init_4 : decode cX1_init 4 = .ok (.return_, 1) := by decide +kernel
theorem dX1_becomeLike_0 : decode cX1_becomeLike 0 = .ok (.aload_n 0, 1) := by decide +kernel
theorem dX1_becomeLike_1 : decode cX1_becomeLike 1 = .ok (.aload_n 1, 1) := by decide +kernel
theorem dX1_becomeLike_2 : decode cX1_becomeLike 2 = .ok (.getfield 9, 3) := by decide +kernel
theorem dX1_becomeLike_5 : decode cX1_becomeLike 5 = .ok (.putfield 9, 3) := by decide +kernel
theorem dX1_becomeLike_8 : decode cX1_becomeLike 8 = .ok (.aload_n 0, 1) := by decide +kernel
theorem dX1_becomeLike_9 : decode cX1_becomeLike 9 = .ok (.aload_n 1, 1) := by decide +kernel
theorem dX1_becomeLike_10 : decode cX1_becomeLike 10 = .ok (.getfield 15, 3) := by decide +kernel
theorem dX1_becomeLike_13 : decode cX1_becomeLike 13 = .ok (.putfield 15, 3) := by decide +kernel
theorem dX1_becomeLike_16 : decode cX1_becomeLike 16 = .ok (.aload_n 0, 1) := by decide +kernel
theorem dX1_becomeLike_17 : decode cX1_becomeLike 17 = .ok (.aload_n 1, 1) := by decide +kernel
theorem dX1_becomeLike_18 : decode cX1_becomeLike 18 = .ok (.getfield 18, 3) := by decide +kernel
theorem dX1_becomeLike_21 : decode cX1_becomeLike 21 = .ok (.putfield 18, 3) := by decide +kernel
theorem dX1_becomeLike_24 : decode cX1_becomeLike 24 = .ok (.aload_n 0, 1) := by decide +kernel
theorem dX1_becomeLike_25 : decode cX1_becomeLike 25 = .ok (.aload_n 1, 1) := by decide +kernel
theorem dX1_becomeLike_26 : decode cX1_becomeLike 26 = .ok (.getfield 21, 3) := by decide +kernel
theorem dX1_becomeLike_29 : decode cX1_becomeLike 29 = .ok (.putfield 21, 3) := by decide +kernel
theorem dX1_becomeLike_32 : decode cX1_becomeLike 32 = .ok (.aload_n 0, 1) := by decide +kernel
theorem dX1_becomeLike_33 : decode cX1_becomeLike 33 = .ok (.aload_n 1, 1) := by decide +kernel
theorem dX1_becomeLike_34 : decode cX1_becomeLike 34 = .ok (.getfield 25, 3) := by decide +kernel
theorem dX1_becomeLike_37 : decode cX1_becomeLike 37 = .ok (.putfield 25, 3) := by decide +kernel
theorem dX1_becomeLike_40 : decode cX1_becomeLike 40 = .ok (.return_, 1) := by decide +kernel
theorem dX1_startAt_0 : decode cX1_startAt 0 = .ok (.aload_n 0, 1) := by decide +kernel
theorem dX1_startAt_1 : decode cX1_startAt 1 = .ok (.iload_n 2, 1) := by decide +kernel
theorem dX1_startAt_2 : decode cX1_startAt 2 = .ok (.putfield 9, 3) := by decide +kernel
theorem dX1_startAt_5 : decode cX1_startAt 5 = .ok (.aload_n 0, 1) := by decide +kernel
theorem dX1_startAt_6 : decode cX1_startAt 6 = .ok (.iload_n 1, 1) := by decide +kernel
theorem dX1_startAt_7 : decode cX1_startAt 7 = .ok (.putfield 15, 3) := by decide +kernel
theorem dX1_startAt_10 : decode cX1_startAt 10 = .ok (.aload_n 0, 1) := by decide +kernel
theorem dX1_startAt_11 : decode cX1_startAt 11 = .ok (.iconst 0, 1) := by decide +kernel
theorem dX1_startAt_12 : decode cX1_startAt 12 = .ok (.putfield 18, 3) := by decide +kernel
theorem dX1_startAt_15 : decode cX1_startAt 15 = .ok (.aload_n 0, 1) := by decide +kernel
theorem dX1_startAt_16 : decode cX1_startAt 16 = .ok (.iconst 0, 1) := by decide +kernel
theorem dX1_startAt_17 : decode cX1_startAt 17 = .ok (.putfield 21, 3) := by decide +kernel
theorem dX1_startAt_20 : decode cX1_startAt 20 = .ok (.aload_n 0, 1) := by decide +kernel
theorem dX1_startAt_21 : decode cX1_startAt 21 = .ok (.iconst 0, 1) := by decide +kernel
theorem dX1_startAt_22 : decode cX1_startAt 22 = .ok (.putfield 25, 3) := by decide +kernel
theorem dX1_startAt_25 : decode cX1_startAt 25 = .ok (.return_, 1) := by decide +kernel
theorem dX1_isLost_0 : decode cX1_isLost 0 = .ok (.aload_n 0, 1) := by decide +kernel
theorem dX1_isLost_1 : decode cX1_isLost 1 = .ok (.getfield 18, 3) := by decide +kernel
theorem dX1_isLost_4 : decode cX1_isLost 4 = .ok (.bipush 10, 2) := by decide +kernel
theorem dX1_isLost_6 : decode cX1_isLost 6 = .ok (.if_icmp .lt 7, 3) := by decide +kernel
theorem dX1_isLost_9 : decode cX1_isLost 9 = .ok (.iconst 1, 1) := by decide +kernel
theorem dX1_isLost_10 : decode cX1_isLost 10 = .ok (.goto 4, 3) := by decide +kernel
theorem dX1_isLost_13 : decode cX1_isLost 13 = .ok (.iconst 0, 1) := by decide +kernel
theorem dX1_isLost_14 : decode cX1_isLost 14 = .ok (.ireturn, 1) := by decide +kernel
theorem dX1_need_0 : decode cX1_need 0 = .ok (.iconst 2, 1) := by decide +kernel
theorem dX1_need_1 : decode cX1_need 1 = .ok (.aload_n 0, 1) := by decide +kernel
theorem dX1_need_2 : decode cX1_need 2 = .ok (.getfield 9, 3) := by decide +kernel
theorem dX1_need_5 : decode cX1_need 5 = .ok (.imul, 1) := by decide +kernel
theorem dX1_need_6 : decode cX1_need 6 = .ok (.ireturn, 1) := by decide +kernel
theorem dX1_drink_0 : decode cX1_drink 0 = .ok (.aload_n 0, 1) := by decide +kernel
theorem dX1_drink_1 : decode cX1_drink 1 = .ok (.dup, 1) := by decide +kernel
theorem dX1_drink_2 : decode cX1_drink 2 = .ok (.getfield 25, 3) := by decide +kernel
theorem dX1_drink_5 : decode cX1_drink 5 = .ok (.iload_n 1, 1) := by decide +kernel
theorem dX1_drink_6 : decode cX1_drink 6 = .ok (.iadd, 1) := by decide +kernel
theorem dX1_drink_7 : decode cX1_drink 7 = .ok (.putfield 25, 3) := by decide +kernel
theorem dX1_drink_10 : decode cX1_drink 10 = .ok (.iload_n 1, 1) := by decide +kernel
theorem dX1_drink_11 : decode cX1_drink 11 = .ok (.aload_n 0, 1) := by decide +kernel
theorem dX1_drink_12 : decode cX1_drink 12 = .ok (.invokevirtual 28, 3) := by decide +kernel
theorem dX1_drink_15 : decode cX1_drink 15 = .ok (.if_icmp .lt 20, 3) := by decide +kernel
theorem dX1_drink_18 : decode cX1_drink 18 = .ok (.aload_n 0, 1) := by decide +kernel
theorem dX1_drink_19 : decode cX1_drink 19 = .ok (.iconst 0, 1) := by decide +kernel
theorem dX1_drink_20 : decode cX1_drink 20 = .ok (.aload_n 0, 1) := by decide +kernel
theorem dX1_drink_21 : decode cX1_drink 21 = .ok (.getfield 18, 3) := by decide +kernel
theorem dX1_drink_24 : decode cX1_drink 24 = .ok (.iconst 2, 1) := by decide +kernel
theorem dX1_drink_25 : decode cX1_drink 25 = .ok (.isub, 1) := by decide +kernel
theorem dX1_drink_26 : decode cX1_drink 26 = .ok (.invokestatic 32, 3) := by decide +kernel
theorem dX1_drink_29 : decode cX1_drink 29 = .ok (.putfield 18, 3) := by decide +kernel
theorem dX1_drink_32 : decode cX1_drink 32 = .ok (.goto 18, 3) := by decide +kernel
theorem dX1_drink_35 : decode cX1_drink 35 = .ok (.aload_n 0, 1) := by decide +kernel
theorem dX1_drink_36 : decode cX1_drink 36 = .ok (.bipush 10, 2) := by decide +kernel
theorem dX1_drink_38 : decode cX1_drink 38 = .ok (.aload_n 0, 1) := by decide +kernel
theorem dX1_drink_39 : decode cX1_drink 39 = .ok (.getfield 18, 3) := by decide +kernel
theorem dX1_drink_42 : decode cX1_drink 42 = .ok (.iconst 3, 1) := by decide +kernel
theorem dX1_drink_43 : decode cX1_drink 43 = .ok (.iadd, 1) := by decide +kernel
theorem dX1_drink_44 : decode cX1_drink 44 = .ok (.invokestatic 38, 3) := by decide +kernel
theorem dX1_drink_47 : decode cX1_drink 47 = .ok (.putfield 18, 3) := by decide +kernel
theorem dX1_drink_50 : decode cX1_drink 50 = .ok (.return_, 1) := by decide +kernel
theorem dX2_init_0 : decode cX2_init 0 = .ok (.aload_n 0, 1) := by decide +kernel
theorem dX2_init_1 : decode cX2_init 1 = .ok (.invokespecial 3, 3) := by decide +kernel
theorem dX2_init_4 : decode cX2_init 4 = .ok (.aload_n 0, 1) := by decide +kernel
theorem dX2_init_5 : decode cX2_init 5 = .ok (.iconst (-1), 1) := by decide +kernel
theorem dX2_init_6 : decode cX2_init 6 = .ok (.putfield 9, 3) := by decide +kernel
theorem dX2_init_9 : decode cX2_init 9 = .ok (.return_, 1) := by decide +kernel
theorem dX2_becomeLike_0 : decode cX2_becomeLike 0 = .ok (.aload_n 0, 1) := by decide +kernel
theorem dX2_becomeLike_1 : decode cX2_becomeLike 1 = .ok (.aload_n 1, 1) := by decide +kernel
theorem dX2_becomeLike_2 : decode cX2_becomeLike 2 = .ok (.getfield 15, 3) := by decide +kernel
theorem dX2_becomeLike_5 : decode cX2_becomeLike 5 = .ok (.putfield 15, 3) := by decide +kernel
theorem dX2_becomeLike_8 : decode cX2_becomeLike 8 = .ok (.aload_n 0, 1) := by decide +kernel
theorem dX2_becomeLike_9 : decode cX2_becomeLike 9 = .ok (.aload_n 1, 1) := by decide +kernel
theorem dX2_becomeLike_10 : decode cX2_becomeLike 10 = .ok (.getfield 18, 3) := by decide +kernel
theorem dX2_becomeLike_13 : decode cX2_becomeLike 13 = .ok (.putfield 18, 3) := by decide +kernel
theorem dX2_becomeLike_16 : decode cX2_becomeLike 16 = .ok (.aload_n 0, 1) := by decide +kernel
theorem dX2_becomeLike_17 : decode cX2_becomeLike 17 = .ok (.aload_n 1, 1) := by decide +kernel
theorem dX2_becomeLike_18 : decode cX2_becomeLike 18 = .ok (.getfield 21, 3) := by decide +kernel
theorem dX2_becomeLike_21 : decode cX2_becomeLike 21 = .ok (.putfield 21, 3) := by decide +kernel
theorem dX2_becomeLike_24 : decode cX2_becomeLike 24 = .ok (.aload_n 0, 1) := by decide +kernel
theorem dX2_becomeLike_25 : decode cX2_becomeLike 25 = .ok (.aload_n 1, 1) := by decide +kernel
theorem dX2_becomeLike_26 : decode cX2_becomeLike 26 = .ok (.getfield 24, 3) := by decide +kernel
theorem dX2_becomeLike_29 : decode cX2_becomeLike 29 = .ok (.putfield 24, 3) := by decide +kernel
theorem dX2_becomeLike_32 : decode cX2_becomeLike 32 = .ok (.aload_n 0, 1) := by decide +kernel
theorem dX2_becomeLike_33 : decode cX2_becomeLike 33 = .ok (.aload_n 1, 1) := by decide +kernel
theorem dX2_becomeLike_34 : decode cX2_becomeLike 34 = .ok (.getfield 27, 3) := by decide +kernel
theorem dX2_becomeLike_37 : decode cX2_becomeLike 37 = .ok (.putfield 27, 3) := by decide +kernel
theorem dX2_becomeLike_40 : decode cX2_becomeLike 40 = .ok (.aload_n 0, 1) := by decide +kernel
theorem dX2_becomeLike_41 : decode cX2_becomeLike 41 = .ok (.aload_n 1, 1) := by decide +kernel
theorem dX2_becomeLike_42 : decode cX2_becomeLike 42 = .ok (.getfield 30, 3) := by decide +kernel
theorem dX2_becomeLike_45 : decode cX2_becomeLike 45 = .ok (.putfield 30, 3) := by decide +kernel
theorem dX2_becomeLike_48 : decode cX2_becomeLike 48 = .ok (.aload_n 0, 1) := by decide +kernel
theorem dX2_becomeLike_49 : decode cX2_becomeLike 49 = .ok (.aload_n 1, 1) := by decide +kernel
theorem dX2_becomeLike_50 : decode cX2_becomeLike 50 = .ok (.getfield 33, 3) := by decide +kernel
theorem dX2_becomeLike_53 : decode cX2_becomeLike 53 = .ok (.putfield 33, 3) := by decide +kernel
theorem dX2_becomeLike_56 : decode cX2_becomeLike 56 = .ok (.aload_n 0, 1) := by decide +kernel
theorem dX2_becomeLike_57 : decode cX2_becomeLike 57 = .ok (.aload_n 1, 1) := by decide +kernel
theorem dX2_becomeLike_58 : decode cX2_becomeLike 58 = .ok (.getfield 36, 3) := by decide +kernel
theorem dX2_becomeLike_61 : decode cX2_becomeLike 61 = .ok (.putfield 36, 3) := by decide +kernel
theorem dX2_becomeLike_64 : decode cX2_becomeLike 64 = .ok (.aload_n 0, 1) := by decide +kernel
theorem dX2_becomeLike_65 : decode cX2_becomeLike 65 = .ok (.aload_n 1, 1) := by decide +kernel
theorem dX2_becomeLike_66 : decode cX2_becomeLike 66 = .ok (.getfield 9, 3) := by decide +kernel
theorem dX2_becomeLike_69 : decode cX2_becomeLike 69 = .ok (.putfield 9, 3) := by decide +kernel
theorem dX2_becomeLike_72 : decode cX2_becomeLike 72 = .ok (.aload_n 0, 1) := by decide +kernel
theorem dX2_becomeLike_73 : decode cX2_becomeLike 73 = .ok (.aload_n 1, 1) := by decide +kernel
theorem dX2_becomeLike_74 : decode cX2_becomeLike 74 = .ok (.getfield 40, 3) := by decide +kernel
theorem dX2_becomeLike_77 : decode cX2_becomeLike 77 = .ok (.putfield 40, 3) := by decide +kernel
theorem dX2_becomeLike_80 : decode cX2_becomeLike 80 = .ok (.return_, 1) := by decide +kernel
theorem dX2_holds_0 : decode cX2_holds 0 = .ok (.aload_n 0, 1) := by decide +kernel
theorem dX2_holds_1 : decode cX2_holds 1 = .ok (.getfield 24, 3) := by decide +kernel
theorem dX2_holds_4 : decode cX2_holds 4 = .ok (.aload_n 0, 1) := by decide +kernel
theorem dX2_holds_5 : decode cX2_holds 5 = .ok (.getfield 27, 3) := by decide +kernel
theorem dX2_holds_8 : decode cX2_holds 8 = .ok (.imul, 1) := by decide +kernel
theorem dX2_holds_9 : decode cX2_holds 9 = .ok (.bipush 10, 2) := by decide +kernel
theorem dX2_holds_11 : decode cX2_holds 11 = .ok (.imul, 1) := by decide +kernel
theorem dX2_holds_12 : decode cX2_holds 12 = .ok (.ireturn, 1) := by decide +kernel
theorem dX2_distanceTo_0 : decode cX2_distanceTo 0 = .ok (.aload_n 0, 1) := by decide +kernel
theorem dX2_distanceTo_1 : decode cX2_distanceTo 1 = .ok (.getfield 15, 3) := by decide +kernel
theorem dX2_distanceTo_4 : decode cX2_distanceTo 4 = .ok (.aload_n 1, 1) := by decide +kernel
theorem dX2_distanceTo_5 : decode cX2_distanceTo 5 = .ok (.getfield 15, 3) := by decide +kernel
theorem dX2_distanceTo_8 : decode cX2_distanceTo 8 = .ok (.isub, 1) := by decide +kernel
theorem dX2_distanceTo_9 : decode cX2_distanceTo 9 = .ok (.invokestatic 43, 3) := by decide +kernel
theorem dX2_distanceTo_12 : decode cX2_distanceTo 12 = .ok (.aload_n 0, 1) := by decide +kernel
theorem dX2_distanceTo_13 : decode cX2_distanceTo 13 = .ok (.getfield 18, 3) := by decide +kernel
theorem dX2_distanceTo_16 : decode cX2_distanceTo 16 = .ok (.aload_n 1, 1) := by decide +kernel
theorem dX2_distanceTo_17 : decode cX2_distanceTo 17 = .ok (.getfield 18, 3) := by decide +kernel
theorem dX2_distanceTo_20 : decode cX2_distanceTo 20 = .ok (.isub, 1) := by decide +kernel
theorem dX2_distanceTo_21 : decode cX2_distanceTo 21 = .ok (.invokestatic 43, 3) := by decide +kernel
theorem dX2_distanceTo_24 : decode cX2_distanceTo 24 = .ok (.iadd, 1) := by decide +kernel
theorem dX2_distanceTo_25 : decode cX2_distanceTo 25 = .ok (.ireturn, 1) := by decide +kernel
theorem dX2_isLowEnoughToPuddle_0 : decode cX2_isLowEnoughToPuddle 0 = .ok (.aload_n 0, 1) := by decide +kernel
theorem dX2_isLowEnoughToPuddle_1 : decode cX2_isLowEnoughToPuddle 1 = .ok (.getfield 30, 3) := by decide +kernel
theorem dX2_isLowEnoughToPuddle_4 : decode cX2_isLowEnoughToPuddle 4 = .ok (.aload_n 0, 1) := by decide +kernel
theorem dX2_isLowEnoughToPuddle_5 : decode cX2_isLowEnoughToPuddle 5 = .ok (.invokevirtual 49, 3) := by decide +kernel
theorem dX2_isLowEnoughToPuddle_8 : decode cX2_isLowEnoughToPuddle 8 = .ok (.iconst 4, 1) := by decide +kernel
theorem dX2_isLowEnoughToPuddle_9 : decode cX2_isLowEnoughToPuddle 9 = .ok (.idiv, 1) := by decide +kernel
theorem dX2_isLowEnoughToPuddle_10 : decode cX2_isLowEnoughToPuddle 10 = .ok (.if_icmp .gt 7, 3) := by decide +kernel
theorem dX2_isLowEnoughToPuddle_13 : decode cX2_isLowEnoughToPuddle 13 = .ok (.iconst 1, 1) := by decide +kernel
theorem dX2_isLowEnoughToPuddle_14 : decode cX2_isLowEnoughToPuddle 14 = .ok (.goto 4, 3) := by decide +kernel
theorem dX2_isLowEnoughToPuddle_17 : decode cX2_isLowEnoughToPuddle 17 = .ok (.iconst 0, 1) := by decide +kernel
theorem dX2_isLowEnoughToPuddle_18 : decode cX2_isLowEnoughToPuddle 18 = .ok (.ireturn, 1) := by decide +kernel
theorem dX2_lineWith_0 : decode cX2_lineWith 0 = .ok (.iload_n 1, 1) := by decide +kernel
theorem dX2_lineWith_1 : decode cX2_lineWith 1 = .ok (.bipush 100, 2) := by decide +kernel
theorem dX2_lineWith_3 : decode cX2_lineWith 3 = .ok (.aload_n 0, 1) := by decide +kernel
theorem dX2_lineWith_4 : decode cX2_lineWith 4 = .ok (.getfield 33, 3) := by decide +kernel
theorem dX2_lineWith_7 : decode cX2_lineWith 7 = .ok (.isub, 1) := by decide +kernel
theorem dX2_lineWith_8 : decode cX2_lineWith 8 = .ok (.invokestatic 53, 3) := by decide +kernel
theorem dX2_lineWith_11 : decode cX2_lineWith 11 = .ok (.istore_n 2, 1) := by decide +kernel
theorem dX2_lineWith_12 : decode cX2_lineWith 12 = .ok (.aload_n 0, 1) := by decide +kernel
theorem dX2_lineWith_13 : decode cX2_lineWith 13 = .ok (.dup, 1) := by decide +kernel
theorem dX2_lineWith_14 : decode cX2_lineWith 14 = .ok (.getfield 33, 3) := by decide +kernel
theorem dX2_lineWith_17 : decode cX2_lineWith 17 = .ok (.iload_n 2, 1) := by decide +kernel
theorem dX2_lineWith_18 : decode cX2_lineWith 18 = .ok (.iadd, 1) := by decide +kernel
theorem dX2_lineWith_19 : decode cX2_lineWith 19 = .ok (.putfield 33, 3) := by decide +kernel
theorem dX2_lineWith_22 : decode cX2_lineWith 22 = .ok (.iload_n 2, 1) := by decide +kernel
theorem dX2_lineWith_23 : decode cX2_lineWith 23 = .ok (.ireturn, 1) := by decide +kernel
theorem dX2_takeMist_0 : decode cX2_takeMist 0 = .ok (.iload_n 1, 1) := by decide +kernel
theorem dX2_takeMist_1 : decode cX2_takeMist 1 = .ok (.aload_n 0, 1) := by decide +kernel
theorem dX2_takeMist_2 : decode cX2_takeMist 2 = .ok (.getfield 24, 3) := by decide +kernel
theorem dX2_takeMist_5 : decode cX2_takeMist 5 = .ok (.imul, 1) := by decide +kernel
theorem dX2_takeMist_6 : decode cX2_takeMist 6 = .ok (.iconst 4, 1) := by decide +kernel
theorem dX2_takeMist_7 : decode cX2_takeMist 7 = .ok (.idiv, 1) := by decide +kernel
theorem dX2_takeMist_8 : decode cX2_takeMist 8 = .ok (.istore_n 2, 1) := by decide +kernel
theorem dX2_takeMist_9 : decode cX2_takeMist 9 = .ok (.aload_n 0, 1) := by decide +kernel
theorem dX2_takeMist_10 : decode cX2_takeMist 10 = .ok (.dup, 1) := by decide +kernel
theorem dX2_takeMist_11 : decode cX2_takeMist 11 = .ok (.getfield 30, 3) := by decide +kernel
theorem dX2_takeMist_14 : decode cX2_takeMist 14 = .ok (.aload_n 0, 1) := by decide +kernel
theorem dX2_takeMist_15 : decode cX2_takeMist 15 = .ok (.getfield 21, 3) := by decide +kernel
theorem dX2_takeMist_18 : decode cX2_takeMist 18 = .ok (.sipush 150, 3) := by decide +kernel
theorem dX2_takeMist_21 : decode cX2_takeMist 21 = .ok (.if_icmp .lt 9, 3) := by decide +kernel
theorem dX2_takeMist_24 : decode cX2_takeMist 24 = .ok (.iconst 2, 1) := by decide +kernel
theorem dX2_takeMist_25 : decode cX2_takeMist 25 = .ok (.iload_n 2, 1) := by decide +kernel
theorem dX2_takeMist_26 : decode cX2_takeMist 26 = .ok (.imul, 1) := by decide +kernel
theorem dX2_takeMist_27 : decode cX2_takeMist 27 = .ok (.goto 4, 3) := by decide +kernel
theorem dX2_takeMist_30 : decode cX2_takeMist 30 = .ok (.iload_n 2, 1) := by decide +kernel
theorem dX2_takeMist_31 : decode cX2_takeMist 31 = .ok (.iadd, 1) := by decide +kernel
theorem dX2_takeMist_32 : decode cX2_takeMist 32 = .ok (.putfield 30, 3) := by decide +kernel
theorem dX2_takeMist_35 : decode cX2_takeMist 35 = .ok (.return_, 1) := by decide +kernel
theorem dX2_takeRain_0 : decode cX2_takeRain 0 = .ok (.aload_n 0, 1) := by decide +kernel
theorem dX2_takeRain_1 : decode cX2_takeRain 1 = .ok (.dup, 1) := by decide +kernel
theorem dX2_takeRain_2 : decode cX2_takeRain 2 = .ok (.getfield 30, 3) := by decide +kernel
theorem dX2_takeRain_5 : decode cX2_takeRain 5 = .ok (.iload_n 1, 1) := by decide +kernel
theorem dX2_takeRain_6 : decode cX2_takeRain 6 = .ok (.aload_n 0, 1) := by decide +kernel
theorem dX2_takeRain_7 : decode cX2_takeRain 7 = .ok (.getfield 24, 3) := by decide +kernel
theorem dX2_takeRain_10 : decode cX2_takeRain 10 = .ok (.imul, 1) := by decide +kernel
theorem dX2_takeRain_11 : decode cX2_takeRain 11 = .ok (.iconst 2, 1) := by decide +kernel
theorem dX2_takeRain_12 : decode cX2_takeRain 12 = .ok (.idiv, 1) := by decide +kernel
theorem dX2_takeRain_13 : decode cX2_takeRain 13 = .ok (.iadd, 1) := by decide +kernel
theorem dX2_takeRain_14 : decode cX2_takeRain 14 = .ok (.putfield 30, 3) := by decide +kernel
theorem dX2_takeRain_17 : decode cX2_takeRain 17 = .ok (.return_, 1) := by decide +kernel
theorem dX2_giveDrink_0 : decode cX2_giveDrink 0 = .ok (.iload_n 1, 1) := by decide +kernel
theorem dX2_giveDrink_1 : decode cX2_giveDrink 1 = .ok (.aload_n 0, 1) := by decide +kernel
theorem dX2_giveDrink_2 : decode cX2_giveDrink 2 = .ok (.getfield 30, 3) := by decide +kernel
theorem dX2_giveDrink_5 : decode cX2_giveDrink 5 = .ok (.invokestatic 53, 3) := by decide +kernel
theorem dX2_giveDrink_8 : decode cX2_giveDrink 8 = .ok (.istore_n 2, 1) := by decide +kernel
theorem dX2_giveDrink_9 : decode cX2_giveDrink 9 = .ok (.aload_n 0, 1) := by decide +kernel
theorem dX2_giveDrink_10 : decode cX2_giveDrink 10 = .ok (.dup, 1) := by decide +kernel
theorem dX2_giveDrink_11 : decode cX2_giveDrink 11 = .ok (.getfield 30, 3) := by decide +kernel
theorem dX2_giveDrink_14 : decode cX2_giveDrink 14 = .ok (.iload_n 2, 1) := by decide +kernel
theorem dX2_giveDrink_15 : decode cX2_giveDrink 15 = .ok (.isub, 1) := by decide +kernel
theorem dX2_giveDrink_16 : decode cX2_giveDrink 16 = .ok (.putfield 30, 3) := by decide +kernel
theorem dX2_giveDrink_19 : decode cX2_giveDrink 19 = .ok (.iload_n 2, 1) := by decide +kernel
theorem dX2_giveDrink_20 : decode cX2_giveDrink 20 = .ok (.ireturn, 1) := by decide +kernel
theorem dX2_treadBy_0 : decode cX2_treadBy 0 = .ok (.aload_n 0, 1) := by decide +kernel
theorem dX2_treadBy_1 : decode cX2_treadBy 1 = .ok (.getfield 36, 3) := by decide +kernel
theorem dX2_treadBy_4 : decode cX2_treadBy 4 = .ok (.ifCond .ne 20, 3) := by decide +kernel
theorem dX2_treadBy_7 : decode cX2_treadBy 7 = .ok (.aload_n 0, 1) := by decide +kernel
theorem dX2_treadBy_8 : decode cX2_treadBy 8 = .ok (.iconst 0, 1) := by decide +kernel
theorem dX2_treadBy_9 : decode cX2_treadBy 9 = .ok (.aload_n 0, 1) := by decide +kernel
theorem dX2_treadBy_10 : decode cX2_treadBy 10 = .ok (.getfield 33, 3) := by decide +kernel
theorem dX2_treadBy_13 : decode cX2_treadBy 13 = .ok (.iload_n 1, 1) := by decide +kernel
theorem dX2_treadBy_14 : decode cX2_treadBy 14 = .ok (.bipush 10, 2) := by decide +kernel
theorem dX2_treadBy_16 : decode cX2_treadBy 16 = .ok (.idiv, 1) := by decide +kernel
theorem dX2_treadBy_17 : decode cX2_treadBy 17 = .ok (.isub, 1) := by decide +kernel
theorem dX2_treadBy_18 : decode cX2_treadBy 18 = .ok (.invokestatic 57, 3) := by decide +kernel
theorem dX2_treadBy_21 : decode cX2_treadBy 21 = .ok (.putfield 33, 3) := by decide +kernel
theorem dX2_treadBy_24 : decode cX2_treadBy 24 = .ok (.return_, 1) := by decide +kernel
theorem dX2_dryBy_0 : decode cX2_dryBy 0 = .ok (.iload_n 1, 1) := by decide +kernel
theorem dX2_dryBy_1 : decode cX2_dryBy 1 = .ok (.aload_n 0, 1) := by decide +kernel
theorem dX2_dryBy_2 : decode cX2_dryBy 2 = .ok (.getfield 24, 3) := by decide +kernel
theorem dX2_dryBy_5 : decode cX2_dryBy 5 = .ok (.imul, 1) := by decide +kernel
theorem dX2_dryBy_6 : decode cX2_dryBy 6 = .ok (.iconst 5, 1) := by decide +kernel
theorem dX2_dryBy_7 : decode cX2_dryBy 7 = .ok (.idiv, 1) := by decide +kernel
theorem dX2_dryBy_8 : decode cX2_dryBy 8 = .ok (.istore_n 2, 1) := by decide +kernel
theorem dX2_dryBy_9 : decode cX2_dryBy 9 = .ok (.aload_n 0, 1) := by decide +kernel
theorem dX2_dryBy_10 : decode cX2_dryBy 10 = .ok (.dup, 1) := by decide +kernel
theorem dX2_dryBy_11 : decode cX2_dryBy 11 = .ok (.getfield 30, 3) := by decide +kernel
theorem dX2_dryBy_14 : decode cX2_dryBy 14 = .ok (.aload_n 0, 1) := by decide +kernel
theorem dX2_dryBy_15 : decode cX2_dryBy 15 = .ok (.getfield 30, 3) := by decide +kernel
theorem dX2_dryBy_18 : decode cX2_dryBy 18 = .ok (.aload_n 0, 1) := by decide +kernel
theorem dX2_dryBy_19 : decode cX2_dryBy 19 = .ok (.getfield 36, 3) := by decide +kernel
theorem dX2_dryBy_22 : decode cX2_dryBy 22 = .ok (.ifCond .eq 9, 3) := by decide +kernel
theorem dX2_dryBy_25 : decode cX2_dryBy 25 = .ok (.iload_n 2, 1) := by decide +kernel
theorem dX2_dryBy_26 : decode cX2_dryBy 26 = .ok (.iconst 2, 1) := by decide +kernel
theorem dX2_dryBy_27 : decode cX2_dryBy 27 = .ok (.idiv, 1) := by decide +kernel
theorem dX2_dryBy_28 : decode cX2_dryBy 28 = .ok (.goto 4, 3) := by decide +kernel
theorem dX2_dryBy_31 : decode cX2_dryBy 31 = .ok (.iload_n 2, 1) := by decide +kernel
theorem dX2_dryBy_32 : decode cX2_dryBy 32 = .ok (.invokestatic 53, 3) := by decide +kernel
theorem dX2_dryBy_35 : decode cX2_dryBy 35 = .ok (.isub, 1) := by decide +kernel
theorem dX2_dryBy_36 : decode cX2_dryBy 36 = .ok (.putfield 30, 3) := by decide +kernel
theorem dX2_dryBy_39 : decode cX2_dryBy 39 = .ok (.return_, 1) := by decide +kernel
theorem dX2_leak_0 : decode cX2_leak 0 = .ok (.aload_n 0, 1) := by decide +kernel
theorem dX2_leak_1 : decode cX2_leak 1 = .ok (.dup, 1) := by decide +kernel
theorem dX2_leak_2 : decode cX2_leak 2 = .ok (.getfield 30, 3) := by decide +kernel
theorem dX2_leak_5 : decode cX2_leak 5 = .ok (.aload_n 0, 1) := by decide +kernel
theorem dX2_leak_6 : decode cX2_leak 6 = .ok (.getfield 30, 3) := by decide +kernel
theorem dX2_leak_9 : decode cX2_leak 9 = .ok (.bipush 100, 2) := by decide +kernel
theorem dX2_leak_11 : decode cX2_leak 11 = .ok (.aload_n 0, 1) := by decide +kernel
theorem dX2_leak_12 : decode cX2_leak 12 = .ok (.getfield 33, 3) := by decide +kernel
theorem dX2_leak_15 : decode cX2_leak 15 = .ok (.isub, 1) := by decide +kernel
theorem dX2_leak_16 : decode cX2_leak 16 = .ok (.imul, 1) := by decide +kernel
theorem dX2_leak_17 : decode cX2_leak 17 = .ok (.sipush 200, 3) := by decide +kernel
theorem dX2_leak_20 : decode cX2_leak 20 = .ok (.idiv, 1) := by decide +kernel
theorem dX2_leak_21 : decode cX2_leak 21 = .ok (.isub, 1) := by decide +kernel
theorem dX2_leak_22 : decode cX2_leak 22 = .ok (.putfield 30, 3) := by decide +kernel
theorem dX2_leak_25 : decode cX2_leak 25 = .ok (.return_, 1) := by decide +kernel
theorem dX2_spill_0 : decode cX2_spill 0 = .ok (.iconst 0, 1) := by decide +kernel
theorem dX2_spill_1 : decode cX2_spill 1 = .ok (.aload_n 0, 1) := by decide +kernel
theorem dX2_spill_2 : decode cX2_spill 2 = .ok (.getfield 30, 3) := by decide +kernel
theorem dX2_spill_5 : decode cX2_spill 5 = .ok (.aload_n 0, 1) := by decide +kernel
theorem dX2_spill_6 : decode cX2_spill 6 = .ok (.invokevirtual 49, 3) := by decide +kernel
theorem dX2_spill_9 : decode cX2_spill 9 = .ok (.isub, 1) := by decide +kernel
theorem dX2_spill_10 : decode cX2_spill 10 = .ok (.invokestatic 57, 3) := by decide +kernel
theorem dX2_spill_13 : decode cX2_spill 13 = .ok (.istore_n 1, 1) := by decide +kernel
theorem dX2_spill_14 : decode cX2_spill 14 = .ok (.aload_n 0, 1) := by decide +kernel
theorem dX2_spill_15 : decode cX2_spill 15 = .ok (.dup, 1) := by decide +kernel
theorem dX2_spill_16 : decode cX2_spill 16 = .ok (.getfield 30, 3) := by decide +kernel
theorem dX2_spill_19 : decode cX2_spill 19 = .ok (.iload_n 1, 1) := by decide +kernel
theorem dX2_spill_20 : decode cX2_spill 20 = .ok (.isub, 1) := by decide +kernel
theorem dX2_spill_21 : decode cX2_spill 21 = .ok (.putfield 30, 3) := by decide +kernel
theorem dX2_spill_24 : decode cX2_spill 24 = .ok (.aload_n 0, 1) := by decide +kernel
theorem dX2_spill_25 : decode cX2_spill 25 = .ok (.dup, 1) := by decide +kernel
theorem dX2_spill_26 : decode cX2_spill 26 = .ok (.getfield 40, 3) := by decide +kernel
theorem dX2_spill_29 : decode cX2_spill 29 = .ok (.iload_n 1, 1) := by decide +kernel
theorem dX2_spill_30 : decode cX2_spill 30 = .ok (.iadd, 1) := by decide +kernel
theorem dX2_spill_31 : decode cX2_spill 31 = .ok (.putfield 40, 3) := by decide +kernel
theorem dX2_spill_34 : decode cX2_spill 34 = .ok (.iload_n 1, 1) := by decide +kernel
theorem dX2_spill_35 : decode cX2_spill 35 = .ok (.ireturn, 1) := by decide +kernel
theorem dX3_init_0 : decode cX3_init 0 = .ok (.aload_n 0, 1) := by decide +kernel
theorem dX3_init_1 : decode cX3_init 1 = .ok (.invokespecial 1, 3) := by decide +kernel
theorem dX3_init_4 : decode cX3_init 4 = .ok (.return_, 1) := by decide +kernel
theorem dX3_becomeLike_0 : decode cX3_becomeLike 0 = .ok (.aload_n 0, 1) := by decide +kernel
theorem dX3_becomeLike_1 : decode cX3_becomeLike 1 = .ok (.aload_n 1, 1) := by decide +kernel
theorem dX3_becomeLike_2 : decode cX3_becomeLike 2 = .ok (.getfield 7, 3) := by decide +kernel
theorem dX3_becomeLike_5 : decode cX3_becomeLike 5 = .ok (.putfield 7, 3) := by decide +kernel
theorem dX3_becomeLike_8 : decode cX3_becomeLike 8 = .ok (.aload_n 0, 1) := by decide +kernel
theorem dX3_becomeLike_9 : decode cX3_becomeLike 9 = .ok (.aload_n 1, 1) := by decide +kernel
theorem dX3_becomeLike_10 : decode cX3_becomeLike 10 = .ok (.getfield 13, 3) := by decide +kernel
theorem dX3_becomeLike_13 : decode cX3_becomeLike 13 = .ok (.putfield 13, 3) := by decide +kernel
theorem dX3_becomeLike_16 : decode cX3_becomeLike 16 = .ok (.aload_n 0, 1) := by decide +kernel
theorem dX3_becomeLike_17 : decode cX3_becomeLike 17 = .ok (.aload_n 1, 1) := by decide +kernel
theorem dX3_becomeLike_18 : decode cX3_becomeLike 18 = .ok (.getfield 16, 3) := by decide +kernel
theorem dX3_becomeLike_21 : decode cX3_becomeLike 21 = .ok (.putfield 16, 3) := by decide +kernel
theorem dX3_becomeLike_24 : decode cX3_becomeLike 24 = .ok (.return_, 1) := by decide +kernel
theorem dX3_asNumber_0 : decode cX3_asNumber 0 = .ok (.bipush 100, 2) := by decide +kernel
theorem dX3_asNumber_2 : decode cX3_asNumber 2 = .ok (.aload_n 0, 1) := by decide +kernel
theorem dX3_asNumber_3 : decode cX3_asNumber 3 = .ok (.getfield 7, 3) := by decide +kernel
theorem dX3_asNumber_6 : decode cX3_asNumber 6 = .ok (.imul, 1) := by decide +kernel
theorem dX3_asNumber_7 : decode cX3_asNumber 7 = .ok (.bipush 10, 2) := by decide +kernel
theorem dX3_asNumber_9 : decode cX3_asNumber 9 = .ok (.aload_n 0, 1) := by decide +kernel
theorem dX3_asNumber_10 : decode cX3_asNumber 10 = .ok (.getfield 13, 3) := by decide +kernel
theorem dX3_asNumber_13 : decode cX3_asNumber 13 = .ok (.imul, 1) := by decide +kernel
theorem dX3_asNumber_14 : decode cX3_asNumber 14 = .ok (.iadd, 1) := by decide +kernel
theorem dX3_asNumber_15 : decode cX3_asNumber 15 = .ok (.aload_n 0, 1) := by decide +kernel
theorem dX3_asNumber_16 : decode cX3_asNumber 16 = .ok (.getfield 16, 3) := by decide +kernel
theorem dX3_asNumber_19 : decode cX3_asNumber 19 = .ok (.iadd, 1) := by decide +kernel
theorem dX3_asNumber_20 : decode cX3_asNumber 20 = .ok (.ireturn, 1) := by decide +kernel
theorem dX4_init_0 : decode cX4_init 0 = .ok (.aload_n 0, 1) := by decide +kernel
theorem dX4_init_1 : decode cX4_init 1 = .ok (.invokespecial 1, 3) := by decide +kernel
theorem dX4_init_4 : decode cX4_init 4 = .ok (.aload_n 0, 1) := by decide +kernel
theorem dX4_init_5 : decode cX4_init 5 = .ok (.new 7, 3) := by decide +kernel
theorem dX4_init_8 : decode cX4_init 8 = .ok (.dup, 1) := by decide +kernel
theorem dX4_init_9 : decode cX4_init 9 = .ok (.bipush 6, 2) := by decide +kernel
theorem dX4_init_11 : decode cX4_init 11 = .ok (.invokespecial 11, 3) := by decide +kernel
theorem dX4_init_14 : decode cX4_init 14 = .ok (.putfield 14, 3) := by decide +kernel
theorem dX4_init_17 : decode cX4_init 17 = .ok (.aload_n 0, 1) := by decide +kernel
theorem dX4_init_18 : decode cX4_init 18 = .ok (.new 7, 3) := by decide +kernel
theorem dX4_init_21 : decode cX4_init 21 = .ok (.dup, 1) := by decide +kernel
theorem dX4_init_22 : decode cX4_init 22 = .ok (.bipush 7, 2) := by decide +kernel
theorem dX4_init_24 : decode cX4_init 24 = .ok (.invokespecial 11, 3) := by decide +kernel
theorem dX4_init_27 : decode cX4_init 27 = .ok (.putfield 18, 3) := by decide +kernel
theorem dX4_init_30 : decode cX4_init 30 = .ok (.return_, 1) := by decide +kernel
theorem dX4_dig_0 : decode cX4_dig 0 = .ok (.iload_n 1, 1) := by decide +kernel
theorem dX4_dig_1 : decode cX4_dig 1 = .ok (.iconst 0, 1) := by decide +kernel
theorem dX4_dig_2 : decode cX4_dig 2 = .ok (.bipush 40, 2) := by decide +kernel
theorem dX4_dig_4 : decode cX4_dig 4 = .ok (.invokestatic 21, 3) := by decide +kernel
theorem dX4_dig_7 : decode cX4_dig 7 = .ok (.ifCond .eq 13, 3) := by decide +kernel
theorem dX4_dig_10 : decode cX4_dig 10 = .ok (.iload_n 2, 1) := by decide +kernel
theorem dX4_dig_11 : decode cX4_dig 11 = .ok (.iconst 0, 1) := by decide +kernel
theorem dX4_dig_12 : decode cX4_dig 12 = .ok (.bipush 40, 2) := by decide +kernel
theorem dX4_dig_14 : decode cX4_dig 14 = .ok (.invokestatic 21, 3) := by decide +kernel
theorem dX4_dig_17 : decode cX4_dig 17 = .ok (.ifCond .ne 13, 3) := by decide +kernel
theorem dX4_dig_20 : decode cX4_dig 20 = .ok (.new 25, 3) := by decide +kernel
theorem dX4_dig_23 : decode cX4_dig 23 = .ok (.dup, 1) := by decide +kernel
theorem dX4_dig_24 : decode cX4_dig 24 = .ok (.ldc 27, 2) := by decide +kernel
theorem dX4_dig_26 : decode cX4_dig 26 = .ok (.invokespecial 29, 3) := by decide +kernel
theorem dX4_dig_29 : decode cX4_dig 29 = .ok (.athrow, 1) := by decide +kernel
theorem dX4_dig_30 : decode cX4_dig 30 = .ok (.iload_n 3, 1) := by decide +kernel
theorem dX4_dig_31 : decode cX4_dig 31 = .ok (.iconst 0, 1) := by decide +kernel
theorem dX4_dig_32 : decode cX4_dig 32 = .ok (.sipush 300, 3) := by decide +kernel
theorem dX4_dig_35 : decode cX4_dig 35 = .ok (.invokestatic 21, 3) := by decide +kernel
theorem dX4_dig_38 : decode cX4_dig 38 = .ok (.ifCond .eq 25, 3) := by decide +kernel
theorem dX4_dig_41 : decode cX4_dig 41 = .ok (.iload 4, 2) := by decide +kernel
theorem dX4_dig_43 : decode cX4_dig 43 = .ok (.iconst 1, 1) := by decide +kernel
theorem dX4_dig_44 : decode cX4_dig 44 = .ok (.bipush 60, 2) := by decide +kernel
theorem dX4_dig_46 : decode cX4_dig 46 = .ok (.invokestatic 21, 3) := by decide +kernel
theorem dX4_dig_49 : decode cX4_dig 49 = .ok (.ifCond .eq 14, 3) := by decide +kernel
theorem dX4_dig_52 : decode cX4_dig 52 = .ok (.iload 5, 2) := by decide +kernel
theorem dX4_dig_54 : decode cX4_dig 54 = .ok (.iconst 1, 1) := by decide +kernel
theorem dX4_dig_55 : decode cX4_dig 55 = .ok (.bipush 9, 2) := by decide +kernel
theorem dX4_dig_57 : decode cX4_dig 57 = .ok (.invokestatic 21, 3) := by decide +kernel
theorem dX4_dig_60 : decode cX4_dig 60 = .ok (.ifCond .ne 13, 3) := by decide +kernel
theorem dX4_dig_63 : decode cX4_dig 63 = .ok (.new 25, 3) := by decide +kernel
theorem dX4_dig_66 : decode cX4_dig 66 = .ok (.dup, 1) := by decide +kernel
theorem dX4_dig_67 : decode cX4_dig 67 = .ok (.ldc 32, 2) := by decide +kernel
theorem dX4_dig_69 : decode cX4_dig 69 = .ok (.invokespecial 29, 3) := by decide +kernel
theorem dX4_dig_72 : decode cX4_dig 72 = .ok (.athrow, 1) := by decide +kernel
theorem dX4_dig_73 : decode cX4_dig 73 = .ok (.aload_n 0, 1) := by decide +kernel
theorem dX4_dig_74 : decode cX4_dig 74 = .ok (.getfield 14, 3) := by decide +kernel
theorem dX4_dig_77 : decode cX4_dig 77 = .ok (.iload_n 1, 1) := by decide +kernel
theorem dX4_dig_78 : decode cX4_dig 78 = .ok (.iload_n 2, 1) := by decide +kernel
theorem dX4_dig_79 : decode cX4_dig 79 = .ok (.iload_n 3, 1) := by decide +kernel
theorem dX4_dig_80 : decode cX4_dig 80 = .ok (.iload 4, 2) := by decide +kernel
theorem dX4_dig_82 : decode cX4_dig 82 = .ok (.iload 5, 2) := by decide +kernel
theorem dX4_dig_84 : decode cX4_dig 84 = .ok (.invokevirtual 34, 3) := by decide +kernel
theorem dX4_dig_87 : decode cX4_dig 87 = .ok (.ireturn, 1) := by decide +kernel
theorem dX4_link_0 : decode cX4_link 0 = .ok (.aload_n 0, 1) := by decide +kernel
theorem dX4_link_1 : decode cX4_link 1 = .ok (.getfield 14, 3) := by decide +kernel
theorem dX4_link_4 : decode cX4_link 4 = .ok (.iload_n 1, 1) := by decide +kernel
theorem dX4_link_5 : decode cX4_link 5 = .ok (.invokevirtual 38, 3) := by decide +kernel
theorem dX4_link_8 : decode cX4_link 8 = .ok (.astore_n 3, 1) := by decide +kernel
theorem dX4_link_9 : decode cX4_link 9 = .ok (.iload_n 2, 1) := by decide +kernel
theorem dX4_link_10 : decode cX4_link 10 = .ok (.iconst (-1), 1) := by decide +kernel
theorem dX4_link_11 : decode cX4_link 11 = .ok (.if_icmp .eq 31, 3) := by decide +kernel
theorem dX4_link_14 : decode cX4_link 14 = .ok (.aload_n 0, 1) := by decide +kernel
theorem dX4_link_15 : decode cX4_link 15 = .ok (.getfield 14, 3) := by decide +kernel
theorem dX4_link_18 : decode cX4_link 18 = .ok (.iload_n 2, 1) := by decide +kernel
theorem dX4_link_19 : decode cX4_link 19 = .ok (.invokevirtual 38, 3) := by decide +kernel
theorem dX4_link_22 : decode cX4_link 22 = .ok (.getfield 42, 3) := by decide +kernel
theorem dX4_link_25 : decode cX4_link 25 = .ok (.aload_n 3, 1) := by decide +kernel
theorem dX4_link_26 : decode cX4_link 26 = .ok (.getfield 42, 3) := by decide +kernel
theorem dX4_link_29 : decode cX4_link 29 = .ok (.if_icmp .lt 13, 3) := by decide +kernel
theorem dX4_link_32 : decode cX4_link 32 = .ok (.new 25, 3) := by decide +kernel
theorem dX4_link_35 : decode cX4_link 35 = .ok (.dup, 1) := by decide +kernel
theorem dX4_link_36 : decode cX4_link 36 = .ok (.ldc 48, 2) := by decide +kernel
theorem dX4_link_38 : decode cX4_link 38 = .ok (.invokespecial 29, 3) := by decide +kernel
theorem dX4_link_41 : decode cX4_link 41 = .ok (.athrow, 1) := by decide +kernel
theorem dX4_link_42 : decode cX4_link 42 = .ok (.aload_n 3, 1) := by decide +kernel
theorem dX4_link_43 : decode cX4_link 43 = .ok (.getfield 50, 3) := by decide +kernel
theorem dX4_link_46 : decode cX4_link 46 = .ok (.istore 4, 2) := by decide +kernel
theorem dX4_link_48 : decode cX4_link 48 = .ok (.aload_n 3, 1) := by decide +kernel
theorem dX4_link_49 : decode cX4_link 49 = .ok (.iload_n 2, 1) := by decide +kernel
theorem dX4_link_50 : decode cX4_link 50 = .ok (.putfield 50, 3) := by decide +kernel
theorem dX4_link_53 : decode cX4_link 53 = .ok (.iload 4, 2) := by decide +kernel
theorem dX4_link_55 : decode cX4_link 55 = .ok (.ireturn, 1) := by decide +kernel
theorem dX4_puddle_0 : decode cX4_puddle 0 = .ok (.aload_n 0, 1) := by decide +kernel
theorem dX4_puddle_1 : decode cX4_puddle 1 = .ok (.getfield 14, 3) := by decide +kernel
theorem dX4_puddle_4 : decode cX4_puddle 4 = .ok (.iload_n 1, 1) := by decide +kernel
theorem dX4_puddle_5 : decode cX4_puddle 5 = .ok (.invokevirtual 38, 3) := by decide +kernel
theorem dX4_puddle_8 : decode cX4_puddle 8 = .ok (.astore_n 3, 1) := by decide +kernel
theorem dX4_puddle_9 : decode cX4_puddle 9 = .ok (.iload_n 2, 1) := by decide +kernel
theorem dX4_puddle_10 : decode cX4_puddle 10 = .ok (.iconst 1, 1) := by decide +kernel
theorem dX4_puddle_11 : decode cX4_puddle 11 = .ok (.bipush 100, 2) := by decide +kernel
theorem dX4_puddle_13 : decode cX4_puddle 13 = .ok (.invokestatic 21, 3) := by decide +kernel
theorem dX4_puddle_16 : decode cX4_puddle 16 = .ok (.ifCond .ne 13, 3) := by decide +kernel
theorem dX4_puddle_19 : decode cX4_puddle 19 = .ok (.new 25, 3) := by decide +kernel
theorem dX4_puddle_22 : decode cX4_puddle 22 = .ok (.dup, 1) := by decide +kernel
theorem dX4_puddle_23 : decode cX4_puddle 23 = .ok (.ldc 53, 2) := by decide +kernel
theorem dX4_puddle_25 : decode cX4_puddle 25 = .ok (.invokespecial 29, 3) := by decide +kernel
theorem dX4_puddle_28 : decode cX4_puddle 28 = .ok (.athrow, 1) := by decide +kernel
theorem dX4_puddle_29 : decode cX4_puddle 29 = .ok (.aload_n 3, 1) := by decide +kernel
theorem dX4_puddle_30 : decode cX4_puddle 30 = .ok (.invokevirtual 55, 3) := by decide +kernel
theorem dX4_puddle_33 : decode cX4_puddle 33 = .ok (.ifCond .ne 13, 3) := by decide +kernel
theorem dX4_puddle_36 : decode cX4_puddle 36 = .ok (.new 59, 3) := by decide +kernel
theorem dX4_puddle_39 : decode cX4_puddle 39 = .ok (.dup, 1) := by decide +kernel
theorem dX4_puddle_40 : decode cX4_puddle 40 = .ok (.ldc 61, 2) := by decide +kernel
theorem dX4_puddle_42 : decode cX4_puddle 42 = .ok (.invokespecial 63, 3) := by decide +kernel
theorem dX4_puddle_45 : decode cX4_puddle 45 = .ok (.athrow, 1) := by decide +kernel
theorem dX4_puddle_46 : decode cX4_puddle 46 = .ok (.aload_n 3, 1) := by decide +kernel
theorem dX4_puddle_47 : decode cX4_puddle 47 = .ok (.iload_n 2, 1) := by decide +kernel
theorem dX4_puddle_48 : decode cX4_puddle 48 = .ok (.aload_n 0, 1) := by decide +kernel
theorem dX4_puddle_49 : decode cX4_puddle 49 = .ok (.getfield 14, 3) := by decide +kernel
theorem dX4_puddle_52 : decode cX4_puddle 52 = .ok (.getfield 64, 3) := by decide +kernel
theorem dX4_puddle_55 : decode cX4_puddle 55 = .ok (.invokestatic 67, 3) := by decide +kernel
theorem dX4_puddle_58 : decode cX4_puddle 58 = .ok (.invokevirtual 73, 3) := by decide +kernel
theorem dX4_puddle_61 : decode cX4_puddle 61 = .ok (.istore 4, 2) := by decide +kernel
theorem dX4_puddle_63 : decode cX4_puddle 63 = .ok (.aload_n 0, 1) := by decide +kernel
theorem dX4_puddle_64 : decode cX4_puddle 64 = .ok (.getfield 14, 3) := by decide +kernel
theorem dX4_puddle_67 : decode cX4_puddle 67 = .ok (.dup, 1) := by decide +kernel
theorem dX4_puddle_68 : decode cX4_puddle 68 = .ok (.getfield 64, 3) := by decide +kernel
theorem dX4_puddle_71 : decode cX4_puddle 71 = .ok (.iload 4, 2) := by decide +kernel
theorem dX4_puddle_73 : decode cX4_puddle 73 = .ok (.isub, 1) := by decide +kernel
theorem dX4_puddle_74 : decode cX4_puddle 74 = .ok (.putfield 64, 3) := by decide +kernel
theorem dX4_puddle_77 : decode cX4_puddle 77 = .ok (.iload 4, 2) := by decide +kernel
theorem dX4_puddle_79 : decode cX4_puddle 79 = .ok (.ireturn, 1) := by decide +kernel
theorem dX4_strew_0 : decode cX4_strew 0 = .ok (.aload_n 0, 1) := by decide +kernel
theorem dX4_strew_1 : decode cX4_strew 1 = .ok (.getfield 14, 3) := by decide +kernel
theorem dX4_strew_4 : decode cX4_strew 4 = .ok (.iload_n 1, 1) := by decide +kernel
theorem dX4_strew_5 : decode cX4_strew 5 = .ok (.invokevirtual 38, 3) := by decide +kernel
theorem dX4_strew_8 : decode cX4_strew 8 = .ok (.astore_n 3, 1) := by decide +kernel
theorem dX4_strew_9 : decode cX4_strew 9 = .ok (.aload_n 3, 1) := by decide +kernel
theorem dX4_strew_10 : decode cX4_strew 10 = .ok (.getfield 77, 3) := by decide +kernel
theorem dX4_strew_13 : decode cX4_strew 13 = .ok (.istore 4, 2) := by decide +kernel
theorem dX4_strew_15 : decode cX4_strew 15 = .ok (.aload_n 3, 1) := by decide +kernel
theorem dX4_strew_16 : decode cX4_strew 16 = .ok (.iload_n 2, 1) := by decide +kernel
theorem dX4_strew_17 : decode cX4_strew 17 = .ok (.putfield 77, 3) := by decide +kernel
theorem dX4_strew_20 : decode cX4_strew 20 = .ok (.iload 4, 2) := by decide +kernel
theorem dX4_strew_22 : decode cX4_strew 22 = .ok (.ireturn, 1) := by decide +kernel
theorem dX4_pour_0 : decode cX4_pour 0 = .ok (.aload_n 0, 1) := by decide +kernel
theorem dX4_pour_1 : decode cX4_pour 1 = .ok (.getfield 14, 3) := by decide +kernel
theorem dX4_pour_4 : decode cX4_pour 4 = .ok (.iload_n 1, 1) := by decide +kernel
theorem dX4_pour_5 : decode cX4_pour 5 = .ok (.invokevirtual 38, 3) := by decide +kernel
theorem dX4_pour_8 : decode cX4_pour 8 = .ok (.astore_n 3, 1) := by decide +kernel
theorem dX4_pour_9 : decode cX4_pour 9 = .ok (.iload_n 2, 1) := by decide +kernel
theorem dX4_pour_10 : decode cX4_pour 10 = .ok (.sipush (-10000), 3) := by decide +kernel
theorem dX4_pour_13 : decode cX4_pour 13 = .ok (.sipush 10000, 3) := by decide +kernel
theorem dX4_pour_16 : decode cX4_pour 16 = .ok (.invokestatic 21, 3) := by decide +kernel
theorem dX4_pour_19 : decode cX4_pour 19 = .ok (.ifCond .ne 13, 3) := by decide +kernel
theorem dX4_pour_22 : decode cX4_pour 22 = .ok (.new 25, 3) := by decide +kernel
theorem dX4_pour_25 : decode cX4_pour 25 = .ok (.dup, 1) := by decide +kernel
theorem dX4_pour_26 : decode cX4_pour 26 = .ok (.ldc 81, 2) := by decide +kernel
theorem dX4_pour_28 : decode cX4_pour 28 = .ok (.invokespecial 29, 3) := by decide +kernel
theorem dX4_pour_31 : decode cX4_pour 31 = .ok (.athrow, 1) := by decide +kernel
theorem dX4_pour_32 : decode cX4_pour 32 = .ok (.aload_n 3, 1) := by decide +kernel
theorem dX4_pour_33 : decode cX4_pour 33 = .ok (.iconst 0, 1) := by decide +kernel
theorem dX4_pour_34 : decode cX4_pour 34 = .ok (.aload_n 3, 1) := by decide +kernel
theorem dX4_pour_35 : decode cX4_pour 35 = .ok (.getfield 83, 3) := by decide +kernel
theorem dX4_pour_38 : decode cX4_pour 38 = .ok (.iload_n 2, 1) := by decide +kernel
theorem dX4_pour_39 : decode cX4_pour 39 = .ok (.iadd, 1) := by decide +kernel
theorem dX4_pour_40 : decode cX4_pour 40 = .ok (.aload_n 3, 1) := by decide +kernel
theorem dX4_pour_41 : decode cX4_pour 41 = .ok (.invokevirtual 86, 3) := by decide +kernel
theorem dX4_pour_44 : decode cX4_pour 44 = .ok (.invokestatic 67, 3) := by decide +kernel
theorem dX4_pour_47 : decode cX4_pour 47 = .ok (.invokestatic 90, 3) := by decide +kernel
theorem dX4_pour_50 : decode cX4_pour 50 = .ok (.putfield 83, 3) := by decide +kernel
theorem dX4_pour_53 : decode cX4_pour 53 = .ok (.aload_n 3, 1) := by decide +kernel
theorem dX4_pour_54 : decode cX4_pour 54 = .ok (.getfield 83, 3) := by decide +kernel
theorem dX4_pour_57 : decode cX4_pour 57 = .ok (.ireturn, 1) := by decide +kernel
theorem dX4_pond_0 : decode cX4_pond 0 = .ok (.aload_n 0, 1) := by decide +kernel
theorem dX4_pond_1 : decode cX4_pond 1 = .ok (.getfield 14, 3) := by decide +kernel
theorem dX4_pond_4 : decode cX4_pond 4 = .ok (.iload_n 1, 1) := by decide +kernel
theorem dX4_pond_5 : decode cX4_pond 5 = .ok (.invokevirtual 38, 3) := by decide +kernel
theorem dX4_pond_8 : decode cX4_pond 8 = .ok (.astore_n 3, 1) := by decide +kernel
theorem dX4_pond_9 : decode cX4_pond 9 = .ok (.iload_n 2, 1) := by decide +kernel
theorem dX4_pond_10 : decode cX4_pond 10 = .ok (.tableswitch 138 0 11 #[62, 67, 72, 77, 82, 87, 92, 97, 110, 115, 124, 129], 62) := by decide +kernel
theorem dX4_pond_72 : decode cX4_pond 72 = .ok (.aload_n 3, 1) := by decide +kernel
theorem dX4_pond_73 : decode cX4_pond 73 = .ok (.getfield 93, 3) := by decide +kernel
theorem dX4_pond_76 : decode cX4_pond 76 = .ok (.ireturn, 1) := by decide +kernel
theorem dX4_pond_77 : decode cX4_pond 77 = .ok (.aload_n 3, 1) := by decide +kernel
theorem dX4_pond_78 : decode cX4_pond 78 = .ok (.getfield 96, 3) := by decide +kernel
theorem dX4_pond_81 : decode cX4_pond 81 = .ok (.ireturn, 1) := by decide +kernel
theorem dX4_pond_82 : decode cX4_pond 82 = .ok (.aload_n 3, 1) := by decide +kernel
theorem dX4_pond_83 : decode cX4_pond 83 = .ok (.getfield 42, 3) := by decide +kernel
theorem dX4_pond_86 : decode cX4_pond 86 = .ok (.ireturn, 1) := by decide +kernel
theorem dX4_pond_87 : decode cX4_pond 87 = .ok (.aload_n 3, 1) := by decide +kernel
theorem dX4_pond_88 : decode cX4_pond 88 = .ok (.getfield 99, 3) := by decide +kernel
theorem dX4_pond_91 : decode cX4_pond 91 = .ok (.ireturn, 1) := by decide +kernel
theorem dX4_pond_92 : decode cX4_pond 92 = .ok (.aload_n 3, 1) := by decide +kernel
theorem dX4_pond_93 : decode cX4_pond 93 = .ok (.invokevirtual 86, 3) := by decide +kernel
theorem dX4_pond_96 : decode cX4_pond 96 = .ok (.ireturn, 1) := by decide +kernel
theorem dX4_pond_97 : decode cX4_pond 97 = .ok (.aload_n 3, 1) := by decide +kernel
theorem dX4_pond_98 : decode cX4_pond 98 = .ok (.getfield 83, 3) := by decide +kernel
theorem dX4_pond_101 : decode cX4_pond 101 = .ok (.ireturn, 1) := by decide +kernel
theorem dX4_pond_102 : decode cX4_pond 102 = .ok (.aload_n 3, 1) := by decide +kernel
theorem dX4_pond_103 : decode cX4_pond 103 = .ok (.getfield 102, 3) := by decide +kernel
theorem dX4_pond_106 : decode cX4_pond 106 = .ok (.ireturn, 1) := by decide +kernel
theorem dX4_pond_107 : decode cX4_pond 107 = .ok (.aload_n 3, 1) := by decide +kernel
theorem dX4_pond_108 : decode cX4_pond 108 = .ok (.getfield 77, 3) := by decide +kernel
theorem dX4_pond_111 : decode cX4_pond 111 = .ok (.ifCond .eq 7, 3) := by decide +kernel
theorem dX4_pond_114 : decode cX4_pond 114 = .ok (.iconst 1, 1) := by decide +kernel
theorem dX4_pond_115 : decode cX4_pond 115 = .ok (.goto 4, 3) := by decide +kernel
theorem dX4_pond_118 : decode cX4_pond 118 = .ok (.iconst 0, 1) := by decide +kernel
theorem dX4_pond_119 : decode cX4_pond 119 = .ok (.ireturn, 1) := by decide +kernel
theorem dX4_pond_120 : decode cX4_pond 120 = .ok (.aload_n 3, 1) := by decide +kernel
theorem dX4_pond_121 : decode cX4_pond 121 = .ok (.getfield 50, 3) := by decide +kernel
theorem dX4_pond_124 : decode cX4_pond 124 = .ok (.ireturn, 1) := by decide +kernel
theorem dX4_pond_125 : decode cX4_pond 125 = .ok (.aload_n 0, 1) := by decide +kernel
theorem dX4_pond_126 : decode cX4_pond 126 = .ok (.getfield 14, 3) := by decide +kernel
theorem dX4_pond_129 : decode cX4_pond 129 = .ok (.iload_n 1, 1) := by decide +kernel
theorem dX4_pond_130 : decode cX4_pond 130 = .ok (.invokevirtual 105, 3) := by decide +kernel
theorem dX4_pond_133 : decode cX4_pond 133 = .ok (.ireturn, 1) := by decide +kernel
theorem dX4_pond_134 : decode cX4_pond 134 = .ok (.aload_n 3, 1) := by decide +kernel
theorem dX4_pond_135 : decode cX4_pond 135 = .ok (.getfield 108, 3) := by decide +kernel
theorem dX4_pond_138 : decode cX4_pond 138 = .ok (.ireturn, 1) := by decide +kernel
theorem dX4_pond_139 : decode cX4_pond 139 = .ok (.aload_n 0, 1) := by decide +kernel
theorem dX4_pond_140 : decode cX4_pond 140 = .ok (.getfield 14, 3) := by decide +kernel
theorem dX4_pond_143 : decode cX4_pond 143 = .ok (.iload_n 1, 1) := by decide +kernel
theorem dX4_pond_144 : decode cX4_pond 144 = .ok (.invokevirtual 111, 3) := by decide +kernel
theorem dX4_pond_147 : decode cX4_pond 147 = .ok (.ireturn, 1) := by decide +kernel
theorem dX4_pond_148 : decode cX4_pond 148 = .ok (.new 114, 3) := by decide +kernel
theorem dX4_pond_151 : decode cX4_pond 151 = .ok (.dup, 1) := by decide +kernel
theorem dX4_pond_152 : decode cX4_pond 152 = .ok (.ldc 116, 2) := by decide +kernel
theorem dX4_pond_154 : decode cX4_pond 154 = .ok (.invokespecial 118, 3) := by decide +kernel
theorem dX4_pond_157 : decode cX4_pond 157 = .ok (.athrow, 1) := by decide +kernel
theorem dX4_setWeather_0 : decode cX4_setWeather 0 = .ok (.aload_n 0, 1) := by decide +kernel
theorem dX4_setWeather_1 : decode cX4_setWeather 1 = .ok (.getfield 14, 3) := by decide +kernel
theorem dX4_setWeather_4 : decode cX4_setWeather 4 = .ok (.iload_n 1, 1) := by decide +kernel
theorem dX4_setWeather_5 : decode cX4_setWeather 5 = .ok (.invokevirtual 119, 3) := by decide +kernel
theorem dX4_setWeather_8 : decode cX4_setWeather 8 = .ok (.astore 5, 2) := by decide +kernel
theorem dX4_setWeather_10 : decode cX4_setWeather 10 = .ok (.iload_n 2, 1) := by decide +kernel
theorem dX4_setWeather_11 : decode cX4_setWeather 11 = .ok (.iconst 0, 1) := by decide +kernel
theorem dX4_setWeather_12 : decode cX4_setWeather 12 = .ok (.bipush 9, 2) := by decide +kernel
theorem dX4_setWeather_14 : decode cX4_setWeather 14 = .ok (.invokestatic 21, 3) := by decide +kernel
theorem dX4_setWeather_17 : decode cX4_setWeather 17 = .ok (.ifCond .eq 24, 3) := by decide +kernel
theorem dX4_setWeather_20 : decode cX4_setWeather 20 = .ok (.iload_n 3, 1) := by decide +kernel
theorem dX4_setWeather_21 : decode cX4_setWeather 21 = .ok (.iconst 0, 1) := by decide +kernel
theorem dX4_setWeather_22 : decode cX4_setWeather 22 = .ok (.bipush 9, 2) := by decide +kernel
theorem dX4_setWeather_24 : decode cX4_setWeather 24 = .ok (.invokestatic 21, 3) := by decide +kernel
theorem dX4_setWeather_27 : decode cX4_setWeather 27 = .ok (.ifCond .eq 14, 3) := by decide +kernel
theorem dX4_setWeather_30 : decode cX4_setWeather 30 = .ok (.iload 4, 2) := by decide +kernel
theorem dX4_setWeather_32 : decode cX4_setWeather 32 = .ok (.iconst 0, 1) := by decide +kernel
theorem dX4_setWeather_33 : decode cX4_setWeather 33 = .ok (.bipush 9, 2) := by decide +kernel
theorem dX4_setWeather_35 : decode cX4_setWeather 35 = .ok (.invokestatic 21, 3) := by decide +kernel
theorem dX4_setWeather_38 : decode cX4_setWeather 38 = .ok (.ifCond .ne 13, 3) := by decide +kernel
theorem dX4_setWeather_41 : decode cX4_setWeather 41 = .ok (.new 25, 3) := by decide +kernel
theorem dX4_setWeather_44 : decode cX4_setWeather 44 = .ok (.dup, 1) := by decide +kernel
theorem dX4_setWeather_45 : decode cX4_setWeather 45 = .ok (.ldc 123, 2) := by decide +kernel
theorem dX4_setWeather_47 : decode cX4_setWeather 47 = .ok (.invokespecial 29, 3) := by decide +kernel
theorem dX4_setWeather_50 : decode cX4_setWeather 50 = .ok (.athrow, 1) := by decide +kernel
theorem dX4_setWeather_51 : decode cX4_setWeather 51 = .ok (.aload 5, 2) := by decide +kernel
theorem dX4_setWeather_53 : decode cX4_setWeather 53 = .ok (.invokevirtual 125, 3) := by decide +kernel
theorem dX4_setWeather_56 : decode cX4_setWeather 56 = .ok (.istore 6, 2) := by decide +kernel
theorem dX4_setWeather_58 : decode cX4_setWeather 58 = .ok (.aload 5, 2) := by decide +kernel
theorem dX4_setWeather_60 : decode cX4_setWeather 60 = .ok (.iload_n 2, 1) := by decide +kernel
theorem dX4_setWeather_61 : decode cX4_setWeather 61 = .ok (.putfield 130, 3) := by decide +kernel
theorem dX4_setWeather_64 : decode cX4_setWeather 64 = .ok (.aload 5, 2) := by decide +kernel
theorem dX4_setWeather_66 : decode cX4_setWeather 66 = .ok (.iload_n 3, 1) := by decide +kernel
theorem dX4_setWeather_67 : decode cX4_setWeather 67 = .ok (.putfield 133, 3) := by decide +kernel
theorem dX4_setWeather_70 : decode cX4_setWeather 70 = .ok (.aload 5, 2) := by decide +kernel
theorem dX4_setWeather_72 : decode cX4_setWeather 72 = .ok (.iload 4, 2) := by decide +kernel
theorem dX4_setWeather_74 : decode cX4_setWeather 74 = .ok (.putfield 136, 3) := by decide +kernel
theorem dX4_setWeather_77 : decode cX4_setWeather 77 = .ok (.iload 6, 2) := by decide +kernel
theorem dX4_setWeather_79 : decode cX4_setWeather 79 = .ok (.ireturn, 1) := by decide +kernel
theorem dX4_bring_0 : decode cX4_bring 0 = .ok (.iload_n 1, 1) := by decide +kernel
theorem dX4_bring_1 : decode cX4_bring 1 = .ok (.iconst 1, 1) := by decide +kernel
theorem dX4_bring_2 : decode cX4_bring 2 = .ok (.bipush 100, 2) := by decide +kernel
theorem dX4_bring_4 : decode cX4_bring 4 = .ok (.invokestatic 21, 3) := by decide +kernel
theorem dX4_bring_7 : decode cX4_bring 7 = .ok (.ifCond .ne 13, 3) := by decide +kernel
theorem dX4_bring_10 : decode cX4_bring 10 = .ok (.new 25, 3) := by decide +kernel
theorem dX4_bring_13 : decode cX4_bring 13 = .ok (.dup, 1) := by decide +kernel
theorem dX4_bring_14 : decode cX4_bring 14 = .ok (.ldc 53, 2) := by decide +kernel
theorem dX4_bring_16 : decode cX4_bring 16 = .ok (.invokespecial 29, 3) := by decide +kernel
theorem dX4_bring_19 : decode cX4_bring 19 = .ok (.athrow, 1) := by decide +kernel
theorem dX4_bring_20 : decode cX4_bring 20 = .ok (.aload_n 0, 1) := by decide +kernel
theorem dX4_bring_21 : decode cX4_bring 21 = .ok (.getfield 14, 3) := by decide +kernel
theorem dX4_bring_24 : decode cX4_bring 24 = .ok (.getfield 64, 3) := by decide +kernel
theorem dX4_bring_27 : decode cX4_bring 27 = .ok (.iload_n 1, 1) := by decide +kernel
theorem dX4_bring_28 : decode cX4_bring 28 = .ok (.iadd, 1) := by decide +kernel
theorem dX4_bring_29 : decode cX4_bring 29 = .ok (.sipush 500, 3) := by decide +kernel
theorem dX4_bring_32 : decode cX4_bring 32 = .ok (.if_icmp .le 13, 3) := by decide +kernel
theorem dX4_bring_35 : decode cX4_bring 35 = .ok (.new 59, 3) := by decide +kernel
theorem dX4_bring_38 : decode cX4_bring 38 = .ok (.dup, 1) := by decide +kernel
theorem dX4_bring_39 : decode cX4_bring 39 = .ok (.ldc 139, 2) := by decide +kernel
theorem dX4_bring_41 : decode cX4_bring 41 = .ok (.invokespecial 63, 3) := by decide +kernel
theorem dX4_bring_44 : decode cX4_bring 44 = .ok (.athrow, 1) := by decide +kernel
theorem dX4_bring_45 : decode cX4_bring 45 = .ok (.aload_n 0, 1) := by decide +kernel
theorem dX4_bring_46 : decode cX4_bring 46 = .ok (.getfield 14, 3) := by decide +kernel
theorem dX4_bring_49 : decode cX4_bring 49 = .ok (.dup, 1) := by decide +kernel
theorem dX4_bring_50 : decode cX4_bring 50 = .ok (.getfield 64, 3) := by decide +kernel
theorem dX4_bring_53 : decode cX4_bring 53 = .ok (.iload_n 1, 1) := by decide +kernel
theorem dX4_bring_54 : decode cX4_bring 54 = .ok (.iadd, 1) := by decide +kernel
theorem dX4_bring_55 : decode cX4_bring 55 = .ok (.putfield 64, 3) := by decide +kernel
theorem dX4_bring_58 : decode cX4_bring 58 = .ok (.aload_n 0, 1) := by decide +kernel
theorem dX4_bring_59 : decode cX4_bring 59 = .ok (.getfield 14, 3) := by decide +kernel
theorem dX4_bring_62 : decode cX4_bring 62 = .ok (.getfield 64, 3) := by decide +kernel
theorem dX4_bring_65 : decode cX4_bring 65 = .ok (.ireturn, 1) := by decide +kernel
theorem dX4_addFlock_0 : decode cX4_addFlock 0 = .ok (.aload_n 0, 1) := by decide +kernel
theorem dX4_addFlock_1 : decode cX4_addFlock 1 = .ok (.getfield 14, 3) := by decide +kernel
theorem dX4_addFlock_4 : decode cX4_addFlock 4 = .ok (.iload_n 1, 1) := by decide +kernel
theorem dX4_addFlock_5 : decode cX4_addFlock 5 = .ok (.invokevirtual 38, 3) := by decide +kernel
theorem dX4_addFlock_8 : decode cX4_addFlock 8 = .ok (.pop, 1) := by decide +kernel
theorem dX4_addFlock_9 : decode cX4_addFlock 9 = .ok (.iload_n 2, 1) := by decide +kernel
theorem dX4_addFlock_10 : decode cX4_addFlock 10 = .ok (.iconst 1, 1) := by decide +kernel
theorem dX4_addFlock_11 : decode cX4_addFlock 11 = .ok (.bipush 80, 2) := by decide +kernel
theorem dX4_addFlock_13 : decode cX4_addFlock 13 = .ok (.invokestatic 21, 3) := by decide +kernel
theorem dX4_addFlock_16 : decode cX4_addFlock 16 = .ok (.ifCond .ne 13, 3) := by decide +kernel
theorem dX4_addFlock_19 : decode cX4_addFlock 19 = .ok (.new 25, 3) := by decide +kernel
theorem dX4_addFlock_22 : decode cX4_addFlock 22 = .ok (.dup, 1) := by decide +kernel
theorem dX4_addFlock_23 : decode cX4_addFlock 23 = .ok (.ldc 141, 2) := by decide +kernel
theorem dX4_addFlock_25 : decode cX4_addFlock 25 = .ok (.invokespecial 29, 3) := by decide +kernel
theorem dX4_addFlock_28 : decode cX4_addFlock 28 = .ok (.athrow, 1) := by decide +kernel
theorem dX4_addFlock_29 : decode cX4_addFlock 29 = .ok (.aload_n 0, 1) := by decide +kernel
theorem dX4_addFlock_30 : decode cX4_addFlock 30 = .ok (.getfield 14, 3) := by decide +kernel
theorem dX4_addFlock_33 : decode cX4_addFlock 33 = .ok (.iload_n 1, 1) := by decide +kernel
theorem dX4_addFlock_34 : decode cX4_addFlock 34 = .ok (.iload_n 2, 1) := by decide +kernel
theorem dX4_addFlock_35 : decode cX4_addFlock 35 = .ok (.invokevirtual 143, 3) := by decide +kernel
theorem dX4_addFlock_38 : decode cX4_addFlock 38 = .ok (.ireturn, 1) := by decide +kernel
theorem dX4_drive_0 : decode cX4_drive 0 = .ok (.aload_n 0, 1) := by decide +kernel
theorem dX4_drive_1 : decode cX4_drive 1 = .ok (.getfield 14, 3) := by decide +kernel
theorem dX4_drive_4 : decode cX4_drive 4 = .ok (.iload_n 1, 1) := by decide +kernel
theorem dX4_drive_5 : decode cX4_drive 5 = .ok (.invokevirtual 146, 3) := by decide +kernel
theorem dX4_drive_8 : decode cX4_drive 8 = .ok (.astore_n 3, 1) := by decide +kernel
theorem dX4_drive_9 : decode cX4_drive 9 = .ok (.aload_n 0, 1) := by decide +kernel
theorem dX4_drive_10 : decode cX4_drive 10 = .ok (.getfield 14, 3) := by decide +kernel
theorem dX4_drive_13 : decode cX4_drive 13 = .ok (.iload_n 2, 1) := by decide +kernel
theorem dX4_drive_14 : decode cX4_drive 14 = .ok (.invokevirtual 38, 3) := by decide +kernel
theorem dX4_drive_17 : decode cX4_drive 17 = .ok (.astore 4, 2) := by decide +kernel
theorem dX4_drive_19 : decode cX4_drive 19 = .ok (.aload_n 3, 1) := by decide +kernel
theorem dX4_drive_20 : decode cX4_drive 20 = .ok (.invokevirtual 150, 3) := by decide +kernel
theorem dX4_drive_23 : decode cX4_drive 23 = .ok (.ifCond .eq 13, 3) := by decide +kernel
theorem dX4_drive_26 : decode cX4_drive 26 = .ok (.new 59, 3) := by decide +kernel
theorem dX4_drive_29 : decode cX4_drive 29 = .ok (.dup, 1) := by decide +kernel
theorem dX4_drive_30 : decode cX4_drive 30 = .ok (.ldc 155, 2) := by decide +kernel
theorem dX4_drive_32 : decode cX4_drive 32 = .ok (.invokespecial 63, 3) := by decide +kernel
theorem dX4_drive_35 : decode cX4_drive 35 = .ok (.athrow, 1) := by decide +kernel
theorem dX4_drive_36 : decode cX4_drive 36 = .ok (.aload_n 0, 1) := by decide +kernel
theorem dX4_drive_37 : decode cX4_drive 37 = .ok (.getfield 14, 3) := by decide +kernel
theorem dX4_drive_40 : decode cX4_drive 40 = .ok (.aload_n 3, 1) := by decide +kernel
theorem dX4_drive_41 : decode cX4_drive 41 = .ok (.getfield 157, 3) := by decide +kernel
theorem dX4_drive_44 : decode cX4_drive 44 = .ok (.invokevirtual 38, 3) := by decide +kernel
theorem dX4_drive_47 : decode cX4_drive 47 = .ok (.aload 4, 2) := by decide +kernel
theorem dX4_drive_49 : decode cX4_drive 49 = .ok (.invokevirtual 160, 3) := by decide +kernel
theorem dX4_drive_52 : decode cX4_drive 52 = .ok (.istore 5, 2) := by decide +kernel
theorem dX4_drive_54 : decode cX4_drive 54 = .ok (.aload_n 3, 1) := by decide +kernel
theorem dX4_drive_55 : decode cX4_drive 55 = .ok (.iload_n 2, 1) := by decide +kernel
theorem dX4_drive_56 : decode cX4_drive 56 = .ok (.putfield 157, 3) := by decide +kernel
theorem dX4_drive_59 : decode cX4_drive 59 = .ok (.iload 5, 2) := by decide +kernel
theorem dX4_drive_61 : decode cX4_drive 61 = .ok (.ireturn, 1) := by decide +kernel
theorem dX4_setRoams_0 : decode cX4_setRoams 0 = .ok (.aload_n 0, 1) := by decide +kernel
theorem dX4_setRoams_1 : decode cX4_setRoams 1 = .ok (.getfield 14, 3) := by decide +kernel
theorem dX4_setRoams_4 : decode cX4_setRoams 4 = .ok (.iload_n 1, 1) := by decide +kernel
theorem dX4_setRoams_5 : decode cX4_setRoams 5 = .ok (.invokevirtual 146, 3) := by decide +kernel
theorem dX4_setRoams_8 : decode cX4_setRoams 8 = .ok (.astore_n 3, 1) := by decide +kernel
theorem dX4_setRoams_9 : decode cX4_setRoams 9 = .ok (.aload_n 3, 1) := by decide +kernel
theorem dX4_setRoams_10 : decode cX4_setRoams 10 = .ok (.getfield 164, 3) := by decide +kernel
theorem dX4_setRoams_13 : decode cX4_setRoams 13 = .ok (.istore 4, 2) := by decide +kernel
theorem dX4_setRoams_15 : decode cX4_setRoams 15 = .ok (.aload_n 3, 1) := by decide +kernel
theorem dX4_setRoams_16 : decode cX4_setRoams 16 = .ok (.iload_n 2, 1) := by decide +kernel
theorem dX4_setRoams_17 : decode cX4_setRoams 17 = .ok (.putfield 164, 3) := by decide +kernel
theorem dX4_setRoams_20 : decode cX4_setRoams 20 = .ok (.iload 4, 2) := by decide +kernel
theorem dX4_setRoams_22 : decode cX4_setRoams 22 = .ok (.ireturn, 1) := by decide +kernel
theorem dX4_flock_0 : decode cX4_flock 0 = .ok (.aload_n 0, 1) := by decide +kernel
theorem dX4_flock_1 : decode cX4_flock 1 = .ok (.getfield 14, 3) := by decide +kernel
theorem dX4_flock_4 : decode cX4_flock 4 = .ok (.iload_n 1, 1) := by decide +kernel
theorem dX4_flock_5 : decode cX4_flock 5 = .ok (.invokevirtual 146, 3) := by decide +kernel
theorem dX4_flock_8 : decode cX4_flock 8 = .ok (.astore_n 3, 1) := by decide +kernel
theorem dX4_flock_9 : decode cX4_flock 9 = .ok (.iload_n 2, 1) := by decide +kernel
theorem dX4_flock_10 : decode cX4_flock 10 = .ok (.tableswitch 84 0 5 #[38, 43, 48, 53, 66, 79], 38) := by decide +kernel
theorem dX4_flock_48 : decode cX4_flock 48 = .ok (.aload_n 3, 1) := by decide +kernel
theorem dX4_flock_49 : decode cX4_flock 49 = .ok (.getfield 167, 3) := by decide +kernel
theorem dX4_flock_52 : decode cX4_flock 52 = .ok (.ireturn, 1) := by decide +kernel
theorem dX4_flock_53 : decode cX4_flock 53 = .ok (.aload_n 3, 1) := by decide +kernel
theorem dX4_flock_54 : decode cX4_flock 54 = .ok (.getfield 157, 3) := by decide +kernel
theorem dX4_flock_57 : decode cX4_flock 57 = .ok (.ireturn, 1) := by decide +kernel
theorem dX4_flock_58 : decode cX4_flock 58 = .ok (.aload_n 3, 1) := by decide +kernel
theorem dX4_flock_59 : decode cX4_flock 59 = .ok (.getfield 170, 3) := by decide +kernel
theorem dX4_flock_62 : decode cX4_flock 62 = .ok (.ireturn, 1) := by decide +kernel
theorem dX4_flock_63 : decode cX4_flock 63 = .ok (.aload_n 3, 1) := by decide +kernel
theorem dX4_flock_64 : decode cX4_flock 64 = .ok (.getfield 164, 3) := by decide +kernel
theorem dX4_flock_67 : decode cX4_flock 67 = .ok (.ifCond .eq 7, 3) := by decide +kernel
theorem dX4_flock_70 : decode cX4_flock 70 = .ok (.iconst 1, 1) := by decide +kernel
theorem dX4_flock_71 : decode cX4_flock 71 = .ok (.goto 4, 3) := by decide +kernel
theorem dX4_flock_74 : decode cX4_flock 74 = .ok (.iconst 0, 1) := by decide +kernel
theorem dX4_flock_75 : decode cX4_flock 75 = .ok (.ireturn, 1) := by decide +kernel
theorem dX4_flock_76 : decode cX4_flock 76 = .ok (.aload_n 3, 1) := by decide +kernel
theorem dX4_flock_77 : decode cX4_flock 77 = .ok (.invokevirtual 150, 3) := by decide +kernel
theorem dX4_flock_80 : decode cX4_flock 80 = .ok (.ifCond .eq 7, 3) := by decide +kernel
theorem dX4_flock_83 : decode cX4_flock 83 = .ok (.iconst 1, 1) := by decide +kernel
theorem dX4_flock_84 : decode cX4_flock 84 = .ok (.goto 4, 3) := by decide +kernel
theorem dX4_flock_87 : decode cX4_flock 87 = .ok (.iconst 0, 1) := by decide +kernel
theorem dX4_flock_88 : decode cX4_flock 88 = .ok (.ireturn, 1) := by decide +kernel
theorem dX4_flock_89 : decode cX4_flock 89 = .ok (.aload_n 3, 1) := by decide +kernel
theorem dX4_flock_90 : decode cX4_flock 90 = .ok (.getfield 173, 3) := by decide +kernel
theorem dX4_flock_93 : decode cX4_flock 93 = .ok (.ireturn, 1) := by decide +kernel
theorem dX4_flock_94 : decode cX4_flock 94 = .ok (.new 114, 3) := by decide +kernel
theorem dX4_flock_97 : decode cX4_flock 97 = .ok (.dup, 1) := by decide +kernel
theorem dX4_flock_98 : decode cX4_flock 98 = .ok (.ldc 176, 2) := by decide +kernel
theorem dX4_flock_100 : decode cX4_flock 100 = .ok (.invokespecial 118, 3) := by decide +kernel
theorem dX4_flock_103 : decode cX4_flock 103 = .ok (.athrow, 1) := by decide +kernel
theorem dX4_pass_0 : decode cX4_pass 0 = .ok (.iload_n 1, 1) := by decide +kernel
theorem dX4_pass_1 : decode cX4_pass 1 = .ok (.iconst 1, 1) := by decide +kernel
theorem dX4_pass_2 : decode cX4_pass 2 = .ok (.bipush 100, 2) := by decide +kernel
theorem dX4_pass_4 : decode cX4_pass 4 = .ok (.invokestatic 21, 3) := by decide +kernel
theorem dX4_pass_7 : decode cX4_pass 7 = .ok (.ifCond .ne 13, 3) := by decide +kernel
theorem dX4_pass_10 : decode cX4_pass 10 = .ok (.new 25, 3) := by decide +kernel
theorem dX4_pass_13 : decode cX4_pass 13 = .ok (.dup, 1) := by decide +kernel
theorem dX4_pass_14 : decode cX4_pass 14 = .ok (.ldc 178, 2) := by decide +kernel
theorem dX4_pass_16 : decode cX4_pass 16 = .ok (.invokespecial 29, 3) := by decide +kernel
theorem dX4_pass_19 : decode cX4_pass 19 = .ok (.athrow, 1) := by decide +kernel
theorem dX4_pass_20 : decode cX4_pass 20 = .ok (.aload_n 0, 1) := by decide +kernel
theorem dX4_pass_21 : decode cX4_pass 21 = .ok (.getfield 14, 3) := by decide +kernel
theorem dX4_pass_24 : decode cX4_pass 24 = .ok (.iload_n 1, 1) := by decide +kernel
theorem dX4_pass_25 : decode cX4_pass 25 = .ok (.invokevirtual 180, 3) := by decide +kernel
theorem dX4_pass_28 : decode cX4_pass 28 = .ok (.ireturn, 1) := by decide +kernel
theorem dX4_count_0 : decode cX4_count 0 = .ok (.iload_n 1, 1) := by decide +kernel
theorem dX4_count_1 : decode cX4_count 1 = .ok (.tableswitch 111 0 7 #[47, 55, 63, 71, 79, 87, 95, 103], 47) := by decide +kernel
theorem dX4_count_48 : decode cX4_count 48 = .ok (.aload_n 0, 1) := by decide +kernel
theorem dX4_count_49 : decode cX4_count 49 = .ok (.getfield 14, 3) := by decide +kernel
theorem dX4_count_52 : decode cX4_count 52 = .ok (.getfield 183, 3) := by decide +kernel
theorem dX4_count_55 : decode cX4_count 55 = .ok (.ireturn, 1) := by decide +kernel
theorem dX4_count_56 : decode cX4_count 56 = .ok (.aload_n 0, 1) := by decide +kernel
theorem dX4_count_57 : decode cX4_count 57 = .ok (.getfield 14, 3) := by decide +kernel
theorem dX4_count_60 : decode cX4_count 60 = .ok (.getfield 186, 3) := by decide +kernel
theorem dX4_count_63 : decode cX4_count 63 = .ok (.ireturn, 1) := by decide +kernel
theorem dX4_count_64 : decode cX4_count 64 = .ok (.aload_n 0, 1) := by decide +kernel
theorem dX4_count_65 : decode cX4_count 65 = .ok (.getfield 14, 3) := by decide +kernel
theorem dX4_count_68 : decode cX4_count 68 = .ok (.getfield 189, 3) := by decide +kernel
theorem dX4_count_71 : decode cX4_count 71 = .ok (.ireturn, 1) := by decide +kernel
theorem dX4_count_72 : decode cX4_count 72 = .ok (.aload_n 0, 1) := by decide +kernel
theorem dX4_count_73 : decode cX4_count 73 = .ok (.getfield 14, 3) := by decide +kernel
theorem dX4_count_76 : decode cX4_count 76 = .ok (.invokevirtual 192, 3) := by decide +kernel
theorem dX4_count_79 : decode cX4_count 79 = .ok (.ireturn, 1) := by decide +kernel
theorem dX4_count_80 : decode cX4_count 80 = .ok (.aload_n 0, 1) := by decide +kernel
theorem dX4_count_81 : decode cX4_count 81 = .ok (.getfield 14, 3) := by decide +kernel
theorem dX4_count_84 : decode cX4_count 84 = .ok (.getfield 64, 3) := by decide +kernel
theorem dX4_count_87 : decode cX4_count 87 = .ok (.ireturn, 1) := by decide +kernel
theorem dX4_count_88 : decode cX4_count 88 = .ok (.aload_n 0, 1) := by decide +kernel
theorem dX4_count_89 : decode cX4_count 89 = .ok (.getfield 14, 3) := by decide +kernel
theorem dX4_count_92 : decode cX4_count 92 = .ok (.invokevirtual 195, 3) := by decide +kernel
theorem dX4_count_95 : decode cX4_count 95 = .ok (.ireturn, 1) := by decide +kernel
theorem dX4_count_96 : decode cX4_count 96 = .ok (.aload_n 0, 1) := by decide +kernel
theorem dX4_count_97 : decode cX4_count 97 = .ok (.getfield 14, 3) := by decide +kernel
theorem dX4_count_100 : decode cX4_count 100 = .ok (.invokevirtual 198, 3) := by decide +kernel
theorem dX4_count_103 : decode cX4_count 103 = .ok (.ireturn, 1) := by decide +kernel
theorem dX4_count_104 : decode cX4_count 104 = .ok (.aload_n 0, 1) := by decide +kernel
theorem dX4_count_105 : decode cX4_count 105 = .ok (.getfield 14, 3) := by decide +kernel
theorem dX4_count_108 : decode cX4_count 108 = .ok (.invokevirtual 201, 3) := by decide +kernel
theorem dX4_count_111 : decode cX4_count 111 = .ok (.ireturn, 1) := by decide +kernel
theorem dX4_count_112 : decode cX4_count 112 = .ok (.new 114, 3) := by decide +kernel
theorem dX4_count_115 : decode cX4_count 115 = .ok (.dup, 1) := by decide +kernel
theorem dX4_count_116 : decode cX4_count 116 = .ok (.ldc 204, 2) := by decide +kernel
theorem dX4_count_118 : decode cX4_count 118 = .ok (.invokespecial 118, 3) := by decide +kernel
theorem dX4_count_121 : decode cX4_count 121 = .ok (.athrow, 1) := by decide +kernel
theorem dX4_foresee_0 : decode cX4_foresee 0 = .ok (.aload_n 0, 1) := by decide +kernel
theorem dX4_foresee_1 : decode cX4_foresee 1 = .ok (.getfield 14, 3) := by decide +kernel
theorem dX4_foresee_4 : decode cX4_foresee 4 = .ok (.iload_n 1, 1) := by decide +kernel
theorem dX4_foresee_5 : decode cX4_foresee 5 = .ok (.invokevirtual 38, 3) := by decide +kernel
theorem dX4_foresee_8 : decode cX4_foresee 8 = .ok (.pop, 1) := by decide +kernel
theorem dX4_foresee_9 : decode cX4_foresee 9 = .ok (.iload_n 2, 1) := by decide +kernel
theorem dX4_foresee_10 : decode cX4_foresee 10 = .ok (.iconst 1, 1) := by decide +kernel
theorem dX4_foresee_11 : decode cX4_foresee 11 = .ok (.bipush 100, 2) := by decide +kernel
theorem dX4_foresee_13 : decode cX4_foresee 13 = .ok (.invokestatic 21, 3) := by decide +kernel
theorem dX4_foresee_16 : decode cX4_foresee 16 = .ok (.ifCond .ne 13, 3) := by decide +kernel
theorem dX4_foresee_19 : decode cX4_foresee 19 = .ok (.new 25, 3) := by decide +kernel
theorem dX4_foresee_22 : decode cX4_foresee 22 = .ok (.dup, 1) := by decide +kernel
theorem dX4_foresee_23 : decode cX4_foresee 23 = .ok (.ldc 178, 2) := by decide +kernel
theorem dX4_foresee_25 : decode cX4_foresee 25 = .ok (.invokespecial 29, 3) := by decide +kernel
theorem dX4_foresee_28 : decode cX4_foresee 28 = .ok (.athrow, 1) := by decide +kernel
theorem dX4_foresee_29 : decode cX4_foresee 29 = .ok (.aload_n 0, 1) := by decide +kernel
theorem dX4_foresee_30 : decode cX4_foresee 30 = .ok (.getfield 18, 3) := by decide +kernel
theorem dX4_foresee_33 : decode cX4_foresee 33 = .ok (.aload_n 0, 1) := by decide +kernel
theorem dX4_foresee_34 : decode cX4_foresee 34 = .ok (.getfield 14, 3) := by decide +kernel
theorem dX4_foresee_37 : decode cX4_foresee 37 = .ok (.invokevirtual 206, 3) := by decide +kernel
theorem dX4_foresee_40 : decode cX4_foresee 40 = .ok (.aload_n 0, 1) := by decide +kernel
theorem dX4_foresee_41 : decode cX4_foresee 41 = .ok (.getfield 18, 3) := by decide +kernel
theorem dX4_foresee_44 : decode cX4_foresee 44 = .ok (.iload_n 2, 1) := by decide +kernel
theorem dX4_foresee_45 : decode cX4_foresee 45 = .ok (.invokevirtual 180, 3) := by decide +kernel
theorem dX4_foresee_48 : decode cX4_foresee 48 = .ok (.pop, 1) := by decide +kernel
theorem dX4_foresee_49 : decode cX4_foresee 49 = .ok (.aload_n 0, 1) := by decide +kernel
theorem dX4_foresee_50 : decode cX4_foresee 50 = .ok (.getfield 18, 3) := by decide +kernel
theorem dX4_foresee_53 : decode cX4_foresee 53 = .ok (.iload_n 1, 1) := by decide +kernel
theorem dX4_foresee_54 : decode cX4_foresee 54 = .ok (.invokevirtual 38, 3) := by decide +kernel
theorem dX4_foresee_57 : decode cX4_foresee 57 = .ok (.getfield 83, 3) := by decide +kernel
theorem dX4_foresee_60 : decode cX4_foresee 60 = .ok (.ireturn, 1) := by decide +kernel
theorem dX4_lasts_0 : decode cX4_lasts 0 = .ok (.aload_n 0, 1) := by decide +kernel
theorem dX4_lasts_1 : decode cX4_lasts 1 = .ok (.getfield 14, 3) := by decide +kernel
theorem dX4_lasts_4 : decode cX4_lasts 4 = .ok (.iload_n 1, 1) := by decide +kernel
theorem dX4_lasts_5 : decode cX4_lasts 5 = .ok (.invokevirtual 38, 3) := by decide +kernel
theorem dX4_lasts_8 : decode cX4_lasts 8 = .ok (.getfield 83, 3) := by decide +kernel
theorem dX4_lasts_11 : decode cX4_lasts 11 = .ok (.ifCond .ne 5, 3) := by decide +kernel
theorem dX4_lasts_14 : decode cX4_lasts 14 = .ok (.iconst 0, 1) := by decide +kernel
theorem dX4_lasts_15 : decode cX4_lasts 15 = .ok (.ireturn, 1) := by decide +kernel
theorem dX4_lasts_16 : decode cX4_lasts 16 = .ok (.aload_n 0, 1) := by decide +kernel
theorem dX4_lasts_17 : decode cX4_lasts 17 = .ok (.getfield 18, 3) := by decide +kernel
theorem dX4_lasts_20 : decode cX4_lasts 20 = .ok (.aload_n 0, 1) := by decide +kernel
theorem dX4_lasts_21 : decode cX4_lasts 21 = .ok (.getfield 14, 3) := by decide +kernel
theorem dX4_lasts_24 : decode cX4_lasts 24 = .ok (.invokevirtual 206, 3) := by decide +kernel
theorem dX4_lasts_27 : decode cX4_lasts 27 = .ok (.aload_n 0, 1) := by decide +kernel
theorem dX4_lasts_28 : decode cX4_lasts 28 = .ok (.getfield 18, 3) := by decide +kernel
theorem dX4_lasts_31 : decode cX4_lasts 31 = .ok (.iload_n 1, 1) := by decide +kernel
theorem dX4_lasts_32 : decode cX4_lasts 32 = .ok (.invokevirtual 38, 3) := by decide +kernel
theorem dX4_lasts_35 : decode cX4_lasts 35 = .ok (.astore_n 2, 1) := by decide +kernel
theorem dX4_lasts_36 : decode cX4_lasts 36 = .ok (.iconst 1, 1) := by decide +kernel
theorem dX4_lasts_37 : decode cX4_lasts 37 = .ok (.istore_n 3, 1) := by decide +kernel
theorem dX4_lasts_38 : decode cX4_lasts 38 = .ok (.iload_n 3, 1) := by decide +kernel
theorem dX4_lasts_39 : decode cX4_lasts 39 = .ok (.sipush 200, 3) := by decide +kernel
theorem dX4_lasts_42 : decode cX4_lasts 42 = .ok (.if_icmp .gt 26, 3) := by decide +kernel
theorem dX4_lasts_45 : decode cX4_lasts 45 = .ok (.aload_n 0, 1) := by decide +kernel
theorem dX4_lasts_46 : decode cX4_lasts 46 = .ok (.getfield 18, 3) := by decide +kernel
theorem dX4_lasts_49 : decode cX4_lasts 49 = .ok (.invokevirtual 210, 3) := by decide +kernel
theorem dX4_lasts_52 : decode cX4_lasts 52 = .ok (.pop, 1) := by decide +kernel
theorem dX4_lasts_53 : decode cX4_lasts 53 = .ok (.aload_n 2, 1) := by decide +kernel
theorem dX4_lasts_54 : decode cX4_lasts 54 = .ok (.getfield 83, 3) := by decide +kernel
theorem dX4_lasts_57 : decode cX4_lasts 57 = .ok (.ifCond .ne 5, 3) := by decide +kernel
theorem dX4_lasts_60 : decode cX4_lasts 60 = .ok (.iload_n 3, 1) := by decide +kernel
theorem dX4_lasts_61 : decode cX4_lasts 61 = .ok (.ireturn, 1) := by decide +kernel
theorem dX4_lasts_62 : decode cX4_lasts 62 = .ok (.iinc 3 1, 3) := by decide +kernel
theorem dX4_lasts_65 : decode cX4_lasts 65 = .ok (.goto (-27), 3) := by decide +kernel
theorem dX4_lasts_68 : decode cX4_lasts 68 = .ok (.iconst (-1), 1) := by decide +kernel
theorem dX4_lasts_69 : decode cX4_lasts 69 = .ok (.ireturn, 1) := by decide +kernel
theorem dX4_keep_0 : decode cX4_keep 0 = .ok (.aload_n 0, 1) := by decide +kernel
theorem dX4_keep_1 : decode cX4_keep 1 = .ok (.getfield 14, 3) := by decide +kernel
theorem dX4_keep_4 : decode cX4_keep 4 = .ok (.iload_n 1, 1) := by decide +kernel
theorem dX4_keep_5 : decode cX4_keep 5 = .ok (.invokevirtual 38, 3) := by decide +kernel
theorem dX4_keep_8 : decode cX4_keep 8 = .ok (.pop, 1) := by decide +kernel
theorem dX4_keep_9 : decode cX4_keep 9 = .ok (.iload_n 2, 1) := by decide +kernel
theorem dX4_keep_10 : decode cX4_keep 10 = .ok (.iconst 1, 1) := by decide +kernel
theorem dX4_keep_11 : decode cX4_keep 11 = .ok (.bipush 50, 2) := by decide +kernel
theorem dX4_keep_13 : decode cX4_keep 13 = .ok (.invokestatic 21, 3) := by decide +kernel
theorem dX4_keep_16 : decode cX4_keep 16 = .ok (.ifCond .ne 13, 3) := by decide +kernel
theorem dX4_keep_19 : decode cX4_keep 19 = .ok (.new 25, 3) := by decide +kernel
theorem dX4_keep_22 : decode cX4_keep 22 = .ok (.dup, 1) := by decide +kernel
theorem dX4_keep_23 : decode cX4_keep 23 = .ok (.ldc 213, 2) := by decide +kernel
theorem dX4_keep_25 : decode cX4_keep 25 = .ok (.invokespecial 29, 3) := by decide +kernel
theorem dX4_keep_28 : decode cX4_keep 28 = .ok (.athrow, 1) := by decide +kernel
theorem dX4_keep_29 : decode cX4_keep 29 = .ok (.bipush 80, 2) := by decide +kernel
theorem dX4_keep_31 : decode cX4_keep 31 = .ok (.istore_n 3, 1) := by decide +kernel
theorem dX4_keep_32 : decode cX4_keep 32 = .ok (.iload_n 3, 1) := by decide +kernel
theorem dX4_keep_33 : decode cX4_keep 33 = .ok (.iconst 1, 1) := by decide +kernel
theorem dX4_keep_34 : decode cX4_keep 34 = .ok (.if_icmp .lt 21, 3) := by decide +kernel
theorem dX4_keep_37 : decode cX4_keep 37 = .ok (.aload_n 0, 1) := by decide +kernel
theorem dX4_keep_38 : decode cX4_keep 38 = .ok (.iload_n 1, 1) := by decide +kernel
theorem dX4_keep_39 : decode cX4_keep 39 = .ok (.iload_n 3, 1) := by decide +kernel
theorem dX4_keep_40 : decode cX4_keep 40 = .ok (.iload_n 2, 1) := by decide +kernel
theorem dX4_keep_41 : decode cX4_keep 41 = .ok (.invokevirtual 215, 3) := by decide +kernel
theorem dX4_keep_44 : decode cX4_keep 44 = .ok (.ifCond .eq 5, 3) := by decide +kernel
theorem dX4_keep_47 : decode cX4_keep 47 = .ok (.iload_n 3, 1) := by decide +kernel
theorem dX4_keep_48 : decode cX4_keep 48 = .ok (.ireturn, 1) := by decide +kernel
theorem dX4_keep_49 : decode cX4_keep 49 = .ok (.iinc 3 (-1), 3) := by decide +kernel
theorem dX4_keep_52 : decode cX4_keep 52 = .ok (.goto (-20), 3) := by decide +kernel
theorem dX4_keep_55 : decode cX4_keep 55 = .ok (.iconst 0, 1) := by decide +kernel
theorem dX4_keep_56 : decode cX4_keep 56 = .ok (.ireturn, 1) := by decide +kernel
theorem dX4_canKeep_0 : decode cX4_canKeep 0 = .ok (.aload_n 0, 1) := by decide +kernel
theorem dX4_canKeep_1 : decode cX4_canKeep 1 = .ok (.getfield 18, 3) := by decide +kernel
theorem dX4_canKeep_4 : decode cX4_canKeep 4 = .ok (.aload_n 0, 1) := by decide +kernel
theorem dX4_canKeep_5 : decode cX4_canKeep 5 = .ok (.getfield 14, 3) := by decide +kernel
theorem dX4_canKeep_8 : decode cX4_canKeep 8 = .ok (.invokevirtual 206, 3) := by decide +kernel
theorem dX4_canKeep_11 : decode cX4_canKeep 11 = .ok (.aload_n 0, 1) := by decide +kernel
theorem dX4_canKeep_12 : decode cX4_canKeep 12 = .ok (.getfield 18, 3) := by decide +kernel
theorem dX4_canKeep_15 : decode cX4_canKeep 15 = .ok (.aload_n 0, 1) := by decide +kernel
theorem dX4_canKeep_16 : decode cX4_canKeep 16 = .ok (.getfield 18, 3) := by decide +kernel
theorem dX4_canKeep_19 : decode cX4_canKeep 19 = .ok (.iload_n 1, 1) := by decide +kernel
theorem dX4_canKeep_20 : decode cX4_canKeep 20 = .ok (.iload_n 2, 1) := by decide +kernel
theorem dX4_canKeep_21 : decode cX4_canKeep 21 = .ok (.invokevirtual 143, 3) := by decide +kernel
theorem dX4_canKeep_24 : decode cX4_canKeep 24 = .ok (.invokevirtual 146, 3) := by decide +kernel
theorem dX4_canKeep_27 : decode cX4_canKeep 27 = .ok (.astore 4, 2) := by decide +kernel
theorem dX4_canKeep_29 : decode cX4_canKeep 29 = .ok (.iconst 0, 1) := by decide +kernel
theorem dX4_canKeep_30 : decode cX4_canKeep 30 = .ok (.istore 5, 2) := by decide +kernel
theorem dX4_canKeep_32 : decode cX4_canKeep 32 = .ok (.iload 5, 2) := by decide +kernel
theorem dX4_canKeep_34 : decode cX4_canKeep 34 = .ok (.iload_n 3, 1) := by decide +kernel
theorem dX4_canKeep_35 : decode cX4_canKeep 35 = .ok (.if_icmp .ge 27, 3) := by decide +kernel
theorem dX4_canKeep_38 : decode cX4_canKeep 38 = .ok (.aload_n 0, 1) := by decide +kernel
theorem dX4_canKeep_39 : decode cX4_canKeep 39 = .ok (.getfield 18, 3) := by decide +kernel
theorem dX4_canKeep_42 : decode cX4_canKeep 42 = .ok (.invokevirtual 210, 3) := by decide +kernel
theorem dX4_canKeep_45 : decode cX4_canKeep 45 = .ok (.pop, 1) := by decide +kernel
theorem dX4_canKeep_46 : decode cX4_canKeep 46 = .ok (.aload 4, 2) := by decide +kernel
theorem dX4_canKeep_48 : decode cX4_canKeep 48 = .ok (.getfield 170, 3) := by decide +kernel
theorem dX4_canKeep_51 : decode cX4_canKeep 51 = .ok (.ifCond .le 5, 3) := by decide +kernel
theorem dX4_canKeep_54 : decode cX4_canKeep 54 = .ok (.iconst 0, 1) := by decide +kernel
theorem dX4_canKeep_55 : decode cX4_canKeep 55 = .ok (.ireturn, 1) := by decide +kernel
theorem dX4_canKeep_56 : decode cX4_canKeep 56 = .ok (.iinc 5 1, 3) := by decide +kernel
theorem dX4_canKeep_59 : decode cX4_canKeep 59 = .ok (.goto (-27), 3) := by decide +kernel
theorem dX4_canKeep_62 : decode cX4_canKeep 62 = .ok (.iconst 1, 1) := by decide +kernel
theorem dX4_canKeep_63 : decode cX4_canKeep 63 = .ok (.ireturn, 1) := by decide +kernel
theorem dX4_isWithin_0 : decode cX4_isWithin 0 = .ok (.iload_n 0, 1) := by decide +kernel
theorem dX4_isWithin_1 : decode cX4_isWithin 1 = .ok (.iload_n 1, 1) := by decide +kernel
theorem dX4_isWithin_2 : decode cX4_isWithin 2 = .ok (.if_icmp .lt 12, 3) := by decide +kernel
theorem dX4_isWithin_5 : decode cX4_isWithin 5 = .ok (.iload_n 0, 1) := by decide +kernel
theorem dX4_isWithin_6 : decode cX4_isWithin 6 = .ok (.iload_n 2, 1) := by decide +kernel
theorem dX4_isWithin_7 : decode cX4_isWithin 7 = .ok (.if_icmp .gt 7, 3) := by decide +kernel
theorem dX4_isWithin_10 : decode cX4_isWithin 10 = .ok (.iconst 1, 1) := by decide +kernel
theorem dX4_isWithin_11 : decode cX4_isWithin 11 = .ok (.goto 4, 3) := by decide +kernel
theorem dX4_isWithin_14 : decode cX4_isWithin 14 = .ok (.iconst 0, 1) := by decide +kernel
theorem dX4_isWithin_15 : decode cX4_isWithin 15 = .ok (.ireturn, 1) := by decide +kernel
theorem dJ9_floorMod_7cf53_0 : decode cJ9_floorMod_7cf53 0 = .ok (.iload_n 0, 1) := by decide +kernel
theorem dJ9_floorMod_7cf53_1 : decode cJ9_floorMod_7cf53 1 = .ok (.iload_n 1, 1) := by decide +kernel
theorem dJ9_floorMod_7cf53_2 : decode cJ9_floorMod_7cf53 2 = .ok (.irem, 1) := by decide +kernel
theorem dJ9_floorMod_7cf53_3 : decode cJ9_floorMod_7cf53 3 = .ok (.istore_n 2, 1) := by decide +kernel
theorem dJ9_floorMod_7cf53_4 : decode cJ9_floorMod_7cf53 4 = .ok (.iload_n 0, 1) := by decide +kernel
theorem dJ9_floorMod_7cf53_5 : decode cJ9_floorMod_7cf53 5 = .ok (.iload_n 1, 1) := by decide +kernel
theorem dJ9_floorMod_7cf53_6 : decode cJ9_floorMod_7cf53 6 = .ok (.ixor, 1) := by decide +kernel
theorem dJ9_floorMod_7cf53_7 : decode cJ9_floorMod_7cf53 7 = .ok (.ifCond .ge 11, 3) := by decide +kernel
theorem dJ9_floorMod_7cf53_10 : decode cJ9_floorMod_7cf53 10 = .ok (.iload_n 2, 1) := by decide +kernel
theorem dJ9_floorMod_7cf53_11 : decode cJ9_floorMod_7cf53 11 = .ok (.ifCond .eq 7, 3) := by decide +kernel
theorem dJ9_floorMod_7cf53_14 : decode cJ9_floorMod_7cf53 14 = .ok (.iload_n 2, 1) := by decide +kernel
theorem dJ9_floorMod_7cf53_15 : decode cJ9_floorMod_7cf53 15 = .ok (.iload_n 1, 1) := by decide +kernel
theorem dJ9_floorMod_7cf53_16 : decode cJ9_floorMod_7cf53 16 = .ok (.iadd, 1) := by decide +kernel
theorem dJ9_floorMod_7cf53_17 : decode cJ9_floorMod_7cf53 17 = .ok (.ireturn, 1) := by decide +kernel
theorem dJ9_floorMod_7cf53_18 : decode cJ9_floorMod_7cf53 18 = .ok (.iload_n 2, 1) := by decide +kernel
theorem dJ9_floorMod_7cf53_19 : decode cJ9_floorMod_7cf53 19 = .ok (.ireturn, 1) := by decide +kernel
theorem dJ9_abs_0f7a4_0 : decode cJ9_abs_0f7a4 0 = .ok (.iload_n 0, 1) := by decide +kernel
theorem dJ9_abs_0f7a4_1 : decode cJ9_abs_0f7a4 1 = .ok (.ifCond .ge 8, 3) := by decide +kernel
theorem dJ9_abs_0f7a4_4 : decode cJ9_abs_0f7a4 4 = .ok (.iload_n 0, 1) := by decide +kernel
theorem dJ9_abs_0f7a4_5 : decode cJ9_abs_0f7a4 5 = .ok (.ineg, 1) := by decide +kernel
theorem dJ9_abs_0f7a4_6 : decode cJ9_abs_0f7a4 6 = .ok (.goto 4, 3) := by decide +kernel
theorem dJ9_abs_0f7a4_9 : decode cJ9_abs_0f7a4 9 = .ok (.iload_n 0, 1) := by decide +kernel
theorem dJ9_abs_0f7a4_10 : decode cJ9_abs_0f7a4 10 = .ok (.ireturn, 1) := by decide +kernel
theorem dJ9_max_7cf53_0 : decode cJ9_max_7cf53 0 = .ok (.iload_n 0, 1) := by decide +kernel
theorem dJ9_max_7cf53_1 : decode cJ9_max_7cf53 1 = .ok (.iload_n 1, 1) := by decide +kernel
theorem dJ9_max_7cf53_2 : decode cJ9_max_7cf53 2 = .ok (.if_icmp .lt 7, 3) := by decide +kernel
theorem dJ9_max_7cf53_5 : decode cJ9_max_7cf53 5 = .ok (.iload_n 0, 1) := by decide +kernel
theorem dJ9_max_7cf53_6 : decode cJ9_max_7cf53 6 = .ok (.goto 4, 3) := by decide +kernel
theorem dJ9_max_7cf53_9 : decode cJ9_max_7cf53 9 = .ok (.iload_n 1, 1) := by decide +kernel
theorem dJ9_max_7cf53_10 : decode cJ9_max_7cf53 10 = .ok (.ireturn, 1) := by decide +kernel
theorem dJ9_min_7cf53_0 : decode cJ9_min_7cf53 0 = .ok (.iload_n 0, 1) := by decide +kernel
theorem dJ9_min_7cf53_1 : decode cJ9_min_7cf53 1 = .ok (.iload_n 1, 1) := by decide +kernel
theorem dJ9_min_7cf53_2 : decode cJ9_min_7cf53 2 = .ok (.if_icmp .gt 7, 3) := by decide +kernel
theorem dJ9_min_7cf53_5 : decode cJ9_min_7cf53 5 = .ok (.iload_n 0, 1) := by decide +kernel
theorem dJ9_min_7cf53_6 : decode cJ9_min_7cf53 6 = .ok (.goto 4, 3) := by decide +kernel
theorem dJ9_min_7cf53_9 : decode cJ9_min_7cf53 9 = .ok (.iload_n 1, 1) := by decide +kernel
theorem dJ9_min_7cf53_10 : decode cJ9_min_7cf53 10 = .ok (.ireturn, 1) := by decide +kernel
