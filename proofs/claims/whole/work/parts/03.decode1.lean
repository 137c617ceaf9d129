theorem dX3_weighOdds_69 : decode cX3_weighOdds 69 = .ok (.if_icmp .ge 8, 3) := by decide +kernel
theorem dX3_weighOdds_72 : decode cX3_weighOdds 72 = .ok (.iload_n 2, 1) := by decide +kernel
theorem dX3_weighOdds_73 : decode cX3_weighOdds 73 = .ok (.i2l, 1) := by decide +kernel
theorem dX3_weighOdds_74 : decode cX3_weighOdds 74 = .ok (.goto 6, 3) := by decide +kernel
theorem dX3_weighOdds_77 : decode cX3_weighOdds 77 = .ok (.ldc2_w 43, 3) := by decide +kernel
theorem dX3_weighOdds_80 : decode cX3_weighOdds 80 = .ok (.lmul, 1) := by decide +kernel
theorem dX3_weighOdds_81 : decode cX3_weighOdds 81 = .ok (.lstore 7, 2) := by decide +kernel
theorem dX3_weighOdds_83 : decode cX3_weighOdds 83 = .ok (.iinc 9 1, 3) := by decide +kernel
theorem dX3_weighOdds_86 : decode cX3_weighOdds 86 = .ok (.goto (-30), 3) := by decide +kernel
theorem dX3_weighOdds_89 : decode cX3_weighOdds 89 = .ok (.aload_n 0, 1) := by decide +kernel
theorem dX3_weighOdds_90 : decode cX3_weighOdds 90 = .ok (.getfield 9, 3) := by decide +kernel
theorem dX3_weighOdds_93 : decode cX3_weighOdds 93 = .ok (.iload_n 3, 1) := by decide +kernel
theorem dX3_weighOdds_94 : decode cX3_weighOdds 94 = .ok (.iload 4, 2) := by decide +kernel
theorem dX3_weighOdds_96 : decode cX3_weighOdds 96 = .ok (.invokestatic 31, 3) := by decide +kernel
theorem dX3_weighOdds_99 : decode cX3_weighOdds 99 = .ok (.lload 7, 2) := by decide +kernel
theorem dX3_weighOdds_101 : decode cX3_weighOdds 101 = .ok (.lastore, 1) := by decide +kernel
theorem dX3_weighOdds_102 : decode cX3_weighOdds 102 = .ok (.iinc 4 1, 3) := by decide +kernel
theorem dX3_weighOdds_105 : decode cX3_weighOdds 105 = .ok (.goto (-94), 3) := by decide +kernel
theorem dX3_weighOdds_108 : decode cX3_weighOdds 108 = .ok (.iinc 3 1, 3) := by decide +kernel
theorem dX3_weighOdds_111 : decode cX3_weighOdds 111 = .ok (.goto (-109), 3) := by decide +kernel
theorem dX3_weighOdds_114 : decode cX3_weighOdds 114 = .ok (.return_, 1) := by decide +kernel
theorem dX3_weighMissed_0 : decode cX3_weighMissed 0 = .ok (.iconst 0, 1) := by decide +kernel
theorem dX3_weighMissed_1 : decode cX3_weighMissed 1 = .ok (.istore_n 2, 1) := by decide +kernel
theorem dX3_weighMissed_2 : decode cX3_weighMissed 2 = .ok (.iload_n 2, 1) := by decide +kernel
theorem dX3_weighMissed_3 : decode cX3_weighMissed 3 = .ok (.bipush 6, 2) := by decide +kernel
theorem dX3_weighMissed_5 : decode cX3_weighMissed 5 = .ok (.if_icmp .ge 73, 3) := by decide +kernel
theorem dX3_weighMissed_8 : decode cX3_weighMissed 8 = .ok (.iconst 0, 1) := by decide +kernel
theorem dX3_weighMissed_9 : decode cX3_weighMissed 9 = .ok (.istore_n 3, 1) := by decide +kernel
theorem dX3_weighMissed_10 : decode cX3_weighMissed 10 = .ok (.iload_n 3, 1) := by decide +kernel
theorem dX3_weighMissed_11 : decode cX3_weighMissed 11 = .ok (.iconst 4, 1) := by decide +kernel
theorem dX3_weighMissed_12 : decode cX3_weighMissed 12 = .ok (.if_icmp .ge 60, 3) := by decide +kernel
theorem dX3_weighMissed_15 : decode cX3_weighMissed 15 = .ok (.aload_n 1, 1) := by decide +kernel
theorem dX3_weighMissed_16 : decode cX3_weighMissed 16 = .ok (.iload_n 2, 1) := by decide +kernel
theorem dX3_weighMissed_17 : decode cX3_weighMissed 17 = .ok (.iload_n 3, 1) := by decide +kernel
theorem dX3_weighMissed_18 : decode cX3_weighMissed 18 = .ok (.invokevirtual 27, 3) := by decide +kernel
theorem dX3_weighMissed_21 : decode cX3_weighMissed 21 = .ok (.istore 4, 2) := by decide +kernel
theorem dX3_weighMissed_23 : decode cX3_weighMissed 23 = .ok (.ldc2_w 45, 3) := by decide +kernel
theorem dX3_weighMissed_26 : decode cX3_weighMissed 26 = .ok (.iload 4, 2) := by decide +kernel
theorem dX3_weighMissed_28 : decode cX3_weighMissed 28 = .ok (.invokestatic 34, 3) := by decide +kernel
theorem dX3_weighMissed_31 : decode cX3_weighMissed 31 = .ok (.i2l, 1) := by decide +kernel
theorem dX3_weighMissed_32 : decode cX3_weighMissed 32 = .ok (.lmul, 1) := by decide +kernel
theorem dX3_weighMissed_33 : decode cX3_weighMissed 33 = .ok (.iload 4, 2) := by decide +kernel
theorem dX3_weighMissed_35 : decode cX3_weighMissed 35 = .ok (.i2l, 1) := by decide +kernel
theorem dX3_weighMissed_36 : decode cX3_weighMissed 36 = .ok (.ladd, 1) := by decide +kernel
theorem dX3_weighMissed_37 : decode cX3_weighMissed 37 = .ok (.lstore 5, 2) := by decide +kernel
theorem dX3_weighMissed_39 : decode cX3_weighMissed 39 = .ok (.aload_n 0, 1) := by decide +kernel
theorem dX3_weighMissed_40 : decode cX3_weighMissed 40 = .ok (.getfield 9, 3) := by decide +kernel
theorem dX3_weighMissed_43 : decode cX3_weighMissed 43 = .ok (.iload_n 2, 1) := by decide +kernel
theorem dX3_weighMissed_44 : decode cX3_weighMissed 44 = .ok (.iload_n 3, 1) := by decide +kernel
theorem dX3_weighMissed_45 : decode cX3_weighMissed 45 = .ok (.invokestatic 31, 3) := by decide +kernel
theorem dX3_weighMissed_48 : decode cX3_weighMissed 48 = .ok (.aload_n 1, 1) := by decide +kernel
theorem dX3_weighMissed_49 : decode cX3_weighMissed 49 = .ok (.iload_n 2, 1) := by decide +kernel
theorem dX3_weighMissed_50 : decode cX3_weighMissed 50 = .ok (.iload_n 3, 1) := by decide +kernel
theorem dX3_weighMissed_51 : decode cX3_weighMissed 51 = .ok (.invokevirtual 21, 3) := by decide +kernel
theorem dX3_weighMissed_54 : decode cX3_weighMissed 54 = .ok (.ifCond .eq 8, 3) := by decide +kernel
theorem dX3_weighMissed_57 : decode cX3_weighMissed 57 = .ok (.lload 5, 2) := by decide +kernel
theorem dX3_weighMissed_59 : decode cX3_weighMissed 59 = .ok (.goto 6, 3) := by decide +kernel
theorem dX3_weighMissed_62 : decode cX3_weighMissed 62 = .ok (.ldc2_w 47, 3) := by decide +kernel
theorem dX3_weighMissed_65 : decode cX3_weighMissed 65 = .ok (.lastore, 1) := by decide +kernel
theorem dX3_weighMissed_66 : decode cX3_weighMissed 66 = .ok (.iinc 3 1, 3) := by decide +kernel
theorem dX3_weighMissed_69 : decode cX3_weighMissed 69 = .ok (.goto (-59), 3) := by decide +kernel
theorem dX3_weighMissed_72 : decode cX3_weighMissed 72 = .ok (.iinc 2 1, 3) := by decide +kernel
theorem dX3_weighMissed_75 : decode cX3_weighMissed 75 = .ok (.goto (-73), 3) := by decide +kernel
theorem dX3_weighMissed_78 : decode cX3_weighMissed 78 = .ok (.return_, 1) := by decide +kernel
theorem dX3_sum_0 : decode cX3_sum 0 = .ok (.iconst 0, 1) := by decide +kernel
theorem dX3_sum_1 : decode cX3_sum 1 = .ok (.istore_n 2, 1) := by decide +kernel
theorem dX3_sum_2 : decode cX3_sum 2 = .ok (.iload_n 2, 1) := by decide +kernel
theorem dX3_sum_3 : decode cX3_sum 3 = .ok (.iconst 4, 1) := by decide +kernel
theorem dX3_sum_4 : decode cX3_sum 4 = .ok (.if_icmp .ge 40, 3) := by decide +kernel
theorem dX3_sum_7 : decode cX3_sum 7 = .ok (.aload_n 0, 1) := by decide +kernel
theorem dX3_sum_8 : decode cX3_sum 8 = .ok (.getfield 15, 3) := by decide +kernel
theorem dX3_sum_11 : decode cX3_sum 11 = .ok (.iconst 0, 1) := by decide +kernel
theorem dX3_sum_12 : decode cX3_sum 12 = .ok (.iload_n 2, 1) := by decide +kernel
theorem dX3_sum_13 : decode cX3_sum 13 = .ok (.invokestatic 31, 3) := by decide +kernel
theorem dX3_sum_16 : decode cX3_sum 16 = .ok (.aload_n 0, 1) := by decide +kernel
theorem dX3_sum_17 : decode cX3_sum 17 = .ok (.getfield 9, 3) := by decide +kernel
theorem dX3_sum_20 : decode cX3_sum 20 = .ok (.iconst 0, 1) := by decide +kernel
theorem dX3_sum_21 : decode cX3_sum 21 = .ok (.iload_n 2, 1) := by decide +kernel
theorem dX3_sum_22 : decode cX3_sum 22 = .ok (.invokestatic 31, 3) := by decide +kernel
theorem dX3_sum_25 : decode cX3_sum 25 = .ok (.laload, 1) := by decide +kernel
theorem dX3_sum_26 : decode cX3_sum 26 = .ok (.lastore, 1) := by decide +kernel
theorem dX3_sum_27 : decode cX3_sum 27 = .ok (.aload_n 0, 1) := by decide +kernel
theorem dX3_sum_28 : decode cX3_sum 28 = .ok (.getfield 18, 3) := by decide +kernel
theorem dX3_sum_31 : decode cX3_sum 31 = .ok (.iconst 5, 1) := by decide +kernel
theorem dX3_sum_32 : decode cX3_sum 32 = .ok (.iload_n 2, 1) := by decide +kernel
theorem dX3_sum_33 : decode cX3_sum 33 = .ok (.invokestatic 31, 3) := by decide +kernel
theorem dX3_sum_36 : decode cX3_sum 36 = .ok (.lconst 1, 1) := by decide +kernel
theorem dX3_sum_37 : decode cX3_sum 37 = .ok (.lastore, 1) := by decide +kernel
theorem dX3_sum_38 : decode cX3_sum 38 = .ok (.iinc 2 1, 3) := by decide +kernel
theorem dX3_sum_41 : decode cX3_sum 41 = .ok (.goto (-39), 3) := by decide +kernel
theorem dX3_sum_44 : decode cX3_sum 44 = .ok (.iconst 1, 1) := by decide +kernel
theorem dX3_sum_45 : decode cX3_sum 45 = .ok (.istore_n 2, 1) := by decide +kernel
theorem dX3_sum_46 : decode cX3_sum 46 = .ok (.iload_n 2, 1) := by decide +kernel
theorem dX3_sum_47 : decode cX3_sum 47 = .ok (.bipush 6, 2) := by decide +kernel
theorem dX3_sum_49 : decode cX3_sum 49 = .ok (.if_icmp .ge 50, 3) := by decide +kernel
theorem dX3_sum_52 : decode cX3_sum 52 = .ok (.iconst 0, 1) := by decide +kernel
theorem dX3_sum_53 : decode cX3_sum 53 = .ok (.istore_n 3, 1) := by decide +kernel
theorem dX3_sum_54 : decode cX3_sum 54 = .ok (.iload_n 3, 1) := by decide +kernel
theorem dX3_sum_55 : decode cX3_sum 55 = .ok (.iconst 4, 1) := by decide +kernel
theorem dX3_sum_56 : decode cX3_sum 56 = .ok (.if_icmp .ge 37, 3) := by decide +kernel
theorem dX3_sum_59 : decode cX3_sum 59 = .ok (.aload_n 0, 1) := by decide +kernel
theorem dX3_sum_60 : decode cX3_sum 60 = .ok (.getfield 15, 3) := by decide +kernel
theorem dX3_sum_63 : decode cX3_sum 63 = .ok (.iload_n 2, 1) := by decide +kernel
theorem dX3_sum_64 : decode cX3_sum 64 = .ok (.iload_n 3, 1) := by decide +kernel
theorem dX3_sum_65 : decode cX3_sum 65 = .ok (.invokestatic 31, 3) := by decide +kernel
theorem dX3_sum_68 : decode cX3_sum 68 = .ok (.aload_n 0, 1) := by decide +kernel
theorem dX3_sum_69 : decode cX3_sum 69 = .ok (.getfield 9, 3) := by decide +kernel
theorem dX3_sum_72 : decode cX3_sum 72 = .ok (.iload_n 2, 1) := by decide +kernel
theorem dX3_sum_73 : decode cX3_sum 73 = .ok (.iload_n 3, 1) := by decide +kernel
theorem dX3_sum_74 : decode cX3_sum 74 = .ok (.invokestatic 31, 3) := by decide +kernel
theorem dX3_sum_77 : decode cX3_sum 77 = .ok (.laload, 1) := by decide +kernel
theorem dX3_sum_78 : decode cX3_sum 78 = .ok (.aload_n 0, 1) := by decide +kernel
theorem dX3_sum_79 : decode cX3_sum 79 = .ok (.aload_n 1, 1) := by decide +kernel
theorem dX3_sum_80 : decode cX3_sum 80 = .ok (.iload_n 2, 1) := by decide +kernel
theorem dX3_sum_81 : decode cX3_sum 81 = .ok (.iload_n 3, 1) := by decide +kernel
theorem dX3_sum_82 : decode cX3_sum 82 = .ok (.invokevirtual 49, 3) := by decide +kernel
theorem dX3_sum_85 : decode cX3_sum 85 = .ok (.lmul, 1) := by decide +kernel
theorem dX3_sum_86 : decode cX3_sum 86 = .ok (.lastore, 1) := by decide +kernel
theorem dX3_sum_87 : decode cX3_sum 87 = .ok (.iinc 3 1, 3) := by decide +kernel
theorem dX3_sum_90 : decode cX3_sum 90 = .ok (.goto (-36), 3) := by decide +kernel
theorem dX3_sum_93 : decode cX3_sum 93 = .ok (.iinc 2 1, 3) := by decide +kernel
theorem dX3_sum_96 : decode cX3_sum 96 = .ok (.goto (-50), 3) := by decide +kernel
theorem dX3_sum_99 : decode cX3_sum 99 = .ok (.iconst 4, 1) := by decide +kernel
theorem dX3_sum_100 : decode cX3_sum 100 = .ok (.istore_n 2, 1) := by decide +kernel
theorem dX3_sum_101 : decode cX3_sum 101 = .ok (.iload_n 2, 1) := by decide +kernel
theorem dX3_sum_102 : decode cX3_sum 102 = .ok (.ifCond .lt 39, 3) := by decide +kernel
theorem dX3_sum_105 : decode cX3_sum 105 = .ok (.iconst 0, 1) := by decide +kernel
theorem dX3_sum_106 : decode cX3_sum 106 = .ok (.istore_n 3, 1) := by decide +kernel
theorem dX3_sum_107 : decode cX3_sum 107 = .ok (.iload_n 3, 1) := by decide +kernel
theorem dX3_sum_108 : decode cX3_sum 108 = .ok (.iconst 4, 1) := by decide +kernel
theorem dX3_sum_109 : decode cX3_sum 109 = .ok (.if_icmp .ge 26, 3) := by decide +kernel
theorem dX3_sum_112 : decode cX3_sum 112 = .ok (.aload_n 0, 1) := by decide +kernel
theorem dX3_sum_113 : decode cX3_sum 113 = .ok (.getfield 18, 3) := by decide +kernel
theorem dX3_sum_116 : decode cX3_sum 116 = .ok (.iload_n 2, 1) := by decide +kernel
theorem dX3_sum_117 : decode cX3_sum 117 = .ok (.iload_n 3, 1) := by decide +kernel
theorem dX3_sum_118 : decode cX3_sum 118 = .ok (.invokestatic 31, 3) := by decide +kernel
theorem dX3_sum_121 : decode cX3_sum 121 = .ok (.aload_n 0, 1) := by decide +kernel
theorem dX3_sum_122 : decode cX3_sum 122 = .ok (.aload_n 1, 1) := by decide +kernel
theorem dX3_sum_123 : decode cX3_sum 123 = .ok (.iload_n 2, 1) := by decide +kernel
theorem dX3_sum_124 : decode cX3_sum 124 = .ok (.iload_n 3, 1) := by decide +kernel
theorem dX3_sum_125 : decode cX3_sum 125 = .ok (.invokevirtual 53, 3) := by decide +kernel
theorem dX3_sum_128 : decode cX3_sum 128 = .ok (.lastore, 1) := by decide +kernel
theorem dX3_sum_129 : decode cX3_sum 129 = .ok (.iinc 3 1, 3) := by decide +kernel
theorem dX3_sum_132 : decode cX3_sum 132 = .ok (.goto (-25), 3) := by decide +kernel
theorem dX3_sum_135 : decode cX3_sum 135 = .ok (.iinc 2 (-1), 3) := by decide +kernel
theorem dX3_sum_138 : decode cX3_sum 138 = .ok (.goto (-37), 3) := by decide +kernel
theorem dX3_sum_141 : decode cX3_sum 141 = .ok (.return_, 1) := by decide +kernel
theorem dX3_sumBefore_0 : decode cX3_sumBefore 0 = .ok (.lconst 0, 1) := by decide +kernel
theorem dX3_sumBefore_1 : decode cX3_sumBefore 1 = .ok (.lstore 4, 2) := by decide +kernel
theorem dX3_sumBefore_3 : decode cX3_sumBefore 3 = .ok (.iconst 0, 1) := by decide +kernel
theorem dX3_sumBefore_4 : decode cX3_sumBefore 4 = .ok (.istore 6, 2) := by decide +kernel
theorem dX3_sumBefore_6 : decode cX3_sumBefore 6 = .ok (.iload 6, 2) := by decide +kernel
theorem dX3_sumBefore_8 : decode cX3_sumBefore 8 = .ok (.iconst 4, 1) := by decide +kernel
theorem dX3_sumBefore_9 : decode cX3_sumBefore 9 = .ok (.if_icmp .ge 37, 3) := by decide +kernel
theorem dX3_sumBefore_12 : decode cX3_sumBefore 12 = .ok (.aload_n 1, 1) := by decide +kernel
theorem dX3_sumBefore_13 : decode cX3_sumBefore 13 = .ok (.iload 6, 2) := by decide +kernel
theorem dX3_sumBefore_15 : decode cX3_sumBefore 15 = .ok (.iload_n 3, 1) := by decide +kernel
theorem dX3_sumBefore_16 : decode cX3_sumBefore 16 = .ok (.invokevirtual 56, 3) := by decide +kernel
theorem dX3_sumBefore_19 : decode cX3_sumBefore 19 = .ok (.ifCond .ne 21, 3) := by decide +kernel
theorem dX3_sumBefore_22 : decode cX3_sumBefore 22 = .ok (.lload 4, 2) := by decide +kernel
theorem dX3_sumBefore_24 : decode cX3_sumBefore 24 = .ok (.aload_n 0, 1) := by decide +kernel
theorem dX3_sumBefore_25 : decode cX3_sumBefore 25 = .ok (.getfield 15, 3) := by decide +kernel
theorem dX3_sumBefore_28 : decode cX3_sumBefore 28 = .ok (.iload_n 2, 1) := by decide +kernel
theorem dX3_sumBefore_29 : decode cX3_sumBefore 29 = .ok (.iconst 1, 1) := by decide +kernel
theorem dX3_sumBefore_30 : decode cX3_sumBefore 30 = .ok (.isub, 1) := by decide +kernel
theorem dX3_sumBefore_31 : decode cX3_sumBefore 31 = .ok (.iload 6, 2) := by decide +kernel
theorem dX3_sumBefore_33 : decode cX3_sumBefore 33 = .ok (.invokestatic 31, 3) := by decide +kernel
theorem dX3_sumBefore_36 : decode cX3_sumBefore 36 = .ok (.laload, 1) := by decide +kernel
theorem dX3_sumBefore_37 : decode cX3_sumBefore 37 = .ok (.ladd, 1) := by decide +kernel
theorem dX3_sumBefore_38 : decode cX3_sumBefore 38 = .ok (.lstore 4, 2) := by decide +kernel
theorem dX3_sumBefore_40 : decode cX3_sumBefore 40 = .ok (.iinc 6 1, 3) := by decide +kernel
theorem dX3_sumBefore_43 : decode cX3_sumBefore 43 = .ok (.goto (-37), 3) := by decide +kernel
theorem dX3_sumBefore_46 : decode cX3_sumBefore 46 = .ok (.lload 4, 2) := by decide +kernel
theorem dX3_sumBefore_48 : decode cX3_sumBefore 48 = .ok (.lreturn, 1) := by decide +kernel
theorem dX3_sumBehind_0 : decode cX3_sumBehind 0 = .ok (.lconst 0, 1) := by decide +kernel
theorem dX3_sumBehind_1 : decode cX3_sumBehind 1 = .ok (.lstore 4, 2) := by decide +kernel
theorem dX3_sumBehind_3 : decode cX3_sumBehind 3 = .ok (.iconst 0, 1) := by decide +kernel
theorem dX3_sumBehind_4 : decode cX3_sumBehind 4 = .ok (.istore 6, 2) := by decide +kernel
theorem dX3_sumBehind_6 : decode cX3_sumBehind 6 = .ok (.iload 6, 2) := by decide +kernel
theorem dX3_sumBehind_8 : decode cX3_sumBehind 8 = .ok (.iconst 4, 1) := by decide +kernel
theorem dX3_sumBehind_9 : decode cX3_sumBehind 9 = .ok (.if_icmp .ge 51, 3) := by decide +kernel
theorem dX3_sumBehind_12 : decode cX3_sumBehind 12 = .ok (.aload_n 1, 1) := by decide +kernel
theorem dX3_sumBehind_13 : decode cX3_sumBehind 13 = .ok (.iload_n 3, 1) := by decide +kernel
theorem dX3_sumBehind_14 : decode cX3_sumBehind 14 = .ok (.iload 6, 2) := by decide +kernel
theorem dX3_sumBehind_16 : decode cX3_sumBehind 16 = .ok (.invokevirtual 56, 3) := by decide +kernel
theorem dX3_sumBehind_19 : decode cX3_sumBehind 19 = .ok (.ifCond .ne 35, 3) := by decide +kernel
theorem dX3_sumBehind_22 : decode cX3_sumBehind 22 = .ok (.lload 4, 2) := by decide +kernel
theorem dX3_sumBehind_24 : decode cX3_sumBehind 24 = .ok (.aload_n 0, 1) := by decide +kernel
theorem dX3_sumBehind_25 : decode cX3_sumBehind 25 = .ok (.getfield 9, 3) := by decide +kernel
theorem dX3_sumBehind_28 : decode cX3_sumBehind 28 = .ok (.iload_n 2, 1) := by decide +kernel
theorem dX3_sumBehind_29 : decode cX3_sumBehind 29 = .ok (.iconst 1, 1) := by decide +kernel
theorem dX3_sumBehind_30 : decode cX3_sumBehind 30 = .ok (.iadd, 1) := by decide +kernel
theorem dX3_sumBehind_31 : decode cX3_sumBehind 31 = .ok (.iload 6, 2) := by decide +kernel
theorem dX3_sumBehind_33 : decode cX3_sumBehind 33 = .ok (.invokestatic 31, 3) := by decide +kernel
theorem dX3_sumBehind_36 : decode cX3_sumBehind 36 = .ok (.laload, 1) := by decide +kernel
theorem dX3_sumBehind_37 : decode cX3_sumBehind 37 = .ok (.aload_n 0, 1) := by decide +kernel
theorem dX3_sumBehind_38 : decode cX3_sumBehind 38 = .ok (.getfield 18, 3) := by decide +kernel
theorem dX3_sumBehind_41 : decode cX3_sumBehind 41 = .ok (.iload_n 2, 1) := by decide +kernel
theorem dX3_sumBehind_42 : decode cX3_sumBehind 42 = .ok (.iconst 1, 1) := by decide +kernel
theorem dX3_sumBehind_43 : decode cX3_sumBehind 43 = .ok (.iadd, 1) := by decide +kernel
theorem dX3_sumBehind_44 : decode cX3_sumBehind 44 = .ok (.iload 6, 2) := by decide +kernel
theorem dX3_sumBehind_46 : decode cX3_sumBehind 46 = .ok (.invokestatic 31, 3) := by decide +kernel
theorem dX3_sumBehind_49 : decode cX3_sumBehind 49 = .ok (.laload, 1) := by decide +kernel
theorem dX3_sumBehind_50 : decode cX3_sumBehind 50 = .ok (.lmul, 1) := by decide +kernel
theorem dX3_sumBehind_51 : decode cX3_sumBehind 51 = .ok (.ladd, 1) := by decide +kernel
theorem dX3_sumBehind_52 : decode cX3_sumBehind 52 = .ok (.lstore 4, 2) := by decide +kernel
theorem dX3_sumBehind_54 : decode cX3_sumBehind 54 = .ok (.iinc 6 1, 3) := by decide +kernel
theorem dX3_sumBehind_57 : decode cX3_sumBehind 57 = .ok (.goto (-51), 3) := by decide +kernel
theorem dX3_sumBehind_60 : decode cX3_sumBehind 60 = .ok (.lload 4, 2) := by decide +kernel
theorem dX3_sumBehind_62 : decode cX3_sumBehind 62 = .ok (.lreturn, 1) := by decide +kernel
theorem dX3_all_0 : decode cX3_all 0 = .ok (.lconst 0, 1) := by decide +kernel
theorem dX3_all_1 : decode cX3_all 1 = .ok (.lstore_n 1, 1) := by decide +kernel
theorem dX3_all_2 : decode cX3_all 2 = .ok (.iconst 0, 1) := by decide +kernel
theorem dX3_all_3 : decode cX3_all 3 = .ok (.istore_n 3, 1) := by decide +kernel
theorem dX3_all_4 : decode cX3_all 4 = .ok (.iload_n 3, 1) := by decide +kernel
theorem dX3_all_5 : decode cX3_all 5 = .ok (.iconst 4, 1) := by decide +kernel
theorem dX3_all_6 : decode cX3_all 6 = .ok (.if_icmp .ge 22, 3) := by decide +kernel
theorem dX3_all_9 : decode cX3_all 9 = .ok (.lload_n 1, 1) := by decide +kernel
theorem dX3_all_10 : decode cX3_all 10 = .ok (.aload_n 0, 1) := by decide +kernel
theorem dX3_all_11 : decode cX3_all 11 = .ok (.getfield 15, 3) := by decide +kernel
theorem dX3_all_14 : decode cX3_all 14 = .ok (.iconst 5, 1) := by decide +kernel
theorem dX3_all_15 : decode cX3_all 15 = .ok (.iload_n 3, 1) := by decide +kernel
theorem dX3_all_16 : decode cX3_all 16 = .ok (.invokestatic 31, 3) := by decide +kernel
theorem dX3_all_19 : decode cX3_all 19 = .ok (.laload, 1) := by decide +kernel
theorem dX3_all_20 : decode cX3_all 20 = .ok (.ladd, 1) := by decide +kernel
theorem dX3_all_21 : decode cX3_all 21 = .ok (.lstore_n 1, 1) := by decide +kernel
theorem dX3_all_22 : decode cX3_all 22 = .ok (.iinc 3 1, 3) := by decide +kernel
theorem dX3_all_25 : decode cX3_all 25 = .ok (.goto (-21), 3) := by decide +kernel
theorem dX3_all_28 : decode cX3_all 28 = .ok (.lload_n 1, 1) := by decide +kernel
theorem dX3_all_29 : decode cX3_all 29 = .ok (.lreturn, 1) := by decide +kernel
theorem dX3_having_0 : decode cX3_having 0 = .ok (.aload_n 0, 1) := by decide +kernel
theorem dX3_having_1 : decode cX3_having 1 = .ok (.getfield 15, 3) := by decide +kernel
theorem dX3_having_4 : decode cX3_having 4 = .ok (.iload_n 1, 1) := by decide +kernel
theorem dX3_having_5 : decode cX3_having 5 = .ok (.iload_n 2, 1) := by decide +kernel
theorem dX3_having_6 : decode cX3_having 6 = .ok (.invokestatic 31, 3) := by decide +kernel
theorem dX3_having_9 : decode cX3_having 9 = .ok (.laload, 1) := by decide +kernel
theorem dX3_having_10 : decode cX3_having 10 = .ok (.aload_n 0, 1) := by decide +kernel
theorem dX3_having_11 : decode cX3_having 11 = .ok (.getfield 18, 3) := by decide +kernel
theorem dX3_having_14 : decode cX3_having 14 = .ok (.iload_n 1, 1) := by decide +kernel
theorem dX3_having_15 : decode cX3_having 15 = .ok (.iload_n 2, 1) := by decide +kernel
theorem dX3_having_16 : decode cX3_having 16 = .ok (.invokestatic 31, 3) := by decide +kernel
theorem dX3_having_19 : decode cX3_having 19 = .ok (.laload, 1) := by decide +kernel
theorem dX3_having_20 : decode cX3_having 20 = .ok (.lmul, 1) := by decide +kernel
theorem dX3_having_21 : decode cX3_having 21 = .ok (.lreturn, 1) := by decide +kernel
theorem dX3_eventsOn_0 : decode cX3_eventsOn 0 = .ok (.iconst 0, 1) := by decide +kernel
theorem dX3_eventsOn_1 : decode cX3_eventsOn 1 = .ok (.istore_n 2, 1) := by decide +kernel
theorem dX3_eventsOn_2 : decode cX3_eventsOn 2 = .ok (.iconst 0, 1) := by decide +kernel
theorem dX3_eventsOn_3 : decode cX3_eventsOn 3 = .ok (.istore_n 3, 1) := by decide +kernel
theorem dX3_eventsOn_4 : decode cX3_eventsOn 4 = .ok (.iload_n 3, 1) := by decide +kernel
theorem dX3_eventsOn_5 : decode cX3_eventsOn 5 = .ok (.iconst 4, 1) := by decide +kernel
theorem dX3_eventsOn_6 : decode cX3_eventsOn 6 = .ok (.if_icmp .ge 26, 3) := by decide +kernel
theorem dX3_eventsOn_9 : decode cX3_eventsOn 9 = .ok (.aload_n 0, 1) := by decide +kernel
theorem dX3_eventsOn_10 : decode cX3_eventsOn 10 = .ok (.iload_n 1, 1) := by decide +kernel
theorem dX3_eventsOn_11 : decode cX3_eventsOn 11 = .ok (.iload_n 3, 1) := by decide +kernel
theorem dX3_eventsOn_12 : decode cX3_eventsOn 12 = .ok (.invokevirtual 59, 3) := by decide +kernel
theorem dX3_eventsOn_15 : decode cX3_eventsOn 15 = .ok (.lconst 0, 1) := by decide +kernel
theorem dX3_eventsOn_16 : decode cX3_eventsOn 16 = .ok (.lcmp, 1) := by decide +kernel
theorem dX3_eventsOn_17 : decode cX3_eventsOn 17 = .ok (.ifCond .le 9, 3) := by decide +kernel
theorem dX3_eventsOn_20 : decode cX3_eventsOn 20 = .ok (.iload_n 2, 1) := by decide +kernel
theorem dX3_eventsOn_21 : decode cX3_eventsOn 21 = .ok (.iconst 1, 1) := by decide +kernel
theorem dX3_eventsOn_22 : decode cX3_eventsOn 22 = .ok (.iload_n 3, 1) := by decide +kernel
theorem dX3_eventsOn_23 : decode cX3_eventsOn 23 = .ok (.ishl, 1) := by decide +kernel
theorem dX3_eventsOn_24 : decode cX3_eventsOn 24 = .ok (.ior, 1) := by decide +kernel
theorem dX3_eventsOn_25 : decode cX3_eventsOn 25 = .ok (.istore_n 2, 1) := by decide +kernel
theorem dX3_eventsOn_26 : decode cX3_eventsOn 26 = .ok (.iinc 3 1, 3) := by decide +kernel
theorem dX3_eventsOn_29 : decode cX3_eventsOn 29 = .ok (.goto (-25), 3) := by decide +kernel
theorem dX3_eventsOn_32 : decode cX3_eventsOn 32 = .ok (.iload_n 2, 1) := by decide +kernel
theorem dX3_eventsOn_33 : decode cX3_eventsOn 33 = .ok (.ireturn, 1) := by decide +kernel
theorem dX3_goesOn_0 : decode cX3_goesOn 0 = .ok (.iload_n 2, 1) := by decide +kernel
theorem dX3_goesOn_1 : decode cX3_goesOn 1 = .ok (.ifCond .eq 18, 3) := by decide +kernel
theorem dX3_goesOn_4 : decode cX3_goesOn 4 = .ok (.iload_n 3, 1) := by decide +kernel
theorem dX3_goesOn_5 : decode cX3_goesOn 5 = .ok (.iconst (-1), 1) := by decide +kernel
theorem dX3_goesOn_6 : decode cX3_goesOn 6 = .ok (.if_icmp .eq 13, 3) := by decide +kernel
theorem dX3_goesOn_9 : decode cX3_goesOn 9 = .ok (.aload_n 1, 1) := by decide +kernel
theorem dX3_goesOn_10 : decode cX3_goesOn 10 = .ok (.iload_n 3, 1) := by decide +kernel
theorem dX3_goesOn_11 : decode cX3_goesOn 11 = .ok (.iload 4, 2) := by decide +kernel
theorem dX3_goesOn_13 : decode cX3_goesOn 13 = .ok (.invokevirtual 56, 3) := by decide +kernel
theorem dX3_goesOn_16 : decode cX3_goesOn 16 = .ok (.ifCond .ne 7, 3) := by decide +kernel
theorem dX3_goesOn_19 : decode cX3_goesOn 19 = .ok (.iconst 1, 1) := by decide +kernel
theorem dX3_goesOn_20 : decode cX3_goesOn 20 = .ok (.goto 4, 3) := by decide +kernel
theorem dX3_goesOn_23 : decode cX3_goesOn 23 = .ok (.iconst 0, 1) := by decide +kernel
theorem dX3_goesOn_24 : decode cX3_goesOn 24 = .ok (.istore 5, 2) := by decide +kernel
theorem dX3_goesOn_26 : decode cX3_goesOn 26 = .ok (.iload 5, 2) := by decide +kernel
theorem dX3_goesOn_28 : decode cX3_goesOn 28 = .ok (.ifCond .eq 23, 3) := by decide +kernel
theorem dX3_goesOn_31 : decode cX3_goesOn 31 = .ok (.aload_n 0, 1) := by decide +kernel
theorem dX3_goesOn_32 : decode cX3_goesOn 32 = .ok (.getfield 9, 3) := by decide +kernel
theorem dX3_goesOn_35 : decode cX3_goesOn 35 = .ok (.iload_n 2, 1) := by decide +kernel
theorem dX3_goesOn_36 : decode cX3_goesOn 36 = .ok (.iload 4, 2) := by decide +kernel
theorem dX3_goesOn_38 : decode cX3_goesOn 38 = .ok (.invokestatic 31, 3) := by decide +kernel
theorem dX3_goesOn_41 : decode cX3_goesOn 41 = .ok (.laload, 1) := by decide +kernel
theorem dX3_goesOn_42 : decode cX3_goesOn 42 = .ok (.lconst 0, 1) := by decide +kernel
theorem dX3_goesOn_43 : decode cX3_goesOn 43 = .ok (.lcmp, 1) := by decide +kernel
theorem dX3_goesOn_44 : decode cX3_goesOn 44 = .ok (.ifCond .le 7, 3) := by decide +kernel
theorem dX3_goesOn_47 : decode cX3_goesOn 47 = .ok (.iconst 1, 1) := by decide +kernel
theorem dX3_goesOn_48 : decode cX3_goesOn 48 = .ok (.goto 4, 3) := by decide +kernel
theorem dX3_goesOn_51 : decode cX3_goesOn 51 = .ok (.iconst 0, 1) := by decide +kernel
theorem dX3_goesOn_52 : decode cX3_goesOn 52 = .ok (.ireturn, 1) := by decide +kernel
theorem dX3_leastSum_0 : decode cX3_leastSum 0 = .ok (.iconst 0, 1) := by decide +kernel
theorem dX3_leastSum_1 : decode cX3_leastSum 1 = .ok (.istore_n 2, 1) := by decide +kernel
theorem dX3_leastSum_2 : decode cX3_leastSum 2 = .ok (.iload_n 2, 1) := by decide +kernel
theorem dX3_leastSum_3 : decode cX3_leastSum 3 = .ok (.iconst 4, 1) := by decide +kernel
theorem dX3_leastSum_4 : decode cX3_leastSum 4 = .ok (.if_icmp .ge 29, 3) := by decide +kernel
theorem dX3_leastSum_7 : decode cX3_leastSum 7 = .ok (.aload_n 0, 1) := by decide +kernel
theorem dX3_leastSum_8 : decode cX3_leastSum 8 = .ok (.getfield 15, 3) := by decide +kernel
theorem dX3_leastSum_11 : decode cX3_leastSum 11 = .ok (.iconst 0, 1) := by decide +kernel
theorem dX3_leastSum_12 : decode cX3_leastSum 12 = .ok (.iload_n 2, 1) := by decide +kernel
theorem dX3_leastSum_13 : decode cX3_leastSum 13 = .ok (.invokestatic 31, 3) := by decide +kernel
theorem dX3_leastSum_16 : decode cX3_leastSum 16 = .ok (.aload_n 0, 1) := by decide +kernel
theorem dX3_leastSum_17 : decode cX3_leastSum 17 = .ok (.getfield 9, 3) := by decide +kernel
theorem dX3_leastSum_20 : decode cX3_leastSum 20 = .ok (.iconst 0, 1) := by decide +kernel
theorem dX3_leastSum_21 : decode cX3_leastSum 21 = .ok (.iload_n 2, 1) := by decide +kernel
theorem dX3_leastSum_22 : decode cX3_leastSum 22 = .ok (.invokestatic 31, 3) := by decide +kernel
theorem dX3_leastSum_25 : decode cX3_leastSum 25 = .ok (.laload, 1) := by decide +kernel
theorem dX3_leastSum_26 : decode cX3_leastSum 26 = .ok (.lastore, 1) := by decide +kernel
theorem dX3_leastSum_27 : decode cX3_leastSum 27 = .ok (.iinc 2 1, 3) := by decide +kernel
theorem dX3_leastSum_30 : decode cX3_leastSum 30 = .ok (.goto (-28), 3) := by decide +kernel
theorem dX3_leastSum_33 : decode cX3_leastSum 33 = .ok (.iconst 1, 1) := by decide +kernel
theorem dX3_leastSum_34 : decode cX3_leastSum 34 = .ok (.istore_n 2, 1) := by decide +kernel
theorem dX3_leastSum_35 : decode cX3_leastSum 35 = .ok (.iload_n 2, 1) := by decide +kernel
theorem dX3_leastSum_36 : decode cX3_leastSum 36 = .ok (.bipush 6, 2) := by decide +kernel
theorem dX3_leastSum_38 : decode cX3_leastSum 38 = .ok (.if_icmp .ge 50, 3) := by decide +kernel
theorem dX3_leastSum_41 : decode cX3_leastSum 41 = .ok (.iconst 0, 1) := by decide +kernel
theorem dX3_leastSum_42 : decode cX3_leastSum 42 = .ok (.istore_n 3, 1) := by decide +kernel
theorem dX3_leastSum_43 : decode cX3_leastSum 43 = .ok (.iload_n 3, 1) := by decide +kernel
theorem dX3_leastSum_44 : decode cX3_leastSum 44 = .ok (.iconst 4, 1) := by decide +kernel
theorem dX3_leastSum_45 : decode cX3_leastSum 45 = .ok (.if_icmp .ge 37, 3) := by decide +kernel
theorem dX3_leastSum_48 : decode cX3_leastSum 48 = .ok (.aload_n 0, 1) := by decide +kernel
theorem dX3_leastSum_49 : decode cX3_leastSum 49 = .ok (.getfield 15, 3) := by decide +kernel
theorem dX3_leastSum_52 : decode cX3_leastSum 52 = .ok (.iload_n 2, 1) := by decide +kernel
theorem dX3_leastSum_53 : decode cX3_leastSum 53 = .ok (.iload_n 3, 1) := by decide +kernel
theorem dX3_leastSum_54 : decode cX3_leastSum 54 = .ok (.invokestatic 31, 3) := by decide +kernel
theorem dX3_leastSum_57 : decode cX3_leastSum 57 = .ok (.aload_n 0, 1) := by decide +kernel
theorem dX3_leastSum_58 : decode cX3_leastSum 58 = .ok (.getfield 9, 3) := by decide +kernel
theorem dX3_leastSum_61 : decode cX3_leastSum 61 = .ok (.iload_n 2, 1) := by decide +kernel
theorem dX3_leastSum_62 : decode cX3_leastSum 62 = .ok (.iload_n 3, 1) := by decide +kernel
theorem dX3_leastSum_63 : decode cX3_leastSum 63 = .ok (.invokestatic 31, 3) := by decide +kernel
theorem dX3_leastSum_66 : decode cX3_leastSum 66 = .ok (.laload, 1) := by decide +kernel
theorem dX3_leastSum_67 : decode cX3_leastSum 67 = .ok (.aload_n 0, 1) := by decide +kernel
theorem dX3_leastSum_68 : decode cX3_leastSum 68 = .ok (.aload_n 1, 1) := by decide +kernel
theorem dX3_leastSum_69 : decode cX3_leastSum 69 = .ok (.iload_n 2, 1) := by decide +kernel
theorem dX3_leastSum_70 : decode cX3_leastSum 70 = .ok (.iload_n 3, 1) := by decide +kernel
theorem dX3_leastSum_71 : decode cX3_leastSum 71 = .ok (.invokevirtual 63, 3) := by decide +kernel
theorem dX3_leastSum_74 : decode cX3_leastSum 74 = .ok (.ladd, 1) := by decide +kernel
theorem dX3_leastSum_75 : decode cX3_leastSum 75 = .ok (.lastore, 1) := by decide +kernel
theorem dX3_leastSum_76 : decode cX3_leastSum 76 = .ok (.iinc 3 1, 3) := by decide +kernel
theorem dX3_leastSum_79 : decode cX3_leastSum 79 = .ok (.goto (-36), 3) := by decide +kernel
theorem dX3_leastSum_82 : decode cX3_leastSum 82 = .ok (.iinc 2 1, 3) := by decide +kernel
theorem dX3_leastSum_85 : decode cX3_leastSum 85 = .ok (.goto (-50), 3) := by decide +kernel
theorem dX3_leastSum_88 : decode cX3_leastSum 88 = .ok (.ldc2_w 47, 3) := by decide +kernel
theorem dX3_leastSum_91 : decode cX3_leastSum 91 = .ok (.lstore_n 2, 1) := by decide +kernel
theorem dX3_leastSum_92 : decode cX3_leastSum 92 = .ok (.iconst 0, 1) := by decide +kernel
theorem dX3_leastSum_93 : decode cX3_leastSum 93 = .ok (.istore 4, 2) := by decide +kernel
theorem dX3_leastSum_95 : decode cX3_leastSum 95 = .ok (.iload 4, 2) := by decide +kernel
theorem dX3_leastSum_97 : decode cX3_leastSum 97 = .ok (.iconst 4, 1) := by decide +kernel
theorem dX3_leastSum_98 : decode cX3_leastSum 98 = .ok (.if_icmp .ge 25, 3) := by decide +kernel
theorem dX3_leastSum_101 : decode cX3_leastSum 101 = .ok (.lload_n 2, 1) := by decide +kernel
theorem dX3_leastSum_102 : decode cX3_leastSum 102 = .ok (.aload_n 0, 1) := by decide +kernel
theorem dX3_leastSum_103 : decode cX3_leastSum 103 = .ok (.getfield 15, 3) := by decide +kernel
theorem dX3_leastSum_106 : decode cX3_leastSum 106 = .ok (.iconst 5, 1) := by decide +kernel
theorem dX3_leastSum_107 : decode cX3_leastSum 107 = .ok (.iload 4, 2) := by decide +kernel
theorem dX3_leastSum_109 : decode cX3_leastSum 109 = .ok (.invokestatic 31, 3) := by decide +kernel
theorem dX3_leastSum_112 : decode cX3_leastSum 112 = .ok (.laload, 1) := by decide +kernel
theorem dX3_leastSum_113 : decode cX3_leastSum 113 = .ok (.invokestatic 66, 3) := by decide +kernel
theorem dX3_leastSum_116 : decode cX3_leastSum 116 = .ok (.lstore_n 2, 1) := by decide +kernel
theorem dX3_leastSum_117 : decode cX3_leastSum 117 = .ok (.iinc 4 1, 3) := by decide +kernel
theorem dX3_leastSum_120 : decode cX3_leastSum 120 = .ok (.goto (-25), 3) := by decide +kernel
theorem dX3_leastSum_123 : decode cX3_leastSum 123 = .ok (.lload_n 2, 1) := by decide +kernel
theorem dX3_leastSum_124 : decode cX3_leastSum 124 = .ok (.lreturn, 1) := by decide +kernel
theorem dX3_leastBefore_0 : decode cX3_leastBefore 0 = .ok (.ldc2_w 47, 3) := by decide +kernel
theorem dX3_leastBefore_3 : decode cX3_leastBefore 3 = .ok (.lstore 4, 2) := by decide +kernel
theorem dX3_leastBefore_5 : decode cX3_leastBefore 5 = .ok (.iconst 0, 1) := by decide +kernel
theorem dX3_leastBefore_6 : decode cX3_leastBefore 6 = .ok (.istore 6, 2) := by decide +kernel
theorem dX3_leastBefore_8 : decode cX3_leastBefore 8 = .ok (.iload 6, 2) := by decide +kernel
theorem dX3_leastBefore_10 : decode cX3_leastBefore 10 = .ok (.iconst 4, 1) := by decide +kernel
theorem dX3_leastBefore_11 : decode cX3_leastBefore 11 = .ok (.if_icmp .ge 39, 3) := by decide +kernel
theorem dX3_leastBefore_14 : decode cX3_leastBefore 14 = .ok (.aload_n 1, 1) := by decide +kernel
theorem dX3_leastBefore_15 : decode cX3_leastBefore 15 = .ok (.iload 6, 2) := by decide +kernel
theorem dX3_leastBefore_17 : decode cX3_leastBefore 17 = .ok (.iload_n 3, 1) := by decide +kernel
theorem dX3_leastBefore_18 : decode cX3_leastBefore 18 = .ok (.invokevirtual 56, 3) := by decide +kernel
theorem dX3_leastBefore_21 : decode cX3_leastBefore 21 = .ok (.ifCond .ne 23, 3) := by decide +kernel
theorem dX3_leastBefore_24 : decode cX3_leastBefore 24 = .ok (.lload 4, 2) := by decide +kernel
theorem dX3_leastBefore_26 : decode cX3_leastBefore 26 = .ok (.aload_n 0, 1) := by decide +kernel
theorem dX3_leastBefore_27 : decode cX3_leastBefore 27 = .ok (.getfield 15, 3) := by decide +kernel
theorem dX3_leastBefore_30 : decode cX3_leastBefore 30 = .ok (.iload_n 2, 1) := by decide +kernel
theorem dX3_leastBefore_31 : decode cX3_leastBefore 31 = .ok (.iconst 1, 1) := by decide +kernel
theorem dX3_leastBefore_32 : decode cX3_leastBefore 32 = .ok (.isub, 1) := by decide +kernel
theorem dX3_leastBefore_33 : decode cX3_leastBefore 33 = .ok (.iload 6, 2) := by decide +kernel
theorem dX3_leastBefore_35 : decode cX3_leastBefore 35 = .ok (.invokestatic 31, 3) := by decide +kernel
theorem dX3_leastBefore_38 : decode cX3_leastBefore 38 = .ok (.laload, 1) := by decide +kernel
theorem dX3_leastBefore_39 : decode cX3_leastBefore 39 = .ok (.invokestatic 66, 3) := by decide +kernel
theorem dX3_leastBefore_42 : decode cX3_leastBefore 42 = .ok (.lstore 4, 2) := by decide +kernel
theorem dX3_leastBefore_44 : decode cX3_leastBefore 44 = .ok (.iinc 6 1, 3) := by decide +kernel
theorem dX3_leastBefore_47 : decode cX3_leastBefore 47 = .ok (.goto (-39), 3) := by decide +kernel
theorem dX3_leastBefore_50 : decode cX3_leastBefore 50 = .ok (.lload 4, 2) := by decide +kernel
theorem dX3_leastBefore_52 : decode cX3_leastBefore 52 = .ok (.lreturn, 1) := by decide +kernel
theorem dX4_init_0 : decode cX4_init 0 = .ok (.aload_n 0, 1) := by decide +kernel
theorem dX4_init_1 : decode cX4_init 1 = .ok (.invokespecial 3, 3) := by decide +kernel
theorem dX4_init_4 : decode cX4_init 4 = .ok (.aload_n 0, 1) := by decide +kernel
theorem dX4_init_5 : decode cX4_init 5 = .ok (.new 9, 3) := by decide +kernel
theorem dX4_init_8 : decode cX4_init 8 = .ok (.dup, 1) := by decide +kernel
theorem dX4_init_9 : decode cX4_init 9 = .ok (.invokespecial 11, 3) := by decide +kernel
theorem dX4_init_12 : decode cX4_init 12 = .ok (.putfield 12, 3) := by decide +kernel
theorem dX4_init_15 : decode cX4_init 15 = .ok (.aload_n 0, 1) := by decide +kernel
theorem dX4_init_16 : decode cX4_init 16 = .ok (.new 9, 3) := by decide +kernel
theorem dX4_init_19 : decode cX4_init 19 = .ok (.dup, 1) := by decide +kernel
theorem dX4_init_20 : decode cX4_init 20 = .ok (.invokespecial 11, 3) := by decide +kernel
theorem dX4_init_23 : decode cX4_init 23 = .ok (.putfield 16, 3) := by decide +kernel
theorem dX4_init_26 : decode cX4_init 26 = .ok (.aload_n 0, 1) := by decide +kernel
theorem dX4_init_27 : decode cX4_init 27 = .ok (.new 9, 3) := by decide +kernel
theorem dX4_init_30 : decode cX4_init 30 = .ok (.dup, 1) := by decide +kernel
theorem dX4_init_31 : decode cX4_init 31 = .ok (.invokespecial 11, 3) := by decide +kernel
theorem dX4_init_34 : decode cX4_init 34 = .ok (.putfield 19, 3) := by decide +kernel
theorem dX4_init_37 : decode cX4_init 37 = .ok (.aload_n 0, 1) := by decide +kernel
theorem dX4_init_38 : decode cX4_init 38 = .ok (.new 9, 3) := by decide +kernel
theorem dX4_init_41 : decode cX4_init 41 = .ok (.dup, 1) := by decide +kernel
theorem dX4_init_42 : decode cX4_init 42 = .ok (.invokespecial 11, 3) := by decide +kernel
theorem dX4_init_45 : decode cX4_init 45 = .ok (.putfield 22, 3) := by decide +kernel
theorem dX4_init_48 : decode cX4_init 48 = .ok (.aload_n 0, 1) := by decide +kernel
theorem dX4_init_49 : decode cX4_init 49 = .ok (.new 25, 3) := by decide +kernel
theorem dX4_init_52 : decode cX4_init 52 = .ok (.dup, 1) := by decide +kernel
theorem dX4_init_53 : decode cX4_init 53 = .ok (.invokespecial 27, 3) := by decide +kernel
theorem dX4_init_56 : decode cX4_init 56 = .ok (.putfield 28, 3) := by decide +kernel
theorem dX4_init_59 : decode cX4_init 59 = .ok (.aload_n 0, 1) := by decide +kernel
theorem dX4_init_60 : decode cX4_init 60 = .ok (.new 32, 3) := by decide +kernel
theorem dX4_init_63 : decode cX4_init 63 = .ok (.dup, 1) := by decide +kernel
theorem dX4_init_64 : decode cX4_init 64 = .ok (.invokespecial 34, 3) := by decide +kernel
theorem dX4_init_67 : decode cX4_init 67 = .ok (.putfield 35, 3) := by decide +kernel
theorem dX4_init_70 : decode cX4_init 70 = .ok (.aload_n 0, 1) := by decide +kernel
theorem dX4_init_71 : decode cX4_init 71 = .ok (.new 39, 3) := by decide +kernel
theorem dX4_init_74 : decode cX4_init 74 = .ok (.dup, 1) := by decide +kernel
theorem dX4_init_75 : decode cX4_init 75 = .ok (.invokespecial 41, 3) := by decide +kernel
theorem dX4_init_78 : decode cX4_init 78 = .ok (.putfield 42, 3) := by decide +kernel
theorem dX4_init_81 : decode cX4_init 81 = .ok (.aload_n 0, 1) := by decide +kernel
theorem dX4_init_82 : decode cX4_init 82 = .ok (.lconst 0, 1) := by decide +kernel
theorem dX4_init_83 : decode cX4_init 83 = .ok (.putfield 46, 3) := by decide +kernel
theorem dX4_init_86 : decode cX4_init 86 = .ok (.aload_n 0, 1) := by decide +kernel
theorem dX4_init_87 : decode cX4_init 87 = .ok (.lconst 1, 1) := by decide +kernel
theorem dX4_init_88 : decode cX4_init 88 = .ok (.putfield 50, 3) := by decide +kernel
theorem dX4_init_91 : decode cX4_init 91 = .ok (.return_, 1) := by decide +kernel
theorem dX4_office_0 : decode cX4_office 0 = .ok (.aload_n 0, 1) := by decide +kernel
theorem dX4_office_1 : decode cX4_office 1 = .ok (.getfield 12, 3) := by decide +kernel
theorem dX4_office_4 : decode cX4_office 4 = .ok (.getfield 53, 3) := by decide +kernel
theorem dX4_office_7 : decode cX4_office 7 = .ok (.istore_n 1, 1) := by decide +kernel
theorem dX4_office_8 : decode cX4_office 8 = .ok (.aload_n 0, 1) := by decide +kernel
theorem dX4_office_9 : decode cX4_office 9 = .ok (.getfield 12, 3) := by decide +kernel
theorem dX4_office_12 : decode cX4_office 12 = .ok (.invokevirtual 57, 3) := by decide +kernel
theorem dX4_office_15 : decode cX4_office 15 = .ok (.iload_n 1, 1) := by decide +kernel
theorem dX4_office_16 : decode cX4_office 16 = .ok (.ireturn, 1) := by decide +kernel
theorem dX4_never_0 : decode cX4_never 0 = .ok (.iload_n 1, 1) := by decide +kernel
theorem dX4_never_1 : decode cX4_never 1 = .ok (.invokestatic 60, 3) := by decide +kernel
theorem dX4_never_4 : decode cX4_never 4 = .ok (.ifCond .eq 10, 3) := by decide +kernel
theorem dX4_never_7 : decode cX4_never 7 = .ok (.iload_n 2, 1) := by decide +kernel
theorem dX4_never_8 : decode cX4_never 8 = .ok (.invokestatic 60, 3) := by decide +kernel
theorem dX4_never_11 : decode cX4_never 11 = .ok (.ifCond .ne 8, 3) := by decide +kernel
theorem dX4_never_14 : decode cX4_never 14 = .ok (.aload_n 0, 1) := by decide +kernel
theorem dX4_never_15 : decode cX4_never 15 = .ok (.invokevirtual 64, 3) := by decide +kernel
theorem dX4_never_18 : decode cX4_never 18 = .ok (.ireturn, 1) := by decide +kernel
theorem dX4_never_19 : decode cX4_never 19 = .ok (.aload_n 0, 1) := by decide +kernel
theorem dX4_never_20 : decode cX4_never 20 = .ok (.getfield 12, 3) := by decide +kernel
theorem dX4_never_23 : decode cX4_never 23 = .ok (.iload_n 1, 1) := by decide +kernel
theorem dX4_never_24 : decode cX4_never 24 = .ok (.iload_n 2, 1) := by decide +kernel
theorem dX4_never_25 : decode cX4_never 25 = .ok (.invokevirtual 68, 3) := by decide +kernel
theorem dX4_never_28 : decode cX4_never 28 = .ok (.aload_n 0, 1) := by decide +kernel
theorem dX4_never_29 : decode cX4_never 29 = .ok (.getfield 12, 3) := by decide +kernel
theorem dX4_never_32 : decode cX4_never 32 = .ok (.iconst 0, 1) := by decide +kernel
theorem dX4_never_33 : decode cX4_never 33 = .ok (.putfield 72, 3) := by decide +kernel
theorem dX4_never_36 : decode cX4_never 36 = .ok (.aload_n 0, 1) := by decide +kernel
theorem dX4_never_37 : decode cX4_never 37 = .ok (.getfield 12, 3) := by decide +kernel
theorem dX4_never_40 : decode cX4_never 40 = .ok (.getfield 75, 3) := by decide +kernel
theorem dX4_never_43 : decode cX4_never 43 = .ok (.invokestatic 78, 3) := by decide +kernel
theorem dX4_never_46 : decode cX4_never 46 = .ok (.ireturn, 1) := by decide +kernel
theorem dX4_one_0 : decode cX4_one 0 = .ok (.iload_n 1, 1) := by decide +kernel
theorem dX4_one_1 : decode cX4_one 1 = .ok (.ifCond .lt 19, 3) := by decide +kernel
theorem dX4_one_4 : decode cX4_one 4 = .ok (.iload_n 1, 1) := by decide +kernel
theorem dX4_one_5 : decode cX4_one 5 = .ok (.bipush 6, 2) := by decide +kernel
theorem dX4_one_7 : decode cX4_one 7 = .ok (.if_icmp .ge 13, 3) := by decide +kernel
theorem dX4_one_10 : decode cX4_one 10 = .ok (.iload_n 2, 1) := by decide +kernel
theorem dX4_one_11 : decode cX4_one 11 = .ok (.ifCond .lt 9, 3) := by decide +kernel
theorem dX4_one_14 : decode cX4_one 14 = .ok (.iload_n 2, 1) := by decide +kernel
theorem dX4_one_15 : decode cX4_one 15 = .ok (.bipush 10, 2) := by decide +kernel
theorem dX4_one_17 : decode cX4_one 17 = .ok (.if_icmp .lt 8, 3) := by decide +kernel
theorem dX4_one_20 : decode cX4_one 20 = .ok (.aload_n 0, 1) := by decide +kernel
theorem dX4_one_21 : decode cX4_one 21 = .ok (.invokevirtual 64, 3) := by decide +kernel
theorem dX4_one_24 : decode cX4_one 24 = .ok (.ireturn, 1) := by decide +kernel
theorem dX4_one_25 : decode cX4_one 25 = .ok (.aload_n 0, 1) := by decide +kernel
theorem dX4_one_26 : decode cX4_one 26 = .ok (.getfield 12, 3) := by decide +kernel
theorem dX4_one_29 : decode cX4_one 29 = .ok (.getfield 53, 3) := by decide +kernel
theorem dX4_one_32 : decode cX4_one 32 = .ok (.iconst 4, 1) := by decide +kernel
theorem dX4_one_33 : decode cX4_one 33 = .ok (.if_icmp .lt 8, 3) := by decide +kernel
theorem dX4_one_36 : decode cX4_one 36 = .ok (.aload_n 0, 1) := by decide +kernel
theorem dX4_one_37 : decode cX4_one 37 = .ok (.invokevirtual 84, 3) := by decide +kernel
theorem dX4_one_40 : decode cX4_one 40 = .ok (.ireturn, 1) := by decide +kernel
theorem dX4_one_41 : decode cX4_one 41 = .ok (.aload_n 0, 1) := by decide +kernel
theorem dX4_one_42 : decode cX4_one 42 = .ok (.getfield 12, 3) := by decide +kernel
theorem dX4_one_45 : decode cX4_one 45 = .ok (.iload_n 1, 1) := by decide +kernel
theorem dX4_one_46 : decode cX4_one 46 = .ok (.iload_n 2, 1) := by decide +kernel
theorem dX4_one_47 : decode cX4_one 47 = .ok (.invokevirtual 87, 3) := by decide +kernel
theorem dX4_one_50 : decode cX4_one 50 = .ok (.aload_n 0, 1) := by decide +kernel
theorem dX4_one_51 : decode cX4_one 51 = .ok (.getfield 12, 3) := by decide +kernel
theorem dX4_one_54 : decode cX4_one 54 = .ok (.iconst 0, 1) := by decide +kernel
theorem dX4_one_55 : decode cX4_one 55 = .ok (.putfield 72, 3) := by decide +kernel
theorem dX4_one_58 : decode cX4_one 58 = .ok (.aload_n 0, 1) := by decide +kernel
theorem dX4_one_59 : decode cX4_one 59 = .ok (.getfield 12, 3) := by decide +kernel
theorem dX4_one_62 : decode cX4_one 62 = .ok (.getfield 53, 3) := by decide +kernel
theorem dX4_one_65 : decode cX4_one 65 = .ok (.iconst 1, 1) := by decide +kernel
theorem dX4_one_66 : decode cX4_one 66 = .ok (.isub, 1) := by decide +kernel
theorem dX4_one_67 : decode cX4_one 67 = .ok (.ireturn, 1) := by decide +kernel
theorem dX4_type_0 : decode cX4_type 0 = .ok (.iload_n 1, 1) := by decide +kernel
theorem dX4_type_1 : decode cX4_type 1 = .ok (.ifCond .lt 9, 3) := by decide +kernel
theorem dX4_type_4 : decode cX4_type 4 = .ok (.iload_n 1, 1) := by decide +kernel
theorem dX4_type_5 : decode cX4_type 5 = .ok (.bipush 127, 2) := by decide +kernel
theorem dX4_type_7 : decode cX4_type 7 = .ok (.if_icmp .le 8, 3) := by decide +kernel
theorem dX4_type_10 : decode cX4_type 10 = .ok (.aload_n 0, 1) := by decide +kernel
theorem dX4_type_11 : decode cX4_type 11 = .ok (.invokevirtual 64, 3) := by decide +kernel
theorem dX4_type_14 : decode cX4_type 14 = .ok (.ireturn, 1) := by decide +kernel
theorem dX4_type_15 : decode cX4_type 15 = .ok (.aload_n 0, 1) := by decide +kernel
theorem dX4_type_16 : decode cX4_type 16 = .ok (.getfield 28, 3) := by decide +kernel
theorem dX4_type_19 : decode cX4_type 19 = .ok (.getfield 90, 3) := by decide +kernel
theorem dX4_type_22 : decode cX4_type 22 = .ok (.sipush 150, 3) := by decide +kernel
theorem dX4_type_25 : decode cX4_type 25 = .ok (.if_icmp .lt 8, 3) := by decide +kernel
theorem dX4_type_28 : decode cX4_type 28 = .ok (.aload_n 0, 1) := by decide +kernel
theorem dX4_type_29 : decode cX4_type 29 = .ok (.invokevirtual 84, 3) := by decide +kernel
theorem dX4_type_32 : decode cX4_type 32 = .ok (.ireturn, 1) := by decide +kernel
theorem dX4_type_33 : decode cX4_type 33 = .ok (.aload_n 0, 1) := by decide +kernel
theorem dX4_type_34 : decode cX4_type 34 = .ok (.getfield 28, 3) := by decide +kernel
theorem dX4_type_37 : decode cX4_type 37 = .ok (.iload_n 1, 1) := by decide +kernel
theorem dX4_type_38 : decode cX4_type 38 = .ok (.invokevirtual 93, 3) := by decide +kernel
theorem dX4_type_41 : decode cX4_type 41 = .ok (.aload_n 0, 1) := by decide +kernel
theorem dX4_type_42 : decode cX4_type 42 = .ok (.getfield 28, 3) := by decide +kernel
theorem dX4_type_45 : decode cX4_type 45 = .ok (.getfield 90, 3) := by decide +kernel
theorem dX4_type_48 : decode cX4_type 48 = .ok (.ireturn, 1) := by decide +kernel
theorem dX4_clear_0 : decode cX4_clear 0 = .ok (.aload_n 0, 1) := by decide +kernel
theorem dX4_clear_1 : decode cX4_clear 1 = .ok (.getfield 28, 3) := by decide +kernel
theorem dX4_clear_4 : decode cX4_clear 4 = .ok (.getfield 90, 3) := by decide +kernel
theorem dX4_clear_7 : decode cX4_clear 7 = .ok (.istore_n 1, 1) := by decide +kernel
theorem dX4_clear_8 : decode cX4_clear 8 = .ok (.aload_n 0, 1) := by decide +kernel
theorem dX4_clear_9 : decode cX4_clear 9 = .ok (.getfield 28, 3) := by decide +kernel
theorem dX4_clear_12 : decode cX4_clear 12 = .ok (.iconst 0, 1) := by decide +kernel
theorem dX4_clear_13 : decode cX4_clear 13 = .ok (.putfield 90, 3) := by decide +kernel
theorem dX4_clear_16 : decode cX4_clear 16 = .ok (.iload_n 1, 1) := by decide +kernel
theorem dX4_clear_17 : decode cX4_clear 17 = .ok (.ireturn, 1) := by decide +kernel
theorem dX4_read_0 : decode cX4_read 0 = .ok (.aload_n 0, 1) := by decide +kernel
theorem dX4_read_1 : decode cX4_read 1 = .ok (.getfield 35, 3) := by decide +kernel
theorem dX4_read_4 : decode cX4_read 4 = .ok (.aload_n 0, 1) := by decide +kernel
theorem dX4_read_5 : decode cX4_read 5 = .ok (.getfield 28, 3) := by decide +kernel
theorem dX4_read_8 : decode cX4_read 8 = .ok (.aload_n 0, 1) := by decide +kernel
theorem dX4_read_9 : decode cX4_read 9 = .ok (.getfield 16, 3) := by decide +kernel
theorem dX4_read_12 : decode cX4_read 12 = .ok (.invokevirtual 97, 3) := by decide +kernel
theorem dX4_read_15 : decode cX4_read 15 = .ok (.istore_n 1, 1) := by decide +kernel
theorem dX4_read_16 : decode cX4_read 16 = .ok (.iload_n 1, 1) := by decide +kernel
theorem dX4_read_17 : decode cX4_read 17 = .ok (.ifCond .le 22, 3) := by decide +kernel
theorem dX4_read_20 : decode cX4_read 20 = .ok (.aload_n 0, 1) := by decide +kernel
theorem dX4_read_21 : decode cX4_read 21 = .ok (.getfield 16, 3) := by decide +kernel
theorem dX4_read_24 : decode cX4_read 24 = .ok (.iconst 0, 1) := by decide +kernel
theorem dX4_read_25 : decode cX4_read 25 = .ok (.putfield 72, 3) := by decide +kernel
theorem dX4_read_28 : decode cX4_read 28 = .ok (.aload_n 0, 1) := by decide +kernel
theorem dX4_read_29 : decode cX4_read 29 = .ok (.getfield 12, 3) := by decide +kernel
theorem dX4_read_32 : decode cX4_read 32 = .ok (.aload_n 0, 1) := by decide +kernel
theorem dX4_read_33 : decode cX4_read 33 = .ok (.getfield 16, 3) := by decide +kernel
theorem dX4_read_36 : decode cX4_read 36 = .ok (.invokevirtual 101, 3) := by decide +kernel
theorem dX4_read_39 : decode cX4_read 39 = .ok (.iload_n 1, 1) := by decide +kernel
theorem dX4_read_40 : decode cX4_read 40 = .ok (.ireturn, 1) := by decide +kernel
theorem dX4_mark_0 : decode cX4_mark 0 = .ok (.aload_n 0, 1) := by decide +kernel
theorem dX4_mark_1 : decode cX4_mark 1 = .ok (.iload_n 1, 1) := by decide +kernel
theorem dX4_mark_2 : decode cX4_mark 2 = .ok (.iload_n 2, 1) := by decide +kernel
theorem dX4_mark_3 : decode cX4_mark 3 = .ok (.iload_n 3, 1) := by decide +kernel
theorem dX4_mark_4 : decode cX4_mark 4 = .ok (.iload 4, 2) := by decide +kernel
theorem dX4_mark_6 : decode cX4_mark 6 = .ok (.invokevirtual 105, 3) := by decide +kernel
theorem dX4_mark_9 : decode cX4_mark 9 = .ok (.ifCond .ne 8, 3) := by decide +kernel
theorem dX4_mark_12 : decode cX4_mark 12 = .ok (.aload_n 0, 1) := by decide +kernel
theorem dX4_mark_13 : decode cX4_mark 13 = .ok (.invokevirtual 64, 3) := by decide +kernel
theorem dX4_mark_16 : decode cX4_mark 16 = .ok (.ireturn, 1) := by decide +kernel
theorem dX4_mark_17 : decode cX4_mark 17 = .ok (.aload_n 0, 1) := by decide +kernel
theorem dX4_mark_18 : decode cX4_mark 18 = .ok (.getfield 12, 3) := by decide +kernel
theorem dX4_mark_21 : decode cX4_mark 21 = .ok (.getfield 109, 3) := by decide +kernel
theorem dX4_mark_24 : decode cX4_mark 24 = .ok (.bipush 8, 2) := by decide +kernel
theorem dX4_mark_26 : decode cX4_mark 26 = .ok (.if_icmp .lt 8, 3) := by decide +kernel
theorem dX4_mark_29 : decode cX4_mark 29 = .ok (.aload_n 0, 1) := by decide +kernel
theorem dX4_mark_30 : decode cX4_mark 30 = .ok (.invokevirtual 84, 3) := by decide +kernel
theorem dX4_mark_33 : decode cX4_mark 33 = .ok (.ireturn, 1) := by decide +kernel
theorem dX4_mark_34 : decode cX4_mark 34 = .ok (.aload_n 0, 1) := by decide +kernel
theorem dX4_mark_35 : decode cX4_mark 35 = .ok (.getfield 12, 3) := by decide +kernel
theorem dX4_mark_38 : decode cX4_mark 38 = .ok (.iload_n 1, 1) := by decide +kernel
theorem dX4_mark_39 : decode cX4_mark 39 = .ok (.iload_n 2, 1) := by decide +kernel
theorem dX4_mark_40 : decode cX4_mark 40 = .ok (.iload_n 3, 1) := by decide +kernel
theorem dX4_mark_41 : decode cX4_mark 41 = .ok (.iload 4, 2) := by decide +kernel
theorem dX4_mark_43 : decode cX4_mark 43 = .ok (.invokevirtual 112, 3) := by decide +kernel
theorem dX4_mark_46 : decode cX4_mark 46 = .ok (.aload_n 0, 1) := by decide +kernel
theorem dX4_mark_47 : decode cX4_mark 47 = .ok (.getfield 12, 3) := by decide +kernel
theorem dX4_mark_50 : decode cX4_mark 50 = .ok (.getfield 109, 3) := by decide +kernel
theorem dX4_mark_53 : decode cX4_mark 53 = .ok (.ireturn, 1) := by decide +kernel
theorem dX4_known_0 : decode cX4_known 0 = .ok (.iload_n 1, 1) := by decide +kernel
theorem dX4_known_1 : decode cX4_known 1 = .ok (.invokestatic 116, 3) := by decide +kernel
theorem dX4_known_4 : decode cX4_known 4 = .ok (.ifCond .eq 15, 3) := by decide +kernel
theorem dX4_known_7 : decode cX4_known 7 = .ok (.iload_n 2, 1) := by decide +kernel
theorem dX4_known_8 : decode cX4_known 8 = .ok (.iconst (-1), 1) := by decide +kernel
theorem dX4_known_9 : decode cX4_known 9 = .ok (.if_icmp .eq 18, 3) := by decide +kernel
theorem dX4_known_12 : decode cX4_known 12 = .ok (.iload_n 2, 1) := by decide +kernel
theorem dX4_known_13 : decode cX4_known 13 = .ok (.invokestatic 60, 3) := by decide +kernel
theorem dX4_known_16 : decode cX4_known 16 = .ok (.ifCond .ne 11, 3) := by decide +kernel
theorem dX4_known_19 : decode cX4_known 19 = .ok (.aload_n 0, 1) := by decide +kernel
theorem dX4_known_20 : decode cX4_known 20 = .ok (.invokevirtual 64, 3) := by decide +kernel
theorem dX4_known_23 : decode cX4_known 23 = .ok (.pop, 1) := by decide +kernel
theorem dX4_known_24 : decode cX4_known 24 = .ok (.bipush (-10), 2) := by decide +kernel
theorem dX4_known_26 : decode cX4_known 26 = .ok (.ireturn, 1) := by decide +kernel
theorem dX4_known_27 : decode cX4_known 27 = .ok (.aload_n 0, 1) := by decide +kernel
theorem dX4_known_28 : decode cX4_known 28 = .ok (.getfield 12, 3) := by decide +kernel
theorem dX4_known_31 : decode cX4_known 31 = .ok (.getfield 119, 3) := by decide +kernel
theorem dX4_known_34 : decode cX4_known 34 = .ok (.iload_n 1, 1) := by decide +kernel
theorem dX4_known_35 : decode cX4_known 35 = .ok (.iaload, 1) := by decide +kernel
theorem dX4_known_36 : decode cX4_known 36 = .ok (.istore_n 3, 1) := by decide +kernel
theorem dX4_known_37 : decode cX4_known 37 = .ok (.aload_n 0, 1) := by decide +kernel
theorem dX4_known_38 : decode cX4_known 38 = .ok (.getfield 12, 3) := by decide +kernel
theorem dX4_known_41 : decode cX4_known 41 = .ok (.iload_n 1, 1) := by decide +kernel
theorem dX4_known_42 : decode cX4_known 42 = .ok (.iload_n 2, 1) := by decide +kernel
theorem dX4_known_43 : decode cX4_known 43 = .ok (.invokevirtual 123, 3) := by decide +kernel
theorem dX4_known_46 : decode cX4_known 46 = .ok (.iload_n 3, 1) := by decide +kernel
theorem dX4_known_47 : decode cX4_known 47 = .ok (.ireturn, 1) := by decide +kernel
theorem dX4_undo_0 : decode cX4_undo 0 = .ok (.aload_n 0, 1) := by decide +kernel
theorem dX4_undo_1 : decode cX4_undo 1 = .ok (.getfield 12, 3) := by decide +kernel
theorem dX4_undo_4 : decode cX4_undo 4 = .ok (.getfield 72, 3) := by decide +kernel
theorem dX4_undo_7 : decode cX4_undo 7 = .ok (.ifCond .gt 8, 3) := by decide +kernel
theorem dX4_undo_10 : decode cX4_undo 10 = .ok (.aload_n 0, 1) := by decide +kernel
theorem dX4_undo_11 : decode cX4_undo 11 = .ok (.invokevirtual 126, 3) := by decide +kernel
theorem dX4_undo_14 : decode cX4_undo 14 = .ok (.ireturn, 1) := by decide +kernel
theorem dX4_undo_15 : decode cX4_undo 15 = .ok (.aload_n 0, 1) := by decide +kernel
theorem dX4_undo_16 : decode cX4_undo 16 = .ok (.getfield 12, 3) := by decide +kernel
theorem dX4_undo_19 : decode cX4_undo 19 = .ok (.invokevirtual 129, 3) := by decide +kernel
theorem dX4_undo_22 : decode cX4_undo 22 = .ok (.aload_n 0, 1) := by decide +kernel
theorem dX4_undo_23 : decode cX4_undo 23 = .ok (.getfield 12, 3) := by decide +kernel
theorem dX4_undo_26 : decode cX4_undo 26 = .ok (.getfield 109, 3) := by decide +kernel
theorem dX4_undo_29 : decode cX4_undo 29 = .ok (.ireturn, 1) := by decide +kernel
theorem dX4_of_0 : decode cX4_of 0 = .ok (.aload_n 0, 1) := by decide +kernel
theorem dX4_of_1 : decode cX4_of 1 = .ok (.iload_n 1, 1) := by decide +kernel
theorem dX4_of_2 : decode cX4_of 2 = .ok (.invokevirtual 132, 3) := by decide +kernel
theorem dX4_of_5 : decode cX4_of 5 = .ok (.ifCond .eq 12, 3) := by decide +kernel
theorem dX4_of_8 : decode cX4_of 8 = .ok (.iload_n 2, 1) := by decide +kernel
theorem dX4_of_9 : decode cX4_of 9 = .ok (.ifCond .lt 8, 3) := by decide +kernel
theorem dX4_of_12 : decode cX4_of 12 = .ok (.iload_n 2, 1) := by decide +kernel
theorem dX4_of_13 : decode cX4_of 13 = .ok (.iconst 1, 1) := by decide +kernel
theorem dX4_of_14 : decode cX4_of 14 = .ok (.if_icmp .le 8, 3) := by decide +kernel
theorem dX4_of_17 : decode cX4_of 17 = .ok (.aload_n 0, 1) := by decide +kernel
theorem dX4_of_18 : decode cX4_of 18 = .ok (.invokevirtual 64, 3) := by decide +kernel
theorem dX4_of_21 : decode cX4_of 21 = .ok (.ireturn, 1) := by decide +kernel
theorem dX4_of_22 : decode cX4_of 22 = .ok (.iload_n 2, 1) := by decide +kernel
theorem dX4_of_23 : decode cX4_of 23 = .ok (.ifCond .ne 15, 3) := by decide +kernel
theorem dX4_of_26 : decode cX4_of 26 = .ok (.aload_n 0, 1) := by decide +kernel
theorem dX4_of_27 : decode cX4_of 27 = .ok (.getfield 12, 3) := by decide +kernel
theorem dX4_of_30 : decode cX4_of 30 = .ok (.getfield 135, 3) := by decide +kernel
theorem dX4_of_33 : decode cX4_of 33 = .ok (.iload_n 1, 1) := by decide +kernel
theorem dX4_of_34 : decode cX4_of 34 = .ok (.iaload, 1) := by decide +kernel
theorem dX4_of_35 : decode cX4_of 35 = .ok (.goto 12, 3) := by decide +kernel
theorem dX4_of_38 : decode cX4_of 38 = .ok (.aload_n 0, 1) := by decide +kernel
theorem dX4_of_39 : decode cX4_of 39 = .ok (.getfield 12, 3) := by decide +kernel
theorem dX4_of_42 : decode cX4_of 42 = .ok (.getfield 138, 3) := by decide +kernel
theorem dX4_of_45 : decode cX4_of 45 = .ok (.iload_n 1, 1) := by decide +kernel
theorem dX4_of_46 : decode cX4_of 46 = .ok (.iaload, 1) := by decide +kernel
theorem dX4_of_47 : decode cX4_of 47 = .ok (.ireturn, 1) := by decide +kernel
theorem dX4_worlds_0 : decode cX4_worlds 0 = .ok (.aload_n 0, 1) := by decide +kernel
theorem dX4_worlds_1 : decode cX4_worlds 1 = .ok (.invokevirtual 141, 3) := by decide +kernel
theorem dX4_worlds_4 : decode cX4_worlds 4 = .ok (.aload_n 0, 1) := by decide +kernel
theorem dX4_worlds_5 : decode cX4_worlds 5 = .ok (.getfield 42, 3) := by decide +kernel
theorem dX4_worlds_8 : decode cX4_worlds 8 = .ok (.invokevirtual 144, 3) := by decide +kernel
theorem dX4_worlds_11 : decode cX4_worlds 11 = .ok (.l2i, 1) := by decide +kernel
theorem dX4_worlds_12 : decode cX4_worlds 12 = .ok (.ireturn, 1) := by decide +kernel
theorem dX4_may_0 : decode cX4_may 0 = .ok (.iload_n 1, 1) := by decide +kernel
theorem dX4_may_1 : decode cX4_may 1 = .ok (.invokestatic 116, 3) := by decide +kernel
theorem dX4_may_4 : decode cX4_may 4 = .ok (.ifCond .ne 8, 3) := by decide +kernel
theorem dX4_may_7 : decode cX4_may 7 = .ok (.aload_n 0, 1) := by decide +kernel
theorem dX4_may_8 : decode cX4_may 8 = .ok (.invokevirtual 64, 3) := by decide +kernel
theorem dX4_may_11 : decode cX4_may 11 = .ok (.ireturn, 1) := by decide +kernel
theorem dX4_may_12 : decode cX4_may 12 = .ok (.aload_n 0, 1) := by decide +kernel
theorem dX4_may_13 : decode cX4_may 13 = .ok (.invokevirtual 141, 3) := by decide +kernel
theorem dX4_may_16 : decode cX4_may 16 = .ok (.aload_n 0, 1) := by decide +kernel
theorem dX4_may_17 : decode cX4_may 17 = .ok (.getfield 42, 3) := by decide +kernel
theorem dX4_may_20 : decode cX4_may 20 = .ok (.iload_n 1, 1) := by decide +kernel
theorem dX4_may_21 : decode cX4_may 21 = .ok (.invokevirtual 148, 3) := by decide +kernel
theorem dX4_may_24 : decode cX4_may 24 = .ok (.ireturn, 1) := by decide +kernel
theorem dX4_chance_0 : decode cX4_chance 0 = .ok (.iload_n 1, 1) := by decide +kernel
theorem dX4_chance_1 : decode cX4_chance 1 = .ok (.invokestatic 116, 3) := by decide +kernel
theorem dX4_chance_4 : decode cX4_chance 4 = .ok (.ifCond .eq 10, 3) := by decide +kernel
theorem dX4_chance_7 : decode cX4_chance 7 = .ok (.iload_n 2, 1) := by decide +kernel
theorem dX4_chance_8 : decode cX4_chance 8 = .ok (.invokestatic 60, 3) := by decide +kernel
theorem dX4_chance_11 : decode cX4_chance 11 = .ok (.ifCond .ne 8, 3) := by decide +kernel
theorem dX4_chance_14 : decode cX4_chance 14 = .ok (.aload_n 0, 1) := by decide +kernel
theorem dX4_chance_15 : decode cX4_chance 15 = .ok (.invokevirtual 64, 3) := by decide +kernel
theorem dX4_chance_18 : decode cX4_chance 18 = .ok (.ireturn, 1) := by decide +kernel
theorem dX4_chance_19 : decode cX4_chance 19 = .ok (.aload_n 0, 1) := by decide +kernel
theorem dX4_chance_20 : decode cX4_chance 20 = .ok (.invokevirtual 141, 3) := by decide +kernel
theorem dX4_chance_23 : decode cX4_chance 23 = .ok (.aload_n 0, 1) := by decide +kernel
theorem dX4_chance_24 : decode cX4_chance 24 = .ok (.getfield 42, 3) := by decide +kernel
theorem dX4_chance_27 : decode cX4_chance 27 = .ok (.invokevirtual 144, 3) := by decide +kernel
theorem dX4_chance_30 : decode cX4_chance 30 = .ok (.lstore_n 3, 1) := by decide +kernel
theorem dX4_chance_31 : decode cX4_chance 31 = .ok (.lload_n 3, 1) := by decide +kernel
theorem dX4_chance_32 : decode cX4_chance 32 = .ok (.lconst 0, 1) := by decide +kernel
theorem dX4_chance_33 : decode cX4_chance 33 = .ok (.lcmp, 1) := by decide +kernel
theorem dX4_chance_34 : decode cX4_chance 34 = .ok (.ifCond .ne 8, 3) := by decide +kernel
theorem dX4_chance_37 : decode cX4_chance 37 = .ok (.aload_n 0, 1) := by decide +kernel
theorem dX4_chance_38 : decode cX4_chance 38 = .ok (.invokevirtual 126, 3) := by decide +kernel
theorem dX4_chance_41 : decode cX4_chance 41 = .ok (.ireturn, 1) := by decide +kernel
theorem dX4_chance_42 : decode cX4_chance 42 = .ok (.aload_n 0, 1) := by decide +kernel
theorem dX4_chance_43 : decode cX4_chance 43 = .ok (.aload_n 0, 1) := by decide +kernel
theorem dX4_chance_44 : decode cX4_chance 44 = .ok (.getfield 42, 3) := by decide +kernel
theorem dX4_chance_47 : decode cX4_chance 47 = .ok (.iload_n 1, 1) := by decide +kernel
theorem dX4_chance_48 : decode cX4_chance 48 = .ok (.iload_n 2, 1) := by decide +kernel
theorem dX4_chance_49 : decode cX4_chance 49 = .ok (.invokevirtual 151, 3) := by decide +kernel
theorem dX4_chance_52 : decode cX4_chance 52 = .ok (.lload_n 3, 1) := by decide +kernel
theorem dX4_chance_53 : decode cX4_chance 53 = .ok (.invokevirtual 155, 3) := by decide +kernel
theorem dX4_chance_56 : decode cX4_chance 56 = .ok (.iconst 1, 1) := by decide +kernel
theorem dX4_chance_57 : decode cX4_chance 57 = .ok (.ireturn, 1) := by decide +kernel
theorem dX4_must_0 : decode cX4_must 0 = .ok (.aload_n 0, 1) := by decide +kernel
theorem dX4_must_1 : decode cX4_must 1 = .ok (.invokevirtual 141, 3) := by decide +kernel
theorem dX4_must_4 : decode cX4_must 4 = .ok (.aload_n 0, 1) := by decide +kernel
theorem dX4_must_5 : decode cX4_must 5 = .ok (.getfield 42, 3) := by decide +kernel
theorem dX4_must_8 : decode cX4_must 8 = .ok (.invokevirtual 144, 3) := by decide +kernel
theorem dX4_must_11 : decode cX4_must 11 = .ok (.lconst 0, 1) := by decide +kernel
theorem dX4_must_12 : decode cX4_must 12 = .ok (.lcmp, 1) := by decide +kernel
theorem dX4_must_13 : decode cX4_must 13 = .ok (.ifCond .ne 6, 3) := by decide +kernel
theorem dX4_must_16 : decode cX4_must 16 = .ok (.bipush 63, 2) := by decide +kernel
theorem dX4_must_18 : decode cX4_must 18 = .ok (.ireturn, 1) := by decide +kernel
theorem dX4_must_19 : decode cX4_must 19 = .ok (.iconst 0, 1) := by decide +kernel
theorem dX4_must_20 : decode cX4_must 20 = .ok (.istore_n 1, 1) := by decide +kernel
theorem dX4_must_21 : decode cX4_must 21 = .ok (.iconst 0, 1) := by decide +kernel
theorem dX4_must_22 : decode cX4_must 22 = .ok (.istore_n 2, 1) := by decide +kernel
theorem dX4_must_23 : decode cX4_must 23 = .ok (.iload_n 2, 1) := by decide +kernel
theorem dX4_must_24 : decode cX4_must 24 = .ok (.bipush 6, 2) := by decide +kernel
theorem dX4_must_26 : decode cX4_must 26 = .ok (.if_icmp .ge 30, 3) := by decide +kernel
theorem dX4_must_29 : decode cX4_must 29 = .ok (.aload_n 0, 1) := by decide +kernel
theorem dX4_must_30 : decode cX4_must 30 = .ok (.getfield 42, 3) := by decide +kernel
theorem dX4_must_33 : decode cX4_must 33 = .ok (.iload_n 2, 1) := by decide +kernel
theorem dX4_must_34 : decode cX4_must 34 = .ok (.invokevirtual 148, 3) := by decide +kernel
theorem dX4_must_37 : decode cX4_must 37 = .ok (.invokestatic 78, 3) := by decide +kernel
theorem dX4_must_40 : decode cX4_must 40 = .ok (.iconst 1, 1) := by decide +kernel
theorem dX4_must_41 : decode cX4_must 41 = .ok (.if_icmp .ne 9, 3) := by decide +kernel
theorem dX4_must_44 : decode cX4_must 44 = .ok (.iload_n 1, 1) := by decide +kernel
theorem dX4_must_45 : decode cX4_must 45 = .ok (.iconst 1, 1) := by decide +kernel
theorem dX4_must_46 : decode cX4_must 46 = .ok (.iload_n 2, 1) := by decide +kernel
theorem dX4_must_47 : decode cX4_must 47 = .ok (.ishl, 1) := by decide +kernel
theorem dX4_must_48 : decode cX4_must 48 = .ok (.ior, 1) := by decide +kernel
theorem dX4_must_49 : decode cX4_must 49 = .ok (.istore_n 1, 1) := by decide +kernel
theorem dX4_must_50 : decode cX4_must 50 = .ok (.iinc 2 1, 3) := by decide +kernel
theorem dX4_must_53 : decode cX4_must 53 = .ok (.goto (-30), 3) := by decide +kernel
theorem dX4_must_56 : decode cX4_must 56 = .ok (.iload_n 1, 1) := by decide +kernel
theorem dX4_must_57 : decode cX4_must 57 = .ok (.ireturn, 1) := by decide +kernel
theorem dX4_ruled_0 : decode cX4_ruled 0 = .ok (.iload_n 1, 1) := by decide +kernel
theorem dX4_ruled_1 : decode cX4_ruled 1 = .ok (.invokestatic 116, 3) := by decide +kernel
theorem dX4_ruled_4 : decode cX4_ruled 4 = .ok (.ifCond .ne 8, 3) := by decide +kernel
theorem dX4_ruled_7 : decode cX4_ruled 7 = .ok (.aload_n 0, 1) := by decide +kernel
theorem dX4_ruled_8 : decode cX4_ruled 8 = .ok (.invokevirtual 64, 3) := by decide +kernel
theorem dX4_ruled_11 : decode cX4_ruled 11 = .ok (.ireturn, 1) := by decide +kernel
theorem dX4_ruled_12 : decode cX4_ruled 12 = .ok (.aload_n 0, 1) := by decide +kernel
theorem dX4_ruled_13 : decode cX4_ruled 13 = .ok (.getfield 42, 3) := by decide +kernel
theorem dX4_ruled_16 : decode cX4_ruled 16 = .ok (.aload_n 0, 1) := by decide +kernel
theorem dX4_ruled_17 : decode cX4_ruled 17 = .ok (.getfield 12, 3) := by decide +kernel
theorem dX4_ruled_20 : decode cX4_ruled 20 = .ok (.sipush 255, 3) := by decide +kernel
theorem dX4_ruled_23 : decode cX4_ruled 23 = .ok (.invokevirtual 159, 3) := by decide +kernel
theorem dX4_ruled_26 : decode cX4_ruled 26 = .ok (.aload_n 0, 1) := by decide +kernel
theorem dX4_ruled_27 : decode cX4_ruled 27 = .ok (.getfield 42, 3) := by decide +kernel
theorem dX4_ruled_30 : decode cX4_ruled 30 = .ok (.aload_n 0, 1) := by decide +kernel
theorem dX4_ruled_31 : decode cX4_ruled 31 = .ok (.getfield 12, 3) := by decide +kernel
theorem dX4_ruled_34 : decode cX4_ruled 34 = .ok (.invokevirtual 163, 3) := by decide +kernel
theorem dX4_ruled_37 : decode cX4_ruled 37 = .ok (.bipush 15, 2) := by decide +kernel
theorem dX4_ruled_39 : decode cX4_ruled 39 = .ok (.aload_n 0, 1) := by decide +kernel
theorem dX4_ruled_40 : decode cX4_ruled 40 = .ok (.getfield 42, 3) := by decide +kernel
theorem dX4_ruled_43 : decode cX4_ruled 43 = .ok (.iload_n 1, 1) := by decide +kernel
theorem dX4_ruled_44 : decode cX4_ruled 44 = .ok (.invokevirtual 148, 3) := by decide +kernel
theorem dX4_ruled_47 : decode cX4_ruled 47 = .ok (.iconst (-1), 1) := by decide +kernel
theorem dX4_ruled_48 : decode cX4_ruled 48 = .ok (.ixor, 1) := by decide +kernel
theorem dX4_ruled_49 : decode cX4_ruled 49 = .ok (.iand, 1) := by decide +kernel
theorem dX4_ruled_50 : decode cX4_ruled 50 = .ok (.ireturn, 1) := by decide +kernel
theorem dX4_gives_0 : decode cX4_gives 0 = .ok (.aload_n 0, 1) := by decide +kernel
theorem dX4_gives_1 : decode cX4_gives 1 = .ok (.iload_n 1, 1) := by decide +kernel
theorem dX4_gives_2 : decode cX4_gives 2 = .ok (.iload_n 2, 1) := by decide +kernel
theorem dX4_gives_3 : decode cX4_gives 3 = .ok (.iload_n 3, 1) := by decide +kernel
theorem dX4_gives_4 : decode cX4_gives 4 = .ok (.iload 4, 2) := by decide +kernel
theorem dX4_gives_6 : decode cX4_gives 6 = .ok (.invokevirtual 105, 3) := by decide +kernel
theorem dX4_gives_9 : decode cX4_gives 9 = .ok (.ifCond .ne 8, 3) := by decide +kernel
theorem dX4_gives_12 : decode cX4_gives 12 = .ok (.aload_n 0, 1) := by decide +kernel
theorem dX4_gives_13 : decode cX4_gives 13 = .ok (.invokevirtual 64, 3) := by decide +kernel
theorem dX4_gives_16 : decode cX4_gives 16 = .ok (.ireturn, 1) := by decide +kernel
theorem dX4_gives_17 : decode cX4_gives 17 = .ok (.aload_n 0, 1) := by decide +kernel
theorem dX4_gives_18 : decode cX4_gives 18 = .ok (.invokevirtual 141, 3) := by decide +kernel
theorem dX4_gives_21 : decode cX4_gives 21 = .ok (.iconst 0, 1) := by decide +kernel
theorem dX4_gives_22 : decode cX4_gives 22 = .ok (.istore 5, 2) := by decide +kernel
theorem dX4_gives_24 : decode cX4_gives 24 = .ok (.iconst 0, 1) := by decide +kernel
theorem dX4_gives_25 : decode cX4_gives 25 = .ok (.istore 6, 2) := by decide +kernel
theorem dX4_gives_27 : decode cX4_gives 27 = .ok (.iload 6, 2) := by decide +kernel
theorem dX4_gives_29 : decode cX4_gives 29 = .ok (.iconst 4, 1) := by decide +kernel
theorem dX4_gives_30 : decode cX4_gives 30 = .ok (.if_icmp .ge 59, 3) := by decide +kernel
theorem dX4_gives_33 : decode cX4_gives 33 = .ok (.aload_n 0, 1) := by decide +kernel
theorem dX4_gives_34 : decode cX4_gives 34 = .ok (.getfield 12, 3) := by decide +kernel
theorem dX4_gives_37 : decode cX4_gives 37 = .ok (.getfield 135, 3) := by decide +kernel
theorem dX4_gives_40 : decode cX4_gives 40 = .ok (.iload_n 1, 1) := by decide +kernel
theorem dX4_gives_41 : decode cX4_gives 41 = .ok (.iaload, 1) := by decide +kernel
theorem dX4_gives_42 : decode cX4_gives 42 = .ok (.iload_n 3, 1) := by decide +kernel
theorem dX4_gives_43 : decode cX4_gives 43 = .ok (.iload 6, 2) := by decide +kernel
theorem dX4_gives_45 : decode cX4_gives 45 = .ok (.invokestatic 166, 3) := by decide +kernel
theorem dX4_gives_48 : decode cX4_gives 48 = .ok (.iload_n 2, 1) := by decide +kernel
theorem dX4_gives_49 : decode cX4_gives 49 = .ok (.iload_n 3, 1) := by decide +kernel
theorem dX4_gives_50 : decode cX4_gives 50 = .ok (.aload_n 0, 1) := by decide +kernel
theorem dX4_gives_51 : decode cX4_gives 51 = .ok (.getfield 12, 3) := by decide +kernel
theorem dX4_gives_54 : decode cX4_gives 54 = .ok (.getfield 138, 3) := by decide +kernel
theorem dX4_gives_57 : decode cX4_gives 57 = .ok (.iload_n 1, 1) := by decide +kernel
theorem dX4_gives_58 : decode cX4_gives 58 = .ok (.iaload, 1) := by decide +kernel
theorem dX4_gives_59 : decode cX4_gives 59 = .ok (.invokestatic 170, 3) := by decide +kernel
theorem dX4_gives_62 : decode cX4_gives 62 = .ok (.iload 4, 2) := by decide +kernel
theorem dX4_gives_64 : decode cX4_gives 64 = .ok (.if_icmp .ne 19, 3) := by decide +kernel
theorem dX4_gives_67 : decode cX4_gives 67 = .ok (.iload 5, 2) := by decide +kernel
theorem dX4_gives_69 : decode cX4_gives 69 = .ok (.aload_n 0, 1) := by decide +kernel
theorem dX4_gives_70 : decode cX4_gives 70 = .ok (.getfield 42, 3) := by decide +kernel
theorem dX4_gives_73 : decode cX4_gives 73 = .ok (.iload_n 2, 1) := by decide +kernel
theorem dX4_gives_74 : decode cX4_gives 74 = .ok (.iload 6, 2) := by decide +kernel
theorem dX4_gives_76 : decode cX4_gives 76 = .ok (.invokevirtual 151, 3) := by decide +kernel
theorem dX4_gives_79 : decode cX4_gives 79 = .ok (.l2i, 1) := by decide +kernel
theorem dX4_gives_80 : decode cX4_gives 80 = .ok (.iadd, 1) := by decide +kernel
theorem dX4_gives_81 : decode cX4_gives 81 = .ok (.istore 5, 2) := by decide +kernel
theorem dX4_gives_83 : decode cX4_gives 83 = .ok (.iinc 6 1, 3) := by decide +kernel
theorem dX4_gives_86 : decode cX4_gives 86 = .ok (.goto (-59), 3) := by decide +kernel
theorem dX4_gives_89 : decode cX4_gives 89 = .ok (.iload 5, 2) := by decide +kernel
theorem dX4_gives_91 : decode cX4_gives 91 = .ok (.ireturn, 1) := by decide +kernel
theorem dX4_next_0 : decode cX4_next 0 = .ok (.aload_n 0, 1) := by decide +kernel
theorem dX4_next_1 : decode cX4_next 1 = .ok (.iload_n 1, 1) := by decide +kernel
theorem dX4_next_2 : decode cX4_next 2 = .ok (.invokevirtual 132, 3) := by decide +kernel
theorem dX4_next_5 : decode cX4_next 5 = .ok (.ifCond .ne 8, 3) := by decide +kernel
theorem dX4_next_8 : decode cX4_next 8 = .ok (.aload_n 0, 1) := by decide +kernel
theorem dX4_next_9 : decode cX4_next 9 = .ok (.invokevirtual 64, 3) := by decide +kernel
theorem dX4_next_12 : decode cX4_next 12 = .ok (.ireturn, 1) := by decide +kernel
theorem dX4_next_13 : decode cX4_next 13 = .ok (.aload_n 0, 1) := by decide +kernel
theorem dX4_next_14 : decode cX4_next 14 = .ok (.invokevirtual 141, 3) := by decide +kernel
theorem dX4_next_17 : decode cX4_next 17 = .ok (.aload_n 0, 1) := by decide +kernel
theorem dX4_next_18 : decode cX4_next 18 = .ok (.getfield 42, 3) := by decide +kernel
theorem dX4_next_21 : decode cX4_next 21 = .ok (.invokevirtual 144, 3) := by decide +kernel
theorem dX4_next_24 : decode cX4_next 24 = .ok (.lstore_n 2, 1) := by decide +kernel
theorem dX4_next_25 : decode cX4_next 25 = .ok (.lload_n 2, 1) := by decide +kernel
theorem dX4_next_26 : decode cX4_next 26 = .ok (.lconst 0, 1) := by decide +kernel
theorem dX4_next_27 : decode cX4_next 27 = .ok (.lcmp, 1) := by decide +kernel
theorem dX4_next_28 : decode cX4_next 28 = .ok (.ifCond .ne 5, 3) := by decide +kernel
theorem dX4_next_31 : decode cX4_next 31 = .ok (.iconst (-1), 1) := by decide +kernel
theorem dX4_next_32 : decode cX4_next 32 = .ok (.ireturn, 1) := by decide +kernel
theorem dX4_next_33 : decode cX4_next 33 = .ok (.iconst (-1), 1) := by decide +kernel
theorem dX4_next_34 : decode cX4_next 34 = .ok (.istore 4, 2) := by decide +kernel
theorem dX4_next_36 : decode cX4_next 36 = .ok (.lload_n 2, 1) := by decide +kernel
theorem dX4_next_37 : decode cX4_next 37 = .ok (.lconst 1, 1) := by decide +kernel
theorem dX4_next_38 : decode cX4_next 38 = .ok (.ladd, 1) := by decide +kernel
theorem dX4_next_39 : decode cX4_next 39 = .ok (.lstore 5, 2) := by decide +kernel
theorem dX4_next_41 : decode cX4_next 41 = .ok (.iconst 0, 1) := by decide +kernel
theorem dX4_next_42 : decode cX4_next 42 = .ok (.istore 7, 2) := by decide +kernel
theorem dX4_next_44 : decode cX4_next 44 = .ok (.iload 7, 2) := by decide +kernel
theorem dX4_next_46 : decode cX4_next 46 = .ok (.bipush 6, 2) := by decide +kernel
theorem dX4_next_48 : decode cX4_next 48 = .ok (.if_icmp .ge 59, 3) := by decide +kernel
theorem dX4_next_51 : decode cX4_next 51 = .ok (.iconst 1, 1) := by decide +kernel
theorem dX4_next_52 : decode cX4_next 52 = .ok (.istore 8, 2) := by decide +kernel
theorem dX4_next_54 : decode cX4_next 54 = .ok (.iload 8, 2) := by decide +kernel
theorem dX4_next_56 : decode cX4_next 56 = .ok (.bipush 15, 2) := by decide +kernel
theorem dX4_next_58 : decode cX4_next 58 = .ok (.if_icmp .ge 43, 3) := by decide +kernel
theorem dX4_next_61 : decode cX4_next 61 = .ok (.aload_n 0, 1) := by decide +kernel
theorem dX4_next_62 : decode cX4_next 62 = .ok (.iload_n 1, 1) := by decide +kernel
theorem dX4_next_63 : decode cX4_next 63 = .ok (.iload 7, 2) := by decide +kernel
theorem dX4_next_65 : decode cX4_next 65 = .ok (.iload 8, 2) := by decide +kernel
theorem dX4_next_67 : decode cX4_next 67 = .ok (.lload_n 2, 1) := by decide +kernel
theorem dX4_next_68 : decode cX4_next 68 = .ok (.invokevirtual 174, 3) := by decide +kernel
theorem dX4_next_71 : decode cX4_next 71 = .ok (.lstore 9, 2) := by decide +kernel
theorem dX4_next_73 : decode cX4_next 73 = .ok (.lload 9, 2) := by decide +kernel
theorem dX4_next_75 : decode cX4_next 75 = .ok (.lload 5, 2) := by decide +kernel
theorem dX4_next_77 : decode cX4_next 77 = .ok (.lcmp, 1) := by decide +kernel
theorem dX4_next_78 : decode cX4_next 78 = .ok (.ifCond .ge 17, 3) := by decide +kernel
theorem dX4_next_81 : decode cX4_next 81 = .ok (.lload 9, 2) := by decide +kernel
theorem dX4_next_83 : decode cX4_next 83 = .ok (.lstore 5, 2) := by decide +kernel
theorem dX4_next_85 : decode cX4_next 85 = .ok (.bipush 16, 2) := by decide +kernel
theorem dX4_next_87 : decode cX4_next 87 = .ok (.iload 7, 2) := by decide +kernel
theorem dX4_next_89 : decode cX4_next 89 = .ok (.imul, 1) := by decide +kernel
theorem dX4_next_90 : decode cX4_next 90 = .ok (.iload 8, 2) := by decide +kernel
theorem dX4_next_92 : decode cX4_next 92 = .ok (.iadd, 1) := by decide +kernel
theorem dX4_next_93 : decode cX4_next 93 = .ok (.istore 4, 2) := by decide +kernel
theorem dX4_next_95 : decode cX4_next 95 = .ok (.iinc 8 1, 3) := by decide +kernel
theorem dX4_next_98 : decode cX4_next 98 = .ok (.goto (-44), 3) := by decide +kernel
theorem dX4_next_101 : decode cX4_next 101 = .ok (.iinc 7 1, 3) := by decide +kernel
theorem dX4_next_104 : decode cX4_next 104 = .ok (.goto (-60), 3) := by decide +kernel
theorem dX4_next_107 : decode cX4_next 107 = .ok (.iload 4, 2) := by decide +kernel
theorem dX4_next_109 : decode cX4_next 109 = .ok (.ireturn, 1) := by decide +kernel
theorem dX4_sure_0 : decode cX4_sure 0 = .ok (.aload_n 0, 1) := by decide +kernel
theorem dX4_sure_1 : decode cX4_sure 1 = .ok (.iload_n 1, 1) := by decide +kernel
theorem dX4_sure_2 : decode cX4_sure 2 = .ok (.invokevirtual 132, 3) := by decide +kernel
theorem dX4_sure_5 : decode cX4_sure 5 = .ok (.ifCond .eq 19, 3) := by decide +kernel
theorem dX4_sure_8 : decode cX4_sure 8 = .ok (.iload_n 2, 1) := by decide +kernel
theorem dX4_sure_9 : decode cX4_sure 9 = .ok (.invokestatic 116, 3) := by decide +kernel
theorem dX4_sure_12 : decode cX4_sure 12 = .ok (.ifCond .eq 12, 3) := by decide +kernel
theorem dX4_sure_15 : decode cX4_sure 15 = .ok (.iload_n 3, 1) := by decide +kernel
theorem dX4_sure_16 : decode cX4_sure 16 = .ok (.ifCond .lt 8, 3) := by decide +kernel
theorem dX4_sure_19 : decode cX4_sure 19 = .ok (.iload_n 3, 1) := by decide +kernel
theorem dX4_sure_20 : decode cX4_sure 20 = .ok (.iconst 1, 1) := by decide +kernel
theorem dX4_sure_21 : decode cX4_sure 21 = .ok (.if_icmp .le 8, 3) := by decide +kernel
theorem dX4_sure_24 : decode cX4_sure 24 = .ok (.aload_n 0, 1) := by decide +kernel
theorem dX4_sure_25 : decode cX4_sure 25 = .ok (.invokevirtual 64, 3) := by decide +kernel
theorem dX4_sure_28 : decode cX4_sure 28 = .ok (.ireturn, 1) := by decide +kernel
theorem dX4_sure_29 : decode cX4_sure 29 = .ok (.aload_n 0, 1) := by decide +kernel
theorem dX4_sure_30 : decode cX4_sure 30 = .ok (.invokevirtual 141, 3) := by decide +kernel
theorem dX4_sure_33 : decode cX4_sure 33 = .ok (.aload_n 0, 1) := by decide +kernel
theorem dX4_sure_34 : decode cX4_sure 34 = .ok (.getfield 42, 3) := by decide +kernel
theorem dX4_sure_37 : decode cX4_sure 37 = .ok (.invokevirtual 144, 3) := by decide +kernel
theorem dX4_sure_40 : decode cX4_sure 40 = .ok (.lconst 0, 1) := by decide +kernel
theorem dX4_sure_41 : decode cX4_sure 41 = .ok (.lcmp, 1) := by decide +kernel
theorem dX4_sure_42 : decode cX4_sure 42 = .ok (.ifCond .ne 5, 3) := by decide +kernel
theorem dX4_sure_45 : decode cX4_sure 45 = .ok (.iconst (-1), 1) := by decide +kernel
theorem dX4_sure_46 : decode cX4_sure 46 = .ok (.ireturn, 1) := by decide +kernel
theorem dX4_sure_47 : decode cX4_sure 47 = .ok (.aload_n 0, 1) := by decide +kernel
theorem dX4_sure_48 : decode cX4_sure 48 = .ok (.getfield 42, 3) := by decide +kernel
theorem dX4_sure_51 : decode cX4_sure 51 = .ok (.iload_n 2, 1) := by decide +kernel
theorem dX4_sure_52 : decode cX4_sure 52 = .ok (.invokevirtual 148, 3) := by decide +kernel
theorem dX4_sure_55 : decode cX4_sure 55 = .ok (.istore 4, 2) := by decide +kernel
theorem dX4_sure_57 : decode cX4_sure 57 = .ok (.aload_n 0, 1) := by decide +kernel
theorem dX4_sure_58 : decode cX4_sure 58 = .ok (.iload_n 1, 1) := by decide +kernel
theorem dX4_sure_59 : decode cX4_sure 59 = .ok (.iload_n 2, 1) := by decide +kernel
theorem dX4_sure_60 : decode cX4_sure 60 = .ok (.iload 4, 2) := by decide +kernel
theorem dX4_sure_62 : decode cX4_sure 62 = .ok (.invokevirtual 178, 3) := by decide +kernel
theorem dX4_sure_65 : decode cX4_sure 65 = .ok (.istore 5, 2) := by decide +kernel
theorem dX4_sure_67 : decode cX4_sure 67 = .ok (.iload_n 3, 1) := by decide +kernel
theorem dX4_sure_68 : decode cX4_sure 68 = .ok (.ifCond .eq 9, 3) := by decide +kernel
theorem dX4_sure_71 : decode cX4_sure 71 = .ok (.iload 5, 2) := by decide +kernel
theorem dX4_sure_73 : decode cX4_sure 73 = .ok (.iconst (-1), 1) := by decide +kernel
theorem dX4_sure_74 : decode cX4_sure 74 = .ok (.if_icmp .ne 6, 3) := by decide +kernel
theorem dX4_sure_77 : decode cX4_sure 77 = .ok (.iload 5, 2) := by decide +kernel
theorem dX4_sure_79 : decode cX4_sure 79 = .ok (.ireturn, 1) := by decide +kernel
theorem dX4_sure_80 : decode cX4_sure 80 = .ok (.iload 5, 2) := by decide +kernel
theorem dX4_sure_82 : decode cX4_sure 82 = .ok (.ifCond .ne 7, 3) := by decide +kernel
theorem dX4_sure_85 : decode cX4_sure 85 = .ok (.iconst 0, 1) := by decide +kernel
theorem dX4_sure_86 : decode cX4_sure 86 = .ok (.goto 13, 3) := by decide +kernel
theorem dX4_sure_89 : decode cX4_sure 89 = .ok (.aload_n 0, 1) := by decide +kernel
theorem dX4_sure_90 : decode cX4_sure 90 = .ok (.iload_n 1, 1) := by decide +kernel
theorem dX4_sure_91 : decode cX4_sure 91 = .ok (.iload_n 2, 1) := by decide +kernel
theorem dX4_sure_92 : decode cX4_sure 92 = .ok (.iload 4, 2) := by decide +kernel
theorem dX4_sure_94 : decode cX4_sure 94 = .ok (.iload 5, 2) := by decide +kernel
theorem dX4_sure_96 : decode cX4_sure 96 = .ok (.invokevirtual 182, 3) := by decide +kernel
theorem dX4_sure_99 : decode cX4_sure 99 = .ok (.ireturn, 1) := by decide +kernel
theorem dX4_wrong_0 : decode cX4_wrong 0 = .ok (.aload_n 0, 1) := by decide +kernel
theorem dX4_wrong_1 : decode cX4_wrong 1 = .ok (.getfield 42, 3) := by decide +kernel
theorem dX4_wrong_4 : decode cX4_wrong 4 = .ok (.aload_n 0, 1) := by decide +kernel
theorem dX4_wrong_5 : decode cX4_wrong 5 = .ok (.getfield 12, 3) := by decide +kernel
theorem dX4_wrong_8 : decode cX4_wrong 8 = .ok (.invokevirtual 186, 3) := by decide +kernel
theorem dX4_wrong_11 : decode cX4_wrong 11 = .ok (.aload_n 0, 1) := by decide +kernel
theorem dX4_wrong_12 : decode cX4_wrong 12 = .ok (.getfield 42, 3) := by decide +kernel
theorem dX4_wrong_15 : decode cX4_wrong 15 = .ok (.aload_n 0, 1) := by decide +kernel
theorem dX4_wrong_16 : decode cX4_wrong 16 = .ok (.getfield 12, 3) := by decide +kernel
theorem dX4_wrong_19 : decode cX4_wrong 19 = .ok (.invokevirtual 189, 3) := by decide +kernel
theorem dX4_wrong_22 : decode cX4_wrong 22 = .ok (.lstore_n 1, 1) := by decide +kernel
theorem dX4_wrong_23 : decode cX4_wrong 23 = .ok (.lload_n 1, 1) := by decide +kernel
theorem dX4_wrong_24 : decode cX4_wrong 24 = .ok (.ldc2_w 193, 3) := by decide +kernel
theorem dX4_wrong_27 : decode cX4_wrong 27 = .ok (.lcmp, 1) := by decide +kernel
theorem dX4_wrong_28 : decode cX4_wrong 28 = .ok (.ifCond .lt 7, 3) := by decide +kernel
theorem dX4_wrong_31 : decode cX4_wrong 31 = .ok (.iconst (-1), 1) := by decide +kernel
theorem dX4_wrong_32 : decode cX4_wrong 32 = .ok (.goto 9, 3) := by decide +kernel
theorem dX4_wrong_35 : decode cX4_wrong 35 = .ok (.lload_n 1, 1) := by decide +kernel
theorem dX4_wrong_36 : decode cX4_wrong 36 = .ok (.l2i, 1) := by decide +kernel
theorem dX4_wrong_37 : decode cX4_wrong 37 = .ok (.sipush 255, 3) := by decide +kernel
theorem dX4_wrong_40 : decode cX4_wrong 40 = .ok (.iand, 1) := by decide +kernel
theorem dX4_wrong_41 : decode cX4_wrong 41 = .ok (.ireturn, 1) := by decide +kernel
theorem dX4_is_0 : decode cX4_is 0 = .ok (.aload_n 0, 1) := by decide +kernel
theorem dX4_is_1 : decode cX4_is 1 = .ok (.iload_n 1, 1) := by decide +kernel
theorem dX4_is_2 : decode cX4_is 2 = .ok (.invokevirtual 132, 3) := by decide +kernel
theorem dX4_is_5 : decode cX4_is 5 = .ok (.ifCond .ne 8, 3) := by decide +kernel
theorem dX4_is_8 : decode cX4_is 8 = .ok (.aload_n 0, 1) := by decide +kernel
theorem dX4_is_9 : decode cX4_is 9 = .ok (.invokevirtual 64, 3) := by decide +kernel
theorem dX4_is_12 : decode cX4_is 12 = .ok (.ireturn, 1) := by decide +kernel
theorem dX4_is_13 : decode cX4_is 13 = .ok (.aload_n 0, 1) := by decide +kernel
theorem dX4_is_14 : decode cX4_is 14 = .ok (.getfield 16, 3) := by decide +kernel
theorem dX4_is_17 : decode cX4_is 17 = .ok (.aload_n 0, 1) := by decide +kernel
theorem dX4_is_18 : decode cX4_is 18 = .ok (.getfield 12, 3) := by decide +kernel
theorem dX4_is_21 : decode cX4_is 21 = .ok (.invokevirtual 101, 3) := by decide +kernel
theorem dX4_is_24 : decode cX4_is 24 = .ok (.iconst 0, 1) := by decide +kernel
theorem dX4_is_25 : decode cX4_is 25 = .ok (.istore_n 2, 1) := by decide +kernel
theorem dX4_is_26 : decode cX4_is 26 = .ok (.iconst 0, 1) := by decide +kernel
theorem dX4_is_27 : decode cX4_is 27 = .ok (.istore_n 3, 1) := by decide +kernel
theorem dX4_is_28 : decode cX4_is 28 = .ok (.iload_n 3, 1) := by decide +kernel
theorem dX4_is_29 : decode cX4_is 29 = .ok (.bipush 6, 2) := by decide +kernel
theorem dX4_is_31 : decode cX4_is 31 = .ok (.if_icmp .ge 60, 3) := by decide +kernel
theorem dX4_is_34 : decode cX4_is 34 = .ok (.aload_n 0, 1) := by decide +kernel
theorem dX4_is_35 : decode cX4_is 35 = .ok (.getfield 16, 3) := by decide +kernel
theorem dX4_is_38 : decode cX4_is 38 = .ok (.getfield 135, 3) := by decide +kernel
theorem dX4_is_41 : decode cX4_is 41 = .ok (.iload_n 1, 1) := by decide +kernel
theorem dX4_is_42 : decode cX4_is 42 = .ok (.iload_n 3, 1) := by decide +kernel
theorem dX4_is_43 : decode cX4_is 43 = .ok (.iastore, 1) := by decide +kernel
theorem dX4_is_44 : decode cX4_is 44 = .ok (.aload_n 0, 1) := by decide +kernel
theorem dX4_is_45 : decode cX4_is 45 = .ok (.getfield 42, 3) := by decide +kernel
theorem dX4_is_48 : decode cX4_is 48 = .ok (.aload_n 0, 1) := by decide +kernel
theorem dX4_is_49 : decode cX4_is 49 = .ok (.getfield 16, 3) := by decide +kernel
theorem dX4_is_52 : decode cX4_is 52 = .ok (.iconst 0, 1) := by decide +kernel
theorem dX4_is_53 : decode cX4_is 53 = .ok (.invokevirtual 159, 3) := by decide +kernel
theorem dX4_is_56 : decode cX4_is 56 = .ok (.aload_n 0, 1) := by decide +kernel
theorem dX4_is_57 : decode cX4_is 57 = .ok (.getfield 42, 3) := by decide +kernel
theorem dX4_is_60 : decode cX4_is 60 = .ok (.aload_n 0, 1) := by decide +kernel
theorem dX4_is_61 : decode cX4_is 61 = .ok (.getfield 16, 3) := by decide +kernel
theorem dX4_is_64 : decode cX4_is 64 = .ok (.invokevirtual 163, 3) := by decide +kernel
theorem dX4_is_67 : decode cX4_is 67 = .ok (.aload_n 0, 1) := by decide +kernel
theorem dX4_is_68 : decode cX4_is 68 = .ok (.getfield 42, 3) := by decide +kernel
theorem dX4_is_71 : decode cX4_is 71 = .ok (.invokevirtual 144, 3) := by decide +kernel
theorem dX4_is_74 : decode cX4_is 74 = .ok (.lconst 0, 1) := by decide +kernel
theorem dX4_is_75 : decode cX4_is 75 = .ok (.lcmp, 1) := by decide +kernel
theorem dX4_is_76 : decode cX4_is 76 = .ok (.ifCond .le 9, 3) := by decide +kernel
theorem dX4_is_79 : decode cX4_is 79 = .ok (.iload_n 2, 1) := by decide +kernel
theorem dX4_is_80 : decode cX4_is 80 = .ok (.iconst 1, 1) := by decide +kernel
theorem dX4_is_81 : decode cX4_is 81 = .ok (.iload_n 3, 1) := by decide +kernel
theorem dX4_is_82 : decode cX4_is 82 = .ok (.ishl, 1) := by decide +kernel
theorem dX4_is_83 : decode cX4_is 83 = .ok (.ior, 1) := by decide +kernel
theorem dX4_is_84 : decode cX4_is 84 = .ok (.istore_n 2, 1) := by decide +kernel
theorem dX4_is_85 : decode cX4_is 85 = .ok (.iinc 3 1, 3) := by decide +kernel
theorem dX4_is_88 : decode cX4_is 88 = .ok (.goto (-60), 3) := by decide +kernel
theorem dX4_is_91 : decode cX4_is 91 = .ok (.iload_n 2, 1) := by decide +kernel
theorem dX4_is_92 : decode cX4_is 92 = .ok (.ireturn, 1) := by decide +kernel
theorem dX4_tells_0 : decode cX4_tells 0 = .ok (.aload_n 0, 1) := by decide +kernel
theorem dX4_tells_1 : decode cX4_tells 1 = .ok (.invokevirtual 141, 3) := by decide +kernel
theorem dX4_tells_4 : decode cX4_tells 4 = .ok (.aload_n 0, 1) := by decide +kernel
theorem dX4_tells_5 : decode cX4_tells 5 = .ok (.getfield 42, 3) := by decide +kernel
theorem dX4_tells_8 : decode cX4_tells 8 = .ok (.invokevirtual 144, 3) := by decide +kernel
theorem dX4_tells_11 : decode cX4_tells 11 = .ok (.lstore_n 1, 1) := by decide +kernel
theorem dX4_tells_12 : decode cX4_tells 12 = .ok (.iconst 0, 1) := by decide +kernel
theorem dX4_tells_13 : decode cX4_tells 13 = .ok (.istore_n 3, 1) := by decide +kernel
theorem dX4_tells_14 : decode cX4_tells 14 = .ok (.iconst 0, 1) := by decide +kernel
theorem dX4_tells_15 : decode cX4_tells 15 = .ok (.istore 4, 2) := by decide +kernel
theorem dX4_tells_17 : decode cX4_tells 17 = .ok (.iload 4, 2) := by decide +kernel
theorem dX4_tells_19 : decode cX4_tells 19 = .ok (.aload_n 0, 1) := by decide +kernel
theorem dX4_tells_20 : decode cX4_tells 20 = .ok (.getfield 12, 3) := by decide +kernel
theorem dX4_tells_23 : decode cX4_tells 23 = .ok (.getfield 109, 3) := by decide +kernel
theorem dX4_tells_26 : decode cX4_tells 26 = .ok (.if_icmp .ge 54, 3) := by decide +kernel
theorem dX4_tells_29 : decode cX4_tells 29 = .ok (.aload_n 0, 1) := by decide +kernel
theorem dX4_tells_30 : decode cX4_tells 30 = .ok (.getfield 42, 3) := by decide +kernel
theorem dX4_tells_33 : decode cX4_tells 33 = .ok (.aload_n 0, 1) := by decide +kernel
theorem dX4_tells_34 : decode cX4_tells 34 = .ok (.getfield 12, 3) := by decide +kernel
theorem dX4_tells_37 : decode cX4_tells 37 = .ok (.iconst 1, 1) := by decide +kernel
theorem dX4_tells_38 : decode cX4_tells 38 = .ok (.iload 4, 2) := by decide +kernel
theorem dX4_tells_40 : decode cX4_tells 40 = .ok (.ishl, 1) := by decide +kernel
theorem dX4_tells_41 : decode cX4_tells 41 = .ok (.invokevirtual 159, 3) := by decide +kernel
theorem dX4_tells_44 : decode cX4_tells 44 = .ok (.aload_n 0, 1) := by decide +kernel
theorem dX4_tells_45 : decode cX4_tells 45 = .ok (.getfield 42, 3) := by decide +kernel
theorem dX4_tells_48 : decode cX4_tells 48 = .ok (.aload_n 0, 1) := by decide +kernel
theorem dX4_tells_49 : decode cX4_tells 49 = .ok (.getfield 12, 3) := by decide +kernel
theorem dX4_tells_52 : decode cX4_tells 52 = .ok (.invokevirtual 163, 3) := by decide +kernel
theorem dX4_tells_55 : decode cX4_tells 55 = .ok (.aload_n 0, 1) := by decide +kernel
theorem dX4_tells_56 : decode cX4_tells 56 = .ok (.getfield 42, 3) := by decide +kernel
theorem dX4_tells_59 : decode cX4_tells 59 = .ok (.invokevirtual 144, 3) := by decide +kernel
theorem dX4_tells_62 : decode cX4_tells 62 = .ok (.lload_n 1, 1) := by decide +kernel
theorem dX4_tells_63 : decode cX4_tells 63 = .ok (.lcmp, 1) := by decide +kernel
theorem dX4_tells_64 : decode cX4_tells 64 = .ok (.ifCond .le 10, 3) := by decide +kernel
theorem dX4_tells_67 : decode cX4_tells 67 = .ok (.iload_n 3, 1) := by decide +kernel
theorem dX4_tells_68 : decode cX4_tells 68 = .ok (.iconst 1, 1) := by decide +kernel
theorem dX4_tells_69 : decode cX4_tells 69 = .ok (.iload 4, 2) := by decide +kernel
theorem dX4_tells_71 : decode cX4_tells 71 = .ok (.ishl, 1) := by decide +kernel
theorem dX4_tells_72 : decode cX4_tells 72 = .ok (.ior, 1) := by decide +kernel
theorem dX4_tells_73 : decode cX4_tells 73 = .ok (.istore_n 3, 1) := by decide +kernel
theorem dX4_tells_74 : decode cX4_tells 74 = .ok (.iinc 4 1, 3) := by decide +kernel
theorem dX4_tells_77 : decode cX4_tells 77 = .ok (.goto (-60), 3) := by decide +kernel
theorem dX4_tells_80 : decode cX4_tells 80 = .ok (.iload_n 3, 1) := by decide +kernel
theorem dX4_tells_81 : decode cX4_tells 81 = .ok (.ireturn, 1) := by decide +kernel
theorem dX4_bets_0 : decode cX4_bets 0 = .ok (.iload_n 1, 1) := by decide +kernel
theorem dX4_bets_1 : decode cX4_bets 1 = .ok (.invokestatic 116, 3) := by decide +kernel
theorem dX4_bets_4 : decode cX4_bets 4 = .ok (.ifCond .eq 8, 3) := by decide +kernel
theorem dX4_bets_7 : decode cX4_bets 7 = .ok (.iload_n 2, 1) := by decide +kernel
theorem dX4_bets_8 : decode cX4_bets 8 = .ok (.iconst (-1), 1) := by decide +kernel
theorem dX4_bets_9 : decode cX4_bets 9 = .ok (.if_icmp .ge 11, 3) := by decide +kernel
theorem dX4_bets_12 : decode cX4_bets 12 = .ok (.aload_n 0, 1) := by decide +kernel
theorem dX4_bets_13 : decode cX4_bets 13 = .ok (.invokevirtual 64, 3) := by decide +kernel
theorem dX4_bets_16 : decode cX4_bets 16 = .ok (.pop, 1) := by decide +kernel
theorem dX4_bets_17 : decode cX4_bets 17 = .ok (.bipush (-10), 2) := by decide +kernel
theorem dX4_bets_19 : decode cX4_bets 19 = .ok (.ireturn, 1) := by decide +kernel
theorem dX4_bets_20 : decode cX4_bets 20 = .ok (.aload_n 0, 1) := by decide +kernel
theorem dX4_bets_21 : decode cX4_bets 21 = .ok (.invokevirtual 141, 3) := by decide +kernel
theorem dX4_bets_24 : decode cX4_bets 24 = .ok (.iconst 0, 1) := by decide +kernel
theorem dX4_bets_25 : decode cX4_bets 25 = .ok (.istore_n 3, 1) := by decide +kernel
theorem dX4_bets_26 : decode cX4_bets 26 = .ok (.iconst 0, 1) := by decide +kernel
theorem dX4_bets_27 : decode cX4_bets 27 = .ok (.istore 4, 2) := by decide +kernel
theorem dX4_bets_29 : decode cX4_bets 29 = .ok (.iload 4, 2) := by decide +kernel
theorem dX4_bets_31 : decode cX4_bets 31 = .ok (.bipush 16, 2) := by decide +kernel
theorem dX4_bets_33 : decode cX4_bets 33 = .ok (.if_icmp .ge 36, 3) := by decide +kernel
theorem dX4_bets_36 : decode cX4_bets 36 = .ok (.aload_n 0, 1) := by decide +kernel
theorem dX4_bets_37 : decode cX4_bets 37 = .ok (.iload_n 1, 1) := by decide +kernel
theorem dX4_bets_38 : decode cX4_bets 38 = .ok (.iload 4, 2) := by decide +kernel
theorem dX4_bets_40 : decode cX4_bets 40 = .ok (.iconst 4, 1) := by decide +kernel
theorem dX4_bets_41 : decode cX4_bets 41 = .ok (.idiv, 1) := by decide +kernel
theorem dX4_bets_42 : decode cX4_bets 42 = .ok (.iload 4, 2) := by decide +kernel
theorem dX4_bets_44 : decode cX4_bets 44 = .ok (.iconst 4, 1) := by decide +kernel
theorem dX4_bets_45 : decode cX4_bets 45 = .ok (.irem, 1) := by decide +kernel
theorem dX4_bets_46 : decode cX4_bets 46 = .ok (.invokevirtual 195, 3) := by decide +kernel
theorem dX4_bets_49 : decode cX4_bets 49 = .ok (.ifCond .eq 14, 3) := by decide +kernel
theorem dX4_bets_52 : decode cX4_bets 52 = .ok (.iload_n 3, 1) := by decide +kernel
theorem dX4_bets_53 : decode cX4_bets 53 = .ok (.iload_n 2, 1) := by decide +kernel
theorem dX4_bets_54 : decode cX4_bets 54 = .ok (.if_icmp .ne 6, 3) := by decide +kernel
theorem dX4_bets_57 : decode cX4_bets 57 = .ok (.iload 4, 2) := by decide +kernel
theorem dX4_bets_59 : decode cX4_bets 59 = .ok (.ireturn, 1) := by decide +kernel
theorem dX4_bets_60 : decode cX4_bets 60 = .ok (.iinc 3 1, 3) := by decide +kernel
theorem dX4_bets_63 : decode cX4_bets 63 = .ok (.iinc 4 1, 3) := by decide +kernel
theorem dX4_bets_66 : decode cX4_bets 66 = .ok (.goto (-37), 3) := by decide +kernel
theorem dX4_bets_69 : decode cX4_bets 69 = .ok (.iload_n 2, 1) := by decide +kernel
theorem dX4_bets_70 : decode cX4_bets 70 = .ok (.iconst (-1), 1) := by decide +kernel
theorem dX4_bets_71 : decode cX4_bets 71 = .ok (.if_icmp .ne 7, 3) := by decide +kernel
theorem dX4_bets_74 : decode cX4_bets 74 = .ok (.iload_n 3, 1) := by decide +kernel
theorem dX4_bets_75 : decode cX4_bets 75 = .ok (.goto 5, 3) := by decide +kernel
theorem dX4_bets_78 : decode cX4_bets 78 = .ok (.bipush (-5), 2) := by decide +kernel
theorem dX4_bets_80 : decode cX4_bets 80 = .ok (.ireturn, 1) := by decide +kernel
theorem dX4_journeys_0 : decode cX4_journeys 0 = .ok (.iload_n 1, 1) := by decide +kernel
theorem dX4_journeys_1 : decode cX4_journeys 1 = .ok (.ifCond .lt 9, 3) := by decide +kernel
theorem dX4_journeys_4 : decode cX4_journeys 4 = .ok (.iload_n 1, 1) := by decide +kernel
theorem dX4_journeys_5 : decode cX4_journeys 5 = .ok (.bipush 10, 2) := by decide +kernel
theorem dX4_journeys_7 : decode cX4_journeys 7 = .ok (.if_icmp .le 8, 3) := by decide +kernel
theorem dX4_journeys_10 : decode cX4_journeys 10 = .ok (.aload_n 0, 1) := by decide +kernel
theorem dX4_journeys_11 : decode cX4_journeys 11 = .ok (.invokevirtual 64, 3) := by decide +kernel
theorem dX4_journeys_14 : decode cX4_journeys 14 = .ok (.ireturn, 1) := by decide +kernel
theorem dX4_journeys_15 : decode cX4_journeys 15 = .ok (.aload_n 0, 1) := by decide +kernel
theorem dX4_journeys_16 : decode cX4_journeys 16 = .ok (.getfield 42, 3) := by decide +kernel
theorem dX4_journeys_19 : decode cX4_journeys 19 = .ok (.aload_n 0, 1) := by decide +kernel
theorem dX4_journeys_20 : decode cX4_journeys 20 = .ok (.getfield 12, 3) := by decide +kernel
theorem dX4_journeys_23 : decode cX4_journeys 23 = .ok (.iload_n 1, 1) := by decide +kernel
theorem dX4_journeys_24 : decode cX4_journeys 24 = .ok (.invokevirtual 199, 3) := by decide +kernel
theorem dX4_journeys_27 : decode cX4_journeys 27 = .ok (.aload_n 0, 1) := by decide +kernel
theorem dX4_journeys_28 : decode cX4_journeys 28 = .ok (.getfield 42, 3) := by decide +kernel
theorem dX4_journeys_31 : decode cX4_journeys 31 = .ok (.aload_n 0, 1) := by decide +kernel
theorem dX4_journeys_32 : decode cX4_journeys 32 = .ok (.getfield 12, 3) := by decide +kernel
theorem dX4_journeys_35 : decode cX4_journeys 35 = .ok (.invokevirtual 163, 3) := by decide +kernel
theorem dX4_journeys_38 : decode cX4_journeys 38 = .ok (.lconst 1, 1) := by decide +kernel
theorem dX4_journeys_39 : decode cX4_journeys 39 = .ok (.lstore_n 2, 1) := by decide +kernel
theorem dX4_journeys_40 : decode cX4_journeys 40 = .ok (.iconst 0, 1) := by decide +kernel
theorem dX4_journeys_41 : decode cX4_journeys 41 = .ok (.istore 4, 2) := by decide +kernel
theorem dX4_journeys_43 : decode cX4_journeys 43 = .ok (.iload 4, 2) := by decide +kernel
theorem dX4_journeys_45 : decode cX4_journeys 45 = .ok (.aload_n 0, 1) := by decide +kernel
theorem dX4_journeys_46 : decode cX4_journeys 46 = .ok (.getfield 12, 3) := by decide +kernel
theorem dX4_journeys_49 : decode cX4_journeys 49 = .ok (.getfield 109, 3) := by decide +kernel
theorem dX4_journeys_52 : decode cX4_journeys 52 = .ok (.if_icmp .ge 15, 3) := by decide +kernel
theorem dX4_journeys_55 : decode cX4_journeys 55 = .ok (.lload_n 2, 1) := by decide +kernel
theorem dX4_journeys_56 : decode cX4_journeys 56 = .ok (.ldc2_w 202, 3) := by decide +kernel
theorem dX4_journeys_59 : decode cX4_journeys 59 = .ok (.lmul, 1) := by decide +kernel
theorem dX4_journeys_60 : decode cX4_journeys 60 = .ok (.lstore_n 2, 1) := by decide +kernel
theorem dX4_journeys_61 : decode cX4_journeys 61 = .ok (.iinc 4 1, 3) := by decide +kernel
theorem dX4_journeys_64 : decode cX4_journeys 64 = .ok (.goto (-21), 3) := by decide +kernel
theorem dX4_journeys_67 : decode cX4_journeys 67 = .ok (.aload_n 0, 1) := by decide +kernel
theorem dX4_journeys_68 : decode cX4_journeys 68 = .ok (.aload_n 0, 1) := by decide +kernel
theorem dX4_journeys_69 : decode cX4_journeys 69 = .ok (.getfield 42, 3) := by decide +kernel
theorem dX4_journeys_72 : decode cX4_journeys 72 = .ok (.invokevirtual 144, 3) := by decide +kernel
theorem dX4_journeys_75 : decode cX4_journeys 75 = .ok (.lload_n 2, 1) := by decide +kernel
theorem dX4_journeys_76 : decode cX4_journeys 76 = .ok (.invokevirtual 155, 3) := by decide +kernel
theorem dX4_journeys_79 : decode cX4_journeys 79 = .ok (.iconst 1, 1) := by decide +kernel
theorem dX4_journeys_80 : decode cX4_journeys 80 = .ok (.ireturn, 1) := by decide +kernel
theorem dX4_years_0 : decode cX4_years 0 = .ok (.iload_n 1, 1) := by decide +kernel
theorem dX4_years_1 : decode cX4_years 1 = .ok (.ifCond .lt 19, 3) := by decide +kernel
theorem dX4_years_4 : decode cX4_years 4 = .ok (.iload_n 1, 1) := by decide +kernel
theorem dX4_years_5 : decode cX4_years 5 = .ok (.ldc 204, 2) := by decide +kernel
theorem dX4_years_7 : decode cX4_years 7 = .ok (.if_icmp .gt 13, 3) := by decide +kernel
theorem dX4_years_10 : decode cX4_years 10 = .ok (.iload_n 2, 1) := by decide +kernel
theorem dX4_years_11 : decode cX4_years 11 = .ok (.ifCond .lt 9, 3) := by decide +kernel
theorem dX4_years_14 : decode cX4_years 14 = .ok (.iload_n 2, 1) := by decide +kernel
theorem dX4_years_15 : decode cX4_years 15 = .ok (.bipush 60, 2) := by decide +kernel
theorem dX4_years_17 : decode cX4_years 17 = .ok (.if_icmp .le 8, 3) := by decide +kernel
theorem dX4_years_20 : decode cX4_years 20 = .ok (.aload_n 0, 1) := by decide +kernel
theorem dX4_years_21 : decode cX4_years 21 = .ok (.invokevirtual 64, 3) := by decide +kernel
theorem dX4_years_24 : decode cX4_years 24 = .ok (.ireturn, 1) := by decide +kernel
theorem dX4_years_25 : decode cX4_years 25 = .ok (.aload_n 0, 1) := by decide +kernel
theorem dX4_years_26 : decode cX4_years 26 = .ok (.getfield 42, 3) := by decide +kernel
theorem dX4_years_29 : decode cX4_years 29 = .ok (.aload_n 0, 1) := by decide +kernel
theorem dX4_years_30 : decode cX4_years 30 = .ok (.getfield 12, 3) := by decide +kernel
theorem dX4_years_33 : decode cX4_years 33 = .ok (.iconst 0, 1) := by decide +kernel
theorem dX4_years_34 : decode cX4_years 34 = .ok (.invokevirtual 159, 3) := by decide +kernel
theorem dX4_years_37 : decode cX4_years 37 = .ok (.iload_n 1, 1) := by decide +kernel
theorem dX4_years_38 : decode cX4_years 38 = .ok (.i2l, 1) := by decide +kernel
theorem dX4_years_39 : decode cX4_years 39 = .ok (.lstore_n 3, 1) := by decide +kernel
theorem dX4_years_40 : decode cX4_years 40 = .ok (.iconst 0, 1) := by decide +kernel
theorem dX4_years_41 : decode cX4_years 41 = .ok (.istore 5, 2) := by decide +kernel
theorem dX4_years_43 : decode cX4_years 43 = .ok (.iconst 0, 1) := by decide +kernel
theorem dX4_years_44 : decode cX4_years 44 = .ok (.istore 6, 2) := by decide +kernel
theorem dX4_years_46 : decode cX4_years 46 = .ok (.iload 6, 2) := by decide +kernel
theorem dX4_years_48 : decode cX4_years 48 = .ok (.iload_n 2, 1) := by decide +kernel
theorem dX4_years_49 : decode cX4_years 49 = .ok (.if_icmp .ge 92, 3) := by decide +kernel
theorem dX4_years_52 : decode cX4_years 52 = .ok (.iconst 1, 1) := by decide +kernel
theorem dX4_years_53 : decode cX4_years 53 = .ok (.istore 7, 2) := by decide +kernel
theorem dX4_years_55 : decode cX4_years 55 = .ok (.iconst (-1), 1) := by decide +kernel
theorem dX4_years_56 : decode cX4_years 56 = .ok (.istore 8, 2) := by decide +kernel
theorem dX4_years_58 : decode cX4_years 58 = .ok (.iconst 0, 1) := by decide +kernel
theorem dX4_years_59 : decode cX4_years 59 = .ok (.istore 9, 2) := by decide +kernel
theorem dX4_years_61 : decode cX4_years 61 = .ok (.iload 9, 2) := by decide +kernel
theorem dX4_years_63 : decode cX4_years 63 = .ok (.bipush 6, 2) := by decide +kernel
theorem dX4_years_65 : decode cX4_years 65 = .ok (.if_icmp .ge 62, 3) := by decide +kernel
theorem dX4_years_68 : decode cX4_years 68 = .ok (.lload_n 3, 1) := by decide +kernel
theorem dX4_years_69 : decode cX4_years 69 = .ok (.invokestatic 205, 3) := by decide +kernel
theorem dX4_years_72 : decode cX4_years 72 = .ok (.lstore_n 3, 1) := by decide +kernel
theorem dX4_years_73 : decode cX4_years 73 = .ok (.lload_n 3, 1) := by decide +kernel
theorem dX4_years_74 : decode cX4_years 74 = .ok (.ldc2_w 209, 3) := by decide +kernel
theorem dX4_years_77 : decode cX4_years 77 = .ok (.ldiv, 1) := by decide +kernel
theorem dX4_years_78 : decode cX4_years 78 = .ok (.ldc2_w 211, 3) := by decide +kernel
theorem dX4_years_81 : decode cX4_years 81 = .ok (.lrem, 1) := by decide +kernel
theorem dX4_years_82 : decode cX4_years 82 = .ok (.l2i, 1) := by decide +kernel
theorem dX4_years_83 : decode cX4_years 83 = .ok (.istore 10, 2) := by decide +kernel
theorem dX4_years_85 : decode cX4_years 85 = .ok (.iload 7, 2) := by decide +kernel
theorem dX4_years_87 : decode cX4_years 87 = .ok (.ifCond .eq 27, 3) := by decide +kernel
theorem dX4_years_90 : decode cX4_years 90 = .ok (.aload_n 0, 1) := by decide +kernel
theorem dX4_years_91 : decode cX4_years 91 = .ok (.getfield 42, 3) := by decide +kernel
theorem dX4_years_94 : decode cX4_years 94 = .ok (.aload_n 0, 1) := by decide +kernel
theorem dX4_years_95 : decode cX4_years 95 = .ok (.getfield 12, 3) := by decide +kernel
theorem dX4_years_98 : decode cX4_years 98 = .ok (.iload 9, 2) := by decide +kernel
theorem dX4_years_100 : decode cX4_years 100 = .ok (.iload 8, 2) := by decide +kernel
theorem dX4_years_102 : decode cX4_years 102 = .ok (.iload 10, 2) := by decide +kernel
theorem dX4_years_104 : decode cX4_years 104 = .ok (.invokevirtual 213, 3) := by decide +kernel
theorem dX4_years_107 : decode cX4_years 107 = .ok (.ifCond .eq 7, 3) := by decide +kernel
theorem dX4_years_110 : decode cX4_years 110 = .ok (.iconst 1, 1) := by decide +kernel
theorem dX4_years_111 : decode cX4_years 111 = .ok (.goto 4, 3) := by decide +kernel
theorem dX4_years_114 : decode cX4_years 114 = .ok (.iconst 0, 1) := by decide +kernel
theorem dX4_years_115 : decode cX4_years 115 = .ok (.istore 7, 2) := by decide +kernel
theorem dX4_years_117 : decode cX4_years 117 = .ok (.iload 10, 2) := by decide +kernel
theorem dX4_years_119 : decode cX4_years 119 = .ok (.istore 8, 2) := by decide +kernel
theorem dX4_years_121 : decode cX4_years 121 = .ok (.iinc 9 1, 3) := by decide +kernel
theorem dX4_years_124 : decode cX4_years 124 = .ok (.goto (-63), 3) := by decide +kernel
theorem dX4_years_127 : decode cX4_years 127 = .ok (.iload 7, 2) := by decide +kernel
theorem dX4_years_129 : decode cX4_years 129 = .ok (.ifCond .eq 6, 3) := by decide +kernel
theorem dX4_years_132 : decode cX4_years 132 = .ok (.iinc 5 1, 3) := by decide +kernel
theorem dX4_years_135 : decode cX4_years 135 = .ok (.iinc 6 1, 3) := by decide +kernel
theorem dX4_years_138 : decode cX4_years 138 = .ok (.goto (-92), 3) := by decide +kernel
theorem dX4_years_141 : decode cX4_years 141 = .ok (.iload 5, 2) := by decide +kernel
theorem dX4_years_143 : decode cX4_years 143 = .ok (.ireturn, 1) := by decide +kernel
theorem dX4_part_0 : decode cX4_part 0 = .ok (.iload_n 1, 1) := by decide +kernel
theorem dX4_part_1 : decode cX4_part 1 = .ok (.ifCond .lt 8, 3) := by decide +kernel
theorem dX4_part_4 : decode cX4_part 4 = .ok (.iload_n 1, 1) := by decide +kernel
theorem dX4_part_5 : decode cX4_part 5 = .ok (.iconst 1, 1) := by decide +kernel
theorem dX4_part_6 : decode cX4_part 6 = .ok (.if_icmp .le 9, 3) := by decide +kernel
theorem dX4_part_9 : decode cX4_part 9 = .ok (.aload_n 0, 1) := by decide +kernel
theorem dX4_part_10 : decode cX4_part 10 = .ok (.invokevirtual 64, 3) := by decide +kernel
theorem dX4_part_13 : decode cX4_part 13 = .ok (.i2l, 1) := by decide +kernel
theorem dX4_part_14 : decode cX4_part 14 = .ok (.lreturn, 1) := by decide +kernel
theorem dX4_part_15 : decode cX4_part 15 = .ok (.iload_n 1, 1) := by decide +kernel
theorem dX4_part_16 : decode cX4_part 16 = .ok (.ifCond .ne 10, 3) := by decide +kernel
theorem dX4_part_19 : decode cX4_part 19 = .ok (.aload_n 0, 1) := by decide +kernel
theorem dX4_part_20 : decode cX4_part 20 = .ok (.getfield 46, 3) := by decide +kernel
theorem dX4_part_23 : decode cX4_part 23 = .ok (.goto 7, 3) := by decide +kernel
theorem dX4_part_26 : decode cX4_part 26 = .ok (.aload_n 0, 1) := by decide +kernel
theorem dX4_part_27 : decode cX4_part 27 = .ok (.getfield 50, 3) := by decide +kernel
theorem dX4_part_30 : decode cX4_part 30 = .ok (.lreturn, 1) := by decide +kernel
theorem dX4_image_0 : decode cX4_image 0 = .ok (.iload_n 1, 1) := by decide +kernel
theorem dX4_image_1 : decode cX4_image 1 = .ok (.invokestatic 217, 3) := by decide +kernel
theorem dX4_image_4 : decode cX4_image 4 = .ok (.ifCond .ne 8, 3) := by decide +kernel
theorem dX4_image_7 : decode cX4_image 7 = .ok (.aload_n 0, 1) := by decide +kernel
theorem dX4_image_8 : decode cX4_image 8 = .ok (.invokevirtual 64, 3) := by decide +kernel
theorem dX4_image_11 : decode cX4_image 11 = .ok (.ireturn, 1) := by decide +kernel
theorem dX4_image_12 : decode cX4_image 12 = .ok (.iload_n 1, 1) := by decide +kernel
theorem dX4_image_13 : decode cX4_image 13 = .ok (.ifCond .ne 22, 3) := by decide +kernel
theorem dX4_image_16 : decode cX4_image 16 = .ok (.aload_n 0, 1) := by decide +kernel
theorem dX4_image_17 : decode cX4_image 17 = .ok (.getfield 19, 3) := by decide +kernel
theorem dX4_image_20 : decode cX4_image 20 = .ok (.aload_n 0, 1) := by decide +kernel
theorem dX4_image_21 : decode cX4_image 21 = .ok (.getfield 12, 3) := by decide +kernel
theorem dX4_image_24 : decode cX4_image 24 = .ok (.invokevirtual 101, 3) := by decide +kernel
theorem dX4_image_27 : decode cX4_image 27 = .ok (.aload_n 0, 1) := by decide +kernel
theorem dX4_image_28 : decode cX4_image 28 = .ok (.iconst 1, 1) := by decide +kernel
theorem dX4_image_29 : decode cX4_image 29 = .ok (.putfield 220, 3) := by decide +kernel
theorem dX4_image_32 : decode cX4_image 32 = .ok (.goto 19, 3) := by decide +kernel
theorem dX4_image_35 : decode cX4_image 35 = .ok (.aload_n 0, 1) := by decide +kernel
theorem dX4_image_36 : decode cX4_image 36 = .ok (.getfield 22, 3) := by decide +kernel
theorem dX4_image_39 : decode cX4_image 39 = .ok (.aload_n 0, 1) := by decide +kernel
theorem dX4_image_40 : decode cX4_image 40 = .ok (.getfield 12, 3) := by decide +kernel
theorem dX4_image_43 : decode cX4_image 43 = .ok (.invokevirtual 101, 3) := by decide +kernel
theorem dX4_image_46 : decode cX4_image 46 = .ok (.aload_n 0, 1) := by decide +kernel
theorem dX4_image_47 : decode cX4_image 47 = .ok (.iconst 1, 1) := by decide +kernel
theorem dX4_image_48 : decode cX4_image 48 = .ok (.putfield 224, 3) := by decide +kernel
theorem dX4_image_51 : decode cX4_image 51 = .ok (.iconst 1, 1) := by decide +kernel
theorem dX4_image_52 : decode cX4_image 52 = .ok (.ireturn, 1) := by decide +kernel
theorem dX4_from_0 : decode cX4_from 0 = .ok (.iload_n 1, 1) := by decide +kernel
theorem dX4_from_1 : decode cX4_from 1 = .ok (.invokestatic 217, 3) := by decide +kernel
theorem dX4_from_4 : decode cX4_from 4 = .ok (.ifCond .ne 8, 3) := by decide +kernel
theorem dX4_from_7 : decode cX4_from 7 = .ok (.aload_n 0, 1) := by decide +kernel
theorem dX4_from_8 : decode cX4_from 8 = .ok (.invokevirtual 64, 3) := by decide +kernel
theorem dX4_from_11 : decode cX4_from 11 = .ok (.ireturn, 1) := by decide +kernel
theorem dX4_from_12 : decode cX4_from 12 = .ok (.iload_n 1, 1) := by decide +kernel
theorem dX4_from_13 : decode cX4_from 13 = .ok (.ifCond .ne 13, 3) := by decide +kernel
theorem dX4_from_16 : decode cX4_from 16 = .ok (.aload_n 0, 1) := by decide +kernel
theorem dX4_from_17 : decode cX4_from 17 = .ok (.getfield 220, 3) := by decide +kernel
theorem dX4_from_20 : decode cX4_from 20 = .ok (.ifCond .ne 18, 3) := by decide +kernel
theorem dX4_from_23 : decode cX4_from 23 = .ok (.goto 10, 3) := by decide +kernel
theorem dX4_from_26 : decode cX4_from 26 = .ok (.aload_n 0, 1) := by decide +kernel
theorem dX4_from_27 : decode cX4_from 27 = .ok (.getfield 224, 3) := by decide +kernel
theorem dX4_from_30 : decode cX4_from 30 = .ok (.ifCond .ne 8, 3) := by decide +kernel
theorem dX4_from_33 : decode cX4_from 33 = .ok (.aload_n 0, 1) := by decide +kernel
theorem dX4_from_34 : decode cX4_from 34 = .ok (.invokevirtual 126, 3) := by decide +kernel
theorem dX4_from_37 : decode cX4_from 37 = .ok (.ireturn, 1) := by decide +kernel
theorem dX4_from_38 : decode cX4_from 38 = .ok (.aload_n 0, 1) := by decide +kernel
theorem dX4_from_39 : decode cX4_from 39 = .ok (.getfield 12, 3) := by decide +kernel
theorem dX4_from_42 : decode cX4_from 42 = .ok (.iload_n 1, 1) := by decide +kernel
theorem dX4_from_43 : decode cX4_from 43 = .ok (.ifCond .ne 10, 3) := by decide +kernel
theorem dX4_from_46 : decode cX4_from 46 = .ok (.aload_n 0, 1) := by decide +kernel
theorem dX4_from_47 : decode cX4_from 47 = .ok (.getfield 19, 3) := by decide +kernel
theorem dX4_from_50 : decode cX4_from 50 = .ok (.goto 7, 3) := by decide +kernel
theorem dX4_from_53 : decode cX4_from 53 = .ok (.aload_n 0, 1) := by decide +kernel
theorem dX4_from_54 : decode cX4_from 54 = .ok (.getfield 22, 3) := by decide +kernel
theorem dX4_from_57 : decode cX4_from 57 = .ok (.invokevirtual 101, 3) := by decide +kernel
theorem dX4_from_60 : decode cX4_from 60 = .ok (.iconst 1, 1) := by decide +kernel
theorem dX4_from_61 : decode cX4_from 61 = .ok (.ireturn, 1) := by decide +kernel
theorem dX4_status_0 : decode cX4_status 0 = .ok (.iload_n 1, 1) := by decide +kernel
theorem dX4_status_1 : decode cX4_status 1 = .ok (.tableswitch 42 0 2 #[27, 32, 37], 27) := by decide +kernel
theorem dX4_status_28 : decode cX4_status 28 = .ok (.aload_n 0, 1) := by decide +kernel
theorem dX4_status_29 : decode cX4_status 29 = .ok (.getfield 227, 3) := by decide +kernel
theorem dX4_status_32 : decode cX4_status 32 = .ok (.ireturn, 1) := by decide +kernel
theorem dX4_status_33 : decode cX4_status 33 = .ok (.aload_n 0, 1) := by decide +kernel
theorem dX4_status_34 : decode cX4_status 34 = .ok (.getfield 230, 3) := by decide +kernel
theorem dX4_status_37 : decode cX4_status 37 = .ok (.ireturn, 1) := by decide +kernel
theorem dX4_status_38 : decode cX4_status 38 = .ok (.aload_n 0, 1) := by decide +kernel
theorem dX4_status_39 : decode cX4_status 39 = .ok (.getfield 233, 3) := by decide +kernel
theorem dX4_status_42 : decode cX4_status 42 = .ok (.ireturn, 1) := by decide +kernel
theorem dX4_status_43 : decode cX4_status 43 = .ok (.aload_n 0, 1) := by decide +kernel
theorem dX4_status_44 : decode cX4_status 44 = .ok (.invokevirtual 64, 3) := by decide +kernel
theorem dX4_status_47 : decode cX4_status 47 = .ok (.pop, 1) := by decide +kernel
theorem dX4_status_48 : decode cX4_status 48 = .ok (.iconst (-1), 1) := by decide +kernel
theorem dX4_status_49 : decode cX4_status 49 = .ok (.ireturn, 1) := by decide +kernel
theorem dX4_count_0 : decode cX4_count 0 = .ok (.iload_n 1, 1) := by decide +kernel
theorem dX4_count_1 : decode cX4_count 1 = .ok (.ifCond .lt 9, 3) := by decide +kernel
theorem dX4_count_4 : decode cX4_count 4 = .ok (.iload_n 1, 1) := by decide +kernel
theorem dX4_count_5 : decode cX4_count 5 = .ok (.bipush 6, 2) := by decide +kernel
theorem dX4_count_7 : decode cX4_count 7 = .ok (.if_icmp .lt 8, 3) := by decide +kernel
theorem dX4_count_10 : decode cX4_count 10 = .ok (.aload_n 0, 1) := by decide +kernel
theorem dX4_count_11 : decode cX4_count 11 = .ok (.invokevirtual 64, 3) := by decide +kernel
theorem dX4_count_14 : decode cX4_count 14 = .ok (.ireturn, 1) := by decide +kernel
theorem dX4_count_15 : decode cX4_count 15 = .ok (.aload_n 0, 1) := by decide +kernel
theorem dX4_count_16 : decode cX4_count 16 = .ok (.iload_n 1, 1) := by decide +kernel
theorem dX4_count_17 : decode cX4_count 17 = .ok (.invokevirtual 236, 3) := by decide +kernel
theorem dX4_count_20 : decode cX4_count 20 = .ok (.ireturn, 1) := by decide +kernel
theorem dX4_digest_0 : decode cX4_digest 0 = .ok (.ldc2_w 239, 3) := by decide +kernel
theorem dX4_digest_3 : decode cX4_digest 3 = .ok (.lstore_n 1, 1) := by decide +kernel
theorem dX4_digest_4 : decode cX4_digest 4 = .ok (.iconst 0, 1) := by decide +kernel
theorem dX4_digest_5 : decode cX4_digest 5 = .ok (.istore_n 3, 1) := by decide +kernel
theorem dX4_digest_6 : decode cX4_digest 6 = .ok (.iload_n 3, 1) := by decide +kernel
theorem dX4_digest_7 : decode cX4_digest 7 = .ok (.bipush 6, 2) := by decide +kernel
theorem dX4_digest_9 : decode cX4_digest 9 = .ok (.if_icmp .ge 22, 3) := by decide +kernel
theorem dX4_digest_12 : decode cX4_digest 12 = .ok (.ldc2_w 241, 3) := by decide +kernel
theorem dX4_digest_15 : decode cX4_digest 15 = .ok (.lload_n 1, 1) := by decide +kernel
theorem dX4_digest_16 : decode cX4_digest 16 = .ok (.lmul, 1) := by decide +kernel
theorem dX4_digest_17 : decode cX4_digest 17 = .ok (.aload_n 0, 1) := by decide +kernel
theorem dX4_digest_18 : decode cX4_digest 18 = .ok (.iload_n 3, 1) := by decide +kernel
theorem dX4_digest_19 : decode cX4_digest 19 = .ok (.invokevirtual 236, 3) := by decide +kernel
theorem dX4_digest_22 : decode cX4_digest 22 = .ok (.i2l, 1) := by decide +kernel
theorem dX4_digest_23 : decode cX4_digest 23 = .ok (.ladd, 1) := by decide +kernel
theorem dX4_digest_24 : decode cX4_digest 24 = .ok (.lstore_n 1, 1) := by decide +kernel
theorem dX4_digest_25 : decode cX4_digest 25 = .ok (.iinc 3 1, 3) := by decide +kernel
theorem dX4_digest_28 : decode cX4_digest 28 = .ok (.goto (-22), 3) := by decide +kernel
theorem dX4_digest_31 : decode cX4_digest 31 = .ok (.aload_n 0, 1) := by decide +kernel
theorem dX4_digest_32 : decode cX4_digest 32 = .ok (.getfield 12, 3) := by decide +kernel
theorem dX4_digest_35 : decode cX4_digest 35 = .ok (.lload_n 1, 1) := by decide +kernel
theorem dX4_digest_36 : decode cX4_digest 36 = .ok (.invokevirtual 243, 3) := by decide +kernel
theorem dX4_digest_39 : decode cX4_digest 39 = .ok (.lstore_n 1, 1) := by decide +kernel
theorem dX4_digest_40 : decode cX4_digest 40 = .ok (.ldc2_w 241, 3) := by decide +kernel
theorem dX4_digest_43 : decode cX4_digest 43 = .ok (.lload_n 1, 1) := by decide +kernel
theorem dX4_digest_44 : decode cX4_digest 44 = .ok (.lmul, 1) := by decide +kernel
theorem dX4_digest_45 : decode cX4_digest 45 = .ok (.aload_n 0, 1) := by decide +kernel
theorem dX4_digest_46 : decode cX4_digest 46 = .ok (.getfield 46, 3) := by decide +kernel
theorem dX4_digest_49 : decode cX4_digest 49 = .ok (.ladd, 1) := by decide +kernel
theorem dX4_digest_50 : decode cX4_digest 50 = .ok (.lstore_n 1, 1) := by decide +kernel
theorem dX4_digest_51 : decode cX4_digest 51 = .ok (.ldc2_w 241, 3) := by decide +kernel
theorem dX4_digest_54 : decode cX4_digest 54 = .ok (.lload_n 1, 1) := by decide +kernel
theorem dX4_digest_55 : decode cX4_digest 55 = .ok (.lmul, 1) := by decide +kernel
theorem dX4_digest_56 : decode cX4_digest 56 = .ok (.aload_n 0, 1) := by decide +kernel
theorem dX4_digest_57 : decode cX4_digest 57 = .ok (.getfield 50, 3) := by decide +kernel
theorem dX4_digest_60 : decode cX4_digest 60 = .ok (.ladd, 1) := by decide +kernel
theorem dX4_digest_61 : decode cX4_digest 61 = .ok (.lreturn, 1) := by decide +kernel
theorem dX4_isDay_0 : decode cX4_isDay 0 = .ok (.iload_n 0, 1) := by decide +kernel
theorem dX4_isDay_1 : decode cX4_isDay 1 = .ok (.ifCond .lt 13, 3) := by decide +kernel
theorem dX4_isDay_4 : decode cX4_isDay 4 = .ok (.iload_n 0, 1) := by decide +kernel
theorem dX4_isDay_5 : decode cX4_isDay 5 = .ok (.bipush 6, 2) := by decide +kernel
theorem dX4_isDay_7 : decode cX4_isDay 7 = .ok (.if_icmp .ge 7, 3) := by decide +kernel
theorem dX4_isDay_10 : decode cX4_isDay 10 = .ok (.iconst 1, 1) := by decide +kernel
theorem dX4_isDay_11 : decode cX4_isDay 11 = .ok (.goto 4, 3) := by decide +kernel
theorem dX4_isDay_14 : decode cX4_isDay 14 = .ok (.iconst 0, 1) := by decide +kernel
theorem dX4_isDay_15 : decode cX4_isDay 15 = .ok (.ireturn, 1) := by decide +kernel
theorem dX4_isEvent_0 : decode cX4_isEvent 0 = .ok (.iload_n 0, 1) := by decide +kernel
theorem dX4_isEvent_1 : decode cX4_isEvent 1 = .ok (.ifCond .lt 12, 3) := by decide +kernel
theorem dX4_isEvent_4 : decode cX4_isEvent 4 = .ok (.iload_n 0, 1) := by decide +kernel
theorem dX4_isEvent_5 : decode cX4_isEvent 5 = .ok (.iconst 4, 1) := by decide +kernel
theorem dX4_isEvent_6 : decode cX4_isEvent 6 = .ok (.if_icmp .ge 7, 3) := by decide +kernel
theorem dX4_isEvent_9 : decode cX4_isEvent 9 = .ok (.iconst 1, 1) := by decide +kernel
theorem dX4_isEvent_10 : decode cX4_isEvent 10 = .ok (.goto 4, 3) := by decide +kernel
theorem dX4_isEvent_13 : decode cX4_isEvent 13 = .ok (.iconst 0, 1) := by decide +kernel
theorem dX4_isEvent_14 : decode cX4_isEvent 14 = .ok (.ireturn, 1) := by decide +kernel
theorem dX4_isImage_0 : decode cX4_isImage 0 = .ok (.iload_n 0, 1) := by decide +kernel
theorem dX4_isImage_1 : decode cX4_isImage 1 = .ok (.ifCond .eq 8, 3) := by decide +kernel
theorem dX4_isImage_4 : decode cX4_isImage 4 = .ok (.iload_n 0, 1) := by decide +kernel
theorem dX4_isImage_5 : decode cX4_isImage 5 = .ok (.iconst 1, 1) := by decide +kernel
theorem dX4_isImage_6 : decode cX4_isImage 6 = .ok (.if_icmp .ne 7, 3) := by decide +kernel
theorem dX4_isImage_9 : decode cX4_isImage 9 = .ok (.iconst 1, 1) := by decide +kernel
theorem dX4_isImage_10 : decode cX4_isImage 10 = .ok (.goto 4, 3) := by decide +kernel
theorem dX4_isImage_13 : decode cX4_isImage 13 = .ok (.iconst 0, 1) := by decide +kernel
theorem dX4_isImage_14 : decode cX4_isImage 14 = .ok (.ireturn, 1) := by decide +kernel
theorem dX4_isInspector_0 : decode cX4_isInspector 0 = .ok (.iload_n 1, 1) := by decide +kernel
theorem dX4_isInspector_1 : decode cX4_isInspector 1 = .ok (.ifCond .lt 23, 3) := by decide +kernel
theorem dX4_isInspector_4 : decode cX4_isInspector 4 = .ok (.iload_n 1, 1) := by decide +kernel
theorem dX4_isInspector_5 : decode cX4_isInspector 5 = .ok (.aload_n 0, 1) := by decide +kernel
theorem dX4_isInspector_6 : decode cX4_isInspector 6 = .ok (.getfield 12, 3) := by decide +kernel
theorem dX4_isInspector_9 : decode cX4_isInspector 9 = .ok (.getfield 53, 3) := by decide +kernel
theorem dX4_isInspector_12 : decode cX4_isInspector 12 = .ok (.if_icmp .ge 12, 3) := by decide +kernel
theorem dX4_isInspector_15 : decode cX4_isInspector 15 = .ok (.iload_n 1, 1) := by decide +kernel
theorem dX4_isInspector_16 : decode cX4_isInspector 16 = .ok (.iconst 4, 1) := by decide +kernel
theorem dX4_isInspector_17 : decode cX4_isInspector 17 = .ok (.if_icmp .ge 7, 3) := by decide +kernel
theorem dX4_isInspector_20 : decode cX4_isInspector 20 = .ok (.iconst 1, 1) := by decide +kernel
theorem dX4_isInspector_21 : decode cX4_isInspector 21 = .ok (.goto 4, 3) := by decide +kernel
theorem dX4_isInspector_24 : decode cX4_isInspector 24 = .ok (.iconst 0, 1) := by decide +kernel
theorem dX4_isInspector_25 : decode cX4_isInspector 25 = .ok (.ireturn, 1) := by decide +kernel
theorem dX4_isAsked_0 : decode cX4_isAsked 0 = .ok (.aload_n 0, 1) := by decide +kernel
theorem dX4_isAsked_1 : decode cX4_isAsked 1 = .ok (.iload_n 1, 1) := by decide +kernel
theorem dX4_isAsked_2 : decode cX4_isAsked 2 = .ok (.invokevirtual 132, 3) := by decide +kernel
theorem dX4_isAsked_5 : decode cX4_isAsked 5 = .ok (.ifCond .eq 36, 3) := by decide +kernel
theorem dX4_isAsked_8 : decode cX4_isAsked 8 = .ok (.iload_n 2, 1) := by decide +kernel
theorem dX4_isAsked_9 : decode cX4_isAsked 9 = .ok (.invokestatic 116, 3) := by decide +kernel
theorem dX4_isAsked_12 : decode cX4_isAsked 12 = .ok (.ifCond .eq 29, 3) := by decide +kernel
