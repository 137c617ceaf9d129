theorem dX4_isAsked_15 : decode cX4_isAsked 15 = .ok (.iload_n 3, 1) := by decide +kernel
theorem dX4_isAsked_16 : decode cX4_isAsked 16 = .ok (.iconst 1, 1) := by decide +kernel
theorem dX4_isAsked_17 : decode cX4_isAsked 17 = .ok (.if_icmp .lt 24, 3) := by decide +kernel
theorem dX4_isAsked_20 : decode cX4_isAsked 20 = .ok (.iload_n 3, 1) := by decide +kernel
theorem dX4_isAsked_21 : decode cX4_isAsked 21 = .ok (.bipush 15, 2) := by decide +kernel
theorem dX4_isAsked_23 : decode cX4_isAsked 23 = .ok (.if_icmp .ge 18, 3) := by decide +kernel
theorem dX4_isAsked_26 : decode cX4_isAsked 26 = .ok (.iload 4, 2) := by decide +kernel
theorem dX4_isAsked_28 : decode cX4_isAsked 28 = .ok (.ifCond .lt 13, 3) := by decide +kernel
theorem dX4_isAsked_31 : decode cX4_isAsked 31 = .ok (.iload 4, 2) := by decide +kernel
theorem dX4_isAsked_33 : decode cX4_isAsked 33 = .ok (.iconst 3, 1) := by decide +kernel
theorem dX4_isAsked_34 : decode cX4_isAsked 34 = .ok (.if_icmp .ge 7, 3) := by decide +kernel
theorem dX4_isAsked_37 : decode cX4_isAsked 37 = .ok (.iconst 1, 1) := by decide +kernel
theorem dX4_isAsked_38 : decode cX4_isAsked 38 = .ok (.goto 4, 3) := by decide +kernel
theorem dX4_isAsked_41 : decode cX4_isAsked 41 = .ok (.iconst 0, 1) := by decide +kernel
theorem dX4_isAsked_42 : decode cX4_isAsked 42 = .ok (.ireturn, 1) := by decide +kernel
theorem dX4_refuseBad_0 : decode cX4_refuseBad 0 = .ok (.aload_n 0, 1) := by decide +kernel
theorem dX4_refuseBad_1 : decode cX4_refuseBad 1 = .ok (.dup, 1) := by decide +kernel
theorem dX4_refuseBad_2 : decode cX4_refuseBad 2 = .ok (.getfield 227, 3) := by decide +kernel
theorem dX4_refuseBad_5 : decode cX4_refuseBad 5 = .ok (.iconst 1, 1) := by decide +kernel
theorem dX4_refuseBad_6 : decode cX4_refuseBad 6 = .ok (.iadd, 1) := by decide +kernel
theorem dX4_refuseBad_7 : decode cX4_refuseBad 7 = .ok (.putfield 227, 3) := by decide +kernel
theorem dX4_refuseBad_10 : decode cX4_refuseBad 10 = .ok (.bipush (-2), 2) := by decide +kernel
theorem dX4_refuseBad_12 : decode cX4_refuseBad 12 = .ok (.ireturn, 1) := by decide +kernel
theorem dX4_refuseNo_0 : decode cX4_refuseNo 0 = .ok (.aload_n 0, 1) := by decide +kernel
theorem dX4_refuseNo_1 : decode cX4_refuseNo 1 = .ok (.dup, 1) := by decide +kernel
theorem dX4_refuseNo_2 : decode cX4_refuseNo 2 = .ok (.getfield 230, 3) := by decide +kernel
theorem dX4_refuseNo_5 : decode cX4_refuseNo 5 = .ok (.iconst 1, 1) := by decide +kernel
theorem dX4_refuseNo_6 : decode cX4_refuseNo 6 = .ok (.iadd, 1) := by decide +kernel
theorem dX4_refuseNo_7 : decode cX4_refuseNo 7 = .ok (.putfield 230, 3) := by decide +kernel
theorem dX4_refuseNo_10 : decode cX4_refuseNo 10 = .ok (.bipush (-3), 2) := by decide +kernel
theorem dX4_refuseNo_12 : decode cX4_refuseNo 12 = .ok (.ireturn, 1) := by decide +kernel
theorem dX4_refuseFull_0 : decode cX4_refuseFull 0 = .ok (.aload_n 0, 1) := by decide +kernel
theorem dX4_refuseFull_1 : decode cX4_refuseFull 1 = .ok (.dup, 1) := by decide +kernel
theorem dX4_refuseFull_2 : decode cX4_refuseFull 2 = .ok (.getfield 233, 3) := by decide +kernel
theorem dX4_refuseFull_5 : decode cX4_refuseFull 5 = .ok (.iconst 1, 1) := by decide +kernel
theorem dX4_refuseFull_6 : decode cX4_refuseFull 6 = .ok (.iadd, 1) := by decide +kernel
theorem dX4_refuseFull_7 : decode cX4_refuseFull 7 = .ok (.putfield 233, 3) := by decide +kernel
theorem dX4_refuseFull_10 : decode cX4_refuseFull 10 = .ok (.bipush (-4), 2) := by decide +kernel
theorem dX4_refuseFull_12 : decode cX4_refuseFull 12 = .ok (.ireturn, 1) := by decide +kernel
theorem dX4_howMany_0 : decode cX4_howMany 0 = .ok (.iload_n 1, 1) := by decide +kernel
theorem dX4_howMany_1 : decode cX4_howMany 1 = .ok (.tableswitch 78 0 4 #[35, 43, 54, 62, 70], 35) := by decide +kernel
theorem dX4_howMany_36 : decode cX4_howMany 36 = .ok (.aload_n 0, 1) := by decide +kernel
theorem dX4_howMany_37 : decode cX4_howMany 37 = .ok (.getfield 12, 3) := by decide +kernel
theorem dX4_howMany_40 : decode cX4_howMany 40 = .ok (.getfield 53, 3) := by decide +kernel
theorem dX4_howMany_43 : decode cX4_howMany 43 = .ok (.ireturn, 1) := by decide +kernel
theorem dX4_howMany_44 : decode cX4_howMany 44 = .ok (.aload_n 0, 1) := by decide +kernel
theorem dX4_howMany_45 : decode cX4_howMany 45 = .ok (.getfield 12, 3) := by decide +kernel
theorem dX4_howMany_48 : decode cX4_howMany 48 = .ok (.getfield 75, 3) := by decide +kernel
theorem dX4_howMany_51 : decode cX4_howMany 51 = .ok (.invokestatic 78, 3) := by decide +kernel
theorem dX4_howMany_54 : decode cX4_howMany 54 = .ok (.ireturn, 1) := by decide +kernel
theorem dX4_howMany_55 : decode cX4_howMany 55 = .ok (.aload_n 0, 1) := by decide +kernel
theorem dX4_howMany_56 : decode cX4_howMany 56 = .ok (.getfield 12, 3) := by decide +kernel
theorem dX4_howMany_59 : decode cX4_howMany 59 = .ok (.getfield 109, 3) := by decide +kernel
theorem dX4_howMany_62 : decode cX4_howMany 62 = .ok (.ireturn, 1) := by decide +kernel
theorem dX4_howMany_63 : decode cX4_howMany 63 = .ok (.aload_n 0, 1) := by decide +kernel
theorem dX4_howMany_64 : decode cX4_howMany 64 = .ok (.getfield 12, 3) := by decide +kernel
theorem dX4_howMany_67 : decode cX4_howMany 67 = .ok (.invokevirtual 246, 3) := by decide +kernel
theorem dX4_howMany_70 : decode cX4_howMany 70 = .ok (.ireturn, 1) := by decide +kernel
theorem dX4_howMany_71 : decode cX4_howMany 71 = .ok (.aload_n 0, 1) := by decide +kernel
theorem dX4_howMany_72 : decode cX4_howMany 72 = .ok (.getfield 12, 3) := by decide +kernel
theorem dX4_howMany_75 : decode cX4_howMany 75 = .ok (.getfield 72, 3) := by decide +kernel
theorem dX4_howMany_78 : decode cX4_howMany 78 = .ok (.ireturn, 1) := by decide +kernel
theorem dX4_howMany_79 : decode cX4_howMany 79 = .ok (.aload_n 0, 1) := by decide +kernel
theorem dX4_howMany_80 : decode cX4_howMany 80 = .ok (.getfield 28, 3) := by decide +kernel
theorem dX4_howMany_83 : decode cX4_howMany 83 = .ok (.getfield 90, 3) := by decide +kernel
theorem dX4_howMany_86 : decode cX4_howMany 86 = .ok (.ireturn, 1) := by decide +kernel
theorem dX4_setFraction_0 : decode cX4_setFraction 0 = .ok (.lload_n 1, 1) := by decide +kernel
theorem dX4_setFraction_1 : decode cX4_setFraction 1 = .ok (.lload_n 3, 1) := by decide +kernel
theorem dX4_setFraction_2 : decode cX4_setFraction 2 = .ok (.invokestatic 249, 3) := by decide +kernel
theorem dX4_setFraction_5 : decode cX4_setFraction 5 = .ok (.lstore 5, 2) := by decide +kernel
theorem dX4_setFraction_7 : decode cX4_setFraction 7 = .ok (.lload 5, 2) := by decide +kernel
theorem dX4_setFraction_9 : decode cX4_setFraction 9 = .ok (.lconst 0, 1) := by decide +kernel
theorem dX4_setFraction_10 : decode cX4_setFraction 10 = .ok (.lcmp, 1) := by decide +kernel
theorem dX4_setFraction_11 : decode cX4_setFraction 11 = .ok (.ifCond .le 19, 3) := by decide +kernel
theorem dX4_setFraction_14 : decode cX4_setFraction 14 = .ok (.aload_n 0, 1) := by decide +kernel
theorem dX4_setFraction_15 : decode cX4_setFraction 15 = .ok (.lload_n 1, 1) := by decide +kernel
theorem dX4_setFraction_16 : decode cX4_setFraction 16 = .ok (.lload 5, 2) := by decide +kernel
theorem dX4_setFraction_18 : decode cX4_setFraction 18 = .ok (.ldiv, 1) := by decide +kernel
theorem dX4_setFraction_19 : decode cX4_setFraction 19 = .ok (.putfield 46, 3) := by decide +kernel
theorem dX4_setFraction_22 : decode cX4_setFraction 22 = .ok (.aload_n 0, 1) := by decide +kernel
theorem dX4_setFraction_23 : decode cX4_setFraction 23 = .ok (.lload_n 3, 1) := by decide +kernel
theorem dX4_setFraction_24 : decode cX4_setFraction 24 = .ok (.lload 5, 2) := by decide +kernel
theorem dX4_setFraction_26 : decode cX4_setFraction 26 = .ok (.ldiv, 1) := by decide +kernel
theorem dX4_setFraction_27 : decode cX4_setFraction 27 = .ok (.putfield 50, 3) := by decide +kernel
theorem dX4_setFraction_30 : decode cX4_setFraction 30 = .ok (.return_, 1) := by decide +kernel
theorem dX4_commonDivisor_0 : decode cX4_commonDivisor 0 = .ok (.lload_n 0, 1) := by decide +kernel
theorem dX4_commonDivisor_1 : decode cX4_commonDivisor 1 = .ok (.lstore 4, 2) := by decide +kernel
theorem dX4_commonDivisor_3 : decode cX4_commonDivisor 3 = .ok (.lload_n 2, 1) := by decide +kernel
theorem dX4_commonDivisor_4 : decode cX4_commonDivisor 4 = .ok (.lstore 6, 2) := by decide +kernel
theorem dX4_commonDivisor_6 : decode cX4_commonDivisor 6 = .ok (.iconst 0, 1) := by decide +kernel
theorem dX4_commonDivisor_7 : decode cX4_commonDivisor 7 = .ok (.istore 8, 2) := by decide +kernel
theorem dX4_commonDivisor_9 : decode cX4_commonDivisor 9 = .ok (.iload 8, 2) := by decide +kernel
theorem dX4_commonDivisor_11 : decode cX4_commonDivisor 11 = .ok (.bipush 100, 2) := by decide +kernel
theorem dX4_commonDivisor_13 : decode cX4_commonDivisor 13 = .ok (.if_icmp .ge 31, 3) := by decide +kernel
theorem dX4_commonDivisor_16 : decode cX4_commonDivisor 16 = .ok (.lload 6, 2) := by decide +kernel
theorem dX4_commonDivisor_18 : decode cX4_commonDivisor 18 = .ok (.lconst 0, 1) := by decide +kernel
theorem dX4_commonDivisor_19 : decode cX4_commonDivisor 19 = .ok (.lcmp, 1) := by decide +kernel
theorem dX4_commonDivisor_20 : decode cX4_commonDivisor 20 = .ok (.ifCond .eq 24, 3) := by decide +kernel
theorem dX4_commonDivisor_23 : decode cX4_commonDivisor 23 = .ok (.lload 4, 2) := by decide +kernel
theorem dX4_commonDivisor_25 : decode cX4_commonDivisor 25 = .ok (.lload 6, 2) := by decide +kernel
theorem dX4_commonDivisor_27 : decode cX4_commonDivisor 27 = .ok (.lrem, 1) := by decide +kernel
theorem dX4_commonDivisor_28 : decode cX4_commonDivisor 28 = .ok (.lstore 9, 2) := by decide +kernel
theorem dX4_commonDivisor_30 : decode cX4_commonDivisor 30 = .ok (.lload 6, 2) := by decide +kernel
theorem dX4_commonDivisor_32 : decode cX4_commonDivisor 32 = .ok (.lstore 4, 2) := by decide +kernel
theorem dX4_commonDivisor_34 : decode cX4_commonDivisor 34 = .ok (.lload 9, 2) := by decide +kernel
theorem dX4_commonDivisor_36 : decode cX4_commonDivisor 36 = .ok (.lstore 6, 2) := by decide +kernel
theorem dX4_commonDivisor_38 : decode cX4_commonDivisor 38 = .ok (.iinc 8 1, 3) := by decide +kernel
theorem dX4_commonDivisor_41 : decode cX4_commonDivisor 41 = .ok (.goto (-32), 3) := by decide +kernel
theorem dX4_commonDivisor_44 : decode cX4_commonDivisor 44 = .ok (.lload 4, 2) := by decide +kernel
theorem dX4_commonDivisor_46 : decode cX4_commonDivisor 46 = .ok (.lreturn, 1) := by decide +kernel
theorem dX4_drawn_0 : decode cX4_drawn 0 = .ok (.lload_n 0, 1) := by decide +kernel
theorem dX4_drawn_1 : decode cX4_drawn 1 = .ok (.ldc2_w 253, 3) := by decide +kernel
theorem dX4_drawn_4 : decode cX4_drawn 4 = .ok (.lmul, 1) := by decide +kernel
theorem dX4_drawn_5 : decode cX4_drawn 5 = .ok (.ldc2_w 255, 3) := by decide +kernel
theorem dX4_drawn_8 : decode cX4_drawn 8 = .ok (.ladd, 1) := by decide +kernel
theorem dX4_drawn_9 : decode cX4_drawn 9 = .ok (.ldc2_w 257, 3) := by decide +kernel
theorem dX4_drawn_12 : decode cX4_drawn 12 = .ok (.lrem, 1) := by decide +kernel
theorem dX4_drawn_13 : decode cX4_drawn 13 = .ok (.lreturn, 1) := by decide +kernel
theorem dX4_truth_0 : decode cX4_truth 0 = .ok (.iload_n 0, 1) := by decide +kernel
theorem dX4_truth_1 : decode cX4_truth 1 = .ok (.iload_n 1, 1) := by decide +kernel
theorem dX4_truth_2 : decode cX4_truth 2 = .ok (.ishr, 1) := by decide +kernel
theorem dX4_truth_3 : decode cX4_truth 3 = .ok (.iconst 1, 1) := by decide +kernel
theorem dX4_truth_4 : decode cX4_truth 4 = .ok (.iand, 1) := by decide +kernel
theorem dX4_truth_5 : decode cX4_truth 5 = .ok (.iconst 1, 1) := by decide +kernel
theorem dX4_truth_6 : decode cX4_truth 6 = .ok (.if_icmp .ne 7, 3) := by decide +kernel
theorem dX4_truth_9 : decode cX4_truth 9 = .ok (.iconst 1, 1) := by decide +kernel
theorem dX4_truth_10 : decode cX4_truth 10 = .ok (.goto 4, 3) := by decide +kernel
theorem dX4_truth_13 : decode cX4_truth 13 = .ok (.iconst 0, 1) := by decide +kernel
theorem dX4_truth_14 : decode cX4_truth 14 = .ok (.ireturn, 1) := by decide +kernel
theorem dX4_given_0 : decode cX4_given 0 = .ok (.iload_n 0, 1) := by decide +kernel
theorem dX4_given_1 : decode cX4_given 1 = .ok (.tableswitch 90 1 5 #[35, 46, 52, 57, 73], 35) := by decide +kernel
theorem dX4_given_36 : decode cX4_given 36 = .ok (.iload_n 2, 1) := by decide +kernel
theorem dX4_given_37 : decode cX4_given 37 = .ok (.iconst 4, 1) := by decide +kernel
theorem dX4_given_38 : decode cX4_given 38 = .ok (.if_icmp .lt 7, 3) := by decide +kernel
theorem dX4_given_41 : decode cX4_given 41 = .ok (.iconst 1, 1) := by decide +kernel
theorem dX4_given_42 : decode cX4_given 42 = .ok (.goto 4, 3) := by decide +kernel
theorem dX4_given_45 : decode cX4_given 45 = .ok (.iload_n 1, 1) := by decide +kernel
theorem dX4_given_46 : decode cX4_given 46 = .ok (.ireturn, 1) := by decide +kernel
theorem dX4_given_47 : decode cX4_given 47 = .ok (.iload_n 1, 1) := by decide +kernel
theorem dX4_given_48 : decode cX4_given 48 = .ok (.iload_n 2, 1) := by decide +kernel
theorem dX4_given_49 : decode cX4_given 49 = .ok (.invokestatic 259, 3) := by decide +kernel
theorem dX4_given_52 : decode cX4_given 52 = .ok (.ireturn, 1) := by decide +kernel
theorem dX4_given_53 : decode cX4_given 53 = .ok (.iload_n 1, 1) := by decide +kernel
theorem dX4_given_54 : decode cX4_given 54 = .ok (.invokestatic 262, 3) := by decide +kernel
theorem dX4_given_57 : decode cX4_given 57 = .ok (.ireturn, 1) := by decide +kernel
theorem dX4_given_58 : decode cX4_given 58 = .ok (.iload 4, 2) := by decide +kernel
theorem dX4_given_60 : decode cX4_given 60 = .ok (.iconst 3, 1) := by decide +kernel
theorem dX4_given_61 : decode cX4_given 61 = .ok (.if_icmp .lt 7, 3) := by decide +kernel
theorem dX4_given_64 : decode cX4_given 64 = .ok (.iconst 2, 1) := by decide +kernel
theorem dX4_given_65 : decode cX4_given 65 = .ok (.goto 8, 3) := by decide +kernel
theorem dX4_given_68 : decode cX4_given 68 = .ok (.iload_n 1, 1) := by decide +kernel
theorem dX4_given_69 : decode cX4_given 69 = .ok (.iload_n 2, 1) := by decide +kernel
theorem dX4_given_70 : decode cX4_given 70 = .ok (.invokestatic 259, 3) := by decide +kernel
theorem dX4_given_73 : decode cX4_given 73 = .ok (.ireturn, 1) := by decide +kernel
theorem dX4_given_74 : decode cX4_given 74 = .ok (.iload_n 3, 1) := by decide +kernel
theorem dX4_given_75 : decode cX4_given 75 = .ok (.invokestatic 78, 3) := by decide +kernel
theorem dX4_given_78 : decode cX4_given 78 = .ok (.iconst 3, 1) := by decide +kernel
theorem dX4_given_79 : decode cX4_given 79 = .ok (.if_icmp .ne 7, 3) := by decide +kernel
theorem dX4_given_82 : decode cX4_given 82 = .ok (.iconst 1, 1) := by decide +kernel
theorem dX4_given_83 : decode cX4_given 83 = .ok (.goto 7, 3) := by decide +kernel
theorem dX4_given_86 : decode cX4_given 86 = .ok (.iload_n 1, 1) := by decide +kernel
theorem dX4_given_87 : decode cX4_given 87 = .ok (.invokestatic 262, 3) := by decide +kernel
theorem dX4_given_90 : decode cX4_given 90 = .ok (.ireturn, 1) := by decide +kernel
theorem dX4_given_91 : decode cX4_given 91 = .ok (.iload_n 1, 1) := by decide +kernel
theorem dX4_given_92 : decode cX4_given 92 = .ok (.ireturn, 1) := by decide +kernel
theorem dX4_oldGiven_0 : decode cX4_oldGiven 0 = .ok (.iload_n 1, 1) := by decide +kernel
theorem dX4_oldGiven_1 : decode cX4_oldGiven 1 = .ok (.iconst 2, 1) := by decide +kernel
theorem dX4_oldGiven_2 : decode cX4_oldGiven 2 = .ok (.irem, 1) := by decide +kernel
theorem dX4_oldGiven_3 : decode cX4_oldGiven 3 = .ok (.iconst 1, 1) := by decide +kernel
theorem dX4_oldGiven_4 : decode cX4_oldGiven 4 = .ok (.if_icmp .ne 7, 3) := by decide +kernel
theorem dX4_oldGiven_7 : decode cX4_oldGiven 7 = .ok (.iconst 2, 1) := by decide +kernel
theorem dX4_oldGiven_8 : decode cX4_oldGiven 8 = .ok (.goto 4, 3) := by decide +kernel
theorem dX4_oldGiven_11 : decode cX4_oldGiven 11 = .ok (.iload_n 0, 1) := by decide +kernel
theorem dX4_oldGiven_12 : decode cX4_oldGiven 12 = .ok (.ireturn, 1) := by decide +kernel
theorem dX4_coyGiven_0 : decode cX4_coyGiven 0 = .ok (.iconst 1, 1) := by decide +kernel
theorem dX4_coyGiven_1 : decode cX4_coyGiven 1 = .ok (.iload_n 0, 1) := by decide +kernel
theorem dX4_coyGiven_2 : decode cX4_coyGiven 2 = .ok (.isub, 1) := by decide +kernel
theorem dX4_coyGiven_3 : decode cX4_coyGiven 3 = .ok (.ireturn, 1) := by decide +kernel
theorem dX4_tellsTruth_0 : decode cX4_tellsTruth 0 = .ok (.iload_n 0, 1) := by decide +kernel
theorem dX4_tellsTruth_1 : decode cX4_tellsTruth 1 = .ok (.iconst 1, 1) := by decide +kernel
theorem dX4_tellsTruth_2 : decode cX4_tellsTruth 2 = .ok (.iload_n 1, 1) := by decide +kernel
theorem dX4_tellsTruth_3 : decode cX4_tellsTruth 3 = .ok (.iload_n 2, 1) := by decide +kernel
theorem dX4_tellsTruth_4 : decode cX4_tellsTruth 4 = .ok (.iload_n 3, 1) := by decide +kernel
theorem dX4_tellsTruth_5 : decode cX4_tellsTruth 5 = .ok (.invokestatic 170, 3) := by decide +kernel
theorem dX4_tellsTruth_8 : decode cX4_tellsTruth 8 = .ok (.iload_n 0, 1) := by decide +kernel
theorem dX4_tellsTruth_9 : decode cX4_tellsTruth 9 = .ok (.iconst 0, 1) := by decide +kernel
theorem dX4_tellsTruth_10 : decode cX4_tellsTruth 10 = .ok (.iload_n 1, 1) := by decide +kernel
theorem dX4_tellsTruth_11 : decode cX4_tellsTruth 11 = .ok (.iload_n 2, 1) := by decide +kernel
theorem dX4_tellsTruth_12 : decode cX4_tellsTruth 12 = .ok (.iload_n 3, 1) := by decide +kernel
theorem dX4_tellsTruth_13 : decode cX4_tellsTruth 13 = .ok (.invokestatic 170, 3) := by decide +kernel
theorem dX4_tellsTruth_16 : decode cX4_tellsTruth 16 = .ok (.if_icmp .eq 7, 3) := by decide +kernel
theorem dX4_tellsTruth_19 : decode cX4_tellsTruth 19 = .ok (.iconst 1, 1) := by decide +kernel
theorem dX4_tellsTruth_20 : decode cX4_tellsTruth 20 = .ok (.goto 4, 3) := by decide +kernel
theorem dX4_tellsTruth_23 : decode cX4_tellsTruth 23 = .ok (.iconst 0, 1) := by decide +kernel
theorem dX4_tellsTruth_24 : decode cX4_tellsTruth 24 = .ok (.ireturn, 1) := by decide +kernel
theorem dX4_sumFits_0 : decode cX4_sumFits 0 = .ok (.aload_n 0, 1) := by decide +kernel
theorem dX4_sumFits_1 : decode cX4_sumFits 1 = .ok (.getfield 42, 3) := by decide +kernel
theorem dX4_sumFits_4 : decode cX4_sumFits 4 = .ok (.aload_n 0, 1) := by decide +kernel
theorem dX4_sumFits_5 : decode cX4_sumFits 5 = .ok (.getfield 12, 3) := by decide +kernel
theorem dX4_sumFits_8 : decode cX4_sumFits 8 = .ok (.iconst 0, 1) := by decide +kernel
theorem dX4_sumFits_9 : decode cX4_sumFits 9 = .ok (.invokevirtual 159, 3) := by decide +kernel
theorem dX4_sumFits_12 : decode cX4_sumFits 12 = .ok (.aload_n 0, 1) := by decide +kernel
theorem dX4_sumFits_13 : decode cX4_sumFits 13 = .ok (.getfield 42, 3) := by decide +kernel
theorem dX4_sumFits_16 : decode cX4_sumFits 16 = .ok (.aload_n 0, 1) := by decide +kernel
theorem dX4_sumFits_17 : decode cX4_sumFits 17 = .ok (.getfield 12, 3) := by decide +kernel
theorem dX4_sumFits_20 : decode cX4_sumFits 20 = .ok (.invokevirtual 163, 3) := by decide +kernel
theorem dX4_sumFits_23 : decode cX4_sumFits 23 = .ok (.return_, 1) := by decide +kernel
theorem dX4_mostAlike_0 : decode cX4_mostAlike 0 = .ok (.aload_n 0, 1) := by decide +kernel
theorem dX4_mostAlike_1 : decode cX4_mostAlike 1 = .ok (.getfield 12, 3) := by decide +kernel
theorem dX4_mostAlike_4 : decode cX4_mostAlike 4 = .ok (.getfield 135, 3) := by decide +kernel
theorem dX4_mostAlike_7 : decode cX4_mostAlike 7 = .ok (.iload_n 1, 1) := by decide +kernel
theorem dX4_mostAlike_8 : decode cX4_mostAlike 8 = .ok (.iaload, 1) := by decide +kernel
theorem dX4_mostAlike_9 : decode cX4_mostAlike 9 = .ok (.iload_n 2, 1) := by decide +kernel
theorem dX4_mostAlike_10 : decode cX4_mostAlike 10 = .ok (.iload_n 3, 1) := by decide +kernel
theorem dX4_mostAlike_11 : decode cX4_mostAlike 11 = .ok (.aload_n 0, 1) := by decide +kernel
theorem dX4_mostAlike_12 : decode cX4_mostAlike 12 = .ok (.getfield 12, 3) := by decide +kernel
theorem dX4_mostAlike_15 : decode cX4_mostAlike 15 = .ok (.getfield 138, 3) := by decide +kernel
theorem dX4_mostAlike_18 : decode cX4_mostAlike 18 = .ok (.iload_n 1, 1) := by decide +kernel
theorem dX4_mostAlike_19 : decode cX4_mostAlike 19 = .ok (.iaload, 1) := by decide +kernel
theorem dX4_mostAlike_20 : decode cX4_mostAlike 20 = .ok (.invokestatic 265, 3) := by decide +kernel
theorem dX4_mostAlike_23 : decode cX4_mostAlike 23 = .ok (.ifCond .ne 6, 3) := by decide +kernel
theorem dX4_mostAlike_26 : decode cX4_mostAlike 26 = .ok (.lload 4, 2) := by decide +kernel
theorem dX4_mostAlike_28 : decode cX4_mostAlike 28 = .ok (.lreturn, 1) := by decide +kernel
theorem dX4_mostAlike_29 : decode cX4_mostAlike 29 = .ok (.lconst 0, 1) := by decide +kernel
theorem dX4_mostAlike_30 : decode cX4_mostAlike 30 = .ok (.lstore 6, 2) := by decide +kernel
theorem dX4_mostAlike_32 : decode cX4_mostAlike 32 = .ok (.iconst 0, 1) := by decide +kernel
theorem dX4_mostAlike_33 : decode cX4_mostAlike 33 = .ok (.istore 8, 2) := by decide +kernel
theorem dX4_mostAlike_35 : decode cX4_mostAlike 35 = .ok (.iload 8, 2) := by decide +kernel
theorem dX4_mostAlike_37 : decode cX4_mostAlike 37 = .ok (.iconst 4, 1) := by decide +kernel
theorem dX4_mostAlike_38 : decode cX4_mostAlike 38 = .ok (.if_icmp .ge 34, 3) := by decide +kernel
theorem dX4_mostAlike_41 : decode cX4_mostAlike 41 = .ok (.iload_n 3, 1) := by decide +kernel
theorem dX4_mostAlike_42 : decode cX4_mostAlike 42 = .ok (.iload 8, 2) := by decide +kernel
theorem dX4_mostAlike_44 : decode cX4_mostAlike 44 = .ok (.invokestatic 166, 3) := by decide +kernel
theorem dX4_mostAlike_47 : decode cX4_mostAlike 47 = .ok (.iconst 1, 1) := by decide +kernel
theorem dX4_mostAlike_48 : decode cX4_mostAlike 48 = .ok (.if_icmp .ne 18, 3) := by decide +kernel
theorem dX4_mostAlike_51 : decode cX4_mostAlike 51 = .ok (.lload 6, 2) := by decide +kernel
theorem dX4_mostAlike_53 : decode cX4_mostAlike 53 = .ok (.aload_n 0, 1) := by decide +kernel
theorem dX4_mostAlike_54 : decode cX4_mostAlike 54 = .ok (.getfield 42, 3) := by decide +kernel
theorem dX4_mostAlike_57 : decode cX4_mostAlike 57 = .ok (.iload_n 2, 1) := by decide +kernel
theorem dX4_mostAlike_58 : decode cX4_mostAlike 58 = .ok (.iload 8, 2) := by decide +kernel
theorem dX4_mostAlike_60 : decode cX4_mostAlike 60 = .ok (.invokevirtual 151, 3) := by decide +kernel
theorem dX4_mostAlike_63 : decode cX4_mostAlike 63 = .ok (.ladd, 1) := by decide +kernel
theorem dX4_mostAlike_64 : decode cX4_mostAlike 64 = .ok (.lstore 6, 2) := by decide +kernel
theorem dX4_mostAlike_66 : decode cX4_mostAlike 66 = .ok (.iinc 8 1, 3) := by decide +kernel
theorem dX4_mostAlike_69 : decode cX4_mostAlike 69 = .ok (.goto (-34), 3) := by decide +kernel
theorem dX4_mostAlike_72 : decode cX4_mostAlike 72 = .ok (.lload 6, 2) := by decide +kernel
theorem dX4_mostAlike_74 : decode cX4_mostAlike 74 = .ok (.lload 4, 2) := by decide +kernel
theorem dX4_mostAlike_76 : decode cX4_mostAlike 76 = .ok (.lload 6, 2) := by decide +kernel
theorem dX4_mostAlike_78 : decode cX4_mostAlike 78 = .ok (.lsub, 1) := by decide +kernel
theorem dX4_mostAlike_79 : decode cX4_mostAlike 79 = .ok (.invokestatic 268, 3) := by decide +kernel
theorem dX4_mostAlike_82 : decode cX4_mostAlike 82 = .ok (.lreturn, 1) := by decide +kernel
theorem dX4_fewestSayings_0 : decode cX4_fewestSayings 0 = .ok (.iconst 0, 1) := by decide +kernel
theorem dX4_fewestSayings_1 : decode cX4_fewestSayings 1 = .ok (.istore 4, 2) := by decide +kernel
theorem dX4_fewestSayings_3 : decode cX4_fewestSayings 3 = .ok (.iload 4, 2) := by decide +kernel
theorem dX4_fewestSayings_5 : decode cX4_fewestSayings 5 = .ok (.bipush 9, 2) := by decide +kernel
theorem dX4_fewestSayings_7 : decode cX4_fewestSayings 7 = .ok (.if_icmp .gt 48, 3) := by decide +kernel
theorem dX4_fewestSayings_10 : decode cX4_fewestSayings 10 = .ok (.aload_n 0, 1) := by decide +kernel
theorem dX4_fewestSayings_11 : decode cX4_fewestSayings 11 = .ok (.getfield 12, 3) := by decide +kernel
theorem dX4_fewestSayings_14 : decode cX4_fewestSayings 14 = .ok (.getfield 135, 3) := by decide +kernel
theorem dX4_fewestSayings_17 : decode cX4_fewestSayings 17 = .ok (.iload_n 1, 1) := by decide +kernel
theorem dX4_fewestSayings_18 : decode cX4_fewestSayings 18 = .ok (.iaload, 1) := by decide +kernel
theorem dX4_fewestSayings_19 : decode cX4_fewestSayings 19 = .ok (.iload_n 2, 1) := by decide +kernel
theorem dX4_fewestSayings_20 : decode cX4_fewestSayings 20 = .ok (.aload_n 0, 1) := by decide +kernel
theorem dX4_fewestSayings_21 : decode cX4_fewestSayings 21 = .ok (.getfield 12, 3) := by decide +kernel
theorem dX4_fewestSayings_24 : decode cX4_fewestSayings 24 = .ok (.getfield 138, 3) := by decide +kernel
theorem dX4_fewestSayings_27 : decode cX4_fewestSayings 27 = .ok (.iload_n 1, 1) := by decide +kernel
theorem dX4_fewestSayings_28 : decode cX4_fewestSayings 28 = .ok (.iaload, 1) := by decide +kernel
theorem dX4_fewestSayings_29 : decode cX4_fewestSayings 29 = .ok (.iload 4, 2) := by decide +kernel
theorem dX4_fewestSayings_31 : decode cX4_fewestSayings 31 = .ok (.invokestatic 273, 3) := by decide +kernel
theorem dX4_fewestSayings_34 : decode cX4_fewestSayings 34 = .ok (.istore 5, 2) := by decide +kernel
theorem dX4_fewestSayings_36 : decode cX4_fewestSayings 36 = .ok (.iload 5, 2) := by decide +kernel
theorem dX4_fewestSayings_38 : decode cX4_fewestSayings 38 = .ok (.iload_n 3, 1) := by decide +kernel
theorem dX4_fewestSayings_39 : decode cX4_fewestSayings 39 = .ok (.ishr, 1) := by decide +kernel
theorem dX4_fewestSayings_40 : decode cX4_fewestSayings 40 = .ok (.iconst 1, 1) := by decide +kernel
theorem dX4_fewestSayings_41 : decode cX4_fewestSayings 41 = .ok (.iand, 1) := by decide +kernel
theorem dX4_fewestSayings_42 : decode cX4_fewestSayings 42 = .ok (.iconst 1, 1) := by decide +kernel
theorem dX4_fewestSayings_43 : decode cX4_fewestSayings 43 = .ok (.if_icmp .ne 6, 3) := by decide +kernel
theorem dX4_fewestSayings_46 : decode cX4_fewestSayings 46 = .ok (.iload 4, 2) := by decide +kernel
theorem dX4_fewestSayings_48 : decode cX4_fewestSayings 48 = .ok (.ireturn, 1) := by decide +kernel
theorem dX4_fewestSayings_49 : decode cX4_fewestSayings 49 = .ok (.iinc 4 1, 3) := by decide +kernel
theorem dX4_fewestSayings_52 : decode cX4_fewestSayings 52 = .ok (.goto (-49), 3) := by decide +kernel
theorem dX4_fewestSayings_55 : decode cX4_fewestSayings 55 = .ok (.iconst (-1), 1) := by decide +kernel
theorem dX4_fewestSayings_56 : decode cX4_fewestSayings 56 = .ok (.ireturn, 1) := by decide +kernel
theorem dX4_firstSaying_0 : decode cX4_firstSaying 0 = .ok (.aload_n 0, 1) := by decide +kernel
theorem dX4_firstSaying_1 : decode cX4_firstSaying 1 = .ok (.getfield 12, 3) := by decide +kernel
theorem dX4_firstSaying_4 : decode cX4_firstSaying 4 = .ok (.getfield 138, 3) := by decide +kernel
theorem dX4_firstSaying_7 : decode cX4_firstSaying 7 = .ok (.iload_n 1, 1) := by decide +kernel
theorem dX4_firstSaying_8 : decode cX4_firstSaying 8 = .ok (.iaload, 1) := by decide +kernel
theorem dX4_firstSaying_9 : decode cX4_firstSaying 9 = .ok (.istore 5, 2) := by decide +kernel
theorem dX4_firstSaying_11 : decode cX4_firstSaying 11 = .ok (.aload_n 0, 1) := by decide +kernel
theorem dX4_firstSaying_12 : decode cX4_firstSaying 12 = .ok (.getfield 12, 3) := by decide +kernel
theorem dX4_firstSaying_15 : decode cX4_firstSaying 15 = .ok (.getfield 135, 3) := by decide +kernel
theorem dX4_firstSaying_18 : decode cX4_firstSaying 18 = .ok (.iload_n 1, 1) := by decide +kernel
theorem dX4_firstSaying_19 : decode cX4_firstSaying 19 = .ok (.iaload, 1) := by decide +kernel
theorem dX4_firstSaying_20 : decode cX4_firstSaying 20 = .ok (.iload_n 2, 1) := by decide +kernel
theorem dX4_firstSaying_21 : decode cX4_firstSaying 21 = .ok (.iload 5, 2) := by decide +kernel
theorem dX4_firstSaying_23 : decode cX4_firstSaying 23 = .ok (.iconst 1, 1) := by decide +kernel
theorem dX4_firstSaying_24 : decode cX4_firstSaying 24 = .ok (.iadd, 1) := by decide +kernel
theorem dX4_firstSaying_25 : decode cX4_firstSaying 25 = .ok (.iload 4, 2) := by decide +kernel
theorem dX4_firstSaying_27 : decode cX4_firstSaying 27 = .ok (.iconst 1, 1) := by decide +kernel
theorem dX4_firstSaying_28 : decode cX4_firstSaying 28 = .ok (.isub, 1) := by decide +kernel
theorem dX4_firstSaying_29 : decode cX4_firstSaying 29 = .ok (.invokestatic 273, 3) := by decide +kernel
theorem dX4_firstSaying_32 : decode cX4_firstSaying 32 = .ok (.istore 6, 2) := by decide +kernel
theorem dX4_firstSaying_34 : decode cX4_firstSaying 34 = .ok (.aload_n 0, 1) := by decide +kernel
theorem dX4_firstSaying_35 : decode cX4_firstSaying 35 = .ok (.getfield 12, 3) := by decide +kernel
theorem dX4_firstSaying_38 : decode cX4_firstSaying 38 = .ok (.getfield 135, 3) := by decide +kernel
theorem dX4_firstSaying_41 : decode cX4_firstSaying 41 = .ok (.iload_n 1, 1) := by decide +kernel
theorem dX4_firstSaying_42 : decode cX4_firstSaying 42 = .ok (.iaload, 1) := by decide +kernel
theorem dX4_firstSaying_43 : decode cX4_firstSaying 43 = .ok (.iload_n 2, 1) := by decide +kernel
theorem dX4_firstSaying_44 : decode cX4_firstSaying 44 = .ok (.iload 5, 2) := by decide +kernel
theorem dX4_firstSaying_46 : decode cX4_firstSaying 46 = .ok (.invokestatic 276, 3) := by decide +kernel
theorem dX4_firstSaying_49 : decode cX4_firstSaying 49 = .ok (.istore 7, 2) := by decide +kernel
theorem dX4_firstSaying_51 : decode cX4_firstSaying 51 = .ok (.iconst 1, 1) := by decide +kernel
theorem dX4_firstSaying_52 : decode cX4_firstSaying 52 = .ok (.istore 8, 2) := by decide +kernel
theorem dX4_firstSaying_54 : decode cX4_firstSaying 54 = .ok (.iload 8, 2) := by decide +kernel
theorem dX4_firstSaying_56 : decode cX4_firstSaying 56 = .ok (.bipush 15, 2) := by decide +kernel
theorem dX4_firstSaying_58 : decode cX4_firstSaying 58 = .ok (.if_icmp .ge 25, 3) := by decide +kernel
theorem dX4_firstSaying_61 : decode cX4_firstSaying 61 = .ok (.iload_n 3, 1) := by decide +kernel
theorem dX4_firstSaying_62 : decode cX4_firstSaying 62 = .ok (.iload 8, 2) := by decide +kernel
theorem dX4_firstSaying_64 : decode cX4_firstSaying 64 = .ok (.iload 7, 2) := by decide +kernel
theorem dX4_firstSaying_66 : decode cX4_firstSaying 66 = .ok (.iload 6, 2) := by decide +kernel
theorem dX4_firstSaying_68 : decode cX4_firstSaying 68 = .ok (.invokestatic 279, 3) := by decide +kernel
theorem dX4_firstSaying_71 : decode cX4_firstSaying 71 = .ok (.ifCond .eq 6, 3) := by decide +kernel
theorem dX4_firstSaying_74 : decode cX4_firstSaying 74 = .ok (.iload 8, 2) := by decide +kernel
theorem dX4_firstSaying_76 : decode cX4_firstSaying 76 = .ok (.ireturn, 1) := by decide +kernel
theorem dX4_firstSaying_77 : decode cX4_firstSaying 77 = .ok (.iinc 8 1, 3) := by decide +kernel
theorem dX4_firstSaying_80 : decode cX4_firstSaying 80 = .ok (.goto (-26), 3) := by decide +kernel
theorem dX4_firstSaying_83 : decode cX4_firstSaying 83 = .ok (.iconst (-1), 1) := by decide +kernel
theorem dX4_firstSaying_84 : decode cX4_firstSaying 84 = .ok (.ireturn, 1) := by decide +kernel
theorem dX4_toldApart_0 : decode cX4_toldApart 0 = .ok (.sipush 279, 3) := by decide +kernel
theorem dX4_toldApart_3 : decode cX4_toldApart 3 = .ok (.istore 4, 2) := by decide +kernel
theorem dX4_toldApart_5 : decode cX4_toldApart 5 = .ok (.iload_n 3, 1) := by decide +kernel
theorem dX4_toldApart_6 : decode cX4_toldApart 6 = .ok (.iconst 1, 1) := by decide +kernel
theorem dX4_toldApart_7 : decode cX4_toldApart 7 = .ok (.isub, 1) := by decide +kernel
theorem dX4_toldApart_8 : decode cX4_toldApart 8 = .ok (.istore 5, 2) := by decide +kernel
theorem dX4_toldApart_10 : decode cX4_toldApart 10 = .ok (.iload 5, 2) := by decide +kernel
theorem dX4_toldApart_12 : decode cX4_toldApart 12 = .ok (.ifCond .lt 64, 3) := by decide +kernel
theorem dX4_toldApart_15 : decode cX4_toldApart 15 = .ok (.iload_n 0, 1) := by decide +kernel
theorem dX4_toldApart_16 : decode cX4_toldApart 16 = .ok (.iload_n 1, 1) := by decide +kernel
theorem dX4_toldApart_17 : decode cX4_toldApart 17 = .ok (.iload_n 2, 1) := by decide +kernel
theorem dX4_toldApart_18 : decode cX4_toldApart 18 = .ok (.iload 5, 2) := by decide +kernel
theorem dX4_toldApart_20 : decode cX4_toldApart 20 = .ok (.iadd, 1) := by decide +kernel
theorem dX4_toldApart_21 : decode cX4_toldApart 21 = .ok (.invokestatic 276, 3) := by decide +kernel
theorem dX4_toldApart_24 : decode cX4_toldApart 24 = .ok (.istore 6, 2) := by decide +kernel
theorem dX4_toldApart_26 : decode cX4_toldApart 26 = .ok (.iconst 0, 1) := by decide +kernel
theorem dX4_toldApart_27 : decode cX4_toldApart 27 = .ok (.istore 7, 2) := by decide +kernel
theorem dX4_toldApart_29 : decode cX4_toldApart 29 = .ok (.iconst 0, 1) := by decide +kernel
theorem dX4_toldApart_30 : decode cX4_toldApart 30 = .ok (.istore 8, 2) := by decide +kernel
theorem dX4_toldApart_32 : decode cX4_toldApart 32 = .ok (.iload 8, 2) := by decide +kernel
theorem dX4_toldApart_34 : decode cX4_toldApart 34 = .ok (.bipush 15, 2) := by decide +kernel
theorem dX4_toldApart_36 : decode cX4_toldApart 36 = .ok (.if_icmp .gt 30, 3) := by decide +kernel
theorem dX4_toldApart_39 : decode cX4_toldApart 39 = .ok (.iload 8, 2) := by decide +kernel
theorem dX4_toldApart_41 : decode cX4_toldApart 41 = .ok (.iload 6, 2) := by decide +kernel
theorem dX4_toldApart_43 : decode cX4_toldApart 43 = .ok (.iload 4, 2) := by decide +kernel
theorem dX4_toldApart_45 : decode cX4_toldApart 45 = .ok (.invokestatic 282, 3) := by decide +kernel
theorem dX4_toldApart_48 : decode cX4_toldApart 48 = .ok (.ifCond .eq 12, 3) := by decide +kernel
theorem dX4_toldApart_51 : decode cX4_toldApart 51 = .ok (.iload 7, 2) := by decide +kernel
theorem dX4_toldApart_53 : decode cX4_toldApart 53 = .ok (.iconst 1, 1) := by decide +kernel
theorem dX4_toldApart_54 : decode cX4_toldApart 54 = .ok (.iload 8, 2) := by decide +kernel
theorem dX4_toldApart_56 : decode cX4_toldApart 56 = .ok (.ishl, 1) := by decide +kernel
theorem dX4_toldApart_57 : decode cX4_toldApart 57 = .ok (.ior, 1) := by decide +kernel
theorem dX4_toldApart_58 : decode cX4_toldApart 58 = .ok (.istore 7, 2) := by decide +kernel
theorem dX4_toldApart_60 : decode cX4_toldApart 60 = .ok (.iinc 8 1, 3) := by decide +kernel
theorem dX4_toldApart_63 : decode cX4_toldApart 63 = .ok (.goto (-31), 3) := by decide +kernel
theorem dX4_toldApart_66 : decode cX4_toldApart 66 = .ok (.iload 7, 2) := by decide +kernel
theorem dX4_toldApart_68 : decode cX4_toldApart 68 = .ok (.istore 4, 2) := by decide +kernel
theorem dX4_toldApart_70 : decode cX4_toldApart 70 = .ok (.iinc 5 (-1), 3) := by decide +kernel
theorem dX4_toldApart_73 : decode cX4_toldApart 73 = .ok (.goto (-63), 3) := by decide +kernel
theorem dX4_toldApart_76 : decode cX4_toldApart 76 = .ok (.iload 4, 2) := by decide +kernel
theorem dX4_toldApart_78 : decode cX4_toldApart 78 = .ok (.ireturn, 1) := by decide +kernel
theorem dX4_isApartBySome_0 : decode cX4_isApartBySome 0 = .ok (.iconst 1, 1) := by decide +kernel
theorem dX4_isApartBySome_1 : decode cX4_isApartBySome 1 = .ok (.istore_n 3, 1) := by decide +kernel
theorem dX4_isApartBySome_2 : decode cX4_isApartBySome 2 = .ok (.iload_n 3, 1) := by decide +kernel
theorem dX4_isApartBySome_3 : decode cX4_isApartBySome 3 = .ok (.bipush 15, 2) := by decide +kernel
theorem dX4_isApartBySome_5 : decode cX4_isApartBySome 5 = .ok (.if_icmp .ge 21, 3) := by decide +kernel
theorem dX4_isApartBySome_8 : decode cX4_isApartBySome 8 = .ok (.iload_n 0, 1) := by decide +kernel
theorem dX4_isApartBySome_9 : decode cX4_isApartBySome 9 = .ok (.iload_n 3, 1) := by decide +kernel
theorem dX4_isApartBySome_10 : decode cX4_isApartBySome 10 = .ok (.iload_n 1, 1) := by decide +kernel
theorem dX4_isApartBySome_11 : decode cX4_isApartBySome 11 = .ok (.iload_n 2, 1) := by decide +kernel
theorem dX4_isApartBySome_12 : decode cX4_isApartBySome 12 = .ok (.invokestatic 279, 3) := by decide +kernel
theorem dX4_isApartBySome_15 : decode cX4_isApartBySome 15 = .ok (.ifCond .eq 5, 3) := by decide +kernel
theorem dX4_isApartBySome_18 : decode cX4_isApartBySome 18 = .ok (.iconst 1, 1) := by decide +kernel
theorem dX4_isApartBySome_19 : decode cX4_isApartBySome 19 = .ok (.ireturn, 1) := by decide +kernel
theorem dX4_isApartBySome_20 : decode cX4_isApartBySome 20 = .ok (.iinc 3 1, 3) := by decide +kernel
theorem dX4_isApartBySome_23 : decode cX4_isApartBySome 23 = .ok (.goto (-21), 3) := by decide +kernel
theorem dX4_isApartBySome_26 : decode cX4_isApartBySome 26 = .ok (.iconst 0, 1) := by decide +kernel
theorem dX4_isApartBySome_27 : decode cX4_isApartBySome 27 = .ok (.ireturn, 1) := by decide +kernel
theorem dX4_leavesApart_0 : decode cX4_leavesApart 0 = .ok (.iload_n 2, 1) := by decide +kernel
theorem dX4_leavesApart_1 : decode cX4_leavesApart 1 = .ok (.iload_n 1, 1) := by decide +kernel
theorem dX4_leavesApart_2 : decode cX4_leavesApart 2 = .ok (.ishr, 1) := by decide +kernel
theorem dX4_leavesApart_3 : decode cX4_leavesApart 3 = .ok (.iconst 1, 1) := by decide +kernel
theorem dX4_leavesApart_4 : decode cX4_leavesApart 4 = .ok (.iand, 1) := by decide +kernel
theorem dX4_leavesApart_5 : decode cX4_leavesApart 5 = .ok (.ifCond .ne 18, 3) := by decide +kernel
theorem dX4_leavesApart_8 : decode cX4_leavesApart 8 = .ok (.iload_n 3, 1) := by decide +kernel
theorem dX4_leavesApart_9 : decode cX4_leavesApart 9 = .ok (.iload_n 0, 1) := by decide +kernel
theorem dX4_leavesApart_10 : decode cX4_leavesApart 10 = .ok (.ishr, 1) := by decide +kernel
theorem dX4_leavesApart_11 : decode cX4_leavesApart 11 = .ok (.iconst 1, 1) := by decide +kernel
theorem dX4_leavesApart_12 : decode cX4_leavesApart 12 = .ok (.iand, 1) := by decide +kernel
theorem dX4_leavesApart_13 : decode cX4_leavesApart 13 = .ok (.iconst 1, 1) := by decide +kernel
theorem dX4_leavesApart_14 : decode cX4_leavesApart 14 = .ok (.if_icmp .ne 7, 3) := by decide +kernel
theorem dX4_leavesApart_17 : decode cX4_leavesApart 17 = .ok (.iconst 1, 1) := by decide +kernel
theorem dX4_leavesApart_18 : decode cX4_leavesApart 18 = .ok (.goto 4, 3) := by decide +kernel
theorem dX4_leavesApart_21 : decode cX4_leavesApart 21 = .ok (.iconst 0, 1) := by decide +kernel
theorem dX4_leavesApart_22 : decode cX4_leavesApart 22 = .ok (.ireturn, 1) := by decide +kernel
theorem dX4_leavesApart_23 : decode cX4_leavesApart 23 = .ok (.iload_n 3, 1) := by decide +kernel
theorem dX4_leavesApart_24 : decode cX4_leavesApart 24 = .ok (.iload_n 0, 1) := by decide +kernel
theorem dX4_leavesApart_25 : decode cX4_leavesApart 25 = .ok (.iload_n 1, 1) := by decide +kernel
theorem dX4_leavesApart_26 : decode cX4_leavesApart 26 = .ok (.iand, 1) := by decide +kernel
theorem dX4_leavesApart_27 : decode cX4_leavesApart 27 = .ok (.ishr, 1) := by decide +kernel
theorem dX4_leavesApart_28 : decode cX4_leavesApart 28 = .ok (.iconst 1, 1) := by decide +kernel
theorem dX4_leavesApart_29 : decode cX4_leavesApart 29 = .ok (.iand, 1) := by decide +kernel
theorem dX4_leavesApart_30 : decode cX4_leavesApart 30 = .ok (.iconst 1, 1) := by decide +kernel
theorem dX4_leavesApart_31 : decode cX4_leavesApart 31 = .ok (.if_icmp .ne 20, 3) := by decide +kernel
theorem dX4_leavesApart_34 : decode cX4_leavesApart 34 = .ok (.iload_n 3, 1) := by decide +kernel
theorem dX4_leavesApart_35 : decode cX4_leavesApart 35 = .ok (.iload_n 0, 1) := by decide +kernel
theorem dX4_leavesApart_36 : decode cX4_leavesApart 36 = .ok (.iload_n 1, 1) := by decide +kernel
theorem dX4_leavesApart_37 : decode cX4_leavesApart 37 = .ok (.iconst (-1), 1) := by decide +kernel
theorem dX4_leavesApart_38 : decode cX4_leavesApart 38 = .ok (.ixor, 1) := by decide +kernel
theorem dX4_leavesApart_39 : decode cX4_leavesApart 39 = .ok (.iand, 1) := by decide +kernel
theorem dX4_leavesApart_40 : decode cX4_leavesApart 40 = .ok (.ishr, 1) := by decide +kernel
theorem dX4_leavesApart_41 : decode cX4_leavesApart 41 = .ok (.iconst 1, 1) := by decide +kernel
theorem dX4_leavesApart_42 : decode cX4_leavesApart 42 = .ok (.iand, 1) := by decide +kernel
theorem dX4_leavesApart_43 : decode cX4_leavesApart 43 = .ok (.iconst 1, 1) := by decide +kernel
theorem dX4_leavesApart_44 : decode cX4_leavesApart 44 = .ok (.if_icmp .ne 7, 3) := by decide +kernel
theorem dX4_leavesApart_47 : decode cX4_leavesApart 47 = .ok (.iconst 1, 1) := by decide +kernel
theorem dX4_leavesApart_48 : decode cX4_leavesApart 48 = .ok (.goto 4, 3) := by decide +kernel
theorem dX4_leavesApart_51 : decode cX4_leavesApart 51 = .ok (.iconst 0, 1) := by decide +kernel
theorem dX4_leavesApart_52 : decode cX4_leavesApart 52 = .ok (.ireturn, 1) := by decide +kernel
theorem dX4_tellingSayings_0 : decode cX4_tellingSayings 0 = .ok (.iconst 0, 1) := by decide +kernel
theorem dX4_tellingSayings_1 : decode cX4_tellingSayings 1 = .ok (.istore_n 3, 1) := by decide +kernel
theorem dX4_tellingSayings_2 : decode cX4_tellingSayings 2 = .ok (.iconst 1, 1) := by decide +kernel
theorem dX4_tellingSayings_3 : decode cX4_tellingSayings 3 = .ok (.istore 4, 2) := by decide +kernel
theorem dX4_tellingSayings_5 : decode cX4_tellingSayings 5 = .ok (.iload 4, 2) := by decide +kernel
theorem dX4_tellingSayings_7 : decode cX4_tellingSayings 7 = .ok (.bipush 15, 2) := by decide +kernel
theorem dX4_tellingSayings_9 : decode cX4_tellingSayings 9 = .ok (.if_icmp .ge 27, 3) := by decide +kernel
theorem dX4_tellingSayings_12 : decode cX4_tellingSayings 12 = .ok (.iload_n 0, 1) := by decide +kernel
theorem dX4_tellingSayings_13 : decode cX4_tellingSayings 13 = .ok (.iload_n 1, 1) := by decide +kernel
theorem dX4_tellingSayings_14 : decode cX4_tellingSayings 14 = .ok (.iload 4, 2) := by decide +kernel
theorem dX4_tellingSayings_16 : decode cX4_tellingSayings 16 = .ok (.iload_n 2, 1) := by decide +kernel
theorem dX4_tellingSayings_17 : decode cX4_tellingSayings 17 = .ok (.invokestatic 265, 3) := by decide +kernel
theorem dX4_tellingSayings_20 : decode cX4_tellingSayings 20 = .ok (.ifCond .eq 10, 3) := by decide +kernel
theorem dX4_tellingSayings_23 : decode cX4_tellingSayings 23 = .ok (.iload_n 3, 1) := by decide +kernel
theorem dX4_tellingSayings_24 : decode cX4_tellingSayings 24 = .ok (.iconst 1, 1) := by decide +kernel
theorem dX4_tellingSayings_25 : decode cX4_tellingSayings 25 = .ok (.iload 4, 2) := by decide +kernel
theorem dX4_tellingSayings_27 : decode cX4_tellingSayings 27 = .ok (.ishl, 1) := by decide +kernel
theorem dX4_tellingSayings_28 : decode cX4_tellingSayings 28 = .ok (.ior, 1) := by decide +kernel
theorem dX4_tellingSayings_29 : decode cX4_tellingSayings 29 = .ok (.istore_n 3, 1) := by decide +kernel
theorem dX4_tellingSayings_30 : decode cX4_tellingSayings 30 = .ok (.iinc 4 1, 3) := by decide +kernel
theorem dX4_tellingSayings_33 : decode cX4_tellingSayings 33 = .ok (.goto (-28), 3) := by decide +kernel
theorem dX4_tellingSayings_36 : decode cX4_tellingSayings 36 = .ok (.iload_n 3, 1) := by decide +kernel
theorem dX4_tellingSayings_37 : decode cX4_tellingSayings 37 = .ok (.ireturn, 1) := by decide +kernel
theorem dX4_rests_0 : decode cX4_rests 0 = .ok (.iconst 0, 1) := by decide +kernel
theorem dX4_rests_1 : decode cX4_rests 1 = .ok (.istore 4, 2) := by decide +kernel
theorem dX4_rests_3 : decode cX4_rests 3 = .ok (.iload 4, 2) := by decide +kernel
theorem dX4_rests_5 : decode cX4_rests 5 = .ok (.iconst 4, 1) := by decide +kernel
theorem dX4_rests_6 : decode cX4_rests 6 = .ok (.if_icmp .ge 49, 3) := by decide +kernel
theorem dX4_rests_9 : decode cX4_rests 9 = .ok (.aload_n 0, 1) := by decide +kernel
theorem dX4_rests_10 : decode cX4_rests 10 = .ok (.iload_n 1, 1) := by decide +kernel
theorem dX4_rests_11 : decode cX4_rests 11 = .ok (.iload 4, 2) := by decide +kernel
theorem dX4_rests_13 : decode cX4_rests 13 = .ok (.iload_n 3, 1) := by decide +kernel
theorem dX4_rests_14 : decode cX4_rests 14 = .ok (.invokevirtual 285, 3) := by decide +kernel
theorem dX4_rests_17 : decode cX4_rests 17 = .ok (.aload_n 0, 1) := by decide +kernel
theorem dX4_rests_18 : decode cX4_rests 18 = .ok (.iload_n 1, 1) := by decide +kernel
theorem dX4_rests_19 : decode cX4_rests 19 = .ok (.iload_n 2, 1) := by decide +kernel
theorem dX4_rests_20 : decode cX4_rests 20 = .ok (.iload_n 3, 1) := by decide +kernel
theorem dX4_rests_21 : decode cX4_rests 21 = .ok (.invokevirtual 285, 3) := by decide +kernel
theorem dX4_rests_24 : decode cX4_rests 24 = .ok (.lcmp, 1) := by decide +kernel
theorem dX4_rests_25 : decode cX4_rests 25 = .ok (.ifCond .gt 22, 3) := by decide +kernel
theorem dX4_rests_28 : decode cX4_rests 28 = .ok (.aload_n 0, 1) := by decide +kernel
theorem dX4_rests_29 : decode cX4_rests 29 = .ok (.iload_n 1, 1) := by decide +kernel
theorem dX4_rests_30 : decode cX4_rests 30 = .ok (.iload 4, 2) := by decide +kernel
theorem dX4_rests_32 : decode cX4_rests 32 = .ok (.iload_n 2, 1) := by decide +kernel
theorem dX4_rests_33 : decode cX4_rests 33 = .ok (.invokevirtual 285, 3) := by decide +kernel
theorem dX4_rests_36 : decode cX4_rests 36 = .ok (.aload_n 0, 1) := by decide +kernel
theorem dX4_rests_37 : decode cX4_rests 37 = .ok (.iload_n 1, 1) := by decide +kernel
theorem dX4_rests_38 : decode cX4_rests 38 = .ok (.iload_n 3, 1) := by decide +kernel
theorem dX4_rests_39 : decode cX4_rests 39 = .ok (.iload_n 2, 1) := by decide +kernel
theorem dX4_rests_40 : decode cX4_rests 40 = .ok (.invokevirtual 285, 3) := by decide +kernel
theorem dX4_rests_43 : decode cX4_rests 43 = .ok (.lcmp, 1) := by decide +kernel
theorem dX4_rests_44 : decode cX4_rests 44 = .ok (.ifCond .le 5, 3) := by decide +kernel
theorem dX4_rests_47 : decode cX4_rests 47 = .ok (.iconst 0, 1) := by decide +kernel
theorem dX4_rests_48 : decode cX4_rests 48 = .ok (.ireturn, 1) := by decide +kernel
theorem dX4_rests_49 : decode cX4_rests 49 = .ok (.iinc 4 1, 3) := by decide +kernel
theorem dX4_rests_52 : decode cX4_rests 52 = .ok (.goto (-49), 3) := by decide +kernel
theorem dX4_rests_55 : decode cX4_rests 55 = .ok (.iconst 1, 1) := by decide +kernel
theorem dX4_rests_56 : decode cX4_rests 56 = .ok (.ireturn, 1) := by decide +kernel
theorem dX4_gain_0 : decode cX4_gain 0 = .ok (.aload_n 0, 1) := by decide +kernel
theorem dX4_gain_1 : decode cX4_gain 1 = .ok (.getfield 42, 3) := by decide +kernel
theorem dX4_gain_4 : decode cX4_gain 4 = .ok (.iload_n 1, 1) := by decide +kernel
theorem dX4_gain_5 : decode cX4_gain 5 = .ok (.iload_n 2, 1) := by decide +kernel
theorem dX4_gain_6 : decode cX4_gain 6 = .ok (.invokevirtual 151, 3) := by decide +kernel
theorem dX4_gain_9 : decode cX4_gain 9 = .ok (.lstore 4, 2) := by decide +kernel
theorem dX4_gain_11 : decode cX4_gain 11 = .ok (.iload_n 2, 1) := by decide +kernel
theorem dX4_gain_12 : decode cX4_gain 12 = .ok (.iload_n 3, 1) := by decide +kernel
theorem dX4_gain_13 : decode cX4_gain 13 = .ok (.if_icmp .ne 12, 3) := by decide +kernel
theorem dX4_gain_16 : decode cX4_gain 16 = .ok (.lload 4, 2) := by decide +kernel
theorem dX4_gain_18 : decode cX4_gain 18 = .ok (.ldc2_w 289, 3) := by decide +kernel
theorem dX4_gain_21 : decode cX4_gain 21 = .ok (.ldiv, 1) := by decide +kernel
theorem dX4_gain_22 : decode cX4_gain 22 = .ok (.goto 5, 3) := by decide +kernel
theorem dX4_gain_25 : decode cX4_gain 25 = .ok (.lload 4, 2) := by decide +kernel
theorem dX4_gain_27 : decode cX4_gain 27 = .ok (.lreturn, 1) := by decide +kernel
theorem dX5_init_0 : decode cX5_init 0 = .ok (.aload_n 0, 1) := by decide +kernel
theorem dX5_init_1 : decode cX5_init 1 = .ok (.invokespecial 1, 3) := by decide +kernel
theorem dX5_init_4 : decode cX5_init 4 = .ok (.aload_n 0, 1) := by decide +kernel
theorem dX5_init_5 : decode cX5_init 5 = .ok (.sipush 146, 3) := by decide +kernel
theorem dX5_init_8 : decode cX5_init 8 = .ok (.newarray .int, 2) := by decide +kernel
theorem dX5_init_10 : decode cX5_init 10 = .ok (.putfield 7, 3) := by decide +kernel
theorem dX5_init_13 : decode cX5_init 13 = .ok (.aload_n 0, 1) := by decide +kernel
theorem dX5_init_14 : decode cX5_init 14 = .ok (.sipush 292, 3) := by decide +kernel
theorem dX5_init_17 : decode cX5_init 17 = .ok (.newarray .int, 2) := by decide +kernel
theorem dX5_init_19 : decode cX5_init 19 = .ok (.putfield 13, 3) := by decide +kernel
theorem dX5_init_22 : decode cX5_init 22 = .ok (.aload_n 0, 1) := by decide +kernel
theorem dX5_init_23 : decode cX5_init 23 = .ok (.iconst 2, 1) := by decide +kernel
theorem dX5_init_24 : decode cX5_init 24 = .ok (.newarray .boolean, 2) := by decide +kernel
theorem dX5_init_26 : decode cX5_init 26 = .ok (.putfield 16, 3) := by decide +kernel
theorem dX5_init_29 : decode cX5_init 29 = .ok (.aload_n 0, 1) := by decide +kernel
theorem dX5_init_30 : decode cX5_init 30 = .ok (.iconst 3, 1) := by decide +kernel
theorem dX5_init_31 : decode cX5_init 31 = .ok (.newarray .int, 2) := by decide +kernel
theorem dX5_init_33 : decode cX5_init 33 = .ok (.putfield 20, 3) := by decide +kernel
theorem dX5_init_36 : decode cX5_init 36 = .ok (.aload_n 0, 1) := by decide +kernel
theorem dX5_init_37 : decode cX5_init 37 = .ok (.lconst 1, 1) := by decide +kernel
theorem dX5_init_38 : decode cX5_init 38 = .ok (.putfield 23, 3) := by decide +kernel
theorem dX5_init_41 : decode cX5_init 41 = .ok (.aload_n 0, 1) := by decide +kernel
theorem dX5_init_42 : decode cX5_init 42 = .ok (.iconst 4, 1) := by decide +kernel
theorem dX5_init_43 : decode cX5_init 43 = .ok (.newarray .int, 2) := by decide +kernel
theorem dX5_init_45 : decode cX5_init 45 = .ok (.putfield 27, 3) := by decide +kernel
theorem dX5_init_48 : decode cX5_init 48 = .ok (.aload_n 0, 1) := by decide +kernel
theorem dX5_init_49 : decode cX5_init 49 = .ok (.bipush 24, 2) := by decide +kernel
theorem dX5_init_51 : decode cX5_init 51 = .ok (.newarray .int, 2) := by decide +kernel
theorem dX5_init_53 : decode cX5_init 53 = .ok (.putfield 30, 3) := by decide +kernel
theorem dX5_init_56 : decode cX5_init 56 = .ok (.aload_n 0, 1) := by decide +kernel
theorem dX5_init_57 : decode cX5_init 57 = .ok (.sipush 150, 3) := by decide +kernel
theorem dX5_init_60 : decode cX5_init 60 = .ok (.newarray .int, 2) := by decide +kernel
theorem dX5_init_62 : decode cX5_init 62 = .ok (.putfield 33, 3) := by decide +kernel
theorem dX5_init_65 : decode cX5_init 65 = .ok (.aload_n 0, 1) := by decide +kernel
theorem dX5_init_66 : decode cX5_init 66 = .ok (.bipush 58, 2) := by decide +kernel
theorem dX5_init_68 : decode cX5_init 68 = .ok (.newarray .int, 2) := by decide +kernel
theorem dX5_init_70 : decode cX5_init 70 = .ok (.putfield 36, 3) := by decide +kernel
theorem dX5_init_73 : decode cX5_init 73 = .ok (.aload_n 0, 1) := by decide +kernel
theorem dX5_init_74 : decode cX5_init 74 = .ok (.iconst 4, 1) := by decide +kernel
theorem dX5_init_75 : decode cX5_init 75 = .ok (.newarray .int, 2) := by decide +kernel
theorem dX5_init_77 : decode cX5_init 77 = .ok (.putfield 39, 3) := by decide +kernel
theorem dX5_init_80 : decode cX5_init 80 = .ok (.aload_n 0, 1) := by decide +kernel
theorem dX5_init_81 : decode cX5_init 81 = .ok (.getfield 7, 3) := by decide +kernel
theorem dX5_init_84 : decode cX5_init 84 = .ok (.invokestatic 42, 3) := by decide +kernel
theorem dX5_init_87 : decode cX5_init 87 = .ok (.return_, 1) := by decide +kernel
theorem dX5_in_0 : decode cX5_in 0 = .ok (.lload_n 0, 1) := by decide +kernel
theorem dX5_in_1 : decode cX5_in 1 = .ok (.lload_n 2, 1) := by decide +kernel
theorem dX5_in_2 : decode cX5_in 2 = .ok (.lcmp, 1) := by decide +kernel
theorem dX5_in_3 : decode cX5_in 3 = .ok (.ifCond .lt 14, 3) := by decide +kernel
theorem dX5_in_6 : decode cX5_in 6 = .ok (.lload_n 0, 1) := by decide +kernel
theorem dX5_in_7 : decode cX5_in 7 = .ok (.lload 4, 2) := by decide +kernel
theorem dX5_in_9 : decode cX5_in 9 = .ok (.lcmp, 1) := by decide +kernel
theorem dX5_in_10 : decode cX5_in 10 = .ok (.ifCond .gt 7, 3) := by decide +kernel
theorem dX5_in_13 : decode cX5_in 13 = .ok (.iconst 1, 1) := by decide +kernel
theorem dX5_in_14 : decode cX5_in 14 = .ok (.goto 4, 3) := by decide +kernel
theorem dX5_in_17 : decode cX5_in 17 = .ok (.iconst 0, 1) := by decide +kernel
theorem dX5_in_18 : decode cX5_in 18 = .ok (.ireturn, 1) := by decide +kernel
theorem dX5_bad_0 : decode cX5_bad 0 = .ok (.aload_n 0, 1) := by decide +kernel
theorem dX5_bad_1 : decode cX5_bad 1 = .ok (.getfield 20, 3) := by decide +kernel
theorem dX5_bad_4 : decode cX5_bad 4 = .ok (.iconst 0, 1) := by decide +kernel
theorem dX5_bad_5 : decode cX5_bad 5 = .ok (.dup2, 1) := by decide +kernel
theorem dX5_bad_6 : decode cX5_bad 6 = .ok (.iaload, 1) := by decide +kernel
theorem dX5_bad_7 : decode cX5_bad 7 = .ok (.iconst 1, 1) := by decide +kernel
theorem dX5_bad_8 : decode cX5_bad 8 = .ok (.iadd, 1) := by decide +kernel
theorem dX5_bad_9 : decode cX5_bad 9 = .ok (.iastore, 1) := by decide +kernel
theorem dX5_bad_10 : decode cX5_bad 10 = .ok (.iload_n 1, 1) := by decide +kernel
theorem dX5_bad_11 : decode cX5_bad 11 = .ok (.ireturn, 1) := by decide +kernel
theorem dX5_no_0 : decode cX5_no 0 = .ok (.aload_n 0, 1) := by decide +kernel
theorem dX5_no_1 : decode cX5_no 1 = .ok (.getfield 20, 3) := by decide +kernel
theorem dX5_no_4 : decode cX5_no 4 = .ok (.iconst 1, 1) := by decide +kernel
theorem dX5_no_5 : decode cX5_no 5 = .ok (.dup2, 1) := by decide +kernel
theorem dX5_no_6 : decode cX5_no 6 = .ok (.iaload, 1) := by decide +kernel
theorem dX5_no_7 : decode cX5_no 7 = .ok (.iconst 1, 1) := by decide +kernel
theorem dX5_no_8 : decode cX5_no 8 = .ok (.iadd, 1) := by decide +kernel
theorem dX5_no_9 : decode cX5_no 9 = .ok (.iastore, 1) := by decide +kernel
theorem dX5_no_10 : decode cX5_no 10 = .ok (.bipush (-3), 2) := by decide +kernel
theorem dX5_no_12 : decode cX5_no 12 = .ok (.ireturn, 1) := by decide +kernel
theorem dX5_full_0 : decode cX5_full 0 = .ok (.aload_n 0, 1) := by decide +kernel
theorem dX5_full_1 : decode cX5_full 1 = .ok (.getfield 20, 3) := by decide +kernel
theorem dX5_full_4 : decode cX5_full 4 = .ok (.iconst 2, 1) := by decide +kernel
theorem dX5_full_5 : decode cX5_full 5 = .ok (.dup2, 1) := by decide +kernel
theorem dX5_full_6 : decode cX5_full 6 = .ok (.iaload, 1) := by decide +kernel
theorem dX5_full_7 : decode cX5_full 7 = .ok (.iconst 1, 1) := by decide +kernel
theorem dX5_full_8 : decode cX5_full 8 = .ok (.iadd, 1) := by decide +kernel
theorem dX5_full_9 : decode cX5_full 9 = .ok (.iastore, 1) := by decide +kernel
theorem dX5_full_10 : decode cX5_full 10 = .ok (.bipush (-4), 2) := by decide +kernel
theorem dX5_full_12 : decode cX5_full 12 = .ok (.ireturn, 1) := by decide +kernel
theorem dX5_bits_0 : decode cX5_bits 0 = .ok (.iconst 0, 1) := by decide +kernel
theorem dX5_bits_1 : decode cX5_bits 1 = .ok (.istore_n 1, 1) := by decide +kernel
theorem dX5_bits_2 : decode cX5_bits 2 = .ok (.iload_n 0, 1) := by decide +kernel
theorem dX5_bits_3 : decode cX5_bits 3 = .ok (.istore_n 2, 1) := by decide +kernel
theorem dX5_bits_4 : decode cX5_bits 4 = .ok (.iload_n 2, 1) := by decide +kernel
theorem dX5_bits_5 : decode cX5_bits 5 = .ok (.ifCond .le 16, 3) := by decide +kernel
theorem dX5_bits_8 : decode cX5_bits 8 = .ok (.iload_n 1, 1) := by decide +kernel
theorem dX5_bits_9 : decode cX5_bits 9 = .ok (.iload_n 2, 1) := by decide +kernel
theorem dX5_bits_10 : decode cX5_bits 10 = .ok (.iconst 1, 1) := by decide +kernel
theorem dX5_bits_11 : decode cX5_bits 11 = .ok (.iand, 1) := by decide +kernel
theorem dX5_bits_12 : decode cX5_bits 12 = .ok (.iadd, 1) := by decide +kernel
theorem dX5_bits_13 : decode cX5_bits 13 = .ok (.istore_n 1, 1) := by decide +kernel
theorem dX5_bits_14 : decode cX5_bits 14 = .ok (.iload_n 2, 1) := by decide +kernel
theorem dX5_bits_15 : decode cX5_bits 15 = .ok (.iconst 1, 1) := by decide +kernel
theorem dX5_bits_16 : decode cX5_bits 16 = .ok (.ishr, 1) := by decide +kernel
theorem dX5_bits_17 : decode cX5_bits 17 = .ok (.istore_n 2, 1) := by decide +kernel
theorem dX5_bits_18 : decode cX5_bits 18 = .ok (.goto (-14), 3) := by decide +kernel
theorem dX5_bits_21 : decode cX5_bits 21 = .ok (.iload_n 1, 1) := by decide +kernel
theorem dX5_bits_22 : decode cX5_bits 22 = .ok (.ireturn, 1) := by decide +kernel
theorem dX5_has_0 : decode cX5_has 0 = .ok (.iload_n 0, 1) := by decide +kernel
theorem dX5_has_1 : decode cX5_has 1 = .ok (.iload_n 1, 1) := by decide +kernel
theorem dX5_has_2 : decode cX5_has 2 = .ok (.ishr, 1) := by decide +kernel
theorem dX5_has_3 : decode cX5_has 3 = .ok (.iconst 1, 1) := by decide +kernel
theorem dX5_has_4 : decode cX5_has 4 = .ok (.iand, 1) := by decide +kernel
theorem dX5_has_5 : decode cX5_has 5 = .ok (.iconst 1, 1) := by decide +kernel
theorem dX5_has_6 : decode cX5_has 6 = .ok (.if_icmp .ne 7, 3) := by decide +kernel
theorem dX5_has_9 : decode cX5_has 9 = .ok (.iconst 1, 1) := by decide +kernel
theorem dX5_has_10 : decode cX5_has 10 = .ok (.goto 4, 3) := by decide +kernel
theorem dX5_has_13 : decode cX5_has 13 = .ok (.iconst 0, 1) := by decide +kernel
theorem dX5_has_14 : decode cX5_has 14 = .ok (.ireturn, 1) := by decide +kernel
theorem dX5_begin_0 : decode cX5_begin 0 = .ok (.iconst 0, 1) := by decide +kernel
theorem dX5_begin_1 : decode cX5_begin 1 = .ok (.istore_n 1, 1) := by decide +kernel
theorem dX5_begin_2 : decode cX5_begin 2 = .ok (.iload_n 1, 1) := by decide +kernel
theorem dX5_begin_3 : decode cX5_begin 3 = .ok (.bipush 58, 2) := by decide +kernel
theorem dX5_begin_5 : decode cX5_begin 5 = .ok (.if_icmp .ge 13, 3) := by decide +kernel
theorem dX5_begin_8 : decode cX5_begin 8 = .ok (.aload_n 0, 1) := by decide +kernel
theorem dX5_begin_9 : decode cX5_begin 9 = .ok (.iload_n 1, 1) := by decide +kernel
theorem dX5_begin_10 : decode cX5_begin 10 = .ok (.iconst 0, 1) := by decide +kernel
theorem dX5_begin_11 : decode cX5_begin 11 = .ok (.iastore, 1) := by decide +kernel
theorem dX5_begin_12 : decode cX5_begin 12 = .ok (.iinc 1 1, 3) := by decide +kernel
theorem dX5_begin_15 : decode cX5_begin 15 = .ok (.goto (-13), 3) := by decide +kernel
theorem dX5_begin_18 : decode cX5_begin 18 = .ok (.iconst 0, 1) := by decide +kernel
theorem dX5_begin_19 : decode cX5_begin 19 = .ok (.istore_n 1, 1) := by decide +kernel
theorem dX5_begin_20 : decode cX5_begin 20 = .ok (.iload_n 1, 1) := by decide +kernel
theorem dX5_begin_21 : decode cX5_begin 21 = .ok (.bipush 6, 2) := by decide +kernel
theorem dX5_begin_23 : decode cX5_begin 23 = .ok (.if_icmp .ge 15, 3) := by decide +kernel
theorem dX5_begin_26 : decode cX5_begin 26 = .ok (.aload_n 0, 1) := by decide +kernel
theorem dX5_begin_27 : decode cX5_begin 27 = .ok (.iconst 4, 1) := by decide +kernel
theorem dX5_begin_28 : decode cX5_begin 28 = .ok (.iload_n 1, 1) := by decide +kernel
theorem dX5_begin_29 : decode cX5_begin 29 = .ok (.iadd, 1) := by decide +kernel
theorem dX5_begin_30 : decode cX5_begin 30 = .ok (.iconst (-1), 1) := by decide +kernel
theorem dX5_begin_31 : decode cX5_begin 31 = .ok (.iastore, 1) := by decide +kernel
theorem dX5_begin_32 : decode cX5_begin 32 = .ok (.iinc 1 1, 3) := by decide +kernel
theorem dX5_begin_35 : decode cX5_begin 35 = .ok (.goto (-15), 3) := by decide +kernel
theorem dX5_begin_38 : decode cX5_begin 38 = .ok (.return_, 1) := by decide +kernel
theorem dX5_many_0 : decode cX5_many 0 = .ok (.aload_n 0, 1) := by decide +kernel
theorem dX5_many_1 : decode cX5_many 1 = .ok (.getfield 7, 3) := by decide +kernel
theorem dX5_many_4 : decode cX5_many 4 = .ok (.iconst 0, 1) := by decide +kernel
theorem dX5_many_5 : decode cX5_many 5 = .ok (.iaload, 1) := by decide +kernel
theorem dX5_many_6 : decode cX5_many 6 = .ok (.ireturn, 1) := by decide +kernel
theorem dX5_marks_0 : decode cX5_marks 0 = .ok (.aload_n 0, 1) := by decide +kernel
theorem dX5_marks_1 : decode cX5_marks 1 = .ok (.getfield 7, 3) := by decide +kernel
theorem dX5_marks_4 : decode cX5_marks 4 = .ok (.iconst 3, 1) := by decide +kernel
theorem dX5_marks_5 : decode cX5_marks 5 = .ok (.iaload, 1) := by decide +kernel
theorem dX5_marks_6 : decode cX5_marks 6 = .ok (.ireturn, 1) := by decide +kernel
theorem dX5_isOne_0 : decode cX5_isOne 0 = .ok (.iload_n 1, 1) := by decide +kernel
theorem dX5_isOne_1 : decode cX5_isOne 1 = .ok (.i2l, 1) := by decide +kernel
theorem dX5_isOne_2 : decode cX5_isOne 2 = .ok (.lconst 0, 1) := by decide +kernel
theorem dX5_isOne_3 : decode cX5_isOne 3 = .ok (.aload_n 0, 1) := by decide +kernel
theorem dX5_isOne_4 : decode cX5_isOne 4 = .ok (.invokevirtual 46, 3) := by decide +kernel
theorem dX5_isOne_7 : decode cX5_isOne 7 = .ok (.iconst 1, 1) := by decide +kernel
theorem dX5_isOne_8 : decode cX5_isOne 8 = .ok (.isub, 1) := by decide +kernel
theorem dX5_isOne_9 : decode cX5_isOne 9 = .ok (.i2l, 1) := by decide +kernel
theorem dX5_isOne_10 : decode cX5_isOne 10 = .ok (.invokestatic 50, 3) := by decide +kernel
theorem dX5_isOne_13 : decode cX5_isOne 13 = .ok (.ireturn, 1) := by decide +kernel
theorem dX5_isDay_0 : decode cX5_isDay 0 = .ok (.iload_n 0, 1) := by decide +kernel
theorem dX5_isDay_1 : decode cX5_isDay 1 = .ok (.i2l, 1) := by decide +kernel
theorem dX5_isDay_2 : decode cX5_isDay 2 = .ok (.lconst 0, 1) := by decide +kernel
theorem dX5_isDay_3 : decode cX5_isDay 3 = .ok (.ldc2_w 54, 3) := by decide +kernel
theorem dX5_isDay_6 : decode cX5_isDay 6 = .ok (.invokestatic 50, 3) := by decide +kernel
theorem dX5_isDay_9 : decode cX5_isDay 9 = .ok (.ireturn, 1) := by decide +kernel
theorem dX5_isEvent_0 : decode cX5_isEvent 0 = .ok (.iload_n 0, 1) := by decide +kernel
theorem dX5_isEvent_1 : decode cX5_isEvent 1 = .ok (.i2l, 1) := by decide +kernel
theorem dX5_isEvent_2 : decode cX5_isEvent 2 = .ok (.lconst 0, 1) := by decide +kernel
theorem dX5_isEvent_3 : decode cX5_isEvent 3 = .ok (.ldc2_w 56, 3) := by decide +kernel
theorem dX5_isEvent_6 : decode cX5_isEvent 6 = .ok (.invokestatic 50, 3) := by decide +kernel
theorem dX5_isEvent_9 : decode cX5_isEvent 9 = .ok (.ireturn, 1) := by decide +kernel
theorem dX5_areEvents_0 : decode cX5_areEvents 0 = .ok (.iload_n 0, 1) := by decide +kernel
theorem dX5_areEvents_1 : decode cX5_areEvents 1 = .ok (.i2l, 1) := by decide +kernel
theorem dX5_areEvents_2 : decode cX5_areEvents 2 = .ok (.lconst 1, 1) := by decide +kernel
theorem dX5_areEvents_3 : decode cX5_areEvents 3 = .ok (.ldc2_w 58, 3) := by decide +kernel
theorem dX5_areEvents_6 : decode cX5_areEvents 6 = .ok (.invokestatic 50, 3) := by decide +kernel
theorem dX5_areEvents_9 : decode cX5_areEvents 9 = .ok (.ireturn, 1) := by decide +kernel
theorem dX5_get_0 : decode cX5_get 0 = .ok (.aload_n 0, 1) := by decide +kernel
theorem dX5_get_1 : decode cX5_get 1 = .ok (.getfield 7, 3) := by decide +kernel
theorem dX5_get_4 : decode cX5_get 4 = .ok (.bipush 18, 2) := by decide +kernel
theorem dX5_get_6 : decode cX5_get 6 = .ok (.iconst 5, 1) := by decide +kernel
theorem dX5_get_7 : decode cX5_get 7 = .ok (.iload_n 1, 1) := by decide +kernel
theorem dX5_get_8 : decode cX5_get 8 = .ok (.imul, 1) := by decide +kernel
theorem dX5_get_9 : decode cX5_get 9 = .ok (.iadd, 1) := by decide +kernel
theorem dX5_get_10 : decode cX5_get 10 = .ok (.iload_n 2, 1) := by decide +kernel
theorem dX5_get_11 : decode cX5_get 11 = .ok (.iadd, 1) := by decide +kernel
theorem dX5_get_12 : decode cX5_get 12 = .ok (.iaload, 1) := by decide +kernel
theorem dX5_get_13 : decode cX5_get 13 = .ok (.ireturn, 1) := by decide +kernel
theorem dX5_office_0 : decode cX5_office 0 = .ok (.aload_n 0, 1) := by decide +kernel
theorem dX5_office_1 : decode cX5_office 1 = .ok (.invokevirtual 46, 3) := by decide +kernel
theorem dX5_office_4 : decode cX5_office 4 = .ok (.istore_n 1, 1) := by decide +kernel
theorem dX5_office_5 : decode cX5_office 5 = .ok (.aload_n 0, 1) := by decide +kernel
theorem dX5_office_6 : decode cX5_office 6 = .ok (.getfield 7, 3) := by decide +kernel
theorem dX5_office_9 : decode cX5_office 9 = .ok (.invokestatic 42, 3) := by decide +kernel
theorem dX5_office_12 : decode cX5_office 12 = .ok (.iload_n 1, 1) := by decide +kernel
theorem dX5_office_13 : decode cX5_office 13 = .ok (.ireturn, 1) := by decide +kernel
theorem dX5_never_0 : decode cX5_never 0 = .ok (.iload_n 1, 1) := by decide +kernel
theorem dX5_never_1 : decode cX5_never 1 = .ok (.invokestatic 60, 3) := by decide +kernel
theorem dX5_never_4 : decode cX5_never 4 = .ok (.ifCond .eq 10, 3) := by decide +kernel
theorem dX5_never_7 : decode cX5_never 7 = .ok (.iload_n 2, 1) := by decide +kernel
theorem dX5_never_8 : decode cX5_never 8 = .ok (.invokestatic 60, 3) := by decide +kernel
theorem dX5_never_11 : decode cX5_never 11 = .ok (.ifCond .ne 10, 3) := by decide +kernel
theorem dX5_never_14 : decode cX5_never 14 = .ok (.aload_n 0, 1) := by decide +kernel
theorem dX5_never_15 : decode cX5_never 15 = .ok (.bipush (-2), 2) := by decide +kernel
theorem dX5_never_17 : decode cX5_never 17 = .ok (.invokevirtual 64, 3) := by decide +kernel
theorem dX5_never_20 : decode cX5_never 20 = .ok (.ireturn, 1) := by decide +kernel
theorem dX5_never_21 : decode cX5_never 21 = .ok (.aload_n 0, 1) := by decide +kernel
theorem dX5_never_22 : decode cX5_never 22 = .ok (.getfield 7, 3) := by decide +kernel
theorem dX5_never_25 : decode cX5_never 25 = .ok (.iconst 1, 1) := by decide +kernel
theorem dX5_never_26 : decode cX5_never 26 = .ok (.dup2, 1) := by decide +kernel
theorem dX5_never_27 : decode cX5_never 27 = .ok (.iaload, 1) := by decide +kernel
theorem dX5_never_28 : decode cX5_never 28 = .ok (.iconst 1, 1) := by decide +kernel
theorem dX5_never_29 : decode cX5_never 29 = .ok (.iconst 4, 1) := by decide +kernel
theorem dX5_never_30 : decode cX5_never 30 = .ok (.iload_n 1, 1) := by decide +kernel
theorem dX5_never_31 : decode cX5_never 31 = .ok (.imul, 1) := by decide +kernel
theorem dX5_never_32 : decode cX5_never 32 = .ok (.iload_n 2, 1) := by decide +kernel
theorem dX5_never_33 : decode cX5_never 33 = .ok (.iadd, 1) := by decide +kernel
theorem dX5_never_34 : decode cX5_never 34 = .ok (.ishl, 1) := by decide +kernel
theorem dX5_never_35 : decode cX5_never 35 = .ok (.ior, 1) := by decide +kernel
theorem dX5_never_36 : decode cX5_never 36 = .ok (.iastore, 1) := by decide +kernel
theorem dX5_never_37 : decode cX5_never 37 = .ok (.aload_n 0, 1) := by decide +kernel
theorem dX5_never_38 : decode cX5_never 38 = .ok (.getfield 7, 3) := by decide +kernel
theorem dX5_never_41 : decode cX5_never 41 = .ok (.iconst 2, 1) := by decide +kernel
theorem dX5_never_42 : decode cX5_never 42 = .ok (.iconst 0, 1) := by decide +kernel
theorem dX5_never_43 : decode cX5_never 43 = .ok (.iastore, 1) := by decide +kernel
theorem dX5_never_44 : decode cX5_never 44 = .ok (.aload_n 0, 1) := by decide +kernel
theorem dX5_never_45 : decode cX5_never 45 = .ok (.getfield 7, 3) := by decide +kernel
theorem dX5_never_48 : decode cX5_never 48 = .ok (.iconst 1, 1) := by decide +kernel
theorem dX5_never_49 : decode cX5_never 49 = .ok (.iaload, 1) := by decide +kernel
theorem dX5_never_50 : decode cX5_never 50 = .ok (.invokestatic 68, 3) := by decide +kernel
theorem dX5_never_53 : decode cX5_never 53 = .ok (.ireturn, 1) := by decide +kernel
theorem dX5_layOne_0 : decode cX5_layOne 0 = .ok (.aload_n 0, 1) := by decide +kernel
theorem dX5_layOne_1 : decode cX5_layOne 1 = .ok (.bipush 14, 2) := by decide +kernel
theorem dX5_layOne_3 : decode cX5_layOne 3 = .ok (.aload_n 0, 1) := by decide +kernel
theorem dX5_layOne_4 : decode cX5_layOne 4 = .ok (.iconst 0, 1) := by decide +kernel
theorem dX5_layOne_5 : decode cX5_layOne 5 = .ok (.iaload, 1) := by decide +kernel
theorem dX5_layOne_6 : decode cX5_layOne 6 = .ok (.iadd, 1) := by decide +kernel
theorem dX5_layOne_7 : decode cX5_layOne 7 = .ok (.iload_n 1, 1) := by decide +kernel
theorem dX5_layOne_8 : decode cX5_layOne 8 = .ok (.iastore, 1) := by decide +kernel
theorem dX5_layOne_9 : decode cX5_layOne 9 = .ok (.aload_n 0, 1) := by decide +kernel
theorem dX5_layOne_10 : decode cX5_layOne 10 = .ok (.bipush 10, 2) := by decide +kernel
theorem dX5_layOne_12 : decode cX5_layOne 12 = .ok (.aload_n 0, 1) := by decide +kernel
theorem dX5_layOne_13 : decode cX5_layOne 13 = .ok (.iconst 0, 1) := by decide +kernel
theorem dX5_layOne_14 : decode cX5_layOne 14 = .ok (.iaload, 1) := by decide +kernel
theorem dX5_layOne_15 : decode cX5_layOne 15 = .ok (.iadd, 1) := by decide +kernel
theorem dX5_layOne_16 : decode cX5_layOne 16 = .ok (.iload_n 2, 1) := by decide +kernel
theorem dX5_layOne_17 : decode cX5_layOne 17 = .ok (.iastore, 1) := by decide +kernel
theorem dX5_layOne_18 : decode cX5_layOne 18 = .ok (.aload_n 0, 1) := by decide +kernel
theorem dX5_layOne_19 : decode cX5_layOne 19 = .ok (.iconst 0, 1) := by decide +kernel
theorem dX5_layOne_20 : decode cX5_layOne 20 = .ok (.dup2, 1) := by decide +kernel
theorem dX5_layOne_21 : decode cX5_layOne 21 = .ok (.iaload, 1) := by decide +kernel
theorem dX5_layOne_22 : decode cX5_layOne 22 = .ok (.iconst 1, 1) := by decide +kernel
theorem dX5_layOne_23 : decode cX5_layOne 23 = .ok (.iadd, 1) := by decide +kernel
theorem dX5_layOne_24 : decode cX5_layOne 24 = .ok (.iastore, 1) := by decide +kernel
theorem dX5_layOne_25 : decode cX5_layOne 25 = .ok (.return_, 1) := by decide +kernel
theorem dX5_one_0 : decode cX5_one 0 = .ok (.iload_n 1, 1) := by decide +kernel
theorem dX5_one_1 : decode cX5_one 1 = .ok (.i2l, 1) := by decide +kernel
theorem dX5_one_2 : decode cX5_one 2 = .ok (.lconst 0, 1) := by decide +kernel
theorem dX5_one_3 : decode cX5_one 3 = .ok (.ldc2_w 54, 3) := by decide +kernel
theorem dX5_one_6 : decode cX5_one 6 = .ok (.invokestatic 50, 3) := by decide +kernel
theorem dX5_one_9 : decode cX5_one 9 = .ok (.ifCond .eq 15, 3) := by decide +kernel
theorem dX5_one_12 : decode cX5_one 12 = .ok (.iload_n 2, 1) := by decide +kernel
theorem dX5_one_13 : decode cX5_one 13 = .ok (.i2l, 1) := by decide +kernel
theorem dX5_one_14 : decode cX5_one 14 = .ok (.lconst 0, 1) := by decide +kernel
theorem dX5_one_15 : decode cX5_one 15 = .ok (.ldc2_w 71, 3) := by decide +kernel
theorem dX5_one_18 : decode cX5_one 18 = .ok (.invokestatic 50, 3) := by decide +kernel
theorem dX5_one_21 : decode cX5_one 21 = .ok (.ifCond .ne 10, 3) := by decide +kernel
theorem dX5_one_24 : decode cX5_one 24 = .ok (.aload_n 0, 1) := by decide +kernel
theorem dX5_one_25 : decode cX5_one 25 = .ok (.bipush (-2), 2) := by decide +kernel
theorem dX5_one_27 : decode cX5_one 27 = .ok (.invokevirtual 64, 3) := by decide +kernel
theorem dX5_one_30 : decode cX5_one 30 = .ok (.ireturn, 1) := by decide +kernel
theorem dX5_one_31 : decode cX5_one 31 = .ok (.aload_n 0, 1) := by decide +kernel
theorem dX5_one_32 : decode cX5_one 32 = .ok (.invokevirtual 46, 3) := by decide +kernel
theorem dX5_one_35 : decode cX5_one 35 = .ok (.iconst 4, 1) := by decide +kernel
theorem dX5_one_36 : decode cX5_one 36 = .ok (.if_icmp .ne 8, 3) := by decide +kernel
theorem dX5_one_39 : decode cX5_one 39 = .ok (.aload_n 0, 1) := by decide +kernel
theorem dX5_one_40 : decode cX5_one 40 = .ok (.invokevirtual 73, 3) := by decide +kernel
theorem dX5_one_43 : decode cX5_one 43 = .ok (.ireturn, 1) := by decide +kernel
theorem dX5_one_44 : decode cX5_one 44 = .ok (.aload_n 0, 1) := by decide +kernel
theorem dX5_one_45 : decode cX5_one 45 = .ok (.getfield 7, 3) := by decide +kernel
theorem dX5_one_48 : decode cX5_one 48 = .ok (.iload_n 1, 1) := by decide +kernel
theorem dX5_one_49 : decode cX5_one 49 = .ok (.iload_n 2, 1) := by decide +kernel
theorem dX5_one_50 : decode cX5_one 50 = .ok (.invokestatic 76, 3) := by decide +kernel
theorem dX5_one_53 : decode cX5_one 53 = .ok (.aload_n 0, 1) := by decide +kernel
theorem dX5_one_54 : decode cX5_one 54 = .ok (.getfield 7, 3) := by decide +kernel
theorem dX5_one_57 : decode cX5_one 57 = .ok (.iconst 2, 1) := by decide +kernel
theorem dX5_one_58 : decode cX5_one 58 = .ok (.iconst 0, 1) := by decide +kernel
theorem dX5_one_59 : decode cX5_one 59 = .ok (.iastore, 1) := by decide +kernel
theorem dX5_one_60 : decode cX5_one 60 = .ok (.aload_n 0, 1) := by decide +kernel
theorem dX5_one_61 : decode cX5_one 61 = .ok (.invokevirtual 46, 3) := by decide +kernel
theorem dX5_one_64 : decode cX5_one 64 = .ok (.iconst 1, 1) := by decide +kernel
theorem dX5_one_65 : decode cX5_one 65 = .ok (.isub, 1) := by decide +kernel
theorem dX5_one_66 : decode cX5_one 66 = .ok (.ireturn, 1) := by decide +kernel
theorem dX5_markAs_0 : decode cX5_markAs 0 = .ok (.iload_n 1, 1) := by decide +kernel
theorem dX5_markAs_1 : decode cX5_markAs 1 = .ok (.ifCond .eq 7, 3) := by decide +kernel
theorem dX5_markAs_4 : decode cX5_markAs 4 = .ok (.iconst 1, 1) := by decide +kernel
theorem dX5_markAs_5 : decode cX5_markAs 5 = .ok (.goto 4, 3) := by decide +kernel
theorem dX5_markAs_8 : decode cX5_markAs 8 = .ok (.iconst 0, 1) := by decide +kernel
theorem dX5_markAs_9 : decode cX5_markAs 9 = .ok (.istore 5, 2) := by decide +kernel
theorem dX5_markAs_11 : decode cX5_markAs 11 = .ok (.iload_n 2, 1) := by decide +kernel
theorem dX5_markAs_12 : decode cX5_markAs 12 = .ok (.iconst 2, 1) := by decide +kernel
theorem dX5_markAs_13 : decode cX5_markAs 13 = .ok (.irem, 1) := by decide +kernel
theorem dX5_markAs_14 : decode cX5_markAs 14 = .ok (.iconst 1, 1) := by decide +kernel
theorem dX5_markAs_15 : decode cX5_markAs 15 = .ok (.if_icmp .ne 7, 3) := by decide +kernel
theorem dX5_markAs_18 : decode cX5_markAs 18 = .ok (.iconst 2, 1) := by decide +kernel
theorem dX5_markAs_19 : decode cX5_markAs 19 = .ok (.goto 5, 3) := by decide +kernel
theorem dX5_markAs_22 : decode cX5_markAs 22 = .ok (.iload 5, 2) := by decide +kernel
theorem dX5_markAs_24 : decode cX5_markAs 24 = .ok (.istore 6, 2) := by decide +kernel
theorem dX5_markAs_26 : decode cX5_markAs 26 = .ok (.iload_n 0, 1) := by decide +kernel
theorem dX5_markAs_27 : decode cX5_markAs 27 = .ok (.tableswitch 80 1 5 #[33, 45, 48, 53, 66], 33) := by decide +kernel
theorem dX5_markAs_60 : decode cX5_markAs 60 = .ok (.iload_n 2, 1) := by decide +kernel
theorem dX5_markAs_61 : decode cX5_markAs 61 = .ok (.iconst 4, 1) := by decide +kernel
theorem dX5_markAs_62 : decode cX5_markAs 62 = .ok (.if_icmp .lt 7, 3) := by decide +kernel
theorem dX5_markAs_65 : decode cX5_markAs 65 = .ok (.iconst 1, 1) := by decide +kernel
theorem dX5_markAs_66 : decode cX5_markAs 66 = .ok (.goto 5, 3) := by decide +kernel
theorem dX5_markAs_69 : decode cX5_markAs 69 = .ok (.iload 5, 2) := by decide +kernel
theorem dX5_markAs_71 : decode cX5_markAs 71 = .ok (.ireturn, 1) := by decide +kernel
theorem dX5_markAs_72 : decode cX5_markAs 72 = .ok (.iload 6, 2) := by decide +kernel
theorem dX5_markAs_74 : decode cX5_markAs 74 = .ok (.ireturn, 1) := by decide +kernel
theorem dX5_markAs_75 : decode cX5_markAs 75 = .ok (.iconst 1, 1) := by decide +kernel
theorem dX5_markAs_76 : decode cX5_markAs 76 = .ok (.iload 5, 2) := by decide +kernel
theorem dX5_markAs_78 : decode cX5_markAs 78 = .ok (.isub, 1) := by decide +kernel
theorem dX5_markAs_79 : decode cX5_markAs 79 = .ok (.ireturn, 1) := by decide +kernel
theorem dX5_markAs_80 : decode cX5_markAs 80 = .ok (.iload 4, 2) := by decide +kernel
theorem dX5_markAs_82 : decode cX5_markAs 82 = .ok (.iconst 3, 1) := by decide +kernel
theorem dX5_markAs_83 : decode cX5_markAs 83 = .ok (.if_icmp .lt 7, 3) := by decide +kernel
theorem dX5_markAs_86 : decode cX5_markAs 86 = .ok (.iconst 2, 1) := by decide +kernel
theorem dX5_markAs_87 : decode cX5_markAs 87 = .ok (.goto 5, 3) := by decide +kernel
theorem dX5_markAs_90 : decode cX5_markAs 90 = .ok (.iload 6, 2) := by decide +kernel
theorem dX5_markAs_92 : decode cX5_markAs 92 = .ok (.ireturn, 1) := by decide +kernel
theorem dX5_markAs_93 : decode cX5_markAs 93 = .ok (.iload_n 3, 1) := by decide +kernel
theorem dX5_markAs_94 : decode cX5_markAs 94 = .ok (.iconst 3, 1) := by decide +kernel
theorem dX5_markAs_95 : decode cX5_markAs 95 = .ok (.if_icmp .ne 7, 3) := by decide +kernel
theorem dX5_markAs_98 : decode cX5_markAs 98 = .ok (.iconst 1, 1) := by decide +kernel
theorem dX5_markAs_99 : decode cX5_markAs 99 = .ok (.goto 7, 3) := by decide +kernel
theorem dX5_markAs_102 : decode cX5_markAs 102 = .ok (.iconst 1, 1) := by decide +kernel
theorem dX5_markAs_103 : decode cX5_markAs 103 = .ok (.iload 5, 2) := by decide +kernel
theorem dX5_markAs_105 : decode cX5_markAs 105 = .ok (.isub, 1) := by decide +kernel
theorem dX5_markAs_106 : decode cX5_markAs 106 = .ok (.ireturn, 1) := by decide +kernel
theorem dX5_markAs_107 : decode cX5_markAs 107 = .ok (.iload 5, 2) := by decide +kernel
theorem dX5_markAs_109 : decode cX5_markAs 109 = .ok (.ireturn, 1) := by decide +kernel
theorem dX5_keep_0 : decode cX5_keep 0 = .ok (.aload_n 0, 1) := by decide +kernel
theorem dX5_keep_1 : decode cX5_keep 1 = .ok (.getfield 7, 3) := by decide +kernel
theorem dX5_keep_4 : decode cX5_keep 4 = .ok (.iconst 2, 1) := by decide +kernel
theorem dX5_keep_5 : decode cX5_keep 5 = .ok (.iaload, 1) := by decide +kernel
theorem dX5_keep_6 : decode cX5_keep 6 = .ok (.bipush 8, 2) := by decide +kernel
theorem dX5_keep_8 : decode cX5_keep 8 = .ok (.if_icmp .ne 43, 3) := by decide +kernel
theorem dX5_keep_11 : decode cX5_keep 11 = .ok (.iconst 0, 1) := by decide +kernel
theorem dX5_keep_12 : decode cX5_keep 12 = .ok (.istore_n 1, 1) := by decide +kernel
theorem dX5_keep_13 : decode cX5_keep 13 = .ok (.iload_n 1, 1) := by decide +kernel
theorem dX5_keep_14 : decode cX5_keep 14 = .ok (.bipush 77, 2) := by decide +kernel
theorem dX5_keep_16 : decode cX5_keep 16 = .ok (.if_icmp .ge 27, 3) := by decide +kernel
theorem dX5_keep_19 : decode cX5_keep 19 = .ok (.aload_n 0, 1) := by decide +kernel
theorem dX5_keep_20 : decode cX5_keep 20 = .ok (.getfield 7, 3) := by decide +kernel
theorem dX5_keep_23 : decode cX5_keep 23 = .ok (.bipush 58, 2) := by decide +kernel
theorem dX5_keep_25 : decode cX5_keep 25 = .ok (.iload_n 1, 1) := by decide +kernel
theorem dX5_keep_26 : decode cX5_keep 26 = .ok (.iadd, 1) := by decide +kernel
theorem dX5_keep_27 : decode cX5_keep 27 = .ok (.aload_n 0, 1) := by decide +kernel
theorem dX5_keep_28 : decode cX5_keep 28 = .ok (.getfield 7, 3) := by decide +kernel
theorem dX5_keep_31 : decode cX5_keep 31 = .ok (.bipush 69, 2) := by decide +kernel
theorem dX5_keep_33 : decode cX5_keep 33 = .ok (.iload_n 1, 1) := by decide +kernel
theorem dX5_keep_34 : decode cX5_keep 34 = .ok (.iadd, 1) := by decide +kernel
theorem dX5_keep_35 : decode cX5_keep 35 = .ok (.iaload, 1) := by decide +kernel
theorem dX5_keep_36 : decode cX5_keep 36 = .ok (.iastore, 1) := by decide +kernel
theorem dX5_keep_37 : decode cX5_keep 37 = .ok (.iinc 1 1, 3) := by decide +kernel
theorem dX5_keep_40 : decode cX5_keep 40 = .ok (.goto (-27), 3) := by decide +kernel
theorem dX5_keep_43 : decode cX5_keep 43 = .ok (.aload_n 0, 1) := by decide +kernel
theorem dX5_keep_44 : decode cX5_keep 44 = .ok (.getfield 7, 3) := by decide +kernel
theorem dX5_keep_47 : decode cX5_keep 47 = .ok (.iconst 2, 1) := by decide +kernel
theorem dX5_keep_48 : decode cX5_keep 48 = .ok (.bipush 7, 2) := by decide +kernel
theorem dX5_keep_50 : decode cX5_keep 50 = .ok (.iastore, 1) := by decide +kernel
theorem dX5_keep_51 : decode cX5_keep 51 = .ok (.iconst 0, 1) := by decide +kernel
theorem dX5_keep_52 : decode cX5_keep 52 = .ok (.istore_n 1, 1) := by decide +kernel
theorem dX5_keep_53 : decode cX5_keep 53 = .ok (.iload_n 1, 1) := by decide +kernel
theorem dX5_keep_54 : decode cX5_keep 54 = .ok (.bipush 11, 2) := by decide +kernel
theorem dX5_keep_56 : decode cX5_keep 56 = .ok (.if_icmp .ge 36, 3) := by decide +kernel
theorem dX5_keep_59 : decode cX5_keep 59 = .ok (.aload_n 0, 1) := by decide +kernel
theorem dX5_keep_60 : decode cX5_keep 60 = .ok (.getfield 7, 3) := by decide +kernel
theorem dX5_keep_63 : decode cX5_keep 63 = .ok (.bipush 58, 2) := by decide +kernel
theorem dX5_keep_65 : decode cX5_keep 65 = .ok (.bipush 11, 2) := by decide +kernel
theorem dX5_keep_67 : decode cX5_keep 67 = .ok (.aload_n 0, 1) := by decide +kernel
theorem dX5_keep_68 : decode cX5_keep 68 = .ok (.getfield 7, 3) := by decide +kernel
theorem dX5_keep_71 : decode cX5_keep 71 = .ok (.iconst 2, 1) := by decide +kernel
theorem dX5_keep_72 : decode cX5_keep 72 = .ok (.iaload, 1) := by decide +kernel
theorem dX5_keep_73 : decode cX5_keep 73 = .ok (.imul, 1) := by decide +kernel
theorem dX5_keep_74 : decode cX5_keep 74 = .ok (.iadd, 1) := by decide +kernel
theorem dX5_keep_75 : decode cX5_keep 75 = .ok (.iload_n 1, 1) := by decide +kernel
theorem dX5_keep_76 : decode cX5_keep 76 = .ok (.iadd, 1) := by decide +kernel
theorem dX5_keep_77 : decode cX5_keep 77 = .ok (.aload_n 0, 1) := by decide +kernel
theorem dX5_keep_78 : decode cX5_keep 78 = .ok (.getfield 7, 3) := by decide +kernel
theorem dX5_keep_81 : decode cX5_keep 81 = .ok (.iconst 3, 1) := by decide +kernel
theorem dX5_keep_82 : decode cX5_keep 82 = .ok (.iload_n 1, 1) := by decide +kernel
theorem dX5_keep_83 : decode cX5_keep 83 = .ok (.iadd, 1) := by decide +kernel
theorem dX5_keep_84 : decode cX5_keep 84 = .ok (.iaload, 1) := by decide +kernel
theorem dX5_keep_85 : decode cX5_keep 85 = .ok (.iastore, 1) := by decide +kernel
theorem dX5_keep_86 : decode cX5_keep 86 = .ok (.iinc 1 1, 3) := by decide +kernel
theorem dX5_keep_89 : decode cX5_keep 89 = .ok (.goto (-36), 3) := by decide +kernel
theorem dX5_keep_92 : decode cX5_keep 92 = .ok (.aload_n 0, 1) := by decide +kernel
theorem dX5_keep_93 : decode cX5_keep 93 = .ok (.getfield 7, 3) := by decide +kernel
theorem dX5_keep_96 : decode cX5_keep 96 = .ok (.iconst 2, 1) := by decide +kernel
theorem dX5_keep_97 : decode cX5_keep 97 = .ok (.dup2, 1) := by decide +kernel
theorem dX5_keep_98 : decode cX5_keep 98 = .ok (.iaload, 1) := by decide +kernel
theorem dX5_keep_99 : decode cX5_keep 99 = .ok (.iconst 1, 1) := by decide +kernel
theorem dX5_keep_100 : decode cX5_keep 100 = .ok (.iadd, 1) := by decide +kernel
theorem dX5_keep_101 : decode cX5_keep 101 = .ok (.iastore, 1) := by decide +kernel
theorem dX5_keep_102 : decode cX5_keep 102 = .ok (.return_, 1) := by decide +kernel
theorem dX5_layMark_0 : decode cX5_layMark 0 = .ok (.bipush 18, 2) := by decide +kernel
theorem dX5_layMark_2 : decode cX5_layMark 2 = .ok (.iconst 5, 1) := by decide +kernel
theorem dX5_layMark_3 : decode cX5_layMark 3 = .ok (.aload_n 0, 1) := by decide +kernel
theorem dX5_layMark_4 : decode cX5_layMark 4 = .ok (.iconst 3, 1) := by decide +kernel
theorem dX5_layMark_5 : decode cX5_layMark 5 = .ok (.iaload, 1) := by decide +kernel
theorem dX5_layMark_6 : decode cX5_layMark 6 = .ok (.imul, 1) := by decide +kernel
theorem dX5_layMark_7 : decode cX5_layMark 7 = .ok (.iadd, 1) := by decide +kernel
theorem dX5_layMark_8 : decode cX5_layMark 8 = .ok (.istore 5, 2) := by decide +kernel
theorem dX5_layMark_10 : decode cX5_layMark 10 = .ok (.aload_n 0, 1) := by decide +kernel
theorem dX5_layMark_11 : decode cX5_layMark 11 = .ok (.iload 5, 2) := by decide +kernel
theorem dX5_layMark_13 : decode cX5_layMark 13 = .ok (.iconst 0, 1) := by decide +kernel
theorem dX5_layMark_14 : decode cX5_layMark 14 = .ok (.iadd, 1) := by decide +kernel
theorem dX5_layMark_15 : decode cX5_layMark 15 = .ok (.iload_n 1, 1) := by decide +kernel
theorem dX5_layMark_16 : decode cX5_layMark 16 = .ok (.iastore, 1) := by decide +kernel
theorem dX5_layMark_17 : decode cX5_layMark 17 = .ok (.aload_n 0, 1) := by decide +kernel
theorem dX5_layMark_18 : decode cX5_layMark 18 = .ok (.iload 5, 2) := by decide +kernel
theorem dX5_layMark_20 : decode cX5_layMark 20 = .ok (.iconst 1, 1) := by decide +kernel
theorem dX5_layMark_21 : decode cX5_layMark 21 = .ok (.iadd, 1) := by decide +kernel
theorem dX5_layMark_22 : decode cX5_layMark 22 = .ok (.iload_n 2, 1) := by decide +kernel
theorem dX5_layMark_23 : decode cX5_layMark 23 = .ok (.iastore, 1) := by decide +kernel
theorem dX5_layMark_24 : decode cX5_layMark 24 = .ok (.aload_n 0, 1) := by decide +kernel
theorem dX5_layMark_25 : decode cX5_layMark 25 = .ok (.iload 5, 2) := by decide +kernel
theorem dX5_layMark_27 : decode cX5_layMark 27 = .ok (.iconst 2, 1) := by decide +kernel
theorem dX5_layMark_28 : decode cX5_layMark 28 = .ok (.iadd, 1) := by decide +kernel
theorem dX5_layMark_29 : decode cX5_layMark 29 = .ok (.iload_n 3, 1) := by decide +kernel
theorem dX5_layMark_30 : decode cX5_layMark 30 = .ok (.iastore, 1) := by decide +kernel
theorem dX5_layMark_31 : decode cX5_layMark 31 = .ok (.aload_n 0, 1) := by decide +kernel
theorem dX5_layMark_32 : decode cX5_layMark 32 = .ok (.iload 5, 2) := by decide +kernel
theorem dX5_layMark_34 : decode cX5_layMark 34 = .ok (.iconst 3, 1) := by decide +kernel
theorem dX5_layMark_35 : decode cX5_layMark 35 = .ok (.iadd, 1) := by decide +kernel
theorem dX5_layMark_36 : decode cX5_layMark 36 = .ok (.iload 4, 2) := by decide +kernel
theorem dX5_layMark_38 : decode cX5_layMark 38 = .ok (.iastore, 1) := by decide +kernel
theorem dX5_layMark_39 : decode cX5_layMark 39 = .ok (.aload_n 0, 1) := by decide +kernel
theorem dX5_layMark_40 : decode cX5_layMark 40 = .ok (.iload 5, 2) := by decide +kernel
theorem dX5_layMark_42 : decode cX5_layMark 42 = .ok (.iconst 4, 1) := by decide +kernel
theorem dX5_layMark_43 : decode cX5_layMark 43 = .ok (.iadd, 1) := by decide +kernel
theorem dX5_layMark_44 : decode cX5_layMark 44 = .ok (.aload_n 0, 1) := by decide +kernel
theorem dX5_layMark_45 : decode cX5_layMark 45 = .ok (.bipush 10, 2) := by decide +kernel
theorem dX5_layMark_47 : decode cX5_layMark 47 = .ok (.iload_n 1, 1) := by decide +kernel
theorem dX5_layMark_48 : decode cX5_layMark 48 = .ok (.iadd, 1) := by decide +kernel
theorem dX5_layMark_49 : decode cX5_layMark 49 = .ok (.iaload, 1) := by decide +kernel
theorem dX5_layMark_50 : decode cX5_layMark 50 = .ok (.iastore, 1) := by decide +kernel
theorem dX5_layMark_51 : decode cX5_layMark 51 = .ok (.aload_n 0, 1) := by decide +kernel
theorem dX5_layMark_52 : decode cX5_layMark 52 = .ok (.bipush 10, 2) := by decide +kernel
theorem dX5_layMark_54 : decode cX5_layMark 54 = .ok (.iload_n 1, 1) := by decide +kernel
theorem dX5_layMark_55 : decode cX5_layMark 55 = .ok (.iadd, 1) := by decide +kernel
theorem dX5_layMark_56 : decode cX5_layMark 56 = .ok (.dup2, 1) := by decide +kernel
theorem dX5_layMark_57 : decode cX5_layMark 57 = .ok (.iaload, 1) := by decide +kernel
theorem dX5_layMark_58 : decode cX5_layMark 58 = .ok (.iconst 1, 1) := by decide +kernel
theorem dX5_layMark_59 : decode cX5_layMark 59 = .ok (.iadd, 1) := by decide +kernel
theorem dX5_layMark_60 : decode cX5_layMark 60 = .ok (.iastore, 1) := by decide +kernel
theorem dX5_layMark_61 : decode cX5_layMark 61 = .ok (.aload_n 0, 1) := by decide +kernel
theorem dX5_layMark_62 : decode cX5_layMark 62 = .ok (.iconst 3, 1) := by decide +kernel
theorem dX5_layMark_63 : decode cX5_layMark 63 = .ok (.dup2, 1) := by decide +kernel
theorem dX5_layMark_64 : decode cX5_layMark 64 = .ok (.iaload, 1) := by decide +kernel
theorem dX5_layMark_65 : decode cX5_layMark 65 = .ok (.iconst 1, 1) := by decide +kernel
theorem dX5_layMark_66 : decode cX5_layMark 66 = .ok (.iadd, 1) := by decide +kernel
theorem dX5_layMark_67 : decode cX5_layMark 67 = .ok (.iastore, 1) := by decide +kernel
theorem dX5_layMark_68 : decode cX5_layMark 68 = .ok (.return_, 1) := by decide +kernel
theorem dX5_mark_0 : decode cX5_mark 0 = .ok (.aload_n 0, 1) := by decide +kernel
theorem dX5_mark_1 : decode cX5_mark 1 = .ok (.iload_n 1, 1) := by decide +kernel
theorem dX5_mark_2 : decode cX5_mark 2 = .ok (.invokevirtual 80, 3) := by decide +kernel
theorem dX5_mark_5 : decode cX5_mark 5 = .ok (.ifCond .eq 30, 3) := by decide +kernel
theorem dX5_mark_8 : decode cX5_mark 8 = .ok (.iload_n 2, 1) := by decide +kernel
theorem dX5_mark_9 : decode cX5_mark 9 = .ok (.invokestatic 83, 3) := by decide +kernel
theorem dX5_mark_12 : decode cX5_mark 12 = .ok (.ifCond .eq 23, 3) := by decide +kernel
theorem dX5_mark_15 : decode cX5_mark 15 = .ok (.iload_n 3, 1) := by decide +kernel
theorem dX5_mark_16 : decode cX5_mark 16 = .ok (.invokestatic 86, 3) := by decide +kernel
theorem dX5_mark_19 : decode cX5_mark 19 = .ok (.ifCond .eq 16, 3) := by decide +kernel
theorem dX5_mark_22 : decode cX5_mark 22 = .ok (.iload 4, 2) := by decide +kernel
theorem dX5_mark_24 : decode cX5_mark 24 = .ok (.i2l, 1) := by decide +kernel
theorem dX5_mark_25 : decode cX5_mark 25 = .ok (.lconst 0, 1) := by decide +kernel
theorem dX5_mark_26 : decode cX5_mark 26 = .ok (.ldc2_w 89, 3) := by decide +kernel
theorem dX5_mark_29 : decode cX5_mark 29 = .ok (.invokestatic 50, 3) := by decide +kernel
theorem dX5_mark_32 : decode cX5_mark 32 = .ok (.ifCond .ne 10, 3) := by decide +kernel
theorem dX5_mark_35 : decode cX5_mark 35 = .ok (.aload_n 0, 1) := by decide +kernel
theorem dX5_mark_36 : decode cX5_mark 36 = .ok (.bipush (-2), 2) := by decide +kernel
theorem dX5_mark_38 : decode cX5_mark 38 = .ok (.invokevirtual 64, 3) := by decide +kernel
theorem dX5_mark_41 : decode cX5_mark 41 = .ok (.ireturn, 1) := by decide +kernel
theorem dX5_mark_42 : decode cX5_mark 42 = .ok (.aload_n 0, 1) := by decide +kernel
theorem dX5_mark_43 : decode cX5_mark 43 = .ok (.invokevirtual 91, 3) := by decide +kernel
theorem dX5_mark_46 : decode cX5_mark 46 = .ok (.bipush 8, 2) := by decide +kernel
theorem dX5_mark_48 : decode cX5_mark 48 = .ok (.if_icmp .ne 8, 3) := by decide +kernel
theorem dX5_mark_51 : decode cX5_mark 51 = .ok (.aload_n 0, 1) := by decide +kernel
theorem dX5_mark_52 : decode cX5_mark 52 = .ok (.invokevirtual 73, 3) := by decide +kernel
theorem dX5_mark_55 : decode cX5_mark 55 = .ok (.ireturn, 1) := by decide +kernel
theorem dX5_mark_56 : decode cX5_mark 56 = .ok (.aload_n 0, 1) := by decide +kernel
theorem dX5_mark_57 : decode cX5_mark 57 = .ok (.invokevirtual 94, 3) := by decide +kernel
theorem dX5_mark_60 : decode cX5_mark 60 = .ok (.aload_n 0, 1) := by decide +kernel
theorem dX5_mark_61 : decode cX5_mark 61 = .ok (.getfield 7, 3) := by decide +kernel
theorem dX5_mark_64 : decode cX5_mark 64 = .ok (.iload_n 1, 1) := by decide +kernel
theorem dX5_mark_65 : decode cX5_mark 65 = .ok (.iload_n 2, 1) := by decide +kernel
theorem dX5_mark_66 : decode cX5_mark 66 = .ok (.iload_n 3, 1) := by decide +kernel
theorem dX5_mark_67 : decode cX5_mark 67 = .ok (.iload 4, 2) := by decide +kernel
theorem dX5_mark_69 : decode cX5_mark 69 = .ok (.invokestatic 97, 3) := by decide +kernel
theorem dX5_mark_72 : decode cX5_mark 72 = .ok (.aload_n 0, 1) := by decide +kernel
theorem dX5_mark_73 : decode cX5_mark 73 = .ok (.invokevirtual 91, 3) := by decide +kernel
theorem dX5_mark_76 : decode cX5_mark 76 = .ok (.ireturn, 1) := by decide +kernel
theorem dX5_known_0 : decode cX5_known 0 = .ok (.iload_n 1, 1) := by decide +kernel
theorem dX5_known_1 : decode cX5_known 1 = .ok (.invokestatic 83, 3) := by decide +kernel
theorem dX5_known_4 : decode cX5_known 4 = .ok (.ifCond .eq 17, 3) := by decide +kernel
theorem dX5_known_7 : decode cX5_known 7 = .ok (.iload_n 2, 1) := by decide +kernel
theorem dX5_known_8 : decode cX5_known 8 = .ok (.i2l, 1) := by decide +kernel
theorem dX5_known_9 : decode cX5_known 9 = .ok (.ldc2_w 101, 3) := by decide +kernel
theorem dX5_known_12 : decode cX5_known 12 = .ok (.ldc2_w 56, 3) := by decide +kernel
theorem dX5_known_15 : decode cX5_known 15 = .ok (.invokestatic 50, 3) := by decide +kernel
theorem dX5_known_18 : decode cX5_known 18 = .ok (.ifCond .ne 10, 3) := by decide +kernel
theorem dX5_known_21 : decode cX5_known 21 = .ok (.aload_n 0, 1) := by decide +kernel
theorem dX5_known_22 : decode cX5_known 22 = .ok (.bipush (-10), 2) := by decide +kernel
theorem dX5_known_24 : decode cX5_known 24 = .ok (.invokevirtual 64, 3) := by decide +kernel
theorem dX5_known_27 : decode cX5_known 27 = .ok (.ireturn, 1) := by decide +kernel
theorem dX5_known_28 : decode cX5_known 28 = .ok (.aload_n 0, 1) := by decide +kernel
theorem dX5_known_29 : decode cX5_known 29 = .ok (.getfield 7, 3) := by decide +kernel
theorem dX5_known_32 : decode cX5_known 32 = .ok (.iconst 4, 1) := by decide +kernel
theorem dX5_known_33 : decode cX5_known 33 = .ok (.iload_n 1, 1) := by decide +kernel
theorem dX5_known_34 : decode cX5_known 34 = .ok (.iadd, 1) := by decide +kernel
theorem dX5_known_35 : decode cX5_known 35 = .ok (.iaload, 1) := by decide +kernel
theorem dX5_known_36 : decode cX5_known 36 = .ok (.istore_n 3, 1) := by decide +kernel
theorem dX5_known_37 : decode cX5_known 37 = .ok (.aload_n 0, 1) := by decide +kernel
theorem dX5_known_38 : decode cX5_known 38 = .ok (.invokevirtual 94, 3) := by decide +kernel
theorem dX5_known_41 : decode cX5_known 41 = .ok (.aload_n 0, 1) := by decide +kernel
theorem dX5_known_42 : decode cX5_known 42 = .ok (.getfield 7, 3) := by decide +kernel
theorem dX5_known_45 : decode cX5_known 45 = .ok (.iconst 4, 1) := by decide +kernel
theorem dX5_known_46 : decode cX5_known 46 = .ok (.iload_n 1, 1) := by decide +kernel
theorem dX5_known_47 : decode cX5_known 47 = .ok (.iadd, 1) := by decide +kernel
theorem dX5_known_48 : decode cX5_known 48 = .ok (.iload_n 2, 1) := by decide +kernel
theorem dX5_known_49 : decode cX5_known 49 = .ok (.iastore, 1) := by decide +kernel
theorem dX5_known_50 : decode cX5_known 50 = .ok (.iload_n 3, 1) := by decide +kernel
theorem dX5_known_51 : decode cX5_known 51 = .ok (.ireturn, 1) := by decide +kernel
theorem dX5_undo_0 : decode cX5_undo 0 = .ok (.aload_n 0, 1) := by decide +kernel
theorem dX5_undo_1 : decode cX5_undo 1 = .ok (.getfield 7, 3) := by decide +kernel
theorem dX5_undo_4 : decode cX5_undo 4 = .ok (.iconst 2, 1) := by decide +kernel
theorem dX5_undo_5 : decode cX5_undo 5 = .ok (.iaload, 1) := by decide +kernel
theorem dX5_undo_6 : decode cX5_undo 6 = .ok (.ifCond .ne 8, 3) := by decide +kernel
theorem dX5_undo_9 : decode cX5_undo 9 = .ok (.aload_n 0, 1) := by decide +kernel
theorem dX5_undo_10 : decode cX5_undo 10 = .ok (.invokevirtual 103, 3) := by decide +kernel
theorem dX5_undo_13 : decode cX5_undo 13 = .ok (.ireturn, 1) := by decide +kernel
theorem dX5_undo_14 : decode cX5_undo 14 = .ok (.aload_n 0, 1) := by decide +kernel
theorem dX5_undo_15 : decode cX5_undo 15 = .ok (.getfield 7, 3) := by decide +kernel
theorem dX5_undo_18 : decode cX5_undo 18 = .ok (.iconst 2, 1) := by decide +kernel
theorem dX5_undo_19 : decode cX5_undo 19 = .ok (.dup2, 1) := by decide +kernel
theorem dX5_undo_20 : decode cX5_undo 20 = .ok (.iaload, 1) := by decide +kernel
theorem dX5_undo_21 : decode cX5_undo 21 = .ok (.iconst 1, 1) := by decide +kernel
theorem dX5_undo_22 : decode cX5_undo 22 = .ok (.isub, 1) := by decide +kernel
theorem dX5_undo_23 : decode cX5_undo 23 = .ok (.iastore, 1) := by decide +kernel
theorem dX5_undo_24 : decode cX5_undo 24 = .ok (.iconst 0, 1) := by decide +kernel
theorem dX5_undo_25 : decode cX5_undo 25 = .ok (.istore_n 1, 1) := by decide +kernel
theorem dX5_undo_26 : decode cX5_undo 26 = .ok (.iload_n 1, 1) := by decide +kernel
theorem dX5_undo_27 : decode cX5_undo 27 = .ok (.bipush 11, 2) := by decide +kernel
theorem dX5_undo_29 : decode cX5_undo 29 = .ok (.if_icmp .ge 36, 3) := by decide +kernel
theorem dX5_undo_32 : decode cX5_undo 32 = .ok (.aload_n 0, 1) := by decide +kernel
theorem dX5_undo_33 : decode cX5_undo 33 = .ok (.getfield 7, 3) := by decide +kernel
theorem dX5_undo_36 : decode cX5_undo 36 = .ok (.iconst 3, 1) := by decide +kernel
theorem dX5_undo_37 : decode cX5_undo 37 = .ok (.iload_n 1, 1) := by decide +kernel
theorem dX5_undo_38 : decode cX5_undo 38 = .ok (.iadd, 1) := by decide +kernel
theorem dX5_undo_39 : decode cX5_undo 39 = .ok (.aload_n 0, 1) := by decide +kernel
theorem dX5_undo_40 : decode cX5_undo 40 = .ok (.getfield 7, 3) := by decide +kernel
theorem dX5_undo_43 : decode cX5_undo 43 = .ok (.bipush 58, 2) := by decide +kernel
theorem dX5_undo_45 : decode cX5_undo 45 = .ok (.bipush 11, 2) := by decide +kernel
theorem dX5_undo_47 : decode cX5_undo 47 = .ok (.aload_n 0, 1) := by decide +kernel
theorem dX5_undo_48 : decode cX5_undo 48 = .ok (.getfield 7, 3) := by decide +kernel
theorem dX5_undo_51 : decode cX5_undo 51 = .ok (.iconst 2, 1) := by decide +kernel
theorem dX5_undo_52 : decode cX5_undo 52 = .ok (.iaload, 1) := by decide +kernel
theorem dX5_undo_53 : decode cX5_undo 53 = .ok (.imul, 1) := by decide +kernel
theorem dX5_undo_54 : decode cX5_undo 54 = .ok (.iadd, 1) := by decide +kernel
theorem dX5_undo_55 : decode cX5_undo 55 = .ok (.iload_n 1, 1) := by decide +kernel
theorem dX5_undo_56 : decode cX5_undo 56 = .ok (.iadd, 1) := by decide +kernel
theorem dX5_undo_57 : decode cX5_undo 57 = .ok (.iaload, 1) := by decide +kernel
theorem dX5_undo_58 : decode cX5_undo 58 = .ok (.iastore, 1) := by decide +kernel
theorem dX5_undo_59 : decode cX5_undo 59 = .ok (.iinc 1 1, 3) := by decide +kernel
theorem dX5_undo_62 : decode cX5_undo 62 = .ok (.goto (-36), 3) := by decide +kernel
theorem dX5_undo_65 : decode cX5_undo 65 = .ok (.aload_n 0, 1) := by decide +kernel
theorem dX5_undo_66 : decode cX5_undo 66 = .ok (.invokevirtual 91, 3) := by decide +kernel
theorem dX5_undo_69 : decode cX5_undo 69 = .ok (.ireturn, 1) := by decide +kernel
theorem dX5_of_0 : decode cX5_of 0 = .ok (.aload_n 0, 1) := by decide +kernel
theorem dX5_of_1 : decode cX5_of 1 = .ok (.iload_n 1, 1) := by decide +kernel
theorem dX5_of_2 : decode cX5_of 2 = .ok (.invokevirtual 80, 3) := by decide +kernel
theorem dX5_of_5 : decode cX5_of 5 = .ok (.ifCond .eq 13, 3) := by decide +kernel
theorem dX5_of_8 : decode cX5_of 8 = .ok (.iload_n 2, 1) := by decide +kernel
theorem dX5_of_9 : decode cX5_of 9 = .ok (.i2l, 1) := by decide +kernel
theorem dX5_of_10 : decode cX5_of 10 = .ok (.lconst 0, 1) := by decide +kernel
theorem dX5_of_11 : decode cX5_of 11 = .ok (.lconst 1, 1) := by decide +kernel
theorem dX5_of_12 : decode cX5_of 12 = .ok (.invokestatic 50, 3) := by decide +kernel
theorem dX5_of_15 : decode cX5_of 15 = .ok (.ifCond .ne 10, 3) := by decide +kernel
theorem dX5_of_18 : decode cX5_of 18 = .ok (.aload_n 0, 1) := by decide +kernel
theorem dX5_of_19 : decode cX5_of 19 = .ok (.bipush (-2), 2) := by decide +kernel
theorem dX5_of_21 : decode cX5_of 21 = .ok (.invokevirtual 64, 3) := by decide +kernel
theorem dX5_of_24 : decode cX5_of 24 = .ok (.ireturn, 1) := by decide +kernel
theorem dX5_of_25 : decode cX5_of 25 = .ok (.aload_n 0, 1) := by decide +kernel
theorem dX5_of_26 : decode cX5_of 26 = .ok (.getfield 7, 3) := by decide +kernel
theorem dX5_of_29 : decode cX5_of 29 = .ok (.iload_n 2, 1) := by decide +kernel
theorem dX5_of_30 : decode cX5_of 30 = .ok (.ifCond .ne 8, 3) := by decide +kernel
theorem dX5_of_33 : decode cX5_of 33 = .ok (.bipush 14, 2) := by decide +kernel
theorem dX5_of_35 : decode cX5_of 35 = .ok (.goto 5, 3) := by decide +kernel
theorem dX5_of_38 : decode cX5_of 38 = .ok (.bipush 10, 2) := by decide +kernel
theorem dX5_of_40 : decode cX5_of 40 = .ok (.iload_n 1, 1) := by decide +kernel
theorem dX5_of_41 : decode cX5_of 41 = .ok (.iadd, 1) := by decide +kernel
theorem dX5_of_42 : decode cX5_of 42 = .ok (.iaload, 1) := by decide +kernel
theorem dX5_of_43 : decode cX5_of 43 = .ok (.ireturn, 1) := by decide +kernel
theorem dX5_eventOf_0 : decode cX5_eventOf 0 = .ok (.iload_n 0, 1) := by decide +kernel
theorem dX5_eventOf_1 : decode cX5_eventOf 1 = .ok (.iconst 2, 1) := by decide +kernel
theorem dX5_eventOf_2 : decode cX5_eventOf 2 = .ok (.iconst 5, 1) := by decide +kernel
theorem dX5_eventOf_3 : decode cX5_eventOf 3 = .ok (.iload_n 1, 1) := by decide +kernel
theorem dX5_eventOf_4 : decode cX5_eventOf 4 = .ok (.isub, 1) := by decide +kernel
theorem dX5_eventOf_5 : decode cX5_eventOf 5 = .ok (.imul, 1) := by decide +kernel
theorem dX5_eventOf_6 : decode cX5_eventOf 6 = .ok (.ishr, 1) := by decide +kernel
theorem dX5_eventOf_7 : decode cX5_eventOf 7 = .ok (.iconst 3, 1) := by decide +kernel
theorem dX5_eventOf_8 : decode cX5_eventOf 8 = .ok (.iand, 1) := by decide +kernel
theorem dX5_eventOf_9 : decode cX5_eventOf 9 = .ok (.ireturn, 1) := by decide +kernel
theorem dX5_isWorld_0 : decode cX5_isWorld 0 = .ok (.iconst 1, 1) := by decide +kernel
theorem dX5_isWorld_1 : decode cX5_isWorld 1 = .ok (.istore_n 2, 1) := by decide +kernel
theorem dX5_isWorld_2 : decode cX5_isWorld 2 = .ok (.iconst 0, 1) := by decide +kernel
theorem dX5_isWorld_3 : decode cX5_isWorld 3 = .ok (.istore_n 3, 1) := by decide +kernel
theorem dX5_isWorld_4 : decode cX5_isWorld 4 = .ok (.iload_n 3, 1) := by decide +kernel
theorem dX5_isWorld_5 : decode cX5_isWorld 5 = .ok (.bipush 6, 2) := by decide +kernel
theorem dX5_isWorld_7 : decode cX5_isWorld 7 = .ok (.if_icmp .ge 91, 3) := by decide +kernel
theorem dX5_isWorld_10 : decode cX5_isWorld 10 = .ok (.iload_n 2, 1) := by decide +kernel
theorem dX5_isWorld_11 : decode cX5_isWorld 11 = .ok (.ifCond .eq 87, 3) := by decide +kernel
theorem dX5_isWorld_14 : decode cX5_isWorld 14 = .ok (.iload_n 1, 1) := by decide +kernel
theorem dX5_isWorld_15 : decode cX5_isWorld 15 = .ok (.iload_n 3, 1) := by decide +kernel
theorem dX5_isWorld_16 : decode cX5_isWorld 16 = .ok (.invokestatic 106, 3) := by decide +kernel
theorem dX5_isWorld_19 : decode cX5_isWorld 19 = .ok (.istore 4, 2) := by decide +kernel
theorem dX5_isWorld_21 : decode cX5_isWorld 21 = .ok (.iload_n 3, 1) := by decide +kernel
theorem dX5_isWorld_22 : decode cX5_isWorld 22 = .ok (.ifCond .eq 27, 3) := by decide +kernel
theorem dX5_isWorld_25 : decode cX5_isWorld 25 = .ok (.aload_n 0, 1) := by decide +kernel
theorem dX5_isWorld_26 : decode cX5_isWorld 26 = .ok (.getfield 7, 3) := by decide +kernel
theorem dX5_isWorld_29 : decode cX5_isWorld 29 = .ok (.iconst 1, 1) := by decide +kernel
theorem dX5_isWorld_30 : decode cX5_isWorld 30 = .ok (.iaload, 1) := by decide +kernel
theorem dX5_isWorld_31 : decode cX5_isWorld 31 = .ok (.iconst 4, 1) := by decide +kernel
theorem dX5_isWorld_32 : decode cX5_isWorld 32 = .ok (.iload_n 1, 1) := by decide +kernel
theorem dX5_isWorld_33 : decode cX5_isWorld 33 = .ok (.iload_n 3, 1) := by decide +kernel
theorem dX5_isWorld_34 : decode cX5_isWorld 34 = .ok (.iconst 1, 1) := by decide +kernel
theorem dX5_isWorld_35 : decode cX5_isWorld 35 = .ok (.isub, 1) := by decide +kernel
theorem dX5_isWorld_36 : decode cX5_isWorld 36 = .ok (.invokestatic 106, 3) := by decide +kernel
theorem dX5_isWorld_39 : decode cX5_isWorld 39 = .ok (.imul, 1) := by decide +kernel
theorem dX5_isWorld_40 : decode cX5_isWorld 40 = .ok (.iload 4, 2) := by decide +kernel
theorem dX5_isWorld_42 : decode cX5_isWorld 42 = .ok (.iadd, 1) := by decide +kernel
theorem dX5_isWorld_43 : decode cX5_isWorld 43 = .ok (.invokestatic 110, 3) := by decide +kernel
theorem dX5_isWorld_46 : decode cX5_isWorld 46 = .ok (.ifCond .ne 7, 3) := by decide +kernel
theorem dX5_isWorld_49 : decode cX5_isWorld 49 = .ok (.iconst 1, 1) := by decide +kernel
theorem dX5_isWorld_50 : decode cX5_isWorld 50 = .ok (.goto 4, 3) := by decide +kernel
theorem dX5_isWorld_53 : decode cX5_isWorld 53 = .ok (.iconst 0, 1) := by decide +kernel
theorem dX5_isWorld_54 : decode cX5_isWorld 54 = .ok (.istore 5, 2) := by decide +kernel
theorem dX5_isWorld_56 : decode cX5_isWorld 56 = .ok (.iload 5, 2) := by decide +kernel
theorem dX5_isWorld_58 : decode cX5_isWorld 58 = .ok (.ifCond .eq 32, 3) := by decide +kernel
theorem dX5_isWorld_61 : decode cX5_isWorld 61 = .ok (.aload_n 0, 1) := by decide +kernel
theorem dX5_isWorld_62 : decode cX5_isWorld 62 = .ok (.getfield 7, 3) := by decide +kernel
theorem dX5_isWorld_65 : decode cX5_isWorld 65 = .ok (.iconst 4, 1) := by decide +kernel
theorem dX5_isWorld_66 : decode cX5_isWorld 66 = .ok (.iload_n 3, 1) := by decide +kernel
theorem dX5_isWorld_67 : decode cX5_isWorld 67 = .ok (.iadd, 1) := by decide +kernel
theorem dX5_isWorld_68 : decode cX5_isWorld 68 = .ok (.iaload, 1) := by decide +kernel
theorem dX5_isWorld_69 : decode cX5_isWorld 69 = .ok (.iconst (-1), 1) := by decide +kernel
theorem dX5_isWorld_70 : decode cX5_isWorld 70 = .ok (.if_icmp .eq 16, 3) := by decide +kernel
theorem dX5_isWorld_73 : decode cX5_isWorld 73 = .ok (.aload_n 0, 1) := by decide +kernel
theorem dX5_isWorld_74 : decode cX5_isWorld 74 = .ok (.getfield 7, 3) := by decide +kernel
theorem dX5_isWorld_77 : decode cX5_isWorld 77 = .ok (.iconst 4, 1) := by decide +kernel
theorem dX5_isWorld_78 : decode cX5_isWorld 78 = .ok (.iload_n 3, 1) := by decide +kernel
theorem dX5_isWorld_79 : decode cX5_isWorld 79 = .ok (.iadd, 1) := by decide +kernel
theorem dX5_isWorld_80 : decode cX5_isWorld 80 = .ok (.iaload, 1) := by decide +kernel
theorem dX5_isWorld_81 : decode cX5_isWorld 81 = .ok (.iload 4, 2) := by decide +kernel
theorem dX5_isWorld_83 : decode cX5_isWorld 83 = .ok (.if_icmp .ne 7, 3) := by decide +kernel
theorem dX5_isWorld_86 : decode cX5_isWorld 86 = .ok (.iconst 1, 1) := by decide +kernel
theorem dX5_isWorld_87 : decode cX5_isWorld 87 = .ok (.goto 4, 3) := by decide +kernel
theorem dX5_isWorld_90 : decode cX5_isWorld 90 = .ok (.iconst 0, 1) := by decide +kernel
theorem dX5_isWorld_91 : decode cX5_isWorld 91 = .ok (.istore_n 2, 1) := by decide +kernel
theorem dX5_isWorld_92 : decode cX5_isWorld 92 = .ok (.iinc 3 1, 3) := by decide +kernel
theorem dX5_isWorld_95 : decode cX5_isWorld 95 = .ok (.goto (-91), 3) := by decide +kernel
theorem dX5_isWorld_98 : decode cX5_isWorld 98 = .ok (.iload_n 2, 1) := by decide +kernel
theorem dX5_isWorld_99 : decode cX5_isWorld 99 = .ok (.ireturn, 1) := by decide +kernel
theorem dX5_layKinds_0 : decode cX5_layKinds 0 = .ok (.iconst 0, 1) := by decide +kernel
theorem dX5_layKinds_1 : decode cX5_layKinds 1 = .ok (.istore_n 1, 1) := by decide +kernel
theorem dX5_layKinds_2 : decode cX5_layKinds 2 = .ok (.iload_n 1, 1) := by decide +kernel
theorem dX5_layKinds_3 : decode cX5_layKinds 3 = .ok (.aload_n 0, 1) := by decide +kernel
theorem dX5_layKinds_4 : decode cX5_layKinds 4 = .ok (.invokevirtual 46, 3) := by decide +kernel
theorem dX5_layKinds_7 : decode cX5_layKinds 7 = .ok (.if_icmp .ge 24, 3) := by decide +kernel
theorem dX5_layKinds_10 : decode cX5_layKinds 10 = .ok (.aload_n 0, 1) := by decide +kernel
theorem dX5_layKinds_11 : decode cX5_layKinds 11 = .ok (.getfield 27, 3) := by decide +kernel
theorem dX5_layKinds_14 : decode cX5_layKinds 14 = .ok (.iload_n 1, 1) := by decide +kernel
theorem dX5_layKinds_15 : decode cX5_layKinds 15 = .ok (.aload_n 0, 1) := by decide +kernel
theorem dX5_layKinds_16 : decode cX5_layKinds 16 = .ok (.getfield 7, 3) := by decide +kernel
theorem dX5_layKinds_19 : decode cX5_layKinds 19 = .ok (.bipush 14, 2) := by decide +kernel
theorem dX5_layKinds_21 : decode cX5_layKinds 21 = .ok (.iload_n 1, 1) := by decide +kernel
theorem dX5_layKinds_22 : decode cX5_layKinds 22 = .ok (.iadd, 1) := by decide +kernel
theorem dX5_layKinds_23 : decode cX5_layKinds 23 = .ok (.iaload, 1) := by decide +kernel
theorem dX5_layKinds_24 : decode cX5_layKinds 24 = .ok (.iastore, 1) := by decide +kernel
theorem dX5_layKinds_25 : decode cX5_layKinds 25 = .ok (.iinc 1 1, 3) := by decide +kernel
theorem dX5_layKinds_28 : decode cX5_layKinds 28 = .ok (.goto (-26), 3) := by decide +kernel
theorem dX5_layKinds_31 : decode cX5_layKinds 31 = .ok (.return_, 1) := by decide +kernel
theorem dX5_wrongIn_0 : decode cX5_wrongIn 0 = .ok (.iconst 0, 1) := by decide +kernel
theorem dX5_wrongIn_1 : decode cX5_wrongIn 1 = .ok (.istore_n 2, 1) := by decide +kernel
theorem dX5_wrongIn_2 : decode cX5_wrongIn 2 = .ok (.iconst 0, 1) := by decide +kernel
theorem dX5_wrongIn_3 : decode cX5_wrongIn 3 = .ok (.istore_n 3, 1) := by decide +kernel
theorem dX5_wrongIn_4 : decode cX5_wrongIn 4 = .ok (.iload_n 3, 1) := by decide +kernel
theorem dX5_wrongIn_5 : decode cX5_wrongIn 5 = .ok (.aload_n 0, 1) := by decide +kernel
theorem dX5_wrongIn_6 : decode cX5_wrongIn 6 = .ok (.invokevirtual 91, 3) := by decide +kernel
theorem dX5_wrongIn_9 : decode cX5_wrongIn 9 = .ok (.if_icmp .ge 90, 3) := by decide +kernel
theorem dX5_wrongIn_12 : decode cX5_wrongIn 12 = .ok (.aload_n 0, 1) := by decide +kernel
theorem dX5_wrongIn_13 : decode cX5_wrongIn 13 = .ok (.iload_n 3, 1) := by decide +kernel
theorem dX5_wrongIn_14 : decode cX5_wrongIn 14 = .ok (.iconst 2, 1) := by decide +kernel
theorem dX5_wrongIn_15 : decode cX5_wrongIn 15 = .ok (.invokevirtual 114, 3) := by decide +kernel
theorem dX5_wrongIn_18 : decode cX5_wrongIn 18 = .ok (.iload_n 1, 1) := by decide +kernel
theorem dX5_wrongIn_19 : decode cX5_wrongIn 19 = .ok (.aload_n 0, 1) := by decide +kernel
theorem dX5_wrongIn_20 : decode cX5_wrongIn 20 = .ok (.iload_n 3, 1) := by decide +kernel
theorem dX5_wrongIn_21 : decode cX5_wrongIn 21 = .ok (.iconst 1, 1) := by decide +kernel
theorem dX5_wrongIn_22 : decode cX5_wrongIn 22 = .ok (.invokevirtual 114, 3) := by decide +kernel
theorem dX5_wrongIn_25 : decode cX5_wrongIn 25 = .ok (.invokestatic 106, 3) := by decide +kernel
theorem dX5_wrongIn_28 : decode cX5_wrongIn 28 = .ok (.invokestatic 110, 3) := by decide +kernel
theorem dX5_wrongIn_31 : decode cX5_wrongIn 31 = .ok (.istore 4, 2) := by decide +kernel
theorem dX5_wrongIn_33 : decode cX5_wrongIn 33 = .ok (.aload_n 0, 1) := by decide +kernel
theorem dX5_wrongIn_34 : decode cX5_wrongIn 34 = .ok (.getfield 27, 3) := by decide +kernel
theorem dX5_wrongIn_37 : decode cX5_wrongIn 37 = .ok (.aload_n 0, 1) := by decide +kernel
theorem dX5_wrongIn_38 : decode cX5_wrongIn 38 = .ok (.iload_n 3, 1) := by decide +kernel
theorem dX5_wrongIn_39 : decode cX5_wrongIn 39 = .ok (.iconst 0, 1) := by decide +kernel
theorem dX5_wrongIn_40 : decode cX5_wrongIn 40 = .ok (.invokevirtual 114, 3) := by decide +kernel
theorem dX5_wrongIn_43 : decode cX5_wrongIn 43 = .ok (.iaload, 1) := by decide +kernel
theorem dX5_wrongIn_44 : decode cX5_wrongIn 44 = .ok (.iload 4, 2) := by decide +kernel
theorem dX5_wrongIn_46 : decode cX5_wrongIn 46 = .ok (.aload_n 0, 1) := by decide +kernel
theorem dX5_wrongIn_47 : decode cX5_wrongIn 47 = .ok (.iload_n 3, 1) := by decide +kernel
theorem dX5_wrongIn_48 : decode cX5_wrongIn 48 = .ok (.iconst 1, 1) := by decide +kernel
theorem dX5_wrongIn_49 : decode cX5_wrongIn 49 = .ok (.invokevirtual 114, 3) := by decide +kernel
theorem dX5_wrongIn_52 : decode cX5_wrongIn 52 = .ok (.aload_n 0, 1) := by decide +kernel
theorem dX5_wrongIn_53 : decode cX5_wrongIn 53 = .ok (.iload_n 3, 1) := by decide +kernel
theorem dX5_wrongIn_54 : decode cX5_wrongIn 54 = .ok (.iconst 2, 1) := by decide +kernel
theorem dX5_wrongIn_55 : decode cX5_wrongIn 55 = .ok (.invokevirtual 114, 3) := by decide +kernel
theorem dX5_wrongIn_58 : decode cX5_wrongIn 58 = .ok (.invokestatic 68, 3) := by decide +kernel
theorem dX5_wrongIn_61 : decode cX5_wrongIn 61 = .ok (.aload_n 0, 1) := by decide +kernel
theorem dX5_wrongIn_62 : decode cX5_wrongIn 62 = .ok (.iload_n 3, 1) := by decide +kernel
theorem dX5_wrongIn_63 : decode cX5_wrongIn 63 = .ok (.iconst 4, 1) := by decide +kernel
theorem dX5_wrongIn_64 : decode cX5_wrongIn 64 = .ok (.invokevirtual 114, 3) := by decide +kernel
theorem dX5_wrongIn_67 : decode cX5_wrongIn 67 = .ok (.invokestatic 117, 3) := by decide +kernel
theorem dX5_wrongIn_70 : decode cX5_wrongIn 70 = .ok (.istore 5, 2) := by decide +kernel
theorem dX5_wrongIn_72 : decode cX5_wrongIn 72 = .ok (.iload_n 2, 1) := by decide +kernel
theorem dX5_wrongIn_73 : decode cX5_wrongIn 73 = .ok (.iload 5, 2) := by decide +kernel
theorem dX5_wrongIn_75 : decode cX5_wrongIn 75 = .ok (.aload_n 0, 1) := by decide +kernel
theorem dX5_wrongIn_76 : decode cX5_wrongIn 76 = .ok (.iload_n 3, 1) := by decide +kernel
theorem dX5_wrongIn_77 : decode cX5_wrongIn 77 = .ok (.iconst 3, 1) := by decide +kernel
theorem dX5_wrongIn_78 : decode cX5_wrongIn 78 = .ok (.invokevirtual 114, 3) := by decide +kernel
theorem dX5_wrongIn_81 : decode cX5_wrongIn 81 = .ok (.if_icmp .ne 7, 3) := by decide +kernel
theorem dX5_wrongIn_84 : decode cX5_wrongIn 84 = .ok (.iconst 0, 1) := by decide +kernel
theorem dX5_wrongIn_85 : decode cX5_wrongIn 85 = .ok (.goto 6, 3) := by decide +kernel
theorem dX5_wrongIn_88 : decode cX5_wrongIn 88 = .ok (.iconst 1, 1) := by decide +kernel
theorem dX5_wrongIn_89 : decode cX5_wrongIn 89 = .ok (.iload_n 3, 1) := by decide +kernel
theorem dX5_wrongIn_90 : decode cX5_wrongIn 90 = .ok (.ishl, 1) := by decide +kernel
theorem dX5_wrongIn_91 : decode cX5_wrongIn 91 = .ok (.ior, 1) := by decide +kernel
theorem dX5_wrongIn_92 : decode cX5_wrongIn 92 = .ok (.istore_n 2, 1) := by decide +kernel
theorem dX5_wrongIn_93 : decode cX5_wrongIn 93 = .ok (.iinc 3 1, 3) := by decide +kernel
theorem dX5_wrongIn_96 : decode cX5_wrongIn 96 = .ok (.goto (-92), 3) := by decide +kernel
theorem dX5_wrongIn_99 : decode cX5_wrongIn 99 = .ok (.iload_n 2, 1) := by decide +kernel
theorem dX5_wrongIn_100 : decode cX5_wrongIn 100 = .ok (.ireturn, 1) := by decide +kernel
theorem dX5_layFit_0 : decode cX5_layFit 0 = .ok (.aload_n 0, 1) := by decide +kernel
theorem dX5_layFit_1 : decode cX5_layFit 1 = .ok (.invokevirtual 121, 3) := by decide +kernel
theorem dX5_layFit_4 : decode cX5_layFit 4 = .ok (.aload_n 0, 1) := by decide +kernel
theorem dX5_layFit_5 : decode cX5_layFit 5 = .ok (.iconst 0, 1) := by decide +kernel
theorem dX5_layFit_6 : decode cX5_layFit 6 = .ok (.putfield 124, 3) := by decide +kernel
theorem dX5_layFit_9 : decode cX5_layFit 9 = .ok (.iconst 0, 1) := by decide +kernel
theorem dX5_layFit_10 : decode cX5_layFit 10 = .ok (.istore_n 1, 1) := by decide +kernel
theorem dX5_layFit_11 : decode cX5_layFit 11 = .ok (.iload_n 1, 1) := by decide +kernel
theorem dX5_layFit_12 : decode cX5_layFit 12 = .ok (.bipush 24, 2) := by decide +kernel
theorem dX5_layFit_14 : decode cX5_layFit 14 = .ok (.if_icmp .ge 16, 3) := by decide +kernel
theorem dX5_layFit_17 : decode cX5_layFit 17 = .ok (.aload_n 0, 1) := by decide +kernel
theorem dX5_layFit_18 : decode cX5_layFit 18 = .ok (.getfield 30, 3) := by decide +kernel
theorem dX5_layFit_21 : decode cX5_layFit 21 = .ok (.iload_n 1, 1) := by decide +kernel
theorem dX5_layFit_22 : decode cX5_layFit 22 = .ok (.iconst 0, 1) := by decide +kernel
theorem dX5_layFit_23 : decode cX5_layFit 23 = .ok (.iastore, 1) := by decide +kernel
theorem dX5_layFit_24 : decode cX5_layFit 24 = .ok (.iinc 1 1, 3) := by decide +kernel
theorem dX5_layFit_27 : decode cX5_layFit 27 = .ok (.goto (-16), 3) := by decide +kernel
theorem dX5_layFit_30 : decode cX5_layFit 30 = .ok (.iconst 0, 1) := by decide +kernel
theorem dX5_layFit_31 : decode cX5_layFit 31 = .ok (.istore_n 1, 1) := by decide +kernel
theorem dX5_layFit_32 : decode cX5_layFit 32 = .ok (.iload_n 1, 1) := by decide +kernel
theorem dX5_layFit_33 : decode cX5_layFit 33 = .ok (.sipush 4096, 3) := by decide +kernel
theorem dX5_layFit_36 : decode cX5_layFit 36 = .ok (.if_icmp .ge 67, 3) := by decide +kernel
theorem dX5_layFit_39 : decode cX5_layFit 39 = .ok (.aload_n 0, 1) := by decide +kernel
theorem dX5_layFit_40 : decode cX5_layFit 40 = .ok (.iload_n 1, 1) := by decide +kernel
theorem dX5_layFit_41 : decode cX5_layFit 41 = .ok (.invokevirtual 128, 3) := by decide +kernel
theorem dX5_layFit_44 : decode cX5_layFit 44 = .ok (.ifCond .eq 53, 3) := by decide +kernel
theorem dX5_layFit_47 : decode cX5_layFit 47 = .ok (.aload_n 0, 1) := by decide +kernel
theorem dX5_layFit_48 : decode cX5_layFit 48 = .ok (.iload_n 1, 1) := by decide +kernel
theorem dX5_layFit_49 : decode cX5_layFit 49 = .ok (.invokevirtual 131, 3) := by decide +kernel
theorem dX5_layFit_52 : decode cX5_layFit 52 = .ok (.ifCond .ne 45, 3) := by decide +kernel
theorem dX5_layFit_55 : decode cX5_layFit 55 = .ok (.aload_n 0, 1) := by decide +kernel
theorem dX5_layFit_56 : decode cX5_layFit 56 = .ok (.dup, 1) := by decide +kernel
theorem dX5_layFit_57 : decode cX5_layFit 57 = .ok (.getfield 124, 3) := by decide +kernel
theorem dX5_layFit_60 : decode cX5_layFit 60 = .ok (.iconst 1, 1) := by decide +kernel
theorem dX5_layFit_61 : decode cX5_layFit 61 = .ok (.iadd, 1) := by decide +kernel
theorem dX5_layFit_62 : decode cX5_layFit 62 = .ok (.putfield 124, 3) := by decide +kernel
theorem dX5_layFit_65 : decode cX5_layFit 65 = .ok (.iconst 0, 1) := by decide +kernel
theorem dX5_layFit_66 : decode cX5_layFit 66 = .ok (.istore_n 2, 1) := by decide +kernel
theorem dX5_layFit_67 : decode cX5_layFit 67 = .ok (.iload_n 2, 1) := by decide +kernel
theorem dX5_layFit_68 : decode cX5_layFit 68 = .ok (.bipush 6, 2) := by decide +kernel
theorem dX5_layFit_70 : decode cX5_layFit 70 = .ok (.if_icmp .ge 27, 3) := by decide +kernel
theorem dX5_layFit_73 : decode cX5_layFit 73 = .ok (.aload_n 0, 1) := by decide +kernel
theorem dX5_layFit_74 : decode cX5_layFit 74 = .ok (.getfield 30, 3) := by decide +kernel
theorem dX5_layFit_77 : decode cX5_layFit 77 = .ok (.iconst 4, 1) := by decide +kernel
theorem dX5_layFit_78 : decode cX5_layFit 78 = .ok (.iload_n 2, 1) := by decide +kernel
theorem dX5_layFit_79 : decode cX5_layFit 79 = .ok (.imul, 1) := by decide +kernel
theorem dX5_layFit_80 : decode cX5_layFit 80 = .ok (.iload_n 1, 1) := by decide +kernel
theorem dX5_layFit_81 : decode cX5_layFit 81 = .ok (.iload_n 2, 1) := by decide +kernel
theorem dX5_layFit_82 : decode cX5_layFit 82 = .ok (.invokestatic 106, 3) := by decide +kernel
theorem dX5_layFit_85 : decode cX5_layFit 85 = .ok (.iadd, 1) := by decide +kernel
theorem dX5_layFit_86 : decode cX5_layFit 86 = .ok (.dup2, 1) := by decide +kernel
theorem dX5_layFit_87 : decode cX5_layFit 87 = .ok (.iaload, 1) := by decide +kernel
theorem dX5_layFit_88 : decode cX5_layFit 88 = .ok (.iconst 1, 1) := by decide +kernel
theorem dX5_layFit_89 : decode cX5_layFit 89 = .ok (.iadd, 1) := by decide +kernel
theorem dX5_layFit_90 : decode cX5_layFit 90 = .ok (.iastore, 1) := by decide +kernel
theorem dX5_layFit_91 : decode cX5_layFit 91 = .ok (.iinc 2 1, 3) := by decide +kernel
theorem dX5_layFit_94 : decode cX5_layFit 94 = .ok (.goto (-27), 3) := by decide +kernel
theorem dX5_layFit_97 : decode cX5_layFit 97 = .ok (.iinc 1 1, 3) := by decide +kernel
theorem dX5_layFit_100 : decode cX5_layFit 100 = .ok (.goto (-68), 3) := by decide +kernel
theorem dX5_layFit_103 : decode cX5_layFit 103 = .ok (.return_, 1) := by decide +kernel
theorem dX5_worlds_0 : decode cX5_worlds 0 = .ok (.aload_n 0, 1) := by decide +kernel
theorem dX5_worlds_1 : decode cX5_worlds 1 = .ok (.invokevirtual 134, 3) := by decide +kernel
theorem dX5_worlds_4 : decode cX5_worlds 4 = .ok (.aload_n 0, 1) := by decide +kernel
theorem dX5_worlds_5 : decode cX5_worlds 5 = .ok (.getfield 124, 3) := by decide +kernel
theorem dX5_worlds_8 : decode cX5_worlds 8 = .ok (.ireturn, 1) := by decide +kernel
theorem dX5_eventsOf_0 : decode cX5_eventsOf 0 = .ok (.iconst 0, 1) := by decide +kernel
theorem dX5_eventsOf_1 : decode cX5_eventsOf 1 = .ok (.istore_n 2, 1) := by decide +kernel
theorem dX5_eventsOf_2 : decode cX5_eventsOf 2 = .ok (.iconst 0, 1) := by decide +kernel
theorem dX5_eventsOf_3 : decode cX5_eventsOf 3 = .ok (.istore_n 3, 1) := by decide +kernel
theorem dX5_eventsOf_4 : decode cX5_eventsOf 4 = .ok (.iload_n 3, 1) := by decide +kernel
theorem dX5_eventsOf_5 : decode cX5_eventsOf 5 = .ok (.iconst 4, 1) := by decide +kernel
theorem dX5_eventsOf_6 : decode cX5_eventsOf 6 = .ok (.if_icmp .ge 32, 3) := by decide +kernel
theorem dX5_eventsOf_9 : decode cX5_eventsOf 9 = .ok (.iload_n 2, 1) := by decide +kernel
theorem dX5_eventsOf_10 : decode cX5_eventsOf 10 = .ok (.aload_n 0, 1) := by decide +kernel
theorem dX5_eventsOf_11 : decode cX5_eventsOf 11 = .ok (.getfield 30, 3) := by decide +kernel
theorem dX5_eventsOf_14 : decode cX5_eventsOf 14 = .ok (.iconst 4, 1) := by decide +kernel
theorem dX5_eventsOf_15 : decode cX5_eventsOf 15 = .ok (.iload_n 1, 1) := by decide +kernel
theorem dX5_eventsOf_16 : decode cX5_eventsOf 16 = .ok (.imul, 1) := by decide +kernel
theorem dX5_eventsOf_17 : decode cX5_eventsOf 17 = .ok (.iload_n 3, 1) := by decide +kernel
theorem dX5_eventsOf_18 : decode cX5_eventsOf 18 = .ok (.iadd, 1) := by decide +kernel
theorem dX5_eventsOf_19 : decode cX5_eventsOf 19 = .ok (.iaload, 1) := by decide +kernel
theorem dX5_eventsOf_20 : decode cX5_eventsOf 20 = .ok (.ifCond .le 9, 3) := by decide +kernel
theorem dX5_eventsOf_23 : decode cX5_eventsOf 23 = .ok (.iconst 1, 1) := by decide +kernel
theorem dX5_eventsOf_24 : decode cX5_eventsOf 24 = .ok (.iload_n 3, 1) := by decide +kernel
theorem dX5_eventsOf_25 : decode cX5_eventsOf 25 = .ok (.ishl, 1) := by decide +kernel
theorem dX5_eventsOf_26 : decode cX5_eventsOf 26 = .ok (.goto 4, 3) := by decide +kernel
theorem dX5_eventsOf_29 : decode cX5_eventsOf 29 = .ok (.iconst 0, 1) := by decide +kernel
theorem dX5_eventsOf_30 : decode cX5_eventsOf 30 = .ok (.ior, 1) := by decide +kernel
theorem dX5_eventsOf_31 : decode cX5_eventsOf 31 = .ok (.istore_n 2, 1) := by decide +kernel
theorem dX5_eventsOf_32 : decode cX5_eventsOf 32 = .ok (.iinc 3 1, 3) := by decide +kernel
theorem dX5_eventsOf_35 : decode cX5_eventsOf 35 = .ok (.goto (-31), 3) := by decide +kernel
theorem dX5_eventsOf_38 : decode cX5_eventsOf 38 = .ok (.iload_n 2, 1) := by decide +kernel
theorem dX5_eventsOf_39 : decode cX5_eventsOf 39 = .ok (.ireturn, 1) := by decide +kernel
theorem dX5_may_0 : decode cX5_may 0 = .ok (.iload_n 1, 1) := by decide +kernel
theorem dX5_may_1 : decode cX5_may 1 = .ok (.invokestatic 83, 3) := by decide +kernel
theorem dX5_may_4 : decode cX5_may 4 = .ok (.ifCond .ne 10, 3) := by decide +kernel
theorem dX5_may_7 : decode cX5_may 7 = .ok (.aload_n 0, 1) := by decide +kernel
theorem dX5_may_8 : decode cX5_may 8 = .ok (.bipush (-2), 2) := by decide +kernel
theorem dX5_may_10 : decode cX5_may 10 = .ok (.invokevirtual 64, 3) := by decide +kernel
theorem dX5_may_13 : decode cX5_may 13 = .ok (.ireturn, 1) := by decide +kernel
theorem dX5_may_14 : decode cX5_may 14 = .ok (.aload_n 0, 1) := by decide +kernel
theorem dX5_may_15 : decode cX5_may 15 = .ok (.invokevirtual 134, 3) := by decide +kernel
theorem dX5_may_18 : decode cX5_may 18 = .ok (.aload_n 0, 1) := by decide +kernel
theorem dX5_may_19 : decode cX5_may 19 = .ok (.iload_n 1, 1) := by decide +kernel
theorem dX5_may_20 : decode cX5_may 20 = .ok (.invokevirtual 137, 3) := by decide +kernel
theorem dX5_may_23 : decode cX5_may 23 = .ok (.ireturn, 1) := by decide +kernel
theorem dX5_fraction_0 : decode cX5_fraction 0 = .ok (.lload_n 1, 1) := by decide +kernel
theorem dX5_fraction_1 : decode cX5_fraction 1 = .ok (.lstore 5, 2) := by decide +kernel
theorem dX5_fraction_3 : decode cX5_fraction 3 = .ok (.lload_n 3, 1) := by decide +kernel
theorem dX5_fraction_4 : decode cX5_fraction 4 = .ok (.lstore 7, 2) := by decide +kernel
theorem dX5_fraction_6 : decode cX5_fraction 6 = .ok (.lload 7, 2) := by decide +kernel
theorem dX5_fraction_8 : decode cX5_fraction 8 = .ok (.lconst 0, 1) := by decide +kernel
theorem dX5_fraction_9 : decode cX5_fraction 9 = .ok (.lcmp, 1) := by decide +kernel
theorem dX5_fraction_10 : decode cX5_fraction 10 = .ok (.ifCond .eq 21, 3) := by decide +kernel
theorem dX5_fraction_13 : decode cX5_fraction 13 = .ok (.lload 5, 2) := by decide +kernel
theorem dX5_fraction_15 : decode cX5_fraction 15 = .ok (.lload 7, 2) := by decide +kernel
theorem dX5_fraction_17 : decode cX5_fraction 17 = .ok (.lrem, 1) := by decide +kernel
theorem dX5_fraction_18 : decode cX5_fraction 18 = .ok (.lstore 9, 2) := by decide +kernel
theorem dX5_fraction_20 : decode cX5_fraction 20 = .ok (.lload 7, 2) := by decide +kernel
theorem dX5_fraction_22 : decode cX5_fraction 22 = .ok (.lstore 5, 2) := by decide +kernel
theorem dX5_fraction_24 : decode cX5_fraction 24 = .ok (.lload 9, 2) := by decide +kernel
theorem dX5_fraction_26 : decode cX5_fraction 26 = .ok (.lstore 7, 2) := by decide +kernel
theorem dX5_fraction_28 : decode cX5_fraction 28 = .ok (.goto (-22), 3) := by decide +kernel
theorem dX5_fraction_31 : decode cX5_fraction 31 = .ok (.aload_n 0, 1) := by decide +kernel
theorem dX5_fraction_32 : decode cX5_fraction 32 = .ok (.lload_n 1, 1) := by decide +kernel
theorem dX5_fraction_33 : decode cX5_fraction 33 = .ok (.lload 5, 2) := by decide +kernel
theorem dX5_fraction_35 : decode cX5_fraction 35 = .ok (.ldiv, 1) := by decide +kernel
theorem dX5_fraction_36 : decode cX5_fraction 36 = .ok (.putfield 140, 3) := by decide +kernel
theorem dX5_fraction_39 : decode cX5_fraction 39 = .ok (.aload_n 0, 1) := by decide +kernel
theorem dX5_fraction_40 : decode cX5_fraction 40 = .ok (.lload_n 3, 1) := by decide +kernel
theorem dX5_fraction_41 : decode cX5_fraction 41 = .ok (.lload 5, 2) := by decide +kernel
theorem dX5_fraction_43 : decode cX5_fraction 43 = .ok (.ldiv, 1) := by decide +kernel
theorem dX5_fraction_44 : decode cX5_fraction 44 = .ok (.putfield 23, 3) := by decide +kernel
theorem dX5_fraction_47 : decode cX5_fraction 47 = .ok (.return_, 1) := by decide +kernel
theorem dX5_chance_0 : decode cX5_chance 0 = .ok (.iload_n 1, 1) := by decide +kernel
theorem dX5_chance_1 : decode cX5_chance 1 = .ok (.invokestatic 83, 3) := by decide +kernel
theorem dX5_chance_4 : decode cX5_chance 4 = .ok (.ifCond .eq 10, 3) := by decide +kernel
theorem dX5_chance_7 : decode cX5_chance 7 = .ok (.iload_n 2, 1) := by decide +kernel
theorem dX5_chance_8 : decode cX5_chance 8 = .ok (.invokestatic 60, 3) := by decide +kernel
theorem dX5_chance_11 : decode cX5_chance 11 = .ok (.ifCond .ne 10, 3) := by decide +kernel
theorem dX5_chance_14 : decode cX5_chance 14 = .ok (.aload_n 0, 1) := by decide +kernel
