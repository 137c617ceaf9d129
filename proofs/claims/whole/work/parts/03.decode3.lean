theorem dX5_chance_15 : decode cX5_chance 15 = .ok (.bipush (-2), 2) := by decide +kernel
theorem dX5_chance_17 : decode cX5_chance 17 = .ok (.invokevirtual 64, 3) := by decide +kernel
theorem dX5_chance_20 : decode cX5_chance 20 = .ok (.ireturn, 1) := by decide +kernel
theorem dX5_chance_21 : decode cX5_chance 21 = .ok (.aload_n 0, 1) := by decide +kernel
theorem dX5_chance_22 : decode cX5_chance 22 = .ok (.invokevirtual 134, 3) := by decide +kernel
theorem dX5_chance_25 : decode cX5_chance 25 = .ok (.aload_n 0, 1) := by decide +kernel
theorem dX5_chance_26 : decode cX5_chance 26 = .ok (.getfield 124, 3) := by decide +kernel
theorem dX5_chance_29 : decode cX5_chance 29 = .ok (.ifCond .ne 8, 3) := by decide +kernel
theorem dX5_chance_32 : decode cX5_chance 32 = .ok (.aload_n 0, 1) := by decide +kernel
theorem dX5_chance_33 : decode cX5_chance 33 = .ok (.invokevirtual 103, 3) := by decide +kernel
theorem dX5_chance_36 : decode cX5_chance 36 = .ok (.ireturn, 1) := by decide +kernel
theorem dX5_chance_37 : decode cX5_chance 37 = .ok (.aload_n 0, 1) := by decide +kernel
theorem dX5_chance_38 : decode cX5_chance 38 = .ok (.aload_n 0, 1) := by decide +kernel
theorem dX5_chance_39 : decode cX5_chance 39 = .ok (.getfield 30, 3) := by decide +kernel
theorem dX5_chance_42 : decode cX5_chance 42 = .ok (.iconst 4, 1) := by decide +kernel
theorem dX5_chance_43 : decode cX5_chance 43 = .ok (.iload_n 1, 1) := by decide +kernel
theorem dX5_chance_44 : decode cX5_chance 44 = .ok (.imul, 1) := by decide +kernel
theorem dX5_chance_45 : decode cX5_chance 45 = .ok (.iload_n 2, 1) := by decide +kernel
theorem dX5_chance_46 : decode cX5_chance 46 = .ok (.iadd, 1) := by decide +kernel
theorem dX5_chance_47 : decode cX5_chance 47 = .ok (.iaload, 1) := by decide +kernel
theorem dX5_chance_48 : decode cX5_chance 48 = .ok (.i2l, 1) := by decide +kernel
theorem dX5_chance_49 : decode cX5_chance 49 = .ok (.aload_n 0, 1) := by decide +kernel
theorem dX5_chance_50 : decode cX5_chance 50 = .ok (.getfield 124, 3) := by decide +kernel
theorem dX5_chance_53 : decode cX5_chance 53 = .ok (.i2l, 1) := by decide +kernel
theorem dX5_chance_54 : decode cX5_chance 54 = .ok (.invokevirtual 143, 3) := by decide +kernel
theorem dX5_chance_57 : decode cX5_chance 57 = .ok (.iconst 1, 1) := by decide +kernel
theorem dX5_chance_58 : decode cX5_chance 58 = .ok (.ireturn, 1) := by decide +kernel
theorem dX5_must_0 : decode cX5_must 0 = .ok (.iconst 0, 1) := by decide +kernel
theorem dX5_must_1 : decode cX5_must 1 = .ok (.istore_n 1, 1) := by decide +kernel
theorem dX5_must_2 : decode cX5_must 2 = .ok (.aload_n 0, 1) := by decide +kernel
theorem dX5_must_3 : decode cX5_must 3 = .ok (.invokevirtual 134, 3) := by decide +kernel
theorem dX5_must_6 : decode cX5_must 6 = .ok (.iconst 0, 1) := by decide +kernel
theorem dX5_must_7 : decode cX5_must 7 = .ok (.istore_n 2, 1) := by decide +kernel
theorem dX5_must_8 : decode cX5_must 8 = .ok (.iload_n 2, 1) := by decide +kernel
theorem dX5_must_9 : decode cX5_must 9 = .ok (.bipush 6, 2) := by decide +kernel
theorem dX5_must_11 : decode cX5_must 11 = .ok (.if_icmp .ge 31, 3) := by decide +kernel
theorem dX5_must_14 : decode cX5_must 14 = .ok (.iload_n 1, 1) := by decide +kernel
theorem dX5_must_15 : decode cX5_must 15 = .ok (.aload_n 0, 1) := by decide +kernel
theorem dX5_must_16 : decode cX5_must 16 = .ok (.iload_n 2, 1) := by decide +kernel
theorem dX5_must_17 : decode cX5_must 17 = .ok (.invokevirtual 137, 3) := by decide +kernel
theorem dX5_must_20 : decode cX5_must 20 = .ok (.invokestatic 68, 3) := by decide +kernel
theorem dX5_must_23 : decode cX5_must 23 = .ok (.iconst 2, 1) := by decide +kernel
theorem dX5_must_24 : decode cX5_must 24 = .ok (.if_icmp .ge 9, 3) := by decide +kernel
theorem dX5_must_27 : decode cX5_must 27 = .ok (.iconst 1, 1) := by decide +kernel
theorem dX5_must_28 : decode cX5_must 28 = .ok (.iload_n 2, 1) := by decide +kernel
theorem dX5_must_29 : decode cX5_must 29 = .ok (.ishl, 1) := by decide +kernel
theorem dX5_must_30 : decode cX5_must 30 = .ok (.goto 4, 3) := by decide +kernel
theorem dX5_must_33 : decode cX5_must 33 = .ok (.iconst 0, 1) := by decide +kernel
theorem dX5_must_34 : decode cX5_must 34 = .ok (.ior, 1) := by decide +kernel
theorem dX5_must_35 : decode cX5_must 35 = .ok (.istore_n 1, 1) := by decide +kernel
theorem dX5_must_36 : decode cX5_must 36 = .ok (.iinc 2 1, 3) := by decide +kernel
theorem dX5_must_39 : decode cX5_must 39 = .ok (.goto (-31), 3) := by decide +kernel
theorem dX5_must_42 : decode cX5_must 42 = .ok (.iload_n 1, 1) := by decide +kernel
theorem dX5_must_43 : decode cX5_must 43 = .ok (.ireturn, 1) := by decide +kernel
theorem dX5_ruled_0 : decode cX5_ruled 0 = .ok (.iload_n 1, 1) := by decide +kernel
theorem dX5_ruled_1 : decode cX5_ruled 1 = .ok (.invokestatic 83, 3) := by decide +kernel
theorem dX5_ruled_4 : decode cX5_ruled 4 = .ok (.ifCond .ne 10, 3) := by decide +kernel
theorem dX5_ruled_7 : decode cX5_ruled 7 = .ok (.aload_n 0, 1) := by decide +kernel
theorem dX5_ruled_8 : decode cX5_ruled 8 = .ok (.bipush (-2), 2) := by decide +kernel
theorem dX5_ruled_10 : decode cX5_ruled 10 = .ok (.invokevirtual 64, 3) := by decide +kernel
theorem dX5_ruled_13 : decode cX5_ruled 13 = .ok (.ireturn, 1) := by decide +kernel
theorem dX5_ruled_14 : decode cX5_ruled 14 = .ok (.bipush 15, 2) := by decide +kernel
theorem dX5_ruled_16 : decode cX5_ruled 16 = .ok (.istore_n 2, 1) := by decide +kernel
theorem dX5_ruled_17 : decode cX5_ruled 17 = .ok (.iconst 0, 1) := by decide +kernel
theorem dX5_ruled_18 : decode cX5_ruled 18 = .ok (.istore_n 3, 1) := by decide +kernel
theorem dX5_ruled_19 : decode cX5_ruled 19 = .ok (.iload_n 3, 1) := by decide +kernel
theorem dX5_ruled_20 : decode cX5_ruled 20 = .ok (.sipush 4096, 3) := by decide +kernel
theorem dX5_ruled_23 : decode cX5_ruled 23 = .ok (.if_icmp .ge 34, 3) := by decide +kernel
theorem dX5_ruled_26 : decode cX5_ruled 26 = .ok (.iload_n 2, 1) := by decide +kernel
theorem dX5_ruled_27 : decode cX5_ruled 27 = .ok (.aload_n 0, 1) := by decide +kernel
theorem dX5_ruled_28 : decode cX5_ruled 28 = .ok (.iload_n 3, 1) := by decide +kernel
theorem dX5_ruled_29 : decode cX5_ruled 29 = .ok (.invokevirtual 128, 3) := by decide +kernel
theorem dX5_ruled_32 : decode cX5_ruled 32 = .ok (.ifCond .eq 15, 3) := by decide +kernel
theorem dX5_ruled_35 : decode cX5_ruled 35 = .ok (.iconst 1, 1) := by decide +kernel
theorem dX5_ruled_36 : decode cX5_ruled 36 = .ok (.iload_n 3, 1) := by decide +kernel
theorem dX5_ruled_37 : decode cX5_ruled 37 = .ok (.iload_n 1, 1) := by decide +kernel
theorem dX5_ruled_38 : decode cX5_ruled 38 = .ok (.invokestatic 106, 3) := by decide +kernel
theorem dX5_ruled_41 : decode cX5_ruled 41 = .ok (.ishl, 1) := by decide +kernel
theorem dX5_ruled_42 : decode cX5_ruled 42 = .ok (.iconst (-1), 1) := by decide +kernel
theorem dX5_ruled_43 : decode cX5_ruled 43 = .ok (.ixor, 1) := by decide +kernel
theorem dX5_ruled_44 : decode cX5_ruled 44 = .ok (.goto 5, 3) := by decide +kernel
theorem dX5_ruled_47 : decode cX5_ruled 47 = .ok (.bipush 15, 2) := by decide +kernel
theorem dX5_ruled_49 : decode cX5_ruled 49 = .ok (.iand, 1) := by decide +kernel
theorem dX5_ruled_50 : decode cX5_ruled 50 = .ok (.istore_n 2, 1) := by decide +kernel
theorem dX5_ruled_51 : decode cX5_ruled 51 = .ok (.iinc 3 1, 3) := by decide +kernel
theorem dX5_ruled_54 : decode cX5_ruled 54 = .ok (.goto (-35), 3) := by decide +kernel
theorem dX5_ruled_57 : decode cX5_ruled 57 = .ok (.iload_n 2, 1) := by decide +kernel
theorem dX5_ruled_58 : decode cX5_ruled 58 = .ok (.ireturn, 1) := by decide +kernel
theorem dX5_givesIn_0 : decode cX5_givesIn 0 = .ok (.iconst 0, 1) := by decide +kernel
theorem dX5_givesIn_1 : decode cX5_givesIn 1 = .ok (.istore 6, 2) := by decide +kernel
theorem dX5_givesIn_3 : decode cX5_givesIn 3 = .ok (.iconst 0, 1) := by decide +kernel
theorem dX5_givesIn_4 : decode cX5_givesIn 4 = .ok (.istore 7, 2) := by decide +kernel
theorem dX5_givesIn_6 : decode cX5_givesIn 6 = .ok (.iload 7, 2) := by decide +kernel
theorem dX5_givesIn_8 : decode cX5_givesIn 8 = .ok (.iconst 4, 1) := by decide +kernel
theorem dX5_givesIn_9 : decode cX5_givesIn 9 = .ok (.if_icmp .ge 59, 3) := by decide +kernel
theorem dX5_givesIn_12 : decode cX5_givesIn 12 = .ok (.iload 6, 2) := by decide +kernel
theorem dX5_givesIn_14 : decode cX5_givesIn 14 = .ok (.aload_n 0, 1) := by decide +kernel
theorem dX5_givesIn_15 : decode cX5_givesIn 15 = .ok (.getfield 7, 3) := by decide +kernel
theorem dX5_givesIn_18 : decode cX5_givesIn 18 = .ok (.bipush 14, 2) := by decide +kernel
theorem dX5_givesIn_20 : decode cX5_givesIn 20 = .ok (.iload_n 1, 1) := by decide +kernel
theorem dX5_givesIn_21 : decode cX5_givesIn 21 = .ok (.iadd, 1) := by decide +kernel
theorem dX5_givesIn_22 : decode cX5_givesIn 22 = .ok (.iaload, 1) := by decide +kernel
theorem dX5_givesIn_23 : decode cX5_givesIn 23 = .ok (.iload_n 3, 1) := by decide +kernel
theorem dX5_givesIn_24 : decode cX5_givesIn 24 = .ok (.iload 7, 2) := by decide +kernel
theorem dX5_givesIn_26 : decode cX5_givesIn 26 = .ok (.invokestatic 110, 3) := by decide +kernel
theorem dX5_givesIn_29 : decode cX5_givesIn 29 = .ok (.iload_n 2, 1) := by decide +kernel
theorem dX5_givesIn_30 : decode cX5_givesIn 30 = .ok (.iload_n 3, 1) := by decide +kernel
theorem dX5_givesIn_31 : decode cX5_givesIn 31 = .ok (.invokestatic 68, 3) := by decide +kernel
theorem dX5_givesIn_34 : decode cX5_givesIn 34 = .ok (.iload 4, 2) := by decide +kernel
theorem dX5_givesIn_36 : decode cX5_givesIn 36 = .ok (.invokestatic 117, 3) := by decide +kernel
theorem dX5_givesIn_39 : decode cX5_givesIn 39 = .ok (.iload 5, 2) := by decide +kernel
theorem dX5_givesIn_41 : decode cX5_givesIn 41 = .ok (.if_icmp .ne 17, 3) := by decide +kernel
theorem dX5_givesIn_44 : decode cX5_givesIn 44 = .ok (.aload_n 0, 1) := by decide +kernel
theorem dX5_givesIn_45 : decode cX5_givesIn 45 = .ok (.getfield 30, 3) := by decide +kernel
theorem dX5_givesIn_48 : decode cX5_givesIn 48 = .ok (.iconst 4, 1) := by decide +kernel
theorem dX5_givesIn_49 : decode cX5_givesIn 49 = .ok (.iload_n 2, 1) := by decide +kernel
theorem dX5_givesIn_50 : decode cX5_givesIn 50 = .ok (.imul, 1) := by decide +kernel
theorem dX5_givesIn_51 : decode cX5_givesIn 51 = .ok (.iload 7, 2) := by decide +kernel
theorem dX5_givesIn_53 : decode cX5_givesIn 53 = .ok (.iadd, 1) := by decide +kernel
theorem dX5_givesIn_54 : decode cX5_givesIn 54 = .ok (.iaload, 1) := by decide +kernel
theorem dX5_givesIn_55 : decode cX5_givesIn 55 = .ok (.goto 4, 3) := by decide +kernel
theorem dX5_givesIn_58 : decode cX5_givesIn 58 = .ok (.iconst 0, 1) := by decide +kernel
theorem dX5_givesIn_59 : decode cX5_givesIn 59 = .ok (.iadd, 1) := by decide +kernel
theorem dX5_givesIn_60 : decode cX5_givesIn 60 = .ok (.istore 6, 2) := by decide +kernel
theorem dX5_givesIn_62 : decode cX5_givesIn 62 = .ok (.iinc 7 1, 3) := by decide +kernel
theorem dX5_givesIn_65 : decode cX5_givesIn 65 = .ok (.goto (-59), 3) := by decide +kernel
theorem dX5_givesIn_68 : decode cX5_givesIn 68 = .ok (.iload 6, 2) := by decide +kernel
theorem dX5_givesIn_70 : decode cX5_givesIn 70 = .ok (.ireturn, 1) := by decide +kernel
theorem dX5_gives_0 : decode cX5_gives 0 = .ok (.aload_n 0, 1) := by decide +kernel
theorem dX5_gives_1 : decode cX5_gives 1 = .ok (.iload_n 1, 1) := by decide +kernel
theorem dX5_gives_2 : decode cX5_gives 2 = .ok (.invokevirtual 80, 3) := by decide +kernel
theorem dX5_gives_5 : decode cX5_gives 5 = .ok (.ifCond .eq 30, 3) := by decide +kernel
theorem dX5_gives_8 : decode cX5_gives 8 = .ok (.iload_n 2, 1) := by decide +kernel
theorem dX5_gives_9 : decode cX5_gives 9 = .ok (.invokestatic 83, 3) := by decide +kernel
theorem dX5_gives_12 : decode cX5_gives 12 = .ok (.ifCond .eq 23, 3) := by decide +kernel
theorem dX5_gives_15 : decode cX5_gives 15 = .ok (.iload_n 3, 1) := by decide +kernel
theorem dX5_gives_16 : decode cX5_gives 16 = .ok (.invokestatic 86, 3) := by decide +kernel
theorem dX5_gives_19 : decode cX5_gives 19 = .ok (.ifCond .eq 16, 3) := by decide +kernel
theorem dX5_gives_22 : decode cX5_gives 22 = .ok (.iload 4, 2) := by decide +kernel
theorem dX5_gives_24 : decode cX5_gives 24 = .ok (.i2l, 1) := by decide +kernel
theorem dX5_gives_25 : decode cX5_gives 25 = .ok (.lconst 0, 1) := by decide +kernel
theorem dX5_gives_26 : decode cX5_gives 26 = .ok (.ldc2_w 89, 3) := by decide +kernel
theorem dX5_gives_29 : decode cX5_gives 29 = .ok (.invokestatic 50, 3) := by decide +kernel
theorem dX5_gives_32 : decode cX5_gives 32 = .ok (.ifCond .ne 10, 3) := by decide +kernel
theorem dX5_gives_35 : decode cX5_gives 35 = .ok (.aload_n 0, 1) := by decide +kernel
theorem dX5_gives_36 : decode cX5_gives 36 = .ok (.bipush (-2), 2) := by decide +kernel
theorem dX5_gives_38 : decode cX5_gives 38 = .ok (.invokevirtual 64, 3) := by decide +kernel
theorem dX5_gives_41 : decode cX5_gives 41 = .ok (.ireturn, 1) := by decide +kernel
theorem dX5_gives_42 : decode cX5_gives 42 = .ok (.aload_n 0, 1) := by decide +kernel
theorem dX5_gives_43 : decode cX5_gives 43 = .ok (.invokevirtual 134, 3) := by decide +kernel
theorem dX5_gives_46 : decode cX5_gives 46 = .ok (.aload_n 0, 1) := by decide +kernel
theorem dX5_gives_47 : decode cX5_gives 47 = .ok (.iload_n 1, 1) := by decide +kernel
theorem dX5_gives_48 : decode cX5_gives 48 = .ok (.iload_n 2, 1) := by decide +kernel
theorem dX5_gives_49 : decode cX5_gives 49 = .ok (.iload_n 3, 1) := by decide +kernel
theorem dX5_gives_50 : decode cX5_gives 50 = .ok (.aload_n 0, 1) := by decide +kernel
theorem dX5_gives_51 : decode cX5_gives 51 = .ok (.getfield 7, 3) := by decide +kernel
theorem dX5_gives_54 : decode cX5_gives 54 = .ok (.bipush 10, 2) := by decide +kernel
theorem dX5_gives_56 : decode cX5_gives 56 = .ok (.iload_n 1, 1) := by decide +kernel
theorem dX5_gives_57 : decode cX5_gives 57 = .ok (.iadd, 1) := by decide +kernel
theorem dX5_gives_58 : decode cX5_gives 58 = .ok (.iaload, 1) := by decide +kernel
theorem dX5_gives_59 : decode cX5_gives 59 = .ok (.iload 4, 2) := by decide +kernel
theorem dX5_gives_61 : decode cX5_gives 61 = .ok (.invokevirtual 147, 3) := by decide +kernel
theorem dX5_gives_64 : decode cX5_gives 64 = .ok (.ireturn, 1) := by decide +kernel
theorem dX5_next_0 : decode cX5_next 0 = .ok (.aload_n 0, 1) := by decide +kernel
theorem dX5_next_1 : decode cX5_next 1 = .ok (.iload_n 1, 1) := by decide +kernel
theorem dX5_next_2 : decode cX5_next 2 = .ok (.invokevirtual 80, 3) := by decide +kernel
theorem dX5_next_5 : decode cX5_next 5 = .ok (.ifCond .ne 10, 3) := by decide +kernel
theorem dX5_next_8 : decode cX5_next 8 = .ok (.aload_n 0, 1) := by decide +kernel
theorem dX5_next_9 : decode cX5_next 9 = .ok (.bipush (-2), 2) := by decide +kernel
theorem dX5_next_11 : decode cX5_next 11 = .ok (.invokevirtual 64, 3) := by decide +kernel
theorem dX5_next_14 : decode cX5_next 14 = .ok (.ireturn, 1) := by decide +kernel
theorem dX5_next_15 : decode cX5_next 15 = .ok (.iconst (-1), 1) := by decide +kernel
theorem dX5_next_16 : decode cX5_next 16 = .ok (.istore_n 2, 1) := by decide +kernel
theorem dX5_next_17 : decode cX5_next 17 = .ok (.ldc 151, 2) := by decide +kernel
theorem dX5_next_19 : decode cX5_next 19 = .ok (.istore_n 3, 1) := by decide +kernel
theorem dX5_next_20 : decode cX5_next 20 = .ok (.aload_n 0, 1) := by decide +kernel
theorem dX5_next_21 : decode cX5_next 21 = .ok (.invokevirtual 134, 3) := by decide +kernel
theorem dX5_next_24 : decode cX5_next 24 = .ok (.iconst 1, 1) := by decide +kernel
theorem dX5_next_25 : decode cX5_next 25 = .ok (.istore 4, 2) := by decide +kernel
theorem dX5_next_27 : decode cX5_next 27 = .ok (.iload 4, 2) := by decide +kernel
theorem dX5_next_29 : decode cX5_next 29 = .ok (.bipush 96, 2) := by decide +kernel
theorem dX5_next_31 : decode cX5_next 31 = .ok (.if_icmp .ge 120, 3) := by decide +kernel
theorem dX5_next_34 : decode cX5_next 34 = .ok (.aload_n 0, 1) := by decide +kernel
theorem dX5_next_35 : decode cX5_next 35 = .ok (.getfield 124, 3) := by decide +kernel
theorem dX5_next_38 : decode cX5_next 38 = .ok (.ifCond .le 113, 3) := by decide +kernel
theorem dX5_next_41 : decode cX5_next 41 = .ok (.iload 4, 2) := by decide +kernel
theorem dX5_next_43 : decode cX5_next 43 = .ok (.bipush 16, 2) := by decide +kernel
theorem dX5_next_45 : decode cX5_next 45 = .ok (.irem, 1) := by decide +kernel
theorem dX5_next_46 : decode cX5_next 46 = .ok (.invokestatic 86, 3) := by decide +kernel
theorem dX5_next_49 : decode cX5_next 49 = .ok (.ifCond .eq 7, 3) := by decide +kernel
theorem dX5_next_52 : decode cX5_next 52 = .ok (.iconst 0, 1) := by decide +kernel
theorem dX5_next_53 : decode cX5_next 53 = .ok (.goto 5, 3) := by decide +kernel
theorem dX5_next_56 : decode cX5_next 56 = .ok (.ldc 151, 2) := by decide +kernel
theorem dX5_next_58 : decode cX5_next 58 = .ok (.istore 5, 2) := by decide +kernel
theorem dX5_next_60 : decode cX5_next 60 = .ok (.iconst 0, 1) := by decide +kernel
theorem dX5_next_61 : decode cX5_next 61 = .ok (.istore 6, 2) := by decide +kernel
theorem dX5_next_63 : decode cX5_next 63 = .ok (.iload 6, 2) := by decide +kernel
theorem dX5_next_65 : decode cX5_next 65 = .ok (.iconst 3, 1) := by decide +kernel
theorem dX5_next_66 : decode cX5_next 66 = .ok (.if_icmp .ge 53, 3) := by decide +kernel
theorem dX5_next_69 : decode cX5_next 69 = .ok (.aload_n 0, 1) := by decide +kernel
theorem dX5_next_70 : decode cX5_next 70 = .ok (.iload_n 1, 1) := by decide +kernel
theorem dX5_next_71 : decode cX5_next 71 = .ok (.iload 4, 2) := by decide +kernel
theorem dX5_next_73 : decode cX5_next 73 = .ok (.bipush 16, 2) := by decide +kernel
theorem dX5_next_75 : decode cX5_next 75 = .ok (.idiv, 1) := by decide +kernel
theorem dX5_next_76 : decode cX5_next 76 = .ok (.iload 4, 2) := by decide +kernel
theorem dX5_next_78 : decode cX5_next 78 = .ok (.bipush 16, 2) := by decide +kernel
theorem dX5_next_80 : decode cX5_next 80 = .ok (.irem, 1) := by decide +kernel
theorem dX5_next_81 : decode cX5_next 81 = .ok (.aload_n 0, 1) := by decide +kernel
theorem dX5_next_82 : decode cX5_next 82 = .ok (.getfield 7, 3) := by decide +kernel
theorem dX5_next_85 : decode cX5_next 85 = .ok (.bipush 10, 2) := by decide +kernel
theorem dX5_next_87 : decode cX5_next 87 = .ok (.iload_n 1, 1) := by decide +kernel
theorem dX5_next_88 : decode cX5_next 88 = .ok (.iadd, 1) := by decide +kernel
theorem dX5_next_89 : decode cX5_next 89 = .ok (.iaload, 1) := by decide +kernel
theorem dX5_next_90 : decode cX5_next 90 = .ok (.iload 6, 2) := by decide +kernel
theorem dX5_next_92 : decode cX5_next 92 = .ok (.invokevirtual 147, 3) := by decide +kernel
theorem dX5_next_95 : decode cX5_next 95 = .ok (.istore 7, 2) := by decide +kernel
theorem dX5_next_97 : decode cX5_next 97 = .ok (.iload 7, 2) := by decide +kernel
theorem dX5_next_99 : decode cX5_next 99 = .ok (.iload 5, 2) := by decide +kernel
theorem dX5_next_101 : decode cX5_next 101 = .ok (.if_icmp .le 8, 3) := by decide +kernel
theorem dX5_next_104 : decode cX5_next 104 = .ok (.iload 7, 2) := by decide +kernel
theorem dX5_next_106 : decode cX5_next 106 = .ok (.goto 5, 3) := by decide +kernel
theorem dX5_next_109 : decode cX5_next 109 = .ok (.iload 5, 2) := by decide +kernel
theorem dX5_next_111 : decode cX5_next 111 = .ok (.istore 5, 2) := by decide +kernel
theorem dX5_next_113 : decode cX5_next 113 = .ok (.iinc 6 1, 3) := by decide +kernel
theorem dX5_next_116 : decode cX5_next 116 = .ok (.goto (-53), 3) := by decide +kernel
theorem dX5_next_119 : decode cX5_next 119 = .ok (.iload 5, 2) := by decide +kernel
theorem dX5_next_121 : decode cX5_next 121 = .ok (.iload_n 3, 1) := by decide +kernel
theorem dX5_next_122 : decode cX5_next 122 = .ok (.if_icmp .ge 8, 3) := by decide +kernel
theorem dX5_next_125 : decode cX5_next 125 = .ok (.iload 4, 2) := by decide +kernel
theorem dX5_next_127 : decode cX5_next 127 = .ok (.goto 4, 3) := by decide +kernel
theorem dX5_next_130 : decode cX5_next 130 = .ok (.iload_n 2, 1) := by decide +kernel
theorem dX5_next_131 : decode cX5_next 131 = .ok (.istore_n 2, 1) := by decide +kernel
theorem dX5_next_132 : decode cX5_next 132 = .ok (.iload 5, 2) := by decide +kernel
theorem dX5_next_134 : decode cX5_next 134 = .ok (.iload_n 3, 1) := by decide +kernel
theorem dX5_next_135 : decode cX5_next 135 = .ok (.if_icmp .ge 8, 3) := by decide +kernel
theorem dX5_next_138 : decode cX5_next 138 = .ok (.iload 5, 2) := by decide +kernel
theorem dX5_next_140 : decode cX5_next 140 = .ok (.goto 4, 3) := by decide +kernel
theorem dX5_next_143 : decode cX5_next 143 = .ok (.iload_n 3, 1) := by decide +kernel
theorem dX5_next_144 : decode cX5_next 144 = .ok (.istore_n 3, 1) := by decide +kernel
theorem dX5_next_145 : decode cX5_next 145 = .ok (.iinc 4 1, 3) := by decide +kernel
theorem dX5_next_148 : decode cX5_next 148 = .ok (.goto (-121), 3) := by decide +kernel
theorem dX5_next_151 : decode cX5_next 151 = .ok (.iload_n 2, 1) := by decide +kernel
theorem dX5_next_152 : decode cX5_next 152 = .ok (.ireturn, 1) := by decide +kernel
theorem dX5_partOf_0 : decode cX5_partOf 0 = .ok (.iconst 0, 1) := by decide +kernel
theorem dX5_partOf_1 : decode cX5_partOf 1 = .ok (.istore 7, 2) := by decide +kernel
theorem dX5_partOf_3 : decode cX5_partOf 3 = .ok (.iconst 0, 1) := by decide +kernel
theorem dX5_partOf_4 : decode cX5_partOf 4 = .ok (.istore 8, 2) := by decide +kernel
theorem dX5_partOf_6 : decode cX5_partOf 6 = .ok (.iload 8, 2) := by decide +kernel
theorem dX5_partOf_8 : decode cX5_partOf 8 = .ok (.iconst 4, 1) := by decide +kernel
theorem dX5_partOf_9 : decode cX5_partOf 9 = .ok (.if_icmp .ge 75, 3) := by decide +kernel
theorem dX5_partOf_12 : decode cX5_partOf 12 = .ok (.aload_n 0, 1) := by decide +kernel
theorem dX5_partOf_13 : decode cX5_partOf 13 = .ok (.getfield 7, 3) := by decide +kernel
theorem dX5_partOf_16 : decode cX5_partOf 16 = .ok (.bipush 14, 2) := by decide +kernel
theorem dX5_partOf_18 : decode cX5_partOf 18 = .ok (.iload_n 2, 1) := by decide +kernel
theorem dX5_partOf_19 : decode cX5_partOf 19 = .ok (.iadd, 1) := by decide +kernel
theorem dX5_partOf_20 : decode cX5_partOf 20 = .ok (.iaload, 1) := by decide +kernel
theorem dX5_partOf_21 : decode cX5_partOf 21 = .ok (.iload 4, 2) := by decide +kernel
theorem dX5_partOf_23 : decode cX5_partOf 23 = .ok (.iload 8, 2) := by decide +kernel
theorem dX5_partOf_25 : decode cX5_partOf 25 = .ok (.invokestatic 110, 3) := by decide +kernel
theorem dX5_partOf_28 : decode cX5_partOf 28 = .ok (.iload_n 3, 1) := by decide +kernel
theorem dX5_partOf_29 : decode cX5_partOf 29 = .ok (.iload 4, 2) := by decide +kernel
theorem dX5_partOf_31 : decode cX5_partOf 31 = .ok (.invokestatic 68, 3) := by decide +kernel
theorem dX5_partOf_34 : decode cX5_partOf 34 = .ok (.iload 5, 2) := by decide +kernel
theorem dX5_partOf_36 : decode cX5_partOf 36 = .ok (.invokestatic 117, 3) := by decide +kernel
theorem dX5_partOf_39 : decode cX5_partOf 39 = .ok (.iload 6, 2) := by decide +kernel
theorem dX5_partOf_41 : decode cX5_partOf 41 = .ok (.if_icmp .ne 7, 3) := by decide +kernel
theorem dX5_partOf_44 : decode cX5_partOf 44 = .ok (.iconst 1, 1) := by decide +kernel
theorem dX5_partOf_45 : decode cX5_partOf 45 = .ok (.goto 4, 3) := by decide +kernel
theorem dX5_partOf_48 : decode cX5_partOf 48 = .ok (.iconst 0, 1) := by decide +kernel
theorem dX5_partOf_49 : decode cX5_partOf 49 = .ok (.istore 9, 2) := by decide +kernel
theorem dX5_partOf_51 : decode cX5_partOf 51 = .ok (.iload 7, 2) := by decide +kernel
theorem dX5_partOf_53 : decode cX5_partOf 53 = .ok (.iload 9, 2) := by decide +kernel
theorem dX5_partOf_55 : decode cX5_partOf 55 = .ok (.ifCond .eq 19, 3) := by decide +kernel
theorem dX5_partOf_58 : decode cX5_partOf 58 = .ok (.iload_n 1, 1) := by decide +kernel
theorem dX5_partOf_59 : decode cX5_partOf 59 = .ok (.iload 8, 2) := by decide +kernel
theorem dX5_partOf_61 : decode cX5_partOf 61 = .ok (.invokestatic 110, 3) := by decide +kernel
theorem dX5_partOf_64 : decode cX5_partOf 64 = .ok (.ifCond .eq 10, 3) := by decide +kernel
theorem dX5_partOf_67 : decode cX5_partOf 67 = .ok (.iconst 1, 1) := by decide +kernel
theorem dX5_partOf_68 : decode cX5_partOf 68 = .ok (.iload 8, 2) := by decide +kernel
theorem dX5_partOf_70 : decode cX5_partOf 70 = .ok (.ishl, 1) := by decide +kernel
theorem dX5_partOf_71 : decode cX5_partOf 71 = .ok (.goto 4, 3) := by decide +kernel
theorem dX5_partOf_74 : decode cX5_partOf 74 = .ok (.iconst 0, 1) := by decide +kernel
theorem dX5_partOf_75 : decode cX5_partOf 75 = .ok (.ior, 1) := by decide +kernel
theorem dX5_partOf_76 : decode cX5_partOf 76 = .ok (.istore 7, 2) := by decide +kernel
theorem dX5_partOf_78 : decode cX5_partOf 78 = .ok (.iinc 8 1, 3) := by decide +kernel
theorem dX5_partOf_81 : decode cX5_partOf 81 = .ok (.goto (-75), 3) := by decide +kernel
theorem dX5_partOf_84 : decode cX5_partOf 84 = .ok (.iload 7, 2) := by decide +kernel
theorem dX5_partOf_86 : decode cX5_partOf 86 = .ok (.ireturn, 1) := by decide +kernel
theorem dX5_parts_0 : decode cX5_parts 0 = .ok (.iconst 1, 1) := by decide +kernel
theorem dX5_parts_1 : decode cX5_parts 1 = .ok (.istore 6, 2) := by decide +kernel
theorem dX5_parts_3 : decode cX5_parts 3 = .ok (.iconst 0, 1) := by decide +kernel
theorem dX5_parts_4 : decode cX5_parts 4 = .ok (.istore 7, 2) := by decide +kernel
theorem dX5_parts_6 : decode cX5_parts 6 = .ok (.iload 7, 2) := by decide +kernel
theorem dX5_parts_8 : decode cX5_parts 8 = .ok (.iconst 3, 1) := by decide +kernel
theorem dX5_parts_9 : decode cX5_parts 9 = .ok (.if_icmp .ge 44, 3) := by decide +kernel
theorem dX5_parts_12 : decode cX5_parts 12 = .ok (.iload 6, 2) := by decide +kernel
theorem dX5_parts_14 : decode cX5_parts 14 = .ok (.ifCond .eq 30, 3) := by decide +kernel
theorem dX5_parts_17 : decode cX5_parts 17 = .ok (.aload_n 0, 1) := by decide +kernel
theorem dX5_parts_18 : decode cX5_parts 18 = .ok (.getfield 152, 3) := by decide +kernel
theorem dX5_parts_21 : decode cX5_parts 21 = .ok (.aload_n 0, 1) := by decide +kernel
theorem dX5_parts_22 : decode cX5_parts 22 = .ok (.iload_n 1, 1) := by decide +kernel
theorem dX5_parts_23 : decode cX5_parts 23 = .ok (.iload_n 2, 1) := by decide +kernel
theorem dX5_parts_24 : decode cX5_parts 24 = .ok (.iload_n 3, 1) := by decide +kernel
theorem dX5_parts_25 : decode cX5_parts 25 = .ok (.iload 4, 2) := by decide +kernel
theorem dX5_parts_27 : decode cX5_parts 27 = .ok (.iload 5, 2) := by decide +kernel
theorem dX5_parts_29 : decode cX5_parts 29 = .ok (.iload 7, 2) := by decide +kernel
theorem dX5_parts_31 : decode cX5_parts 31 = .ok (.invokevirtual 155, 3) := by decide +kernel
theorem dX5_parts_34 : decode cX5_parts 34 = .ok (.invokestatic 110, 3) := by decide +kernel
theorem dX5_parts_37 : decode cX5_parts 37 = .ok (.ifCond .eq 7, 3) := by decide +kernel
theorem dX5_parts_40 : decode cX5_parts 40 = .ok (.iconst 1, 1) := by decide +kernel
theorem dX5_parts_41 : decode cX5_parts 41 = .ok (.goto 4, 3) := by decide +kernel
theorem dX5_parts_44 : decode cX5_parts 44 = .ok (.iconst 0, 1) := by decide +kernel
theorem dX5_parts_45 : decode cX5_parts 45 = .ok (.istore 6, 2) := by decide +kernel
theorem dX5_parts_47 : decode cX5_parts 47 = .ok (.iinc 7 1, 3) := by decide +kernel
theorem dX5_parts_50 : decode cX5_parts 50 = .ok (.goto (-44), 3) := by decide +kernel
theorem dX5_parts_53 : decode cX5_parts 53 = .ok (.iload 6, 2) := by decide +kernel
theorem dX5_parts_55 : decode cX5_parts 55 = .ok (.ireturn, 1) := by decide +kernel
theorem dX5_leastSaying_0 : decode cX5_leastSaying 0 = .ok (.iconst 1, 1) := by decide +kernel
theorem dX5_leastSaying_1 : decode cX5_leastSaying 1 = .ok (.istore 5, 2) := by decide +kernel
theorem dX5_leastSaying_3 : decode cX5_leastSaying 3 = .ok (.iload 5, 2) := by decide +kernel
theorem dX5_leastSaying_5 : decode cX5_leastSaying 5 = .ok (.bipush 15, 2) := by decide +kernel
theorem dX5_leastSaying_7 : decode cX5_leastSaying 7 = .ok (.if_icmp .ge 26, 3) := by decide +kernel
theorem dX5_leastSaying_10 : decode cX5_leastSaying 10 = .ok (.aload_n 0, 1) := by decide +kernel
theorem dX5_leastSaying_11 : decode cX5_leastSaying 11 = .ok (.iload_n 1, 1) := by decide +kernel
theorem dX5_leastSaying_12 : decode cX5_leastSaying 12 = .ok (.iload_n 2, 1) := by decide +kernel
theorem dX5_leastSaying_13 : decode cX5_leastSaying 13 = .ok (.iload_n 3, 1) := by decide +kernel
theorem dX5_leastSaying_14 : decode cX5_leastSaying 14 = .ok (.iload 5, 2) := by decide +kernel
theorem dX5_leastSaying_16 : decode cX5_leastSaying 16 = .ok (.iload 4, 2) := by decide +kernel
theorem dX5_leastSaying_18 : decode cX5_leastSaying 18 = .ok (.invokevirtual 159, 3) := by decide +kernel
theorem dX5_leastSaying_21 : decode cX5_leastSaying 21 = .ok (.ifCond .eq 6, 3) := by decide +kernel
theorem dX5_leastSaying_24 : decode cX5_leastSaying 24 = .ok (.iload 5, 2) := by decide +kernel
theorem dX5_leastSaying_26 : decode cX5_leastSaying 26 = .ok (.ireturn, 1) := by decide +kernel
theorem dX5_leastSaying_27 : decode cX5_leastSaying 27 = .ok (.iinc 5 1, 3) := by decide +kernel
theorem dX5_leastSaying_30 : decode cX5_leastSaying 30 = .ok (.goto (-27), 3) := by decide +kernel
theorem dX5_leastSaying_33 : decode cX5_leastSaying 33 = .ok (.iconst (-1), 1) := by decide +kernel
theorem dX5_leastSaying_34 : decode cX5_leastSaying 34 = .ok (.ireturn, 1) := by decide +kernel
theorem dX5_laySolved_0 : decode cX5_laySolved 0 = .ok (.aload_n 0, 1) := by decide +kernel
theorem dX5_laySolved_1 : decode cX5_laySolved 1 = .ok (.iconst 0, 1) := by decide +kernel
theorem dX5_laySolved_2 : decode cX5_laySolved 2 = .ok (.putfield 152, 3) := by decide +kernel
theorem dX5_laySolved_5 : decode cX5_laySolved 5 = .ok (.iconst 0, 1) := by decide +kernel
theorem dX5_laySolved_6 : decode cX5_laySolved 6 = .ok (.istore 4, 2) := by decide +kernel
theorem dX5_laySolved_8 : decode cX5_laySolved 8 = .ok (.iload 4, 2) := by decide +kernel
theorem dX5_laySolved_10 : decode cX5_laySolved 10 = .ok (.bipush 16, 2) := by decide +kernel
theorem dX5_laySolved_12 : decode cX5_laySolved 12 = .ok (.if_icmp .ge 35, 3) := by decide +kernel
theorem dX5_laySolved_15 : decode cX5_laySolved 15 = .ok (.aload_n 0, 1) := by decide +kernel
theorem dX5_laySolved_16 : decode cX5_laySolved 16 = .ok (.dup, 1) := by decide +kernel
theorem dX5_laySolved_17 : decode cX5_laySolved 17 = .ok (.getfield 152, 3) := by decide +kernel
theorem dX5_laySolved_20 : decode cX5_laySolved 20 = .ok (.iload 4, 2) := by decide +kernel
theorem dX5_laySolved_22 : decode cX5_laySolved 22 = .ok (.invokestatic 68, 3) := by decide +kernel
theorem dX5_laySolved_25 : decode cX5_laySolved 25 = .ok (.iconst 2, 1) := by decide +kernel
theorem dX5_laySolved_26 : decode cX5_laySolved 26 = .ok (.if_icmp .ge 10, 3) := by decide +kernel
theorem dX5_laySolved_29 : decode cX5_laySolved 29 = .ok (.iconst 1, 1) := by decide +kernel
theorem dX5_laySolved_30 : decode cX5_laySolved 30 = .ok (.iload 4, 2) := by decide +kernel
theorem dX5_laySolved_32 : decode cX5_laySolved 32 = .ok (.ishl, 1) := by decide +kernel
theorem dX5_laySolved_33 : decode cX5_laySolved 33 = .ok (.goto 4, 3) := by decide +kernel
theorem dX5_laySolved_36 : decode cX5_laySolved 36 = .ok (.iconst 0, 1) := by decide +kernel
theorem dX5_laySolved_37 : decode cX5_laySolved 37 = .ok (.ior, 1) := by decide +kernel
theorem dX5_laySolved_38 : decode cX5_laySolved 38 = .ok (.putfield 152, 3) := by decide +kernel
theorem dX5_laySolved_41 : decode cX5_laySolved 41 = .ok (.iinc 4 1, 3) := by decide +kernel
theorem dX5_laySolved_44 : decode cX5_laySolved 44 = .ok (.goto (-36), 3) := by decide +kernel
theorem dX5_laySolved_47 : decode cX5_laySolved 47 = .ok (.iload_n 3, 1) := by decide +kernel
theorem dX5_laySolved_48 : decode cX5_laySolved 48 = .ok (.iconst 1, 1) := by decide +kernel
theorem dX5_laySolved_49 : decode cX5_laySolved 49 = .ok (.isub, 1) := by decide +kernel
theorem dX5_laySolved_50 : decode cX5_laySolved 50 = .ok (.istore 4, 2) := by decide +kernel
theorem dX5_laySolved_52 : decode cX5_laySolved 52 = .ok (.iload 4, 2) := by decide +kernel
theorem dX5_laySolved_54 : decode cX5_laySolved 54 = .ok (.ifCond .le 74, 3) := by decide +kernel
theorem dX5_laySolved_57 : decode cX5_laySolved 57 = .ok (.aload_n 0, 1) := by decide +kernel
theorem dX5_laySolved_58 : decode cX5_laySolved 58 = .ok (.getfield 152, 3) := by decide +kernel
theorem dX5_laySolved_61 : decode cX5_laySolved 61 = .ok (.istore 5, 2) := by decide +kernel
theorem dX5_laySolved_63 : decode cX5_laySolved 63 = .ok (.iconst 0, 1) := by decide +kernel
theorem dX5_laySolved_64 : decode cX5_laySolved 64 = .ok (.istore 6, 2) := by decide +kernel
theorem dX5_laySolved_66 : decode cX5_laySolved 66 = .ok (.iload 6, 2) := by decide +kernel
theorem dX5_laySolved_68 : decode cX5_laySolved 68 = .ok (.bipush 16, 2) := by decide +kernel
theorem dX5_laySolved_70 : decode cX5_laySolved 70 = .ok (.if_icmp .ge 46, 3) := by decide +kernel
theorem dX5_laySolved_73 : decode cX5_laySolved 73 = .ok (.iload 5, 2) := by decide +kernel
theorem dX5_laySolved_75 : decode cX5_laySolved 75 = .ok (.aload_n 0, 1) := by decide +kernel
theorem dX5_laySolved_76 : decode cX5_laySolved 76 = .ok (.iload 6, 2) := by decide +kernel
theorem dX5_laySolved_78 : decode cX5_laySolved 78 = .ok (.iload_n 1, 1) := by decide +kernel
theorem dX5_laySolved_79 : decode cX5_laySolved 79 = .ok (.iload_n 2, 1) := by decide +kernel
theorem dX5_laySolved_80 : decode cX5_laySolved 80 = .ok (.aload_n 0, 1) := by decide +kernel
theorem dX5_laySolved_81 : decode cX5_laySolved 81 = .ok (.getfield 7, 3) := by decide +kernel
theorem dX5_laySolved_84 : decode cX5_laySolved 84 = .ok (.bipush 10, 2) := by decide +kernel
theorem dX5_laySolved_86 : decode cX5_laySolved 86 = .ok (.iload_n 1, 1) := by decide +kernel
theorem dX5_laySolved_87 : decode cX5_laySolved 87 = .ok (.iadd, 1) := by decide +kernel
theorem dX5_laySolved_88 : decode cX5_laySolved 88 = .ok (.iaload, 1) := by decide +kernel
theorem dX5_laySolved_89 : decode cX5_laySolved 89 = .ok (.iload 4, 2) := by decide +kernel
theorem dX5_laySolved_91 : decode cX5_laySolved 91 = .ok (.iadd, 1) := by decide +kernel
theorem dX5_laySolved_92 : decode cX5_laySolved 92 = .ok (.invokevirtual 163, 3) := by decide +kernel
theorem dX5_laySolved_95 : decode cX5_laySolved 95 = .ok (.iconst (-1), 1) := by decide +kernel
theorem dX5_laySolved_96 : decode cX5_laySolved 96 = .ok (.if_icmp .eq 10, 3) := by decide +kernel
theorem dX5_laySolved_99 : decode cX5_laySolved 99 = .ok (.iconst 1, 1) := by decide +kernel
theorem dX5_laySolved_100 : decode cX5_laySolved 100 = .ok (.iload 6, 2) := by decide +kernel
theorem dX5_laySolved_102 : decode cX5_laySolved 102 = .ok (.ishl, 1) := by decide +kernel
theorem dX5_laySolved_103 : decode cX5_laySolved 103 = .ok (.goto 4, 3) := by decide +kernel
theorem dX5_laySolved_106 : decode cX5_laySolved 106 = .ok (.iconst 0, 1) := by decide +kernel
theorem dX5_laySolved_107 : decode cX5_laySolved 107 = .ok (.ior, 1) := by decide +kernel
theorem dX5_laySolved_108 : decode cX5_laySolved 108 = .ok (.istore 5, 2) := by decide +kernel
theorem dX5_laySolved_110 : decode cX5_laySolved 110 = .ok (.iinc 6 1, 3) := by decide +kernel
theorem dX5_laySolved_113 : decode cX5_laySolved 113 = .ok (.goto (-47), 3) := by decide +kernel
theorem dX5_laySolved_116 : decode cX5_laySolved 116 = .ok (.aload_n 0, 1) := by decide +kernel
theorem dX5_laySolved_117 : decode cX5_laySolved 117 = .ok (.iload 5, 2) := by decide +kernel
theorem dX5_laySolved_119 : decode cX5_laySolved 119 = .ok (.putfield 152, 3) := by decide +kernel
theorem dX5_laySolved_122 : decode cX5_laySolved 122 = .ok (.iinc 4 (-1), 3) := by decide +kernel
theorem dX5_laySolved_125 : decode cX5_laySolved 125 = .ok (.goto (-73), 3) := by decide +kernel
theorem dX5_laySolved_128 : decode cX5_laySolved 128 = .ok (.return_, 1) := by decide +kernel
theorem dX5_sure_0 : decode cX5_sure 0 = .ok (.aload_n 0, 1) := by decide +kernel
theorem dX5_sure_1 : decode cX5_sure 1 = .ok (.iload_n 1, 1) := by decide +kernel
theorem dX5_sure_2 : decode cX5_sure 2 = .ok (.invokevirtual 80, 3) := by decide +kernel
theorem dX5_sure_5 : decode cX5_sure 5 = .ok (.ifCond .eq 20, 3) := by decide +kernel
theorem dX5_sure_8 : decode cX5_sure 8 = .ok (.iload_n 2, 1) := by decide +kernel
theorem dX5_sure_9 : decode cX5_sure 9 = .ok (.invokestatic 83, 3) := by decide +kernel
theorem dX5_sure_12 : decode cX5_sure 12 = .ok (.ifCond .eq 13, 3) := by decide +kernel
theorem dX5_sure_15 : decode cX5_sure 15 = .ok (.iload_n 3, 1) := by decide +kernel
theorem dX5_sure_16 : decode cX5_sure 16 = .ok (.i2l, 1) := by decide +kernel
theorem dX5_sure_17 : decode cX5_sure 17 = .ok (.lconst 0, 1) := by decide +kernel
theorem dX5_sure_18 : decode cX5_sure 18 = .ok (.lconst 1, 1) := by decide +kernel
theorem dX5_sure_19 : decode cX5_sure 19 = .ok (.invokestatic 50, 3) := by decide +kernel
theorem dX5_sure_22 : decode cX5_sure 22 = .ok (.ifCond .ne 10, 3) := by decide +kernel
theorem dX5_sure_25 : decode cX5_sure 25 = .ok (.aload_n 0, 1) := by decide +kernel
theorem dX5_sure_26 : decode cX5_sure 26 = .ok (.bipush (-2), 2) := by decide +kernel
theorem dX5_sure_28 : decode cX5_sure 28 = .ok (.invokevirtual 64, 3) := by decide +kernel
theorem dX5_sure_31 : decode cX5_sure 31 = .ok (.ireturn, 1) := by decide +kernel
theorem dX5_sure_32 : decode cX5_sure 32 = .ok (.aload_n 0, 1) := by decide +kernel
theorem dX5_sure_33 : decode cX5_sure 33 = .ok (.invokevirtual 134, 3) := by decide +kernel
theorem dX5_sure_36 : decode cX5_sure 36 = .ok (.aload_n 0, 1) := by decide +kernel
theorem dX5_sure_37 : decode cX5_sure 37 = .ok (.iload_n 2, 1) := by decide +kernel
theorem dX5_sure_38 : decode cX5_sure 38 = .ok (.invokevirtual 137, 3) := by decide +kernel
theorem dX5_sure_41 : decode cX5_sure 41 = .ok (.istore 4, 2) := by decide +kernel
theorem dX5_sure_43 : decode cX5_sure 43 = .ok (.iload 4, 2) := by decide +kernel
theorem dX5_sure_45 : decode cX5_sure 45 = .ok (.invokestatic 68, 3) := by decide +kernel
theorem dX5_sure_48 : decode cX5_sure 48 = .ok (.iconst 2, 1) := by decide +kernel
theorem dX5_sure_49 : decode cX5_sure 49 = .ok (.if_icmp .ge 16, 3) := by decide +kernel
theorem dX5_sure_52 : decode cX5_sure 52 = .ok (.aload_n 0, 1) := by decide +kernel
theorem dX5_sure_53 : decode cX5_sure 53 = .ok (.getfield 124, 3) := by decide +kernel
theorem dX5_sure_56 : decode cX5_sure 56 = .ok (.ifCond .ne 7, 3) := by decide +kernel
theorem dX5_sure_59 : decode cX5_sure 59 = .ok (.iconst (-1), 1) := by decide +kernel
theorem dX5_sure_60 : decode cX5_sure 60 = .ok (.goto 4, 3) := by decide +kernel
theorem dX5_sure_63 : decode cX5_sure 63 = .ok (.iconst 0, 1) := by decide +kernel
theorem dX5_sure_64 : decode cX5_sure 64 = .ok (.ireturn, 1) := by decide +kernel
theorem dX5_sure_65 : decode cX5_sure 65 = .ok (.iconst 1, 1) := by decide +kernel
theorem dX5_sure_66 : decode cX5_sure 66 = .ok (.istore 5, 2) := by decide +kernel
theorem dX5_sure_68 : decode cX5_sure 68 = .ok (.iload 5, 2) := by decide +kernel
theorem dX5_sure_70 : decode cX5_sure 70 = .ok (.bipush 9, 2) := by decide +kernel
theorem dX5_sure_72 : decode cX5_sure 72 = .ok (.if_icmp .gt 54, 3) := by decide +kernel
theorem dX5_sure_75 : decode cX5_sure 75 = .ok (.aload_n 0, 1) := by decide +kernel
theorem dX5_sure_76 : decode cX5_sure 76 = .ok (.iload_n 1, 1) := by decide +kernel
theorem dX5_sure_77 : decode cX5_sure 77 = .ok (.iload_n 2, 1) := by decide +kernel
theorem dX5_sure_78 : decode cX5_sure 78 = .ok (.iload 5, 2) := by decide +kernel
theorem dX5_sure_80 : decode cX5_sure 80 = .ok (.invokevirtual 167, 3) := by decide +kernel
theorem dX5_sure_83 : decode cX5_sure 83 = .ok (.aload_n 0, 1) := by decide +kernel
theorem dX5_sure_84 : decode cX5_sure 84 = .ok (.iload 4, 2) := by decide +kernel
theorem dX5_sure_86 : decode cX5_sure 86 = .ok (.iload_n 1, 1) := by decide +kernel
theorem dX5_sure_87 : decode cX5_sure 87 = .ok (.iload_n 2, 1) := by decide +kernel
theorem dX5_sure_88 : decode cX5_sure 88 = .ok (.aload_n 0, 1) := by decide +kernel
theorem dX5_sure_89 : decode cX5_sure 89 = .ok (.getfield 7, 3) := by decide +kernel
theorem dX5_sure_92 : decode cX5_sure 92 = .ok (.bipush 10, 2) := by decide +kernel
theorem dX5_sure_94 : decode cX5_sure 94 = .ok (.iload_n 1, 1) := by decide +kernel
theorem dX5_sure_95 : decode cX5_sure 95 = .ok (.iadd, 1) := by decide +kernel
theorem dX5_sure_96 : decode cX5_sure 96 = .ok (.iaload, 1) := by decide +kernel
theorem dX5_sure_97 : decode cX5_sure 97 = .ok (.invokevirtual 163, 3) := by decide +kernel
theorem dX5_sure_100 : decode cX5_sure 100 = .ok (.istore 6, 2) := by decide +kernel
theorem dX5_sure_102 : decode cX5_sure 102 = .ok (.iload 6, 2) := by decide +kernel
theorem dX5_sure_104 : decode cX5_sure 104 = .ok (.iconst (-1), 1) := by decide +kernel
theorem dX5_sure_105 : decode cX5_sure 105 = .ok (.if_icmp .eq 15, 3) := by decide +kernel
theorem dX5_sure_108 : decode cX5_sure 108 = .ok (.iload_n 3, 1) := by decide +kernel
theorem dX5_sure_109 : decode cX5_sure 109 = .ok (.ifCond .ne 8, 3) := by decide +kernel
theorem dX5_sure_112 : decode cX5_sure 112 = .ok (.iload 5, 2) := by decide +kernel
theorem dX5_sure_114 : decode cX5_sure 114 = .ok (.goto 5, 3) := by decide +kernel
theorem dX5_sure_117 : decode cX5_sure 117 = .ok (.iload 6, 2) := by decide +kernel
theorem dX5_sure_119 : decode cX5_sure 119 = .ok (.ireturn, 1) := by decide +kernel
theorem dX5_sure_120 : decode cX5_sure 120 = .ok (.iinc 5 1, 3) := by decide +kernel
theorem dX5_sure_123 : decode cX5_sure 123 = .ok (.goto (-55), 3) := by decide +kernel
theorem dX5_sure_126 : decode cX5_sure 126 = .ok (.iconst (-1), 1) := by decide +kernel
theorem dX5_sure_127 : decode cX5_sure 127 = .ok (.ireturn, 1) := by decide +kernel
theorem dX5_wrong_0 : decode cX5_wrong 0 = .ok (.iconst (-1), 1) := by decide +kernel
theorem dX5_wrong_1 : decode cX5_wrong 1 = .ok (.istore_n 1, 1) := by decide +kernel
theorem dX5_wrong_2 : decode cX5_wrong 2 = .ok (.aload_n 0, 1) := by decide +kernel
theorem dX5_wrong_3 : decode cX5_wrong 3 = .ok (.invokevirtual 121, 3) := by decide +kernel
theorem dX5_wrong_6 : decode cX5_wrong 6 = .ok (.iconst 0, 1) := by decide +kernel
theorem dX5_wrong_7 : decode cX5_wrong 7 = .ok (.istore_n 2, 1) := by decide +kernel
theorem dX5_wrong_8 : decode cX5_wrong 8 = .ok (.iload_n 2, 1) := by decide +kernel
theorem dX5_wrong_9 : decode cX5_wrong 9 = .ok (.sipush 4096, 3) := by decide +kernel
theorem dX5_wrong_12 : decode cX5_wrong 12 = .ok (.if_icmp .ge 73, 3) := by decide +kernel
theorem dX5_wrong_15 : decode cX5_wrong 15 = .ok (.aload_n 0, 1) := by decide +kernel
theorem dX5_wrong_16 : decode cX5_wrong 16 = .ok (.iload_n 2, 1) := by decide +kernel
theorem dX5_wrong_17 : decode cX5_wrong 17 = .ok (.invokevirtual 128, 3) := by decide +kernel
theorem dX5_wrong_20 : decode cX5_wrong 20 = .ok (.ifCond .eq 59, 3) := by decide +kernel
theorem dX5_wrong_23 : decode cX5_wrong 23 = .ok (.aload_n 0, 1) := by decide +kernel
theorem dX5_wrong_24 : decode cX5_wrong 24 = .ok (.iload_n 2, 1) := by decide +kernel
theorem dX5_wrong_25 : decode cX5_wrong 25 = .ok (.invokevirtual 131, 3) := by decide +kernel
theorem dX5_wrong_28 : decode cX5_wrong 28 = .ok (.istore_n 3, 1) := by decide +kernel
theorem dX5_wrong_29 : decode cX5_wrong 29 = .ok (.iload_n 1, 1) := by decide +kernel
theorem dX5_wrong_30 : decode cX5_wrong 30 = .ok (.iconst (-1), 1) := by decide +kernel
theorem dX5_wrong_31 : decode cX5_wrong 31 = .ok (.if_icmp .eq 30, 3) := by decide +kernel
theorem dX5_wrong_34 : decode cX5_wrong 34 = .ok (.iload_n 3, 1) := by decide +kernel
theorem dX5_wrong_35 : decode cX5_wrong 35 = .ok (.invokestatic 68, 3) := by decide +kernel
theorem dX5_wrong_38 : decode cX5_wrong 38 = .ok (.iload_n 1, 1) := by decide +kernel
theorem dX5_wrong_39 : decode cX5_wrong 39 = .ok (.invokestatic 68, 3) := by decide +kernel
theorem dX5_wrong_42 : decode cX5_wrong 42 = .ok (.if_icmp .lt 19, 3) := by decide +kernel
theorem dX5_wrong_45 : decode cX5_wrong 45 = .ok (.iload_n 3, 1) := by decide +kernel
theorem dX5_wrong_46 : decode cX5_wrong 46 = .ok (.invokestatic 68, 3) := by decide +kernel
theorem dX5_wrong_49 : decode cX5_wrong 49 = .ok (.iload_n 1, 1) := by decide +kernel
theorem dX5_wrong_50 : decode cX5_wrong 50 = .ok (.invokestatic 68, 3) := by decide +kernel
theorem dX5_wrong_53 : decode cX5_wrong 53 = .ok (.if_icmp .ne 12, 3) := by decide +kernel
theorem dX5_wrong_56 : decode cX5_wrong 56 = .ok (.iload_n 3, 1) := by decide +kernel
theorem dX5_wrong_57 : decode cX5_wrong 57 = .ok (.iload_n 1, 1) := by decide +kernel
theorem dX5_wrong_58 : decode cX5_wrong 58 = .ok (.if_icmp .ge 7, 3) := by decide +kernel
theorem dX5_wrong_61 : decode cX5_wrong 61 = .ok (.iconst 1, 1) := by decide +kernel
theorem dX5_wrong_62 : decode cX5_wrong 62 = .ok (.goto 4, 3) := by decide +kernel
theorem dX5_wrong_65 : decode cX5_wrong 65 = .ok (.iconst 0, 1) := by decide +kernel
theorem dX5_wrong_66 : decode cX5_wrong 66 = .ok (.istore 4, 2) := by decide +kernel
theorem dX5_wrong_68 : decode cX5_wrong 68 = .ok (.iload 4, 2) := by decide +kernel
theorem dX5_wrong_70 : decode cX5_wrong 70 = .ok (.ifCond .eq 7, 3) := by decide +kernel
theorem dX5_wrong_73 : decode cX5_wrong 73 = .ok (.iload_n 3, 1) := by decide +kernel
theorem dX5_wrong_74 : decode cX5_wrong 74 = .ok (.goto 4, 3) := by decide +kernel
theorem dX5_wrong_77 : decode cX5_wrong 77 = .ok (.iload_n 1, 1) := by decide +kernel
theorem dX5_wrong_78 : decode cX5_wrong 78 = .ok (.istore_n 1, 1) := by decide +kernel
theorem dX5_wrong_79 : decode cX5_wrong 79 = .ok (.iinc 2 1, 3) := by decide +kernel
theorem dX5_wrong_82 : decode cX5_wrong 82 = .ok (.goto (-74), 3) := by decide +kernel
theorem dX5_wrong_85 : decode cX5_wrong 85 = .ok (.iload_n 1, 1) := by decide +kernel
theorem dX5_wrong_86 : decode cX5_wrong 86 = .ok (.ireturn, 1) := by decide +kernel
theorem dX5_doesAnyFit_0 : decode cX5_doesAnyFit 0 = .ok (.iconst 0, 1) := by decide +kernel
theorem dX5_doesAnyFit_1 : decode cX5_doesAnyFit 1 = .ok (.istore_n 1, 1) := by decide +kernel
theorem dX5_doesAnyFit_2 : decode cX5_doesAnyFit 2 = .ok (.iload_n 1, 1) := by decide +kernel
theorem dX5_doesAnyFit_3 : decode cX5_doesAnyFit 3 = .ok (.sipush 4096, 3) := by decide +kernel
theorem dX5_doesAnyFit_6 : decode cX5_doesAnyFit 6 = .ok (.if_icmp .ge 27, 3) := by decide +kernel
theorem dX5_doesAnyFit_9 : decode cX5_doesAnyFit 9 = .ok (.aload_n 0, 1) := by decide +kernel
theorem dX5_doesAnyFit_10 : decode cX5_doesAnyFit 10 = .ok (.iload_n 1, 1) := by decide +kernel
theorem dX5_doesAnyFit_11 : decode cX5_doesAnyFit 11 = .ok (.invokevirtual 128, 3) := by decide +kernel
theorem dX5_doesAnyFit_14 : decode cX5_doesAnyFit 14 = .ok (.ifCond .eq 13, 3) := by decide +kernel
theorem dX5_doesAnyFit_17 : decode cX5_doesAnyFit 17 = .ok (.aload_n 0, 1) := by decide +kernel
theorem dX5_doesAnyFit_18 : decode cX5_doesAnyFit 18 = .ok (.iload_n 1, 1) := by decide +kernel
theorem dX5_doesAnyFit_19 : decode cX5_doesAnyFit 19 = .ok (.invokevirtual 131, 3) := by decide +kernel
theorem dX5_doesAnyFit_22 : decode cX5_doesAnyFit 22 = .ok (.ifCond .ne 5, 3) := by decide +kernel
theorem dX5_doesAnyFit_25 : decode cX5_doesAnyFit 25 = .ok (.iconst 1, 1) := by decide +kernel
theorem dX5_doesAnyFit_26 : decode cX5_doesAnyFit 26 = .ok (.ireturn, 1) := by decide +kernel
theorem dX5_doesAnyFit_27 : decode cX5_doesAnyFit 27 = .ok (.iinc 1 1, 3) := by decide +kernel
theorem dX5_doesAnyFit_30 : decode cX5_doesAnyFit 30 = .ok (.goto (-28), 3) := by decide +kernel
theorem dX5_doesAnyFit_33 : decode cX5_doesAnyFit 33 = .ok (.iconst 0, 1) := by decide +kernel
theorem dX5_doesAnyFit_34 : decode cX5_doesAnyFit 34 = .ok (.ireturn, 1) := by decide +kernel
theorem dX5_is_0 : decode cX5_is 0 = .ok (.aload_n 0, 1) := by decide +kernel
theorem dX5_is_1 : decode cX5_is 1 = .ok (.iload_n 1, 1) := by decide +kernel
theorem dX5_is_2 : decode cX5_is 2 = .ok (.invokevirtual 80, 3) := by decide +kernel
theorem dX5_is_5 : decode cX5_is 5 = .ok (.ifCond .ne 10, 3) := by decide +kernel
theorem dX5_is_8 : decode cX5_is 8 = .ok (.aload_n 0, 1) := by decide +kernel
theorem dX5_is_9 : decode cX5_is 9 = .ok (.bipush (-2), 2) := by decide +kernel
theorem dX5_is_11 : decode cX5_is 11 = .ok (.invokevirtual 64, 3) := by decide +kernel
theorem dX5_is_14 : decode cX5_is 14 = .ok (.ireturn, 1) := by decide +kernel
theorem dX5_is_15 : decode cX5_is 15 = .ok (.iconst 0, 1) := by decide +kernel
theorem dX5_is_16 : decode cX5_is 16 = .ok (.istore_n 2, 1) := by decide +kernel
theorem dX5_is_17 : decode cX5_is 17 = .ok (.aload_n 0, 1) := by decide +kernel
theorem dX5_is_18 : decode cX5_is 18 = .ok (.invokevirtual 121, 3) := by decide +kernel
theorem dX5_is_21 : decode cX5_is 21 = .ok (.iconst 0, 1) := by decide +kernel
theorem dX5_is_22 : decode cX5_is 22 = .ok (.istore_n 3, 1) := by decide +kernel
theorem dX5_is_23 : decode cX5_is 23 = .ok (.iload_n 3, 1) := by decide +kernel
theorem dX5_is_24 : decode cX5_is 24 = .ok (.bipush 6, 2) := by decide +kernel
theorem dX5_is_26 : decode cX5_is 26 = .ok (.if_icmp .ge 33, 3) := by decide +kernel
theorem dX5_is_29 : decode cX5_is 29 = .ok (.aload_n 0, 1) := by decide +kernel
theorem dX5_is_30 : decode cX5_is 30 = .ok (.getfield 27, 3) := by decide +kernel
theorem dX5_is_33 : decode cX5_is 33 = .ok (.iload_n 1, 1) := by decide +kernel
theorem dX5_is_34 : decode cX5_is 34 = .ok (.iload_n 3, 1) := by decide +kernel
theorem dX5_is_35 : decode cX5_is 35 = .ok (.iastore, 1) := by decide +kernel
theorem dX5_is_36 : decode cX5_is 36 = .ok (.iload_n 2, 1) := by decide +kernel
theorem dX5_is_37 : decode cX5_is 37 = .ok (.aload_n 0, 1) := by decide +kernel
theorem dX5_is_38 : decode cX5_is 38 = .ok (.invokevirtual 171, 3) := by decide +kernel
theorem dX5_is_41 : decode cX5_is 41 = .ok (.ifCond .eq 9, 3) := by decide +kernel
theorem dX5_is_44 : decode cX5_is 44 = .ok (.iconst 1, 1) := by decide +kernel
theorem dX5_is_45 : decode cX5_is 45 = .ok (.iload_n 3, 1) := by decide +kernel
theorem dX5_is_46 : decode cX5_is 46 = .ok (.ishl, 1) := by decide +kernel
theorem dX5_is_47 : decode cX5_is 47 = .ok (.goto 4, 3) := by decide +kernel
theorem dX5_is_50 : decode cX5_is 50 = .ok (.iconst 0, 1) := by decide +kernel
theorem dX5_is_51 : decode cX5_is 51 = .ok (.ior, 1) := by decide +kernel
theorem dX5_is_52 : decode cX5_is 52 = .ok (.istore_n 2, 1) := by decide +kernel
theorem dX5_is_53 : decode cX5_is 53 = .ok (.iinc 3 1, 3) := by decide +kernel
theorem dX5_is_56 : decode cX5_is 56 = .ok (.goto (-33), 3) := by decide +kernel
theorem dX5_is_59 : decode cX5_is 59 = .ok (.iload_n 2, 1) := by decide +kernel
theorem dX5_is_60 : decode cX5_is 60 = .ok (.ireturn, 1) := by decide +kernel
theorem dX5_tells_0 : decode cX5_tells 0 = .ok (.iconst 0, 1) := by decide +kernel
theorem dX5_tells_1 : decode cX5_tells 1 = .ok (.istore_n 1, 1) := by decide +kernel
theorem dX5_tells_2 : decode cX5_tells 2 = .ok (.aload_n 0, 1) := by decide +kernel
theorem dX5_tells_3 : decode cX5_tells 3 = .ok (.invokevirtual 121, 3) := by decide +kernel
theorem dX5_tells_6 : decode cX5_tells 6 = .ok (.iconst 0, 1) := by decide +kernel
theorem dX5_tells_7 : decode cX5_tells 7 = .ok (.istore_n 2, 1) := by decide +kernel
theorem dX5_tells_8 : decode cX5_tells 8 = .ok (.iload_n 2, 1) := by decide +kernel
theorem dX5_tells_9 : decode cX5_tells 9 = .ok (.sipush 4096, 3) := by decide +kernel
theorem dX5_tells_12 : decode cX5_tells 12 = .ok (.if_icmp .ge 43, 3) := by decide +kernel
theorem dX5_tells_15 : decode cX5_tells 15 = .ok (.aload_n 0, 1) := by decide +kernel
theorem dX5_tells_16 : decode cX5_tells 16 = .ok (.iload_n 2, 1) := by decide +kernel
theorem dX5_tells_17 : decode cX5_tells 17 = .ok (.invokevirtual 128, 3) := by decide +kernel
theorem dX5_tells_20 : decode cX5_tells 20 = .ok (.ifCond .eq 11, 3) := by decide +kernel
theorem dX5_tells_23 : decode cX5_tells 23 = .ok (.aload_n 0, 1) := by decide +kernel
theorem dX5_tells_24 : decode cX5_tells 24 = .ok (.iload_n 2, 1) := by decide +kernel
theorem dX5_tells_25 : decode cX5_tells 25 = .ok (.invokevirtual 131, 3) := by decide +kernel
theorem dX5_tells_28 : decode cX5_tells 28 = .ok (.goto 4, 3) := by decide +kernel
theorem dX5_tells_31 : decode cX5_tells 31 = .ok (.iconst 0, 1) := by decide +kernel
theorem dX5_tells_32 : decode cX5_tells 32 = .ok (.istore_n 3, 1) := by decide +kernel
theorem dX5_tells_33 : decode cX5_tells 33 = .ok (.iload_n 1, 1) := by decide +kernel
theorem dX5_tells_34 : decode cX5_tells 34 = .ok (.iload_n 3, 1) := by decide +kernel
theorem dX5_tells_35 : decode cX5_tells 35 = .ok (.invokestatic 68, 3) := by decide +kernel
theorem dX5_tells_38 : decode cX5_tells 38 = .ok (.iconst 1, 1) := by decide +kernel
theorem dX5_tells_39 : decode cX5_tells 39 = .ok (.if_icmp .ne 7, 3) := by decide +kernel
theorem dX5_tells_42 : decode cX5_tells 42 = .ok (.iload_n 3, 1) := by decide +kernel
theorem dX5_tells_43 : decode cX5_tells 43 = .ok (.goto 4, 3) := by decide +kernel
theorem dX5_tells_46 : decode cX5_tells 46 = .ok (.iconst 0, 1) := by decide +kernel
theorem dX5_tells_47 : decode cX5_tells 47 = .ok (.ior, 1) := by decide +kernel
theorem dX5_tells_48 : decode cX5_tells 48 = .ok (.istore_n 1, 1) := by decide +kernel
theorem dX5_tells_49 : decode cX5_tells 49 = .ok (.iinc 2 1, 3) := by decide +kernel
theorem dX5_tells_52 : decode cX5_tells 52 = .ok (.goto (-44), 3) := by decide +kernel
theorem dX5_tells_55 : decode cX5_tells 55 = .ok (.iload_n 1, 1) := by decide +kernel
theorem dX5_tells_56 : decode cX5_tells 56 = .ok (.ireturn, 1) := by decide +kernel
theorem dX5_getsBy_0 : decode cX5_getsBy 0 = .ok (.iload_n 2, 1) := by decide +kernel
theorem dX5_getsBy_1 : decode cX5_getsBy 1 = .ok (.iload_n 3, 1) := by decide +kernel
theorem dX5_getsBy_2 : decode cX5_getsBy 2 = .ok (.if_icmp .ne 18, 3) := by decide +kernel
theorem dX5_getsBy_5 : decode cX5_getsBy 5 = .ok (.aload_n 0, 1) := by decide +kernel
theorem dX5_getsBy_6 : decode cX5_getsBy 6 = .ok (.getfield 30, 3) := by decide +kernel
theorem dX5_getsBy_9 : decode cX5_getsBy 9 = .ok (.iconst 4, 1) := by decide +kernel
theorem dX5_getsBy_10 : decode cX5_getsBy 10 = .ok (.iload_n 1, 1) := by decide +kernel
theorem dX5_getsBy_11 : decode cX5_getsBy 11 = .ok (.imul, 1) := by decide +kernel
theorem dX5_getsBy_12 : decode cX5_getsBy 12 = .ok (.iload_n 2, 1) := by decide +kernel
theorem dX5_getsBy_13 : decode cX5_getsBy 13 = .ok (.iadd, 1) := by decide +kernel
theorem dX5_getsBy_14 : decode cX5_getsBy 14 = .ok (.iaload, 1) := by decide +kernel
theorem dX5_getsBy_15 : decode cX5_getsBy 15 = .ok (.iconst 2, 1) := by decide +kernel
theorem dX5_getsBy_16 : decode cX5_getsBy 16 = .ok (.idiv, 1) := by decide +kernel
theorem dX5_getsBy_17 : decode cX5_getsBy 17 = .ok (.goto 13, 3) := by decide +kernel
theorem dX5_getsBy_20 : decode cX5_getsBy 20 = .ok (.aload_n 0, 1) := by decide +kernel
theorem dX5_getsBy_21 : decode cX5_getsBy 21 = .ok (.getfield 30, 3) := by decide +kernel
theorem dX5_getsBy_24 : decode cX5_getsBy 24 = .ok (.iconst 4, 1) := by decide +kernel
theorem dX5_getsBy_25 : decode cX5_getsBy 25 = .ok (.iload_n 1, 1) := by decide +kernel
theorem dX5_getsBy_26 : decode cX5_getsBy 26 = .ok (.imul, 1) := by decide +kernel
theorem dX5_getsBy_27 : decode cX5_getsBy 27 = .ok (.iload_n 2, 1) := by decide +kernel
theorem dX5_getsBy_28 : decode cX5_getsBy 28 = .ok (.iadd, 1) := by decide +kernel
theorem dX5_getsBy_29 : decode cX5_getsBy 29 = .ok (.iaload, 1) := by decide +kernel
theorem dX5_getsBy_30 : decode cX5_getsBy 30 = .ok (.ireturn, 1) := by decide +kernel
theorem dX5_rests_0 : decode cX5_rests 0 = .ok (.iconst 1, 1) := by decide +kernel
theorem dX5_rests_1 : decode cX5_rests 1 = .ok (.istore 4, 2) := by decide +kernel
theorem dX5_rests_3 : decode cX5_rests 3 = .ok (.iconst 0, 1) := by decide +kernel
theorem dX5_rests_4 : decode cX5_rests 4 = .ok (.istore 5, 2) := by decide +kernel
theorem dX5_rests_6 : decode cX5_rests 6 = .ok (.iload 5, 2) := by decide +kernel
theorem dX5_rests_8 : decode cX5_rests 8 = .ok (.iconst 4, 1) := by decide +kernel
theorem dX5_rests_9 : decode cX5_rests 9 = .ok (.if_icmp .ge 57, 3) := by decide +kernel
theorem dX5_rests_12 : decode cX5_rests 12 = .ok (.iload 4, 2) := by decide +kernel
theorem dX5_rests_14 : decode cX5_rests 14 = .ok (.ifCond .eq 43, 3) := by decide +kernel
theorem dX5_rests_17 : decode cX5_rests 17 = .ok (.aload_n 0, 1) := by decide +kernel
theorem dX5_rests_18 : decode cX5_rests 18 = .ok (.iload_n 1, 1) := by decide +kernel
theorem dX5_rests_19 : decode cX5_rests 19 = .ok (.iload 5, 2) := by decide +kernel
theorem dX5_rests_21 : decode cX5_rests 21 = .ok (.iload_n 3, 1) := by decide +kernel
theorem dX5_rests_22 : decode cX5_rests 22 = .ok (.invokevirtual 175, 3) := by decide +kernel
theorem dX5_rests_25 : decode cX5_rests 25 = .ok (.aload_n 0, 1) := by decide +kernel
theorem dX5_rests_26 : decode cX5_rests 26 = .ok (.iload_n 1, 1) := by decide +kernel
theorem dX5_rests_27 : decode cX5_rests 27 = .ok (.iload_n 2, 1) := by decide +kernel
theorem dX5_rests_28 : decode cX5_rests 28 = .ok (.iload_n 3, 1) := by decide +kernel
theorem dX5_rests_29 : decode cX5_rests 29 = .ok (.invokevirtual 175, 3) := by decide +kernel
theorem dX5_rests_32 : decode cX5_rests 32 = .ok (.if_icmp .gt 25, 3) := by decide +kernel
theorem dX5_rests_35 : decode cX5_rests 35 = .ok (.aload_n 0, 1) := by decide +kernel
theorem dX5_rests_36 : decode cX5_rests 36 = .ok (.iload_n 1, 1) := by decide +kernel
theorem dX5_rests_37 : decode cX5_rests 37 = .ok (.iload 5, 2) := by decide +kernel
theorem dX5_rests_39 : decode cX5_rests 39 = .ok (.iload_n 2, 1) := by decide +kernel
theorem dX5_rests_40 : decode cX5_rests 40 = .ok (.invokevirtual 175, 3) := by decide +kernel
theorem dX5_rests_43 : decode cX5_rests 43 = .ok (.aload_n 0, 1) := by decide +kernel
theorem dX5_rests_44 : decode cX5_rests 44 = .ok (.iload_n 1, 1) := by decide +kernel
theorem dX5_rests_45 : decode cX5_rests 45 = .ok (.iload_n 3, 1) := by decide +kernel
theorem dX5_rests_46 : decode cX5_rests 46 = .ok (.iload_n 2, 1) := by decide +kernel
theorem dX5_rests_47 : decode cX5_rests 47 = .ok (.invokevirtual 175, 3) := by decide +kernel
theorem dX5_rests_50 : decode cX5_rests 50 = .ok (.if_icmp .gt 7, 3) := by decide +kernel
theorem dX5_rests_53 : decode cX5_rests 53 = .ok (.iconst 1, 1) := by decide +kernel
theorem dX5_rests_54 : decode cX5_rests 54 = .ok (.goto 4, 3) := by decide +kernel
theorem dX5_rests_57 : decode cX5_rests 57 = .ok (.iconst 0, 1) := by decide +kernel
theorem dX5_rests_58 : decode cX5_rests 58 = .ok (.istore 4, 2) := by decide +kernel
theorem dX5_rests_60 : decode cX5_rests 60 = .ok (.iinc 5 1, 3) := by decide +kernel
theorem dX5_rests_63 : decode cX5_rests 63 = .ok (.goto (-57), 3) := by decide +kernel
theorem dX5_rests_66 : decode cX5_rests 66 = .ok (.iload 4, 2) := by decide +kernel
theorem dX5_rests_68 : decode cX5_rests 68 = .ok (.ireturn, 1) := by decide +kernel
theorem dX5_bets_0 : decode cX5_bets 0 = .ok (.iload_n 1, 1) := by decide +kernel
theorem dX5_bets_1 : decode cX5_bets 1 = .ok (.invokestatic 83, 3) := by decide +kernel
theorem dX5_bets_4 : decode cX5_bets 4 = .ok (.ifCond .eq 8, 3) := by decide +kernel
theorem dX5_bets_7 : decode cX5_bets 7 = .ok (.iload_n 2, 1) := by decide +kernel
theorem dX5_bets_8 : decode cX5_bets 8 = .ok (.iconst (-1), 1) := by decide +kernel
theorem dX5_bets_9 : decode cX5_bets 9 = .ok (.if_icmp .ge 10, 3) := by decide +kernel
theorem dX5_bets_12 : decode cX5_bets 12 = .ok (.aload_n 0, 1) := by decide +kernel
theorem dX5_bets_13 : decode cX5_bets 13 = .ok (.bipush (-10), 2) := by decide +kernel
theorem dX5_bets_15 : decode cX5_bets 15 = .ok (.invokevirtual 64, 3) := by decide +kernel
theorem dX5_bets_18 : decode cX5_bets 18 = .ok (.ireturn, 1) := by decide +kernel
theorem dX5_bets_19 : decode cX5_bets 19 = .ok (.iconst 0, 1) := by decide +kernel
theorem dX5_bets_20 : decode cX5_bets 20 = .ok (.istore_n 3, 1) := by decide +kernel
theorem dX5_bets_21 : decode cX5_bets 21 = .ok (.bipush (-5), 2) := by decide +kernel
theorem dX5_bets_23 : decode cX5_bets 23 = .ok (.istore 4, 2) := by decide +kernel
theorem dX5_bets_25 : decode cX5_bets 25 = .ok (.aload_n 0, 1) := by decide +kernel
theorem dX5_bets_26 : decode cX5_bets 26 = .ok (.invokevirtual 134, 3) := by decide +kernel
theorem dX5_bets_29 : decode cX5_bets 29 = .ok (.iconst 0, 1) := by decide +kernel
theorem dX5_bets_30 : decode cX5_bets 30 = .ok (.istore 5, 2) := by decide +kernel
theorem dX5_bets_32 : decode cX5_bets 32 = .ok (.iload 5, 2) := by decide +kernel
theorem dX5_bets_34 : decode cX5_bets 34 = .ok (.bipush 16, 2) := by decide +kernel
theorem dX5_bets_36 : decode cX5_bets 36 = .ok (.if_icmp .ge 42, 3) := by decide +kernel
theorem dX5_bets_39 : decode cX5_bets 39 = .ok (.aload_n 0, 1) := by decide +kernel
theorem dX5_bets_40 : decode cX5_bets 40 = .ok (.iload_n 1, 1) := by decide +kernel
theorem dX5_bets_41 : decode cX5_bets 41 = .ok (.iload 5, 2) := by decide +kernel
theorem dX5_bets_43 : decode cX5_bets 43 = .ok (.iconst 4, 1) := by decide +kernel
theorem dX5_bets_44 : decode cX5_bets 44 = .ok (.idiv, 1) := by decide +kernel
theorem dX5_bets_45 : decode cX5_bets 45 = .ok (.iload 5, 2) := by decide +kernel
theorem dX5_bets_47 : decode cX5_bets 47 = .ok (.iconst 4, 1) := by decide +kernel
theorem dX5_bets_48 : decode cX5_bets 48 = .ok (.irem, 1) := by decide +kernel
theorem dX5_bets_49 : decode cX5_bets 49 = .ok (.invokevirtual 179, 3) := by decide +kernel
theorem dX5_bets_52 : decode cX5_bets 52 = .ok (.ifCond .eq 20, 3) := by decide +kernel
theorem dX5_bets_55 : decode cX5_bets 55 = .ok (.iload_n 3, 1) := by decide +kernel
theorem dX5_bets_56 : decode cX5_bets 56 = .ok (.iload_n 2, 1) := by decide +kernel
theorem dX5_bets_57 : decode cX5_bets 57 = .ok (.if_icmp .ne 8, 3) := by decide +kernel
theorem dX5_bets_60 : decode cX5_bets 60 = .ok (.iload 5, 2) := by decide +kernel
theorem dX5_bets_62 : decode cX5_bets 62 = .ok (.goto 5, 3) := by decide +kernel
theorem dX5_bets_65 : decode cX5_bets 65 = .ok (.iload 4, 2) := by decide +kernel
theorem dX5_bets_67 : decode cX5_bets 67 = .ok (.istore 4, 2) := by decide +kernel
theorem dX5_bets_69 : decode cX5_bets 69 = .ok (.iinc 3 1, 3) := by decide +kernel
theorem dX5_bets_72 : decode cX5_bets 72 = .ok (.iinc 5 1, 3) := by decide +kernel
theorem dX5_bets_75 : decode cX5_bets 75 = .ok (.goto (-43), 3) := by decide +kernel
theorem dX5_bets_78 : decode cX5_bets 78 = .ok (.iload_n 2, 1) := by decide +kernel
theorem dX5_bets_79 : decode cX5_bets 79 = .ok (.iconst (-1), 1) := by decide +kernel
theorem dX5_bets_80 : decode cX5_bets 80 = .ok (.if_icmp .ne 7, 3) := by decide +kernel
theorem dX5_bets_83 : decode cX5_bets 83 = .ok (.iload_n 3, 1) := by decide +kernel
theorem dX5_bets_84 : decode cX5_bets 84 = .ok (.goto 5, 3) := by decide +kernel
theorem dX5_bets_87 : decode cX5_bets 87 = .ok (.iload 4, 2) := by decide +kernel
theorem dX5_bets_89 : decode cX5_bets 89 = .ok (.ireturn, 1) := by decide +kernel
theorem dX5_journeys_0 : decode cX5_journeys 0 = .ok (.iload_n 1, 1) := by decide +kernel
theorem dX5_journeys_1 : decode cX5_journeys 1 = .ok (.i2l, 1) := by decide +kernel
theorem dX5_journeys_2 : decode cX5_journeys 2 = .ok (.lconst 0, 1) := by decide +kernel
theorem dX5_journeys_3 : decode cX5_journeys 3 = .ok (.ldc2_w 183, 3) := by decide +kernel
theorem dX5_journeys_6 : decode cX5_journeys 6 = .ok (.invokestatic 50, 3) := by decide +kernel
theorem dX5_journeys_9 : decode cX5_journeys 9 = .ok (.ifCond .ne 10, 3) := by decide +kernel
theorem dX5_journeys_12 : decode cX5_journeys 12 = .ok (.aload_n 0, 1) := by decide +kernel
theorem dX5_journeys_13 : decode cX5_journeys 13 = .ok (.bipush (-2), 2) := by decide +kernel
theorem dX5_journeys_15 : decode cX5_journeys 15 = .ok (.invokevirtual 64, 3) := by decide +kernel
theorem dX5_journeys_18 : decode cX5_journeys 18 = .ok (.ireturn, 1) := by decide +kernel
theorem dX5_journeys_19 : decode cX5_journeys 19 = .ok (.lconst 0, 1) := by decide +kernel
theorem dX5_journeys_20 : decode cX5_journeys 20 = .ok (.lstore_n 2, 1) := by decide +kernel
theorem dX5_journeys_21 : decode cX5_journeys 21 = .ok (.lconst 1, 1) := by decide +kernel
theorem dX5_journeys_22 : decode cX5_journeys 22 = .ok (.lstore 4, 2) := by decide +kernel
theorem dX5_journeys_24 : decode cX5_journeys 24 = .ok (.aload_n 0, 1) := by decide +kernel
theorem dX5_journeys_25 : decode cX5_journeys 25 = .ok (.invokevirtual 121, 3) := by decide +kernel
theorem dX5_journeys_28 : decode cX5_journeys 28 = .ok (.iconst 0, 1) := by decide +kernel
theorem dX5_journeys_29 : decode cX5_journeys 29 = .ok (.istore 6, 2) := by decide +kernel
theorem dX5_journeys_31 : decode cX5_journeys 31 = .ok (.iload 6, 2) := by decide +kernel
theorem dX5_journeys_33 : decode cX5_journeys 33 = .ok (.aload_n 0, 1) := by decide +kernel
theorem dX5_journeys_34 : decode cX5_journeys 34 = .ok (.invokevirtual 91, 3) := by decide +kernel
theorem dX5_journeys_37 : decode cX5_journeys 37 = .ok (.if_icmp .ge 17, 3) := by decide +kernel
theorem dX5_journeys_40 : decode cX5_journeys 40 = .ok (.lload 4, 2) := by decide +kernel
theorem dX5_journeys_42 : decode cX5_journeys 42 = .ok (.ldc2_w 183, 3) := by decide +kernel
theorem dX5_journeys_45 : decode cX5_journeys 45 = .ok (.lmul, 1) := by decide +kernel
theorem dX5_journeys_46 : decode cX5_journeys 46 = .ok (.lstore 4, 2) := by decide +kernel
theorem dX5_journeys_48 : decode cX5_journeys 48 = .ok (.iinc 6 1, 3) := by decide +kernel
theorem dX5_journeys_51 : decode cX5_journeys 51 = .ok (.goto (-20), 3) := by decide +kernel
theorem dX5_journeys_54 : decode cX5_journeys 54 = .ok (.iconst 0, 1) := by decide +kernel
theorem dX5_journeys_55 : decode cX5_journeys 55 = .ok (.istore 6, 2) := by decide +kernel
theorem dX5_journeys_57 : decode cX5_journeys 57 = .ok (.iload 6, 2) := by decide +kernel
theorem dX5_journeys_59 : decode cX5_journeys 59 = .ok (.sipush 4096, 3) := by decide +kernel
theorem dX5_journeys_62 : decode cX5_journeys 62 = .ok (.if_icmp .ge 60, 3) := by decide +kernel
theorem dX5_journeys_65 : decode cX5_journeys 65 = .ok (.aload_n 0, 1) := by decide +kernel
theorem dX5_journeys_66 : decode cX5_journeys 66 = .ok (.iload 6, 2) := by decide +kernel
theorem dX5_journeys_68 : decode cX5_journeys 68 = .ok (.invokevirtual 128, 3) := by decide +kernel
theorem dX5_journeys_71 : decode cX5_journeys 71 = .ok (.ifCond .eq 45, 3) := by decide +kernel
theorem dX5_journeys_74 : decode cX5_journeys 74 = .ok (.lload 4, 2) := by decide +kernel
theorem dX5_journeys_76 : decode cX5_journeys 76 = .ok (.lstore 7, 2) := by decide +kernel
theorem dX5_journeys_78 : decode cX5_journeys 78 = .ok (.aload_n 0, 1) := by decide +kernel
theorem dX5_journeys_79 : decode cX5_journeys 79 = .ok (.iload 6, 2) := by decide +kernel
theorem dX5_journeys_81 : decode cX5_journeys 81 = .ok (.invokevirtual 131, 3) := by decide +kernel
theorem dX5_journeys_84 : decode cX5_journeys 84 = .ok (.invokestatic 68, 3) := by decide +kernel
theorem dX5_journeys_87 : decode cX5_journeys 87 = .ok (.istore 9, 2) := by decide +kernel
theorem dX5_journeys_89 : decode cX5_journeys 89 = .ok (.iload 9, 2) := by decide +kernel
theorem dX5_journeys_91 : decode cX5_journeys 91 = .ok (.ifCond .le 20, 3) := by decide +kernel
theorem dX5_journeys_94 : decode cX5_journeys 94 = .ok (.lload 7, 2) := by decide +kernel
theorem dX5_journeys_96 : decode cX5_journeys 96 = .ok (.ldc2_w 183, 3) := by decide +kernel
theorem dX5_journeys_99 : decode cX5_journeys 99 = .ok (.ldiv, 1) := by decide +kernel
theorem dX5_journeys_100 : decode cX5_journeys 100 = .ok (.iload_n 1, 1) := by decide +kernel
theorem dX5_journeys_101 : decode cX5_journeys 101 = .ok (.i2l, 1) := by decide +kernel
theorem dX5_journeys_102 : decode cX5_journeys 102 = .ok (.lmul, 1) := by decide +kernel
theorem dX5_journeys_103 : decode cX5_journeys 103 = .ok (.lstore 7, 2) := by decide +kernel
theorem dX5_journeys_105 : decode cX5_journeys 105 = .ok (.iinc 9 (-1), 3) := by decide +kernel
theorem dX5_journeys_108 : decode cX5_journeys 108 = .ok (.goto (-19), 3) := by decide +kernel
theorem dX5_journeys_111 : decode cX5_journeys 111 = .ok (.lload_n 2, 1) := by decide +kernel
theorem dX5_journeys_112 : decode cX5_journeys 112 = .ok (.lload 7, 2) := by decide +kernel
theorem dX5_journeys_114 : decode cX5_journeys 114 = .ok (.ladd, 1) := by decide +kernel
theorem dX5_journeys_115 : decode cX5_journeys 115 = .ok (.lstore_n 2, 1) := by decide +kernel
theorem dX5_journeys_116 : decode cX5_journeys 116 = .ok (.iinc 6 1, 3) := by decide +kernel
theorem dX5_journeys_119 : decode cX5_journeys 119 = .ok (.goto (-62), 3) := by decide +kernel
theorem dX5_journeys_122 : decode cX5_journeys 122 = .ok (.aload_n 0, 1) := by decide +kernel
theorem dX5_journeys_123 : decode cX5_journeys 123 = .ok (.lload_n 2, 1) := by decide +kernel
theorem dX5_journeys_124 : decode cX5_journeys 124 = .ok (.lload 4, 2) := by decide +kernel
theorem dX5_journeys_126 : decode cX5_journeys 126 = .ok (.invokevirtual 143, 3) := by decide +kernel
theorem dX5_journeys_129 : decode cX5_journeys 129 = .ok (.iconst 1, 1) := by decide +kernel
theorem dX5_journeys_130 : decode cX5_journeys 130 = .ok (.ireturn, 1) := by decide +kernel
theorem dX5_years_0 : decode cX5_years 0 = .ok (.iload_n 1, 1) := by decide +kernel
theorem dX5_years_1 : decode cX5_years 1 = .ok (.i2l, 1) := by decide +kernel
theorem dX5_years_2 : decode cX5_years 2 = .ok (.lconst 0, 1) := by decide +kernel
theorem dX5_years_3 : decode cX5_years 3 = .ok (.ldc2_w 185, 3) := by decide +kernel
theorem dX5_years_6 : decode cX5_years 6 = .ok (.invokestatic 50, 3) := by decide +kernel
theorem dX5_years_9 : decode cX5_years 9 = .ok (.ifCond .eq 15, 3) := by decide +kernel
theorem dX5_years_12 : decode cX5_years 12 = .ok (.iload_n 2, 1) := by decide +kernel
theorem dX5_years_13 : decode cX5_years 13 = .ok (.i2l, 1) := by decide +kernel
theorem dX5_years_14 : decode cX5_years 14 = .ok (.lconst 0, 1) := by decide +kernel
theorem dX5_years_15 : decode cX5_years 15 = .ok (.ldc2_w 187, 3) := by decide +kernel
theorem dX5_years_18 : decode cX5_years 18 = .ok (.invokestatic 50, 3) := by decide +kernel
theorem dX5_years_21 : decode cX5_years 21 = .ok (.ifCond .ne 10, 3) := by decide +kernel
theorem dX5_years_24 : decode cX5_years 24 = .ok (.aload_n 0, 1) := by decide +kernel
theorem dX5_years_25 : decode cX5_years 25 = .ok (.bipush (-2), 2) := by decide +kernel
theorem dX5_years_27 : decode cX5_years 27 = .ok (.invokevirtual 64, 3) := by decide +kernel
theorem dX5_years_30 : decode cX5_years 30 = .ok (.ireturn, 1) := by decide +kernel
theorem dX5_years_31 : decode cX5_years 31 = .ok (.iload_n 1, 1) := by decide +kernel
theorem dX5_years_32 : decode cX5_years 32 = .ok (.i2l, 1) := by decide +kernel
theorem dX5_years_33 : decode cX5_years 33 = .ok (.lstore_n 3, 1) := by decide +kernel
theorem dX5_years_34 : decode cX5_years 34 = .ok (.iconst 0, 1) := by decide +kernel
theorem dX5_years_35 : decode cX5_years 35 = .ok (.istore 5, 2) := by decide +kernel
theorem dX5_years_37 : decode cX5_years 37 = .ok (.aload_n 0, 1) := by decide +kernel
theorem dX5_years_38 : decode cX5_years 38 = .ok (.invokevirtual 121, 3) := by decide +kernel
theorem dX5_years_41 : decode cX5_years 41 = .ok (.iconst 0, 1) := by decide +kernel
theorem dX5_years_42 : decode cX5_years 42 = .ok (.istore 6, 2) := by decide +kernel
theorem dX5_years_44 : decode cX5_years 44 = .ok (.iload 6, 2) := by decide +kernel
theorem dX5_years_46 : decode cX5_years 46 = .ok (.iload_n 2, 1) := by decide +kernel
theorem dX5_years_47 : decode cX5_years 47 = .ok (.if_icmp .ge 87, 3) := by decide +kernel
theorem dX5_years_50 : decode cX5_years 50 = .ok (.iconst 0, 1) := by decide +kernel
theorem dX5_years_51 : decode cX5_years 51 = .ok (.istore 7, 2) := by decide +kernel
theorem dX5_years_53 : decode cX5_years 53 = .ok (.iconst 0, 1) := by decide +kernel
theorem dX5_years_54 : decode cX5_years 54 = .ok (.istore 8, 2) := by decide +kernel
theorem dX5_years_56 : decode cX5_years 56 = .ok (.iload 8, 2) := by decide +kernel
theorem dX5_years_58 : decode cX5_years 58 = .ok (.bipush 6, 2) := by decide +kernel
theorem dX5_years_60 : decode cX5_years 60 = .ok (.if_icmp .ge 40, 3) := by decide +kernel
theorem dX5_years_63 : decode cX5_years 63 = .ok (.lload_n 3, 1) := by decide +kernel
theorem dX5_years_64 : decode cX5_years 64 = .ok (.ldc2_w 189, 3) := by decide +kernel
theorem dX5_years_67 : decode cX5_years 67 = .ok (.lmul, 1) := by decide +kernel
theorem dX5_years_68 : decode cX5_years 68 = .ok (.ldc2_w 191, 3) := by decide +kernel
theorem dX5_years_71 : decode cX5_years 71 = .ok (.ladd, 1) := by decide +kernel
theorem dX5_years_72 : decode cX5_years 72 = .ok (.ldc2_w 193, 3) := by decide +kernel
theorem dX5_years_75 : decode cX5_years 75 = .ok (.lrem, 1) := by decide +kernel
theorem dX5_years_76 : decode cX5_years 76 = .ok (.lstore_n 3, 1) := by decide +kernel
theorem dX5_years_77 : decode cX5_years 77 = .ok (.iconst 4, 1) := by decide +kernel
theorem dX5_years_78 : decode cX5_years 78 = .ok (.iload 7, 2) := by decide +kernel
theorem dX5_years_80 : decode cX5_years 80 = .ok (.imul, 1) := by decide +kernel
theorem dX5_years_81 : decode cX5_years 81 = .ok (.lload_n 3, 1) := by decide +kernel
theorem dX5_years_82 : decode cX5_years 82 = .ok (.ldc2_w 195, 3) := by decide +kernel
theorem dX5_years_85 : decode cX5_years 85 = .ok (.ldiv, 1) := by decide +kernel
theorem dX5_years_86 : decode cX5_years 86 = .ok (.ldc2_w 197, 3) := by decide +kernel
theorem dX5_years_89 : decode cX5_years 89 = .ok (.lrem, 1) := by decide +kernel
theorem dX5_years_90 : decode cX5_years 90 = .ok (.l2i, 1) := by decide +kernel
theorem dX5_years_91 : decode cX5_years 91 = .ok (.iadd, 1) := by decide +kernel
theorem dX5_years_92 : decode cX5_years 92 = .ok (.istore 7, 2) := by decide +kernel
theorem dX5_years_94 : decode cX5_years 94 = .ok (.iinc 8 1, 3) := by decide +kernel
theorem dX5_years_97 : decode cX5_years 97 = .ok (.goto (-41), 3) := by decide +kernel
theorem dX5_years_100 : decode cX5_years 100 = .ok (.iload 5, 2) := by decide +kernel
theorem dX5_years_102 : decode cX5_years 102 = .ok (.aload_n 0, 1) := by decide +kernel
theorem dX5_years_103 : decode cX5_years 103 = .ok (.iload 7, 2) := by decide +kernel
theorem dX5_years_105 : decode cX5_years 105 = .ok (.invokevirtual 128, 3) := by decide +kernel
theorem dX5_years_108 : decode cX5_years 108 = .ok (.ifCond .eq 16, 3) := by decide +kernel
theorem dX5_years_111 : decode cX5_years 111 = .ok (.aload_n 0, 1) := by decide +kernel
theorem dX5_years_112 : decode cX5_years 112 = .ok (.iload 7, 2) := by decide +kernel
theorem dX5_years_114 : decode cX5_years 114 = .ok (.invokevirtual 131, 3) := by decide +kernel
theorem dX5_years_117 : decode cX5_years 117 = .ok (.ifCond .ne 7, 3) := by decide +kernel
theorem dX5_years_120 : decode cX5_years 120 = .ok (.iconst 1, 1) := by decide +kernel
theorem dX5_years_121 : decode cX5_years 121 = .ok (.goto 4, 3) := by decide +kernel
theorem dX5_years_124 : decode cX5_years 124 = .ok (.iconst 0, 1) := by decide +kernel
theorem dX5_years_125 : decode cX5_years 125 = .ok (.iadd, 1) := by decide +kernel
theorem dX5_years_126 : decode cX5_years 126 = .ok (.istore 5, 2) := by decide +kernel
theorem dX5_years_128 : decode cX5_years 128 = .ok (.iinc 6 1, 3) := by decide +kernel
theorem dX5_years_131 : decode cX5_years 131 = .ok (.goto (-87), 3) := by decide +kernel
theorem dX5_years_134 : decode cX5_years 134 = .ok (.iload 5, 2) := by decide +kernel
theorem dX5_years_136 : decode cX5_years 136 = .ok (.ireturn, 1) := by decide +kernel
theorem dX5_type_0 : decode cX5_type 0 = .ok (.iload_n 1, 1) := by decide +kernel
theorem dX5_type_1 : decode cX5_type 1 = .ok (.i2l, 1) := by decide +kernel
theorem dX5_type_2 : decode cX5_type 2 = .ok (.lconst 0, 1) := by decide +kernel
theorem dX5_type_3 : decode cX5_type 3 = .ok (.ldc2_w 199, 3) := by decide +kernel
theorem dX5_type_6 : decode cX5_type 6 = .ok (.invokestatic 50, 3) := by decide +kernel
theorem dX5_type_9 : decode cX5_type 9 = .ok (.ifCond .ne 10, 3) := by decide +kernel
theorem dX5_type_12 : decode cX5_type 12 = .ok (.aload_n 0, 1) := by decide +kernel
theorem dX5_type_13 : decode cX5_type 13 = .ok (.bipush (-2), 2) := by decide +kernel
theorem dX5_type_15 : decode cX5_type 15 = .ok (.invokevirtual 64, 3) := by decide +kernel
theorem dX5_type_18 : decode cX5_type 18 = .ok (.ireturn, 1) := by decide +kernel
theorem dX5_type_19 : decode cX5_type 19 = .ok (.aload_n 0, 1) := by decide +kernel
theorem dX5_type_20 : decode cX5_type 20 = .ok (.getfield 201, 3) := by decide +kernel
theorem dX5_type_23 : decode cX5_type 23 = .ok (.sipush 150, 3) := by decide +kernel
theorem dX5_type_26 : decode cX5_type 26 = .ok (.if_icmp .ne 8, 3) := by decide +kernel
theorem dX5_type_29 : decode cX5_type 29 = .ok (.aload_n 0, 1) := by decide +kernel
theorem dX5_type_30 : decode cX5_type 30 = .ok (.invokevirtual 73, 3) := by decide +kernel
theorem dX5_type_33 : decode cX5_type 33 = .ok (.ireturn, 1) := by decide +kernel
theorem dX5_type_34 : decode cX5_type 34 = .ok (.aload_n 0, 1) := by decide +kernel
theorem dX5_type_35 : decode cX5_type 35 = .ok (.getfield 33, 3) := by decide +kernel
theorem dX5_type_38 : decode cX5_type 38 = .ok (.aload_n 0, 1) := by decide +kernel
theorem dX5_type_39 : decode cX5_type 39 = .ok (.getfield 201, 3) := by decide +kernel
theorem dX5_type_42 : decode cX5_type 42 = .ok (.iload_n 1, 1) := by decide +kernel
theorem dX5_type_43 : decode cX5_type 43 = .ok (.iastore, 1) := by decide +kernel
theorem dX5_type_44 : decode cX5_type 44 = .ok (.aload_n 0, 1) := by decide +kernel
theorem dX5_type_45 : decode cX5_type 45 = .ok (.dup, 1) := by decide +kernel
theorem dX5_type_46 : decode cX5_type 46 = .ok (.getfield 201, 3) := by decide +kernel
theorem dX5_type_49 : decode cX5_type 49 = .ok (.iconst 1, 1) := by decide +kernel
theorem dX5_type_50 : decode cX5_type 50 = .ok (.iadd, 1) := by decide +kernel
theorem dX5_type_51 : decode cX5_type 51 = .ok (.putfield 201, 3) := by decide +kernel
theorem dX5_type_54 : decode cX5_type 54 = .ok (.aload_n 0, 1) := by decide +kernel
theorem dX5_type_55 : decode cX5_type 55 = .ok (.getfield 201, 3) := by decide +kernel
theorem dX5_type_58 : decode cX5_type 58 = .ok (.ireturn, 1) := by decide +kernel
theorem dX5_clear_0 : decode cX5_clear 0 = .ok (.aload_n 0, 1) := by decide +kernel
theorem dX5_clear_1 : decode cX5_clear 1 = .ok (.getfield 201, 3) := by decide +kernel
theorem dX5_clear_4 : decode cX5_clear 4 = .ok (.istore_n 1, 1) := by decide +kernel
theorem dX5_clear_5 : decode cX5_clear 5 = .ok (.aload_n 0, 1) := by decide +kernel
theorem dX5_clear_6 : decode cX5_clear 6 = .ok (.iconst 0, 1) := by decide +kernel
theorem dX5_clear_7 : decode cX5_clear 7 = .ok (.putfield 201, 3) := by decide +kernel
theorem dX5_clear_10 : decode cX5_clear 10 = .ok (.iload_n 1, 1) := by decide +kernel
theorem dX5_clear_11 : decode cX5_clear 11 = .ok (.ireturn, 1) := by decide +kernel
theorem dX5_isSmall_0 : decode cX5_isSmall 0 = .ok (.iload_n 0, 1) := by decide +kernel
theorem dX5_isSmall_1 : decode cX5_isSmall 1 = .ok (.i2l, 1) := by decide +kernel
theorem dX5_isSmall_2 : decode cX5_isSmall 2 = .ok (.ldc2_w 204, 3) := by decide +kernel
theorem dX5_isSmall_5 : decode cX5_isSmall 5 = .ok (.ldc2_w 206, 3) := by decide +kernel
theorem dX5_isSmall_8 : decode cX5_isSmall 8 = .ok (.invokestatic 50, 3) := by decide +kernel
theorem dX5_isSmall_11 : decode cX5_isSmall 11 = .ok (.ireturn, 1) := by decide +kernel
theorem dX5_isFigure_0 : decode cX5_isFigure 0 = .ok (.iload_n 0, 1) := by decide +kernel
theorem dX5_isFigure_1 : decode cX5_isFigure 1 = .ok (.i2l, 1) := by decide +kernel
theorem dX5_isFigure_2 : decode cX5_isFigure 2 = .ok (.ldc2_w 208, 3) := by decide +kernel
theorem dX5_isFigure_5 : decode cX5_isFigure 5 = .ok (.ldc2_w 210, 3) := by decide +kernel
theorem dX5_isFigure_8 : decode cX5_isFigure 8 = .ok (.invokestatic 50, 3) := by decide +kernel
theorem dX5_isFigure_11 : decode cX5_isFigure 11 = .ok (.ireturn, 1) := by decide +kernel
theorem dX5_lookAt_0 : decode cX5_lookAt 0 = .ok (.aload_n 0, 1) := by decide +kernel
theorem dX5_lookAt_1 : decode cX5_lookAt 1 = .ok (.iload_n 1, 1) := by decide +kernel
theorem dX5_lookAt_2 : decode cX5_lookAt 2 = .ok (.putfield 212, 3) := by decide +kernel
theorem dX5_lookAt_5 : decode cX5_lookAt 5 = .ok (.aload_n 0, 1) := by decide +kernel
theorem dX5_lookAt_6 : decode cX5_lookAt 6 = .ok (.getfield 212, 3) := by decide +kernel
theorem dX5_lookAt_9 : decode cX5_lookAt 9 = .ok (.aload_n 0, 1) := by decide +kernel
theorem dX5_lookAt_10 : decode cX5_lookAt 10 = .ok (.getfield 201, 3) := by decide +kernel
theorem dX5_lookAt_13 : decode cX5_lookAt 13 = .ok (.if_icmp .ge 30, 3) := by decide +kernel
theorem dX5_lookAt_16 : decode cX5_lookAt 16 = .ok (.aload_n 0, 1) := by decide +kernel
theorem dX5_lookAt_17 : decode cX5_lookAt 17 = .ok (.getfield 33, 3) := by decide +kernel
theorem dX5_lookAt_20 : decode cX5_lookAt 20 = .ok (.aload_n 0, 1) := by decide +kernel
theorem dX5_lookAt_21 : decode cX5_lookAt 21 = .ok (.getfield 212, 3) := by decide +kernel
theorem dX5_lookAt_24 : decode cX5_lookAt 24 = .ok (.iaload, 1) := by decide +kernel
theorem dX5_lookAt_25 : decode cX5_lookAt 25 = .ok (.bipush 32, 2) := by decide +kernel
theorem dX5_lookAt_27 : decode cX5_lookAt 27 = .ok (.if_icmp .ne 16, 3) := by decide +kernel
theorem dX5_lookAt_30 : decode cX5_lookAt 30 = .ok (.aload_n 0, 1) := by decide +kernel
theorem dX5_lookAt_31 : decode cX5_lookAt 31 = .ok (.dup, 1) := by decide +kernel
theorem dX5_lookAt_32 : decode cX5_lookAt 32 = .ok (.getfield 212, 3) := by decide +kernel
theorem dX5_lookAt_35 : decode cX5_lookAt 35 = .ok (.iconst 1, 1) := by decide +kernel
theorem dX5_lookAt_36 : decode cX5_lookAt 36 = .ok (.iadd, 1) := by decide +kernel
theorem dX5_lookAt_37 : decode cX5_lookAt 37 = .ok (.putfield 212, 3) := by decide +kernel
theorem dX5_lookAt_40 : decode cX5_lookAt 40 = .ok (.goto (-35), 3) := by decide +kernel
theorem dX5_lookAt_43 : decode cX5_lookAt 43 = .ok (.aload_n 0, 1) := by decide +kernel
theorem dX5_lookAt_44 : decode cX5_lookAt 44 = .ok (.iconst 0, 1) := by decide +kernel
theorem dX5_lookAt_45 : decode cX5_lookAt 45 = .ok (.putfield 215, 3) := by decide +kernel
theorem dX5_lookAt_48 : decode cX5_lookAt 48 = .ok (.aload_n 0, 1) := by decide +kernel
theorem dX5_lookAt_49 : decode cX5_lookAt 49 = .ok (.iconst 0, 1) := by decide +kernel
theorem dX5_lookAt_50 : decode cX5_lookAt 50 = .ok (.putfield 218, 3) := by decide +kernel
theorem dX5_lookAt_53 : decode cX5_lookAt 53 = .ok (.aload_n 0, 1) := by decide +kernel
theorem dX5_lookAt_54 : decode cX5_lookAt 54 = .ok (.iconst 0, 1) := by decide +kernel
theorem dX5_lookAt_55 : decode cX5_lookAt 55 = .ok (.putfield 221, 3) := by decide +kernel
theorem dX5_lookAt_58 : decode cX5_lookAt 58 = .ok (.aload_n 0, 1) := by decide +kernel
theorem dX5_lookAt_59 : decode cX5_lookAt 59 = .ok (.getfield 212, 3) := by decide +kernel
theorem dX5_lookAt_62 : decode cX5_lookAt 62 = .ok (.aload_n 0, 1) := by decide +kernel
theorem dX5_lookAt_63 : decode cX5_lookAt 63 = .ok (.getfield 201, 3) := by decide +kernel
theorem dX5_lookAt_66 : decode cX5_lookAt 66 = .ok (.if_icmp .ne 4, 3) := by decide +kernel
theorem dX5_lookAt_69 : decode cX5_lookAt 69 = .ok (.return_, 1) := by decide +kernel
theorem dX5_lookAt_70 : decode cX5_lookAt 70 = .ok (.aload_n 0, 1) := by decide +kernel
theorem dX5_lookAt_71 : decode cX5_lookAt 71 = .ok (.getfield 33, 3) := by decide +kernel
theorem dX5_lookAt_74 : decode cX5_lookAt 74 = .ok (.aload_n 0, 1) := by decide +kernel
theorem dX5_lookAt_75 : decode cX5_lookAt 75 = .ok (.getfield 212, 3) := by decide +kernel
theorem dX5_lookAt_78 : decode cX5_lookAt 78 = .ok (.iaload, 1) := by decide +kernel
theorem dX5_lookAt_79 : decode cX5_lookAt 79 = .ok (.istore_n 2, 1) := by decide +kernel
theorem dX5_lookAt_80 : decode cX5_lookAt 80 = .ok (.aload_n 0, 1) := by decide +kernel
theorem dX5_lookAt_81 : decode cX5_lookAt 81 = .ok (.iload_n 2, 1) := by decide +kernel
theorem dX5_lookAt_82 : decode cX5_lookAt 82 = .ok (.invokestatic 224, 3) := by decide +kernel
theorem dX5_lookAt_85 : decode cX5_lookAt 85 = .ok (.ifCond .eq 7, 3) := by decide +kernel
theorem dX5_lookAt_88 : decode cX5_lookAt 88 = .ok (.iconst 1, 1) := by decide +kernel
theorem dX5_lookAt_89 : decode cX5_lookAt 89 = .ok (.goto 25, 3) := by decide +kernel
theorem dX5_lookAt_92 : decode cX5_lookAt 92 = .ok (.iload_n 2, 1) := by decide +kernel
theorem dX5_lookAt_93 : decode cX5_lookAt 93 = .ok (.invokestatic 227, 3) := by decide +kernel
theorem dX5_lookAt_96 : decode cX5_lookAt 96 = .ok (.ifCond .eq 7, 3) := by decide +kernel
theorem dX5_lookAt_99 : decode cX5_lookAt 99 = .ok (.iconst 2, 1) := by decide +kernel
theorem dX5_lookAt_100 : decode cX5_lookAt 100 = .ok (.goto 14, 3) := by decide +kernel
theorem dX5_lookAt_103 : decode cX5_lookAt 103 = .ok (.iload_n 2, 1) := by decide +kernel
theorem dX5_lookAt_104 : decode cX5_lookAt 104 = .ok (.bipush 59, 2) := by decide +kernel
theorem dX5_lookAt_106 : decode cX5_lookAt 106 = .ok (.if_icmp .ne 7, 3) := by decide +kernel
theorem dX5_lookAt_109 : decode cX5_lookAt 109 = .ok (.iconst 3, 1) := by decide +kernel
theorem dX5_lookAt_110 : decode cX5_lookAt 110 = .ok (.goto 4, 3) := by decide +kernel
theorem dX5_lookAt_113 : decode cX5_lookAt 113 = .ok (.iconst 4, 1) := by decide +kernel
theorem dX5_lookAt_114 : decode cX5_lookAt 114 = .ok (.putfield 218, 3) := by decide +kernel
theorem dX5_lookAt_117 : decode cX5_lookAt 117 = .ok (.aload_n 0, 1) := by decide +kernel
theorem dX5_lookAt_118 : decode cX5_lookAt 118 = .ok (.iconst 1, 1) := by decide +kernel
theorem dX5_lookAt_119 : decode cX5_lookAt 119 = .ok (.putfield 215, 3) := by decide +kernel
theorem dX5_lookAt_122 : decode cX5_lookAt 122 = .ok (.aload_n 0, 1) := by decide +kernel
theorem dX5_lookAt_123 : decode cX5_lookAt 123 = .ok (.getfield 218, 3) := by decide +kernel
theorem dX5_lookAt_126 : decode cX5_lookAt 126 = .ok (.iconst 3, 1) := by decide +kernel
theorem dX5_lookAt_127 : decode cX5_lookAt 127 = .ok (.if_icmp .ge 7, 3) := by decide +kernel
theorem dX5_lookAt_130 : decode cX5_lookAt 130 = .ok (.iconst 1, 1) := by decide +kernel
theorem dX5_lookAt_131 : decode cX5_lookAt 131 = .ok (.goto 4, 3) := by decide +kernel
theorem dX5_lookAt_134 : decode cX5_lookAt 134 = .ok (.iconst 0, 1) := by decide +kernel
theorem dX5_lookAt_135 : decode cX5_lookAt 135 = .ok (.istore_n 3, 1) := by decide +kernel
theorem dX5_lookAt_136 : decode cX5_lookAt 136 = .ok (.iload_n 3, 1) := by decide +kernel
theorem dX5_lookAt_137 : decode cX5_lookAt 137 = .ok (.ifCond .eq 78, 3) := by decide +kernel
theorem dX5_lookAt_140 : decode cX5_lookAt 140 = .ok (.aload_n 0, 1) := by decide +kernel
theorem dX5_lookAt_141 : decode cX5_lookAt 141 = .ok (.getfield 212, 3) := by decide +kernel
theorem dX5_lookAt_144 : decode cX5_lookAt 144 = .ok (.aload_n 0, 1) := by decide +kernel
theorem dX5_lookAt_145 : decode cX5_lookAt 145 = .ok (.getfield 215, 3) := by decide +kernel
theorem dX5_lookAt_148 : decode cX5_lookAt 148 = .ok (.iadd, 1) := by decide +kernel
theorem dX5_lookAt_149 : decode cX5_lookAt 149 = .ok (.aload_n 0, 1) := by decide +kernel
theorem dX5_lookAt_150 : decode cX5_lookAt 150 = .ok (.getfield 201, 3) := by decide +kernel
theorem dX5_lookAt_153 : decode cX5_lookAt 153 = .ok (.if_icmp .ge 62, 3) := by decide +kernel
theorem dX5_lookAt_156 : decode cX5_lookAt 156 = .ok (.aload_n 0, 1) := by decide +kernel
theorem dX5_lookAt_157 : decode cX5_lookAt 157 = .ok (.getfield 33, 3) := by decide +kernel
theorem dX5_lookAt_160 : decode cX5_lookAt 160 = .ok (.aload_n 0, 1) := by decide +kernel
theorem dX5_lookAt_161 : decode cX5_lookAt 161 = .ok (.getfield 212, 3) := by decide +kernel
theorem dX5_lookAt_164 : decode cX5_lookAt 164 = .ok (.aload_n 0, 1) := by decide +kernel
theorem dX5_lookAt_165 : decode cX5_lookAt 165 = .ok (.getfield 215, 3) := by decide +kernel
theorem dX5_lookAt_168 : decode cX5_lookAt 168 = .ok (.iadd, 1) := by decide +kernel
theorem dX5_lookAt_169 : decode cX5_lookAt 169 = .ok (.iaload, 1) := by decide +kernel
theorem dX5_lookAt_170 : decode cX5_lookAt 170 = .ok (.istore 4, 2) := by decide +kernel
theorem dX5_lookAt_172 : decode cX5_lookAt 172 = .ok (.aload_n 0, 1) := by decide +kernel
theorem dX5_lookAt_173 : decode cX5_lookAt 173 = .ok (.getfield 218, 3) := by decide +kernel
theorem dX5_lookAt_176 : decode cX5_lookAt 176 = .ok (.iconst 1, 1) := by decide +kernel
theorem dX5_lookAt_177 : decode cX5_lookAt 177 = .ok (.if_icmp .ne 11, 3) := by decide +kernel
theorem dX5_lookAt_180 : decode cX5_lookAt 180 = .ok (.iload 4, 2) := by decide +kernel
theorem dX5_lookAt_182 : decode cX5_lookAt 182 = .ok (.invokestatic 224, 3) := by decide +kernel
theorem dX5_lookAt_185 : decode cX5_lookAt 185 = .ok (.goto 8, 3) := by decide +kernel
theorem dX5_lookAt_188 : decode cX5_lookAt 188 = .ok (.iload 4, 2) := by decide +kernel
theorem dX5_lookAt_190 : decode cX5_lookAt 190 = .ok (.invokestatic 227, 3) := by decide +kernel
theorem dX5_lookAt_193 : decode cX5_lookAt 193 = .ok (.istore_n 3, 1) := by decide +kernel
theorem dX5_lookAt_194 : decode cX5_lookAt 194 = .ok (.aload_n 0, 1) := by decide +kernel
theorem dX5_lookAt_195 : decode cX5_lookAt 195 = .ok (.dup, 1) := by decide +kernel
theorem dX5_lookAt_196 : decode cX5_lookAt 196 = .ok (.getfield 215, 3) := by decide +kernel
theorem dX5_lookAt_199 : decode cX5_lookAt 199 = .ok (.iload_n 3, 1) := by decide +kernel
theorem dX5_lookAt_200 : decode cX5_lookAt 200 = .ok (.ifCond .eq 7, 3) := by decide +kernel
theorem dX5_lookAt_203 : decode cX5_lookAt 203 = .ok (.iconst 1, 1) := by decide +kernel
theorem dX5_lookAt_204 : decode cX5_lookAt 204 = .ok (.goto 4, 3) := by decide +kernel
theorem dX5_lookAt_207 : decode cX5_lookAt 207 = .ok (.iconst 0, 1) := by decide +kernel
theorem dX5_lookAt_208 : decode cX5_lookAt 208 = .ok (.iadd, 1) := by decide +kernel
theorem dX5_lookAt_209 : decode cX5_lookAt 209 = .ok (.putfield 215, 3) := by decide +kernel
theorem dX5_lookAt_212 : decode cX5_lookAt 212 = .ok (.goto (-76), 3) := by decide +kernel
theorem dX5_lookAt_215 : decode cX5_lookAt 215 = .ok (.iconst 0, 1) := by decide +kernel
theorem dX5_lookAt_216 : decode cX5_lookAt 216 = .ok (.istore 4, 2) := by decide +kernel
theorem dX5_lookAt_218 : decode cX5_lookAt 218 = .ok (.iload 4, 2) := by decide +kernel
theorem dX5_lookAt_220 : decode cX5_lookAt 220 = .ok (.aload_n 0, 1) := by decide +kernel
theorem dX5_lookAt_221 : decode cX5_lookAt 221 = .ok (.getfield 215, 3) := by decide +kernel
theorem dX5_lookAt_224 : decode cX5_lookAt 224 = .ok (.if_icmp .ge 50, 3) := by decide +kernel
theorem dX5_lookAt_227 : decode cX5_lookAt 227 = .ok (.iload 4, 2) := by decide +kernel
theorem dX5_lookAt_229 : decode cX5_lookAt 229 = .ok (.iconst 2, 1) := by decide +kernel
theorem dX5_lookAt_230 : decode cX5_lookAt 230 = .ok (.if_icmp .ge 44, 3) := by decide +kernel
theorem dX5_lookAt_233 : decode cX5_lookAt 233 = .ok (.aload_n 0, 1) := by decide +kernel
theorem dX5_lookAt_234 : decode cX5_lookAt 234 = .ok (.getfield 218, 3) := by decide +kernel
theorem dX5_lookAt_237 : decode cX5_lookAt 237 = .ok (.iconst 2, 1) := by decide +kernel
theorem dX5_lookAt_238 : decode cX5_lookAt 238 = .ok (.if_icmp .ne 36, 3) := by decide +kernel
theorem dX5_lookAt_241 : decode cX5_lookAt 241 = .ok (.aload_n 0, 1) := by decide +kernel
theorem dX5_lookAt_242 : decode cX5_lookAt 242 = .ok (.bipush 10, 2) := by decide +kernel
theorem dX5_lookAt_244 : decode cX5_lookAt 244 = .ok (.aload_n 0, 1) := by decide +kernel
theorem dX5_lookAt_245 : decode cX5_lookAt 245 = .ok (.getfield 221, 3) := by decide +kernel
theorem dX5_lookAt_248 : decode cX5_lookAt 248 = .ok (.imul, 1) := by decide +kernel
theorem dX5_lookAt_249 : decode cX5_lookAt 249 = .ok (.aload_n 0, 1) := by decide +kernel
theorem dX5_lookAt_250 : decode cX5_lookAt 250 = .ok (.getfield 33, 3) := by decide +kernel
theorem dX5_lookAt_253 : decode cX5_lookAt 253 = .ok (.aload_n 0, 1) := by decide +kernel
theorem dX5_lookAt_254 : decode cX5_lookAt 254 = .ok (.getfield 212, 3) := by decide +kernel
theorem dX5_lookAt_257 : decode cX5_lookAt 257 = .ok (.iload 4, 2) := by decide +kernel
theorem dX5_lookAt_259 : decode cX5_lookAt 259 = .ok (.iadd, 1) := by decide +kernel
theorem dX5_lookAt_260 : decode cX5_lookAt 260 = .ok (.iaload, 1) := by decide +kernel
theorem dX5_lookAt_261 : decode cX5_lookAt 261 = .ok (.iadd, 1) := by decide +kernel
theorem dX5_lookAt_262 : decode cX5_lookAt 262 = .ok (.bipush 48, 2) := by decide +kernel
theorem dX5_lookAt_264 : decode cX5_lookAt 264 = .ok (.isub, 1) := by decide +kernel
theorem dX5_lookAt_265 : decode cX5_lookAt 265 = .ok (.putfield 221, 3) := by decide +kernel
theorem dX5_lookAt_268 : decode cX5_lookAt 268 = .ok (.iinc 4 1, 3) := by decide +kernel
theorem dX5_lookAt_271 : decode cX5_lookAt 271 = .ok (.goto (-53), 3) := by decide +kernel
theorem dX5_lookAt_274 : decode cX5_lookAt 274 = .ok (.aload_n 0, 1) := by decide +kernel
theorem dX5_lookAt_275 : decode cX5_lookAt 275 = .ok (.aload_n 0, 1) := by decide +kernel
theorem dX5_lookAt_276 : decode cX5_lookAt 276 = .ok (.getfield 218, 3) := by decide +kernel
theorem dX5_lookAt_279 : decode cX5_lookAt 279 = .ok (.iconst 2, 1) := by decide +kernel
theorem dX5_lookAt_280 : decode cX5_lookAt 280 = .ok (.if_icmp .ne 15, 3) := by decide +kernel
theorem dX5_lookAt_283 : decode cX5_lookAt 283 = .ok (.aload_n 0, 1) := by decide +kernel
theorem dX5_lookAt_284 : decode cX5_lookAt 284 = .ok (.getfield 215, 3) := by decide +kernel
theorem dX5_lookAt_287 : decode cX5_lookAt 287 = .ok (.iconst 2, 1) := by decide +kernel
theorem dX5_lookAt_288 : decode cX5_lookAt 288 = .ok (.if_icmp .le 7, 3) := by decide +kernel
theorem dX5_lookAt_291 : decode cX5_lookAt 291 = .ok (.iconst 4, 1) := by decide +kernel
theorem dX5_lookAt_292 : decode cX5_lookAt 292 = .ok (.goto 7, 3) := by decide +kernel
theorem dX5_lookAt_295 : decode cX5_lookAt 295 = .ok (.aload_n 0, 1) := by decide +kernel
theorem dX5_lookAt_296 : decode cX5_lookAt 296 = .ok (.getfield 218, 3) := by decide +kernel
theorem dX5_lookAt_299 : decode cX5_lookAt 299 = .ok (.putfield 218, 3) := by decide +kernel
theorem dX5_lookAt_302 : decode cX5_lookAt 302 = .ok (.return_, 1) := by decide +kernel
theorem dX5_goBehind_0 : decode cX5_goBehind 0 = .ok (.aload_n 0, 1) := by decide +kernel
theorem dX5_goBehind_1 : decode cX5_goBehind 1 = .ok (.aload_n 0, 1) := by decide +kernel
theorem dX5_goBehind_2 : decode cX5_goBehind 2 = .ok (.getfield 212, 3) := by decide +kernel
theorem dX5_goBehind_5 : decode cX5_goBehind 5 = .ok (.aload_n 0, 1) := by decide +kernel
theorem dX5_goBehind_6 : decode cX5_goBehind 6 = .ok (.getfield 215, 3) := by decide +kernel
theorem dX5_goBehind_9 : decode cX5_goBehind 9 = .ok (.iadd, 1) := by decide +kernel
theorem dX5_goBehind_10 : decode cX5_goBehind 10 = .ok (.invokevirtual 230, 3) := by decide +kernel
theorem dX5_goBehind_13 : decode cX5_goBehind 13 = .ok (.return_, 1) := by decide +kernel
theorem dX5_spells_0 : decode cX5_spells 0 = .ok (.aload_n 0, 1) := by decide +kernel
theorem dX5_spells_1 : decode cX5_spells 1 = .ok (.getfield 218, 3) := by decide +kernel
theorem dX5_spells_4 : decode cX5_spells 4 = .ok (.iconst 1, 1) := by decide +kernel
theorem dX5_spells_5 : decode cX5_spells 5 = .ok (.if_icmp .ne 15, 3) := by decide +kernel
theorem dX5_spells_8 : decode cX5_spells 8 = .ok (.aload_n 0, 1) := by decide +kernel
theorem dX5_spells_9 : decode cX5_spells 9 = .ok (.getfield 215, 3) := by decide +kernel
theorem dX5_spells_12 : decode cX5_spells 12 = .ok (.iload_n 1, 1) := by decide +kernel
theorem dX5_spells_13 : decode cX5_spells 13 = .ok (.if_icmp .ne 7, 3) := by decide +kernel
theorem dX5_spells_16 : decode cX5_spells 16 = .ok (.iconst 1, 1) := by decide +kernel
theorem dX5_spells_17 : decode cX5_spells 17 = .ok (.goto 4, 3) := by decide +kernel
theorem dX5_spells_20 : decode cX5_spells 20 = .ok (.iconst 0, 1) := by decide +kernel
theorem dX5_spells_21 : decode cX5_spells 21 = .ok (.istore 8, 2) := by decide +kernel
theorem dX5_spells_23 : decode cX5_spells 23 = .ok (.iconst 0, 1) := by decide +kernel
theorem dX5_spells_24 : decode cX5_spells 24 = .ok (.istore 9, 2) := by decide +kernel
theorem dX5_spells_26 : decode cX5_spells 26 = .ok (.iload 9, 2) := by decide +kernel
theorem dX5_spells_28 : decode cX5_spells 28 = .ok (.iload_n 1, 1) := by decide +kernel
theorem dX5_spells_29 : decode cX5_spells 29 = .ok (.if_icmp .ge 90, 3) := by decide +kernel
theorem dX5_spells_32 : decode cX5_spells 32 = .ok (.iload 8, 2) := by decide +kernel
theorem dX5_spells_34 : decode cX5_spells 34 = .ok (.ifCond .eq 85, 3) := by decide +kernel
theorem dX5_spells_37 : decode cX5_spells 37 = .ok (.aload_n 0, 1) := by decide +kernel
theorem dX5_spells_38 : decode cX5_spells 38 = .ok (.getfield 33, 3) := by decide +kernel
theorem dX5_spells_41 : decode cX5_spells 41 = .ok (.aload_n 0, 1) := by decide +kernel
theorem dX5_spells_42 : decode cX5_spells 42 = .ok (.getfield 212, 3) := by decide +kernel
theorem dX5_spells_45 : decode cX5_spells 45 = .ok (.iload 9, 2) := by decide +kernel
theorem dX5_spells_47 : decode cX5_spells 47 = .ok (.iadd, 1) := by decide +kernel
theorem dX5_spells_48 : decode cX5_spells 48 = .ok (.iaload, 1) := by decide +kernel
theorem dX5_spells_49 : decode cX5_spells 49 = .ok (.iload 9, 2) := by decide +kernel
theorem dX5_spells_51 : decode cX5_spells 51 = .ok (.ifCond .ne 7, 3) := by decide +kernel
theorem dX5_spells_54 : decode cX5_spells 54 = .ok (.iload_n 2, 1) := by decide +kernel
theorem dX5_spells_55 : decode cX5_spells 55 = .ok (.goto 48, 3) := by decide +kernel
theorem dX5_spells_58 : decode cX5_spells 58 = .ok (.iload 9, 2) := by decide +kernel
theorem dX5_spells_60 : decode cX5_spells 60 = .ok (.iconst 1, 1) := by decide +kernel
theorem dX5_spells_61 : decode cX5_spells 61 = .ok (.if_icmp .ne 7, 3) := by decide +kernel
theorem dX5_spells_64 : decode cX5_spells 64 = .ok (.iload_n 3, 1) := by decide +kernel
theorem dX5_spells_65 : decode cX5_spells 65 = .ok (.goto 38, 3) := by decide +kernel
theorem dX5_spells_68 : decode cX5_spells 68 = .ok (.iload 9, 2) := by decide +kernel
theorem dX5_spells_70 : decode cX5_spells 70 = .ok (.iconst 2, 1) := by decide +kernel
theorem dX5_spells_71 : decode cX5_spells 71 = .ok (.if_icmp .ne 8, 3) := by decide +kernel
theorem dX5_spells_74 : decode cX5_spells 74 = .ok (.iload 4, 2) := by decide +kernel
theorem dX5_spells_76 : decode cX5_spells 76 = .ok (.goto 27, 3) := by decide +kernel
theorem dX5_spells_79 : decode cX5_spells 79 = .ok (.iload 9, 2) := by decide +kernel
theorem dX5_spells_81 : decode cX5_spells 81 = .ok (.iconst 3, 1) := by decide +kernel
theorem dX5_spells_82 : decode cX5_spells 82 = .ok (.if_icmp .ne 8, 3) := by decide +kernel
theorem dX5_spells_85 : decode cX5_spells 85 = .ok (.iload 5, 2) := by decide +kernel
theorem dX5_spells_87 : decode cX5_spells 87 = .ok (.goto 16, 3) := by decide +kernel
theorem dX5_spells_90 : decode cX5_spells 90 = .ok (.iload 9, 2) := by decide +kernel
theorem dX5_spells_92 : decode cX5_spells 92 = .ok (.iconst 4, 1) := by decide +kernel
theorem dX5_spells_93 : decode cX5_spells 93 = .ok (.if_icmp .ne 8, 3) := by decide +kernel
theorem dX5_spells_96 : decode cX5_spells 96 = .ok (.iload 6, 2) := by decide +kernel
theorem dX5_spells_98 : decode cX5_spells 98 = .ok (.goto 5, 3) := by decide +kernel
theorem dX5_spells_101 : decode cX5_spells 101 = .ok (.iload 7, 2) := by decide +kernel
theorem dX5_spells_103 : decode cX5_spells 103 = .ok (.if_icmp .ne 7, 3) := by decide +kernel
theorem dX5_spells_106 : decode cX5_spells 106 = .ok (.iconst 1, 1) := by decide +kernel
theorem dX5_spells_107 : decode cX5_spells 107 = .ok (.goto 4, 3) := by decide +kernel
theorem dX5_spells_110 : decode cX5_spells 110 = .ok (.iconst 0, 1) := by decide +kernel
theorem dX5_spells_111 : decode cX5_spells 111 = .ok (.istore 8, 2) := by decide +kernel
theorem dX5_spells_113 : decode cX5_spells 113 = .ok (.iinc 9 1, 3) := by decide +kernel
theorem dX5_spells_116 : decode cX5_spells 116 = .ok (.goto (-90), 3) := by decide +kernel
theorem dX5_spells_119 : decode cX5_spells 119 = .ok (.iload 8, 2) := by decide +kernel
theorem dX5_spells_121 : decode cX5_spells 121 = .ok (.ireturn, 1) := by decide +kernel
theorem dX5_takes_0 : decode cX5_takes 0 = .ok (.aload_n 0, 1) := by decide +kernel
theorem dX5_takes_1 : decode cX5_takes 1 = .ok (.getfield 218, 3) := by decide +kernel
theorem dX5_takes_4 : decode cX5_takes 4 = .ok (.iconst 2, 1) := by decide +kernel
theorem dX5_takes_5 : decode cX5_takes 5 = .ok (.if_icmp .ne 18, 3) := by decide +kernel
theorem dX5_takes_8 : decode cX5_takes 8 = .ok (.aload_n 0, 1) := by decide +kernel
theorem dX5_takes_9 : decode cX5_takes 9 = .ok (.getfield 221, 3) := by decide +kernel
theorem dX5_takes_12 : decode cX5_takes 12 = .ok (.i2l, 1) := by decide +kernel
theorem dX5_takes_13 : decode cX5_takes 13 = .ok (.iload_n 2, 1) := by decide +kernel
theorem dX5_takes_14 : decode cX5_takes 14 = .ok (.i2l, 1) := by decide +kernel
theorem dX5_takes_15 : decode cX5_takes 15 = .ok (.iload_n 3, 1) := by decide +kernel
theorem dX5_takes_16 : decode cX5_takes 16 = .ok (.i2l, 1) := by decide +kernel
theorem dX5_takes_17 : decode cX5_takes 17 = .ok (.invokestatic 50, 3) := by decide +kernel
theorem dX5_takes_20 : decode cX5_takes 20 = .ok (.ifCond .ne 5, 3) := by decide +kernel
theorem dX5_takes_23 : decode cX5_takes 23 = .ok (.iconst 0, 1) := by decide +kernel
theorem dX5_takes_24 : decode cX5_takes 24 = .ok (.ireturn, 1) := by decide +kernel
theorem dX5_takes_25 : decode cX5_takes 25 = .ok (.aload_n 0, 1) := by decide +kernel
theorem dX5_takes_26 : decode cX5_takes 26 = .ok (.getfield 39, 3) := by decide +kernel
theorem dX5_takes_29 : decode cX5_takes 29 = .ok (.iload_n 1, 1) := by decide +kernel
theorem dX5_takes_30 : decode cX5_takes 30 = .ok (.aload_n 0, 1) := by decide +kernel
theorem dX5_takes_31 : decode cX5_takes 31 = .ok (.getfield 221, 3) := by decide +kernel
theorem dX5_takes_34 : decode cX5_takes 34 = .ok (.iastore, 1) := by decide +kernel
theorem dX5_takes_35 : decode cX5_takes 35 = .ok (.aload_n 0, 1) := by decide +kernel
theorem dX5_takes_36 : decode cX5_takes 36 = .ok (.invokevirtual 234, 3) := by decide +kernel
theorem dX5_takes_39 : decode cX5_takes 39 = .ok (.iconst 1, 1) := by decide +kernel
theorem dX5_takes_40 : decode cX5_takes 40 = .ok (.ireturn, 1) := by decide +kernel
theorem dX5_takesNever_0 : decode cX5_takesNever 0 = .ok (.aload_n 0, 1) := by decide +kernel
theorem dX5_takesNever_1 : decode cX5_takesNever 1 = .ok (.invokevirtual 234, 3) := by decide +kernel
theorem dX5_takesNever_4 : decode cX5_takesNever 4 = .ok (.aload_n 0, 1) := by decide +kernel
theorem dX5_takesNever_5 : decode cX5_takesNever 5 = .ok (.iconst 0, 1) := by decide +kernel
theorem dX5_takesNever_6 : decode cX5_takesNever 6 = .ok (.iconst 0, 1) := by decide +kernel
theorem dX5_takesNever_7 : decode cX5_takesNever 7 = .ok (.iconst 3, 1) := by decide +kernel
theorem dX5_takesNever_8 : decode cX5_takesNever 8 = .ok (.invokevirtual 237, 3) := by decide +kernel
theorem dX5_takesNever_11 : decode cX5_takesNever 11 = .ok (.ifCond .eq 13, 3) := by decide +kernel
theorem dX5_takesNever_14 : decode cX5_takesNever 14 = .ok (.aload_n 0, 1) := by decide +kernel
theorem dX5_takesNever_15 : decode cX5_takesNever 15 = .ok (.iconst 1, 1) := by decide +kernel
theorem dX5_takesNever_16 : decode cX5_takesNever 16 = .ok (.iconst 0, 1) := by decide +kernel
theorem dX5_takesNever_17 : decode cX5_takesNever 17 = .ok (.iconst 3, 1) := by decide +kernel
theorem dX5_takesNever_18 : decode cX5_takesNever 18 = .ok (.invokevirtual 237, 3) := by decide +kernel
theorem dX5_takesNever_21 : decode cX5_takesNever 21 = .ok (.ifCond .ne 5, 3) := by decide +kernel
theorem dX5_takesNever_24 : decode cX5_takesNever 24 = .ok (.iconst 0, 1) := by decide +kernel
theorem dX5_takesNever_25 : decode cX5_takesNever 25 = .ok (.ireturn, 1) := by decide +kernel
theorem dX5_takesNever_26 : decode cX5_takesNever 26 = .ok (.aload_n 0, 1) := by decide +kernel
theorem dX5_takesNever_27 : decode cX5_takesNever 27 = .ok (.getfield 36, 3) := by decide +kernel
theorem dX5_takesNever_30 : decode cX5_takesNever 30 = .ok (.iconst 1, 1) := by decide +kernel
theorem dX5_takesNever_31 : decode cX5_takesNever 31 = .ok (.dup2, 1) := by decide +kernel
theorem dX5_takesNever_32 : decode cX5_takesNever 32 = .ok (.iaload, 1) := by decide +kernel
theorem dX5_takesNever_33 : decode cX5_takesNever 33 = .ok (.iconst 1, 1) := by decide +kernel
theorem dX5_takesNever_34 : decode cX5_takesNever 34 = .ok (.iconst 4, 1) := by decide +kernel
theorem dX5_takesNever_35 : decode cX5_takesNever 35 = .ok (.aload_n 0, 1) := by decide +kernel
theorem dX5_takesNever_36 : decode cX5_takesNever 36 = .ok (.getfield 39, 3) := by decide +kernel
theorem dX5_takesNever_39 : decode cX5_takesNever 39 = .ok (.iconst 0, 1) := by decide +kernel
theorem dX5_takesNever_40 : decode cX5_takesNever 40 = .ok (.iaload, 1) := by decide +kernel
theorem dX5_takesNever_41 : decode cX5_takesNever 41 = .ok (.imul, 1) := by decide +kernel
theorem dX5_takesNever_42 : decode cX5_takesNever 42 = .ok (.aload_n 0, 1) := by decide +kernel
theorem dX5_takesNever_43 : decode cX5_takesNever 43 = .ok (.getfield 39, 3) := by decide +kernel
theorem dX5_takesNever_46 : decode cX5_takesNever 46 = .ok (.iconst 1, 1) := by decide +kernel
theorem dX5_takesNever_47 : decode cX5_takesNever 47 = .ok (.iaload, 1) := by decide +kernel
theorem dX5_takesNever_48 : decode cX5_takesNever 48 = .ok (.iadd, 1) := by decide +kernel
theorem dX5_takesNever_49 : decode cX5_takesNever 49 = .ok (.ishl, 1) := by decide +kernel
theorem dX5_takesNever_50 : decode cX5_takesNever 50 = .ok (.ior, 1) := by decide +kernel
theorem dX5_takesNever_51 : decode cX5_takesNever 51 = .ok (.iastore, 1) := by decide +kernel
theorem dX5_takesNever_52 : decode cX5_takesNever 52 = .ok (.iconst 1, 1) := by decide +kernel
theorem dX5_takesNever_53 : decode cX5_takesNever 53 = .ok (.ireturn, 1) := by decide +kernel
theorem dX5_takesKnown_0 : decode cX5_takesKnown 0 = .ok (.aload_n 0, 1) := by decide +kernel
theorem dX5_takesKnown_1 : decode cX5_takesKnown 1 = .ok (.invokevirtual 234, 3) := by decide +kernel
theorem dX5_takesKnown_4 : decode cX5_takesKnown 4 = .ok (.aload_n 0, 1) := by decide +kernel
theorem dX5_takesKnown_5 : decode cX5_takesKnown 5 = .ok (.iconst 0, 1) := by decide +kernel
theorem dX5_takesKnown_6 : decode cX5_takesKnown 6 = .ok (.iconst 0, 1) := by decide +kernel
theorem dX5_takesKnown_7 : decode cX5_takesKnown 7 = .ok (.iconst 5, 1) := by decide +kernel
theorem dX5_takesKnown_8 : decode cX5_takesKnown 8 = .ok (.invokevirtual 237, 3) := by decide +kernel
theorem dX5_takesKnown_11 : decode cX5_takesKnown 11 = .ok (.ifCond .eq 13, 3) := by decide +kernel
theorem dX5_takesKnown_14 : decode cX5_takesKnown 14 = .ok (.aload_n 0, 1) := by decide +kernel
theorem dX5_takesKnown_15 : decode cX5_takesKnown 15 = .ok (.iconst 1, 1) := by decide +kernel
theorem dX5_takesKnown_16 : decode cX5_takesKnown 16 = .ok (.iconst 0, 1) := by decide +kernel
theorem dX5_takesKnown_17 : decode cX5_takesKnown 17 = .ok (.iconst 3, 1) := by decide +kernel
theorem dX5_takesKnown_18 : decode cX5_takesKnown 18 = .ok (.invokevirtual 237, 3) := by decide +kernel
theorem dX5_takesKnown_21 : decode cX5_takesKnown 21 = .ok (.ifCond .ne 5, 3) := by decide +kernel
theorem dX5_takesKnown_24 : decode cX5_takesKnown 24 = .ok (.iconst 0, 1) := by decide +kernel
theorem dX5_takesKnown_25 : decode cX5_takesKnown 25 = .ok (.ireturn, 1) := by decide +kernel
theorem dX5_takesKnown_26 : decode cX5_takesKnown 26 = .ok (.aload_n 0, 1) := by decide +kernel
theorem dX5_takesKnown_27 : decode cX5_takesKnown 27 = .ok (.getfield 36, 3) := by decide +kernel
theorem dX5_takesKnown_30 : decode cX5_takesKnown 30 = .ok (.iconst 4, 1) := by decide +kernel
theorem dX5_takesKnown_31 : decode cX5_takesKnown 31 = .ok (.aload_n 0, 1) := by decide +kernel
theorem dX5_takesKnown_32 : decode cX5_takesKnown 32 = .ok (.getfield 39, 3) := by decide +kernel
theorem dX5_takesKnown_35 : decode cX5_takesKnown 35 = .ok (.iconst 0, 1) := by decide +kernel
theorem dX5_takesKnown_36 : decode cX5_takesKnown 36 = .ok (.iaload, 1) := by decide +kernel
theorem dX5_takesKnown_37 : decode cX5_takesKnown 37 = .ok (.iadd, 1) := by decide +kernel
theorem dX5_takesKnown_38 : decode cX5_takesKnown 38 = .ok (.aload_n 0, 1) := by decide +kernel
theorem dX5_takesKnown_39 : decode cX5_takesKnown 39 = .ok (.getfield 39, 3) := by decide +kernel
theorem dX5_takesKnown_42 : decode cX5_takesKnown 42 = .ok (.iconst 1, 1) := by decide +kernel
theorem dX5_takesKnown_43 : decode cX5_takesKnown 43 = .ok (.iaload, 1) := by decide +kernel
theorem dX5_takesKnown_44 : decode cX5_takesKnown 44 = .ok (.iastore, 1) := by decide +kernel
theorem dX5_takesKnown_45 : decode cX5_takesKnown 45 = .ok (.iconst 1, 1) := by decide +kernel
theorem dX5_takesKnown_46 : decode cX5_takesKnown 46 = .ok (.ireturn, 1) := by decide +kernel
theorem dX5_takesOne_0 : decode cX5_takesOne 0 = .ok (.aload_n 0, 1) := by decide +kernel
theorem dX5_takesOne_1 : decode cX5_takesOne 1 = .ok (.getfield 36, 3) := by decide +kernel
theorem dX5_takesOne_4 : decode cX5_takesOne 4 = .ok (.iconst 0, 1) := by decide +kernel
theorem dX5_takesOne_5 : decode cX5_takesOne 5 = .ok (.iaload, 1) := by decide +kernel
theorem dX5_takesOne_6 : decode cX5_takesOne 6 = .ok (.iconst 4, 1) := by decide +kernel
theorem dX5_takesOne_7 : decode cX5_takesOne 7 = .ok (.if_icmp .ne 5, 3) := by decide +kernel
theorem dX5_takesOne_10 : decode cX5_takesOne 10 = .ok (.iconst 0, 1) := by decide +kernel
theorem dX5_takesOne_11 : decode cX5_takesOne 11 = .ok (.ireturn, 1) := by decide +kernel
theorem dX5_takesOne_12 : decode cX5_takesOne 12 = .ok (.aload_n 0, 1) := by decide +kernel
theorem dX5_takesOne_13 : decode cX5_takesOne 13 = .ok (.invokevirtual 234, 3) := by decide +kernel
theorem dX5_takesOne_16 : decode cX5_takesOne 16 = .ok (.aload_n 0, 1) := by decide +kernel
theorem dX5_takesOne_17 : decode cX5_takesOne 17 = .ok (.iconst 0, 1) := by decide +kernel
theorem dX5_takesOne_18 : decode cX5_takesOne 18 = .ok (.iconst 0, 1) := by decide +kernel
theorem dX5_takesOne_19 : decode cX5_takesOne 19 = .ok (.iconst 5, 1) := by decide +kernel
theorem dX5_takesOne_20 : decode cX5_takesOne 20 = .ok (.invokevirtual 237, 3) := by decide +kernel
theorem dX5_takesOne_23 : decode cX5_takesOne 23 = .ok (.ifCond .eq 14, 3) := by decide +kernel
theorem dX5_takesOne_26 : decode cX5_takesOne 26 = .ok (.aload_n 0, 1) := by decide +kernel
theorem dX5_takesOne_27 : decode cX5_takesOne 27 = .ok (.iconst 1, 1) := by decide +kernel
theorem dX5_takesOne_28 : decode cX5_takesOne 28 = .ok (.iconst 0, 1) := by decide +kernel
theorem dX5_takesOne_29 : decode cX5_takesOne 29 = .ok (.bipush 9, 2) := by decide +kernel
theorem dX5_takesOne_31 : decode cX5_takesOne 31 = .ok (.invokevirtual 237, 3) := by decide +kernel
theorem dX5_takesOne_34 : decode cX5_takesOne 34 = .ok (.ifCond .ne 5, 3) := by decide +kernel
theorem dX5_takesOne_37 : decode cX5_takesOne 37 = .ok (.iconst 0, 1) := by decide +kernel
theorem dX5_takesOne_38 : decode cX5_takesOne 38 = .ok (.ireturn, 1) := by decide +kernel
theorem dX5_takesOne_39 : decode cX5_takesOne 39 = .ok (.aload_n 0, 1) := by decide +kernel
theorem dX5_takesOne_40 : decode cX5_takesOne 40 = .ok (.getfield 36, 3) := by decide +kernel
theorem dX5_takesOne_43 : decode cX5_takesOne 43 = .ok (.aload_n 0, 1) := by decide +kernel
theorem dX5_takesOne_44 : decode cX5_takesOne 44 = .ok (.getfield 39, 3) := by decide +kernel
theorem dX5_takesOne_47 : decode cX5_takesOne 47 = .ok (.iconst 0, 1) := by decide +kernel
theorem dX5_takesOne_48 : decode cX5_takesOne 48 = .ok (.iaload, 1) := by decide +kernel
theorem dX5_takesOne_49 : decode cX5_takesOne 49 = .ok (.aload_n 0, 1) := by decide +kernel
theorem dX5_takesOne_50 : decode cX5_takesOne 50 = .ok (.getfield 39, 3) := by decide +kernel
theorem dX5_takesOne_53 : decode cX5_takesOne 53 = .ok (.iconst 1, 1) := by decide +kernel
theorem dX5_takesOne_54 : decode cX5_takesOne 54 = .ok (.iaload, 1) := by decide +kernel
theorem dX5_takesOne_55 : decode cX5_takesOne 55 = .ok (.invokestatic 76, 3) := by decide +kernel
theorem dX5_takesOne_58 : decode cX5_takesOne 58 = .ok (.iconst 1, 1) := by decide +kernel
theorem dX5_takesOne_59 : decode cX5_takesOne 59 = .ok (.ireturn, 1) := by decide +kernel
theorem dX5_takesMark_0 : decode cX5_takesMark 0 = .ok (.aload_n 0, 1) := by decide +kernel
theorem dX5_takesMark_1 : decode cX5_takesMark 1 = .ok (.getfield 36, 3) := by decide +kernel
theorem dX5_takesMark_4 : decode cX5_takesMark 4 = .ok (.iconst 3, 1) := by decide +kernel
theorem dX5_takesMark_5 : decode cX5_takesMark 5 = .ok (.iaload, 1) := by decide +kernel
theorem dX5_takesMark_6 : decode cX5_takesMark 6 = .ok (.bipush 8, 2) := by decide +kernel
theorem dX5_takesMark_8 : decode cX5_takesMark 8 = .ok (.if_icmp .ne 5, 3) := by decide +kernel
theorem dX5_takesMark_11 : decode cX5_takesMark 11 = .ok (.iconst 0, 1) := by decide +kernel
theorem dX5_takesMark_12 : decode cX5_takesMark 12 = .ok (.ireturn, 1) := by decide +kernel
theorem dX5_takesMark_13 : decode cX5_takesMark 13 = .ok (.aload_n 0, 1) := by decide +kernel
theorem dX5_takesMark_14 : decode cX5_takesMark 14 = .ok (.invokevirtual 234, 3) := by decide +kernel
theorem dX5_takesMark_17 : decode cX5_takesMark 17 = .ok (.aload_n 0, 1) := by decide +kernel
theorem dX5_takesMark_18 : decode cX5_takesMark 18 = .ok (.iconst 0, 1) := by decide +kernel
theorem dX5_takesMark_19 : decode cX5_takesMark 19 = .ok (.iconst 0, 1) := by decide +kernel
theorem dX5_takesMark_20 : decode cX5_takesMark 20 = .ok (.aload_n 0, 1) := by decide +kernel
theorem dX5_takesMark_21 : decode cX5_takesMark 21 = .ok (.getfield 36, 3) := by decide +kernel
theorem dX5_takesMark_24 : decode cX5_takesMark 24 = .ok (.iconst 0, 1) := by decide +kernel
theorem dX5_takesMark_25 : decode cX5_takesMark 25 = .ok (.iaload, 1) := by decide +kernel
theorem dX5_takesMark_26 : decode cX5_takesMark 26 = .ok (.iconst 1, 1) := by decide +kernel
theorem dX5_takesMark_27 : decode cX5_takesMark 27 = .ok (.isub, 1) := by decide +kernel
theorem dX5_takesMark_28 : decode cX5_takesMark 28 = .ok (.invokevirtual 237, 3) := by decide +kernel
theorem dX5_takesMark_31 : decode cX5_takesMark 31 = .ok (.ifCond .eq 23, 3) := by decide +kernel
theorem dX5_takesMark_34 : decode cX5_takesMark 34 = .ok (.aload_n 0, 1) := by decide +kernel
theorem dX5_takesMark_35 : decode cX5_takesMark 35 = .ok (.iconst 1, 1) := by decide +kernel
theorem dX5_takesMark_36 : decode cX5_takesMark 36 = .ok (.iconst 0, 1) := by decide +kernel
theorem dX5_takesMark_37 : decode cX5_takesMark 37 = .ok (.iconst 5, 1) := by decide +kernel
theorem dX5_takesMark_38 : decode cX5_takesMark 38 = .ok (.invokevirtual 237, 3) := by decide +kernel
theorem dX5_takesMark_41 : decode cX5_takesMark 41 = .ok (.ifCond .eq 13, 3) := by decide +kernel
theorem dX5_takesMark_44 : decode cX5_takesMark 44 = .ok (.aload_n 0, 1) := by decide +kernel
theorem dX5_takesMark_45 : decode cX5_takesMark 45 = .ok (.iconst 2, 1) := by decide +kernel
theorem dX5_takesMark_46 : decode cX5_takesMark 46 = .ok (.iconst 0, 1) := by decide +kernel
theorem dX5_takesMark_47 : decode cX5_takesMark 47 = .ok (.iconst 2, 1) := by decide +kernel
theorem dX5_takesMark_48 : decode cX5_takesMark 48 = .ok (.invokevirtual 237, 3) := by decide +kernel
theorem dX5_takesMark_51 : decode cX5_takesMark 51 = .ok (.ifCond .ne 5, 3) := by decide +kernel
theorem dX5_takesMark_54 : decode cX5_takesMark 54 = .ok (.iconst 0, 1) := by decide +kernel
theorem dX5_takesMark_55 : decode cX5_takesMark 55 = .ok (.ireturn, 1) := by decide +kernel
theorem dX5_takesMark_56 : decode cX5_takesMark 56 = .ok (.iconst 0, 1) := by decide +kernel
theorem dX5_takesMark_57 : decode cX5_takesMark 57 = .ok (.istore_n 1, 1) := by decide +kernel
theorem dX5_takesMark_58 : decode cX5_takesMark 58 = .ok (.aload_n 0, 1) := by decide +kernel
theorem dX5_takesMark_59 : decode cX5_takesMark 59 = .ok (.getfield 218, 3) := by decide +kernel
theorem dX5_takesMark_62 : decode cX5_takesMark 62 = .ok (.iconst 2, 1) := by decide +kernel
theorem dX5_takesMark_63 : decode cX5_takesMark 63 = .ok (.if_icmp .ne 56, 3) := by decide +kernel
theorem dX5_takesMark_66 : decode cX5_takesMark 66 = .ok (.iload_n 1, 1) := by decide +kernel
theorem dX5_takesMark_67 : decode cX5_takesMark 67 = .ok (.invokestatic 68, 3) := by decide +kernel
theorem dX5_takesMark_70 : decode cX5_takesMark 70 = .ok (.iconst 3, 1) := by decide +kernel
theorem dX5_takesMark_71 : decode cX5_takesMark 71 = .ok (.if_icmp .eq 32, 3) := by decide +kernel
theorem dX5_takesMark_74 : decode cX5_takesMark 74 = .ok (.aload_n 0, 1) := by decide +kernel
theorem dX5_takesMark_75 : decode cX5_takesMark 75 = .ok (.getfield 221, 3) := by decide +kernel
theorem dX5_takesMark_78 : decode cX5_takesMark 78 = .ok (.iconst 4, 1) := by decide +kernel
theorem dX5_takesMark_79 : decode cX5_takesMark 79 = .ok (.if_icmp .ge 14, 3) := by decide +kernel
theorem dX5_takesMark_82 : decode cX5_takesMark 82 = .ok (.iload_n 1, 1) := by decide +kernel
theorem dX5_takesMark_83 : decode cX5_takesMark 83 = .ok (.aload_n 0, 1) := by decide +kernel
theorem dX5_takesMark_84 : decode cX5_takesMark 84 = .ok (.getfield 221, 3) := by decide +kernel
theorem dX5_takesMark_87 : decode cX5_takesMark 87 = .ok (.invokestatic 110, 3) := by decide +kernel
theorem dX5_takesMark_90 : decode cX5_takesMark 90 = .ok (.ifCond .ne 13, 3) := by decide +kernel
theorem dX5_takesMark_93 : decode cX5_takesMark 93 = .ok (.aload_n 0, 1) := by decide +kernel
theorem dX5_takesMark_94 : decode cX5_takesMark 94 = .ok (.iconst 3, 1) := by decide +kernel
theorem dX5_takesMark_95 : decode cX5_takesMark 95 = .ok (.iconst 0, 1) := by decide +kernel
theorem dX5_takesMark_96 : decode cX5_takesMark 96 = .ok (.iconst 3, 1) := by decide +kernel
theorem dX5_takesMark_97 : decode cX5_takesMark 97 = .ok (.invokevirtual 237, 3) := by decide +kernel
theorem dX5_takesMark_100 : decode cX5_takesMark 100 = .ok (.ifCond .ne 5, 3) := by decide +kernel
theorem dX5_takesMark_103 : decode cX5_takesMark 103 = .ok (.iconst 0, 1) := by decide +kernel
theorem dX5_takesMark_104 : decode cX5_takesMark 104 = .ok (.ireturn, 1) := by decide +kernel
theorem dX5_takesMark_105 : decode cX5_takesMark 105 = .ok (.iload_n 1, 1) := by decide +kernel
theorem dX5_takesMark_106 : decode cX5_takesMark 106 = .ok (.iconst 1, 1) := by decide +kernel
theorem dX5_takesMark_107 : decode cX5_takesMark 107 = .ok (.aload_n 0, 1) := by decide +kernel
theorem dX5_takesMark_108 : decode cX5_takesMark 108 = .ok (.getfield 39, 3) := by decide +kernel
theorem dX5_takesMark_111 : decode cX5_takesMark 111 = .ok (.iconst 3, 1) := by decide +kernel
theorem dX5_takesMark_112 : decode cX5_takesMark 112 = .ok (.iaload, 1) := by decide +kernel
theorem dX5_takesMark_113 : decode cX5_takesMark 113 = .ok (.ishl, 1) := by decide +kernel
theorem dX5_takesMark_114 : decode cX5_takesMark 114 = .ok (.ior, 1) := by decide +kernel
theorem dX5_takesMark_115 : decode cX5_takesMark 115 = .ok (.istore_n 1, 1) := by decide +kernel
theorem dX5_takesMark_116 : decode cX5_takesMark 116 = .ok (.goto (-58), 3) := by decide +kernel
theorem dX5_takesMark_119 : decode cX5_takesMark 119 = .ok (.iload_n 1, 1) := by decide +kernel
theorem dX5_takesMark_120 : decode cX5_takesMark 120 = .ok (.ifCond .ne 5, 3) := by decide +kernel
theorem dX5_takesMark_123 : decode cX5_takesMark 123 = .ok (.iconst 0, 1) := by decide +kernel
theorem dX5_takesMark_124 : decode cX5_takesMark 124 = .ok (.ireturn, 1) := by decide +kernel
theorem dX5_takesMark_125 : decode cX5_takesMark 125 = .ok (.aload_n 0, 1) := by decide +kernel
theorem dX5_takesMark_126 : decode cX5_takesMark 126 = .ok (.getfield 36, 3) := by decide +kernel
theorem dX5_takesMark_129 : decode cX5_takesMark 129 = .ok (.aload_n 0, 1) := by decide +kernel
theorem dX5_takesMark_130 : decode cX5_takesMark 130 = .ok (.getfield 39, 3) := by decide +kernel
theorem dX5_takesMark_133 : decode cX5_takesMark 133 = .ok (.iconst 0, 1) := by decide +kernel
theorem dX5_takesMark_134 : decode cX5_takesMark 134 = .ok (.iaload, 1) := by decide +kernel
theorem dX5_takesMark_135 : decode cX5_takesMark 135 = .ok (.aload_n 0, 1) := by decide +kernel
theorem dX5_takesMark_136 : decode cX5_takesMark 136 = .ok (.getfield 39, 3) := by decide +kernel
theorem dX5_takesMark_139 : decode cX5_takesMark 139 = .ok (.iconst 1, 1) := by decide +kernel
theorem dX5_takesMark_140 : decode cX5_takesMark 140 = .ok (.iaload, 1) := by decide +kernel
theorem dX5_takesMark_141 : decode cX5_takesMark 141 = .ok (.iload_n 1, 1) := by decide +kernel
theorem dX5_takesMark_142 : decode cX5_takesMark 142 = .ok (.aload_n 0, 1) := by decide +kernel
theorem dX5_takesMark_143 : decode cX5_takesMark 143 = .ok (.getfield 39, 3) := by decide +kernel
theorem dX5_takesMark_146 : decode cX5_takesMark 146 = .ok (.iconst 2, 1) := by decide +kernel
theorem dX5_takesMark_147 : decode cX5_takesMark 147 = .ok (.iaload, 1) := by decide +kernel
theorem dX5_takesMark_148 : decode cX5_takesMark 148 = .ok (.invokestatic 97, 3) := by decide +kernel
theorem dX5_takesMark_151 : decode cX5_takesMark 151 = .ok (.iconst 1, 1) := by decide +kernel
theorem dX5_takesMark_152 : decode cX5_takesMark 152 = .ok (.ireturn, 1) := by decide +kernel
theorem dX5_takesItem_0 : decode cX5_takesItem 0 = .ok (.aload_n 0, 1) := by decide +kernel
theorem dX5_takesItem_1 : decode cX5_takesItem 1 = .ok (.iconst 5, 1) := by decide +kernel
theorem dX5_takesItem_2 : decode cX5_takesItem 2 = .ok (.bipush 110, 2) := by decide +kernel
theorem dX5_takesItem_4 : decode cX5_takesItem 4 = .ok (.bipush 101, 2) := by decide +kernel
theorem dX5_takesItem_6 : decode cX5_takesItem 6 = .ok (.bipush 118, 2) := by decide +kernel
theorem dX5_takesItem_8 : decode cX5_takesItem 8 = .ok (.bipush 101, 2) := by decide +kernel
theorem dX5_takesItem_10 : decode cX5_takesItem 10 = .ok (.bipush 114, 2) := by decide +kernel
theorem dX5_takesItem_12 : decode cX5_takesItem 12 = .ok (.iconst 0, 1) := by decide +kernel
theorem dX5_takesItem_13 : decode cX5_takesItem 13 = .ok (.invokevirtual 240, 3) := by decide +kernel
theorem dX5_takesItem_16 : decode cX5_takesItem 16 = .ok (.ifCond .eq 8, 3) := by decide +kernel
theorem dX5_takesItem_19 : decode cX5_takesItem 19 = .ok (.aload_n 0, 1) := by decide +kernel
theorem dX5_takesItem_20 : decode cX5_takesItem 20 = .ok (.invokevirtual 244, 3) := by decide +kernel
theorem dX5_takesItem_23 : decode cX5_takesItem 23 = .ok (.ireturn, 1) := by decide +kernel
theorem dX5_takesItem_24 : decode cX5_takesItem 24 = .ok (.aload_n 0, 1) := by decide +kernel
theorem dX5_takesItem_25 : decode cX5_takesItem 25 = .ok (.iconst 5, 1) := by decide +kernel
theorem dX5_takesItem_26 : decode cX5_takesItem 26 = .ok (.bipush 107, 2) := by decide +kernel
theorem dX5_takesItem_28 : decode cX5_takesItem 28 = .ok (.bipush 110, 2) := by decide +kernel
theorem dX5_takesItem_30 : decode cX5_takesItem 30 = .ok (.bipush 111, 2) := by decide +kernel
theorem dX5_takesItem_32 : decode cX5_takesItem 32 = .ok (.bipush 119, 2) := by decide +kernel
theorem dX5_takesItem_34 : decode cX5_takesItem 34 = .ok (.bipush 110, 2) := by decide +kernel
theorem dX5_takesItem_36 : decode cX5_takesItem 36 = .ok (.iconst 0, 1) := by decide +kernel
theorem dX5_takesItem_37 : decode cX5_takesItem 37 = .ok (.invokevirtual 240, 3) := by decide +kernel
theorem dX5_takesItem_40 : decode cX5_takesItem 40 = .ok (.ifCond .eq 8, 3) := by decide +kernel
theorem dX5_takesItem_43 : decode cX5_takesItem 43 = .ok (.aload_n 0, 1) := by decide +kernel
theorem dX5_takesItem_44 : decode cX5_takesItem 44 = .ok (.invokevirtual 247, 3) := by decide +kernel
theorem dX5_takesItem_47 : decode cX5_takesItem 47 = .ok (.ireturn, 1) := by decide +kernel
theorem dX5_takesItem_48 : decode cX5_takesItem 48 = .ok (.aload_n 0, 1) := by decide +kernel
theorem dX5_takesItem_49 : decode cX5_takesItem 49 = .ok (.iconst 3, 1) := by decide +kernel
theorem dX5_takesItem_50 : decode cX5_takesItem 50 = .ok (.bipush 111, 2) := by decide +kernel
theorem dX5_takesItem_52 : decode cX5_takesItem 52 = .ok (.bipush 110, 2) := by decide +kernel
theorem dX5_takesItem_54 : decode cX5_takesItem 54 = .ok (.bipush 101, 2) := by decide +kernel
theorem dX5_takesItem_56 : decode cX5_takesItem 56 = .ok (.iconst 0, 1) := by decide +kernel
theorem dX5_takesItem_57 : decode cX5_takesItem 57 = .ok (.iconst 0, 1) := by decide +kernel
theorem dX5_takesItem_58 : decode cX5_takesItem 58 = .ok (.iconst 0, 1) := by decide +kernel
theorem dX5_takesItem_59 : decode cX5_takesItem 59 = .ok (.invokevirtual 240, 3) := by decide +kernel
theorem dX5_takesItem_62 : decode cX5_takesItem 62 = .ok (.ifCond .eq 8, 3) := by decide +kernel
