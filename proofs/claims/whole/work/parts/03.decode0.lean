theorem dX0_init_0 : decode cX0_init 0 = .ok (.aload_n 0, 1) := by decide +kernel
theorem dX0_init_1 : decode cX0_init 1 = .ok (.invokespecial 3, 3) := by decide +kernel
theorem dX0_init_4 : decode cX0_init 4 = .ok (.aload_n 0, 1) := by decide +kernel
theorem dX0_init_5 : decode cX0_init 5 = .ok (.bipush 6, 2) := by decide +kernel
theorem dX0_init_7 : decode cX0_init 7 = .ok (.newarray .int, 2) := by decide +kernel
theorem dX0_init_9 : decode cX0_init 9 = .ok (.putfield 9, 3) := by decide +kernel
theorem dX0_init_12 : decode cX0_init 12 = .ok (.aload_n 0, 1) := by decide +kernel
theorem dX0_init_13 : decode cX0_init 13 = .ok (.iconst 4, 1) := by decide +kernel
theorem dX0_init_14 : decode cX0_init 14 = .ok (.newarray .int, 2) := by decide +kernel
theorem dX0_init_16 : decode cX0_init 16 = .ok (.putfield 15, 3) := by decide +kernel
theorem dX0_init_19 : decode cX0_init 19 = .ok (.aload_n 0, 1) := by decide +kernel
theorem dX0_init_20 : decode cX0_init 20 = .ok (.iconst 4, 1) := by decide +kernel
theorem dX0_init_21 : decode cX0_init 21 = .ok (.newarray .int, 2) := by decide +kernel
theorem dX0_init_23 : decode cX0_init 23 = .ok (.putfield 18, 3) := by decide +kernel
theorem dX0_init_26 : decode cX0_init 26 = .ok (.aload_n 0, 1) := by decide +kernel
theorem dX0_init_27 : decode cX0_init 27 = .ok (.bipush 8, 2) := by decide +kernel
theorem dX0_init_29 : decode cX0_init 29 = .ok (.newarray .int, 2) := by decide +kernel
theorem dX0_init_31 : decode cX0_init 31 = .ok (.putfield 21, 3) := by decide +kernel
theorem dX0_init_34 : decode cX0_init 34 = .ok (.aload_n 0, 1) := by decide +kernel
theorem dX0_init_35 : decode cX0_init 35 = .ok (.bipush 8, 2) := by decide +kernel
theorem dX0_init_37 : decode cX0_init 37 = .ok (.newarray .int, 2) := by decide +kernel
theorem dX0_init_39 : decode cX0_init 39 = .ok (.putfield 24, 3) := by decide +kernel
theorem dX0_init_42 : decode cX0_init 42 = .ok (.aload_n 0, 1) := by decide +kernel
theorem dX0_init_43 : decode cX0_init 43 = .ok (.bipush 8, 2) := by decide +kernel
theorem dX0_init_45 : decode cX0_init 45 = .ok (.newarray .int, 2) := by decide +kernel
theorem dX0_init_47 : decode cX0_init 47 = .ok (.putfield 27, 3) := by decide +kernel
theorem dX0_init_50 : decode cX0_init 50 = .ok (.aload_n 0, 1) := by decide +kernel
theorem dX0_init_51 : decode cX0_init 51 = .ok (.bipush 8, 2) := by decide +kernel
theorem dX0_init_53 : decode cX0_init 53 = .ok (.newarray .int, 2) := by decide +kernel
theorem dX0_init_55 : decode cX0_init 55 = .ok (.putfield 30, 3) := by decide +kernel
theorem dX0_init_58 : decode cX0_init 58 = .ok (.aload_n 0, 1) := by decide +kernel
theorem dX0_init_59 : decode cX0_init 59 = .ok (.bipush 8, 2) := by decide +kernel
theorem dX0_init_61 : decode cX0_init 61 = .ok (.newarray .int, 2) := by decide +kernel
theorem dX0_init_63 : decode cX0_init 63 = .ok (.putfield 33, 3) := by decide +kernel
theorem dX0_init_66 : decode cX0_init 66 = .ok (.aload_n 0, 1) := by decide +kernel
theorem dX0_init_67 : decode cX0_init 67 = .ok (.bipush 8, 2) := by decide +kernel
theorem dX0_init_69 : decode cX0_init 69 = .ok (.newarray .int, 2) := by decide +kernel
theorem dX0_init_71 : decode cX0_init 71 = .ok (.putfield 36, 3) := by decide +kernel
theorem dX0_init_74 : decode cX0_init 74 = .ok (.aload_n 0, 1) := by decide +kernel
theorem dX0_init_75 : decode cX0_init 75 = .ok (.bipush 8, 2) := by decide +kernel
theorem dX0_init_77 : decode cX0_init 77 = .ok (.newarray .int, 2) := by decide +kernel
theorem dX0_init_79 : decode cX0_init 79 = .ok (.putfield 39, 3) := by decide +kernel
theorem dX0_init_82 : decode cX0_init 82 = .ok (.aload_n 0, 1) := by decide +kernel
theorem dX0_init_83 : decode cX0_init 83 = .ok (.invokevirtual 42, 3) := by decide +kernel
theorem dX0_init_86 : decode cX0_init 86 = .ok (.return_, 1) := by decide +kernel
theorem dX0_reset_0 : decode cX0_reset 0 = .ok (.iconst 0, 1) := by decide +kernel
theorem dX0_reset_1 : decode cX0_reset 1 = .ok (.istore_n 1, 1) := by decide +kernel
theorem dX0_reset_2 : decode cX0_reset 2 = .ok (.iload_n 1, 1) := by decide +kernel
theorem dX0_reset_3 : decode cX0_reset 3 = .ok (.bipush 6, 2) := by decide +kernel
theorem dX0_reset_5 : decode cX0_reset 5 = .ok (.if_icmp .ge 16, 3) := by decide +kernel
theorem dX0_reset_8 : decode cX0_reset 8 = .ok (.aload_n 0, 1) := by decide +kernel
theorem dX0_reset_9 : decode cX0_reset 9 = .ok (.getfield 9, 3) := by decide +kernel
theorem dX0_reset_12 : decode cX0_reset 12 = .ok (.iload_n 1, 1) := by decide +kernel
theorem dX0_reset_13 : decode cX0_reset 13 = .ok (.iconst (-1), 1) := by decide +kernel
theorem dX0_reset_14 : decode cX0_reset 14 = .ok (.iastore, 1) := by decide +kernel
theorem dX0_reset_15 : decode cX0_reset 15 = .ok (.iinc 1 1, 3) := by decide +kernel
theorem dX0_reset_18 : decode cX0_reset 18 = .ok (.goto (-16), 3) := by decide +kernel
theorem dX0_reset_21 : decode cX0_reset 21 = .ok (.aload_n 0, 1) := by decide +kernel
theorem dX0_reset_22 : decode cX0_reset 22 = .ok (.iconst 0, 1) := by decide +kernel
theorem dX0_reset_23 : decode cX0_reset 23 = .ok (.putfield 45, 3) := by decide +kernel
theorem dX0_reset_26 : decode cX0_reset 26 = .ok (.aload_n 0, 1) := by decide +kernel
theorem dX0_reset_27 : decode cX0_reset 27 = .ok (.iconst 0, 1) := by decide +kernel
theorem dX0_reset_28 : decode cX0_reset 28 = .ok (.putfield 49, 3) := by decide +kernel
theorem dX0_reset_31 : decode cX0_reset 31 = .ok (.aload_n 0, 1) := by decide +kernel
theorem dX0_reset_32 : decode cX0_reset 32 = .ok (.iconst 0, 1) := by decide +kernel
theorem dX0_reset_33 : decode cX0_reset 33 = .ok (.putfield 52, 3) := by decide +kernel
theorem dX0_reset_36 : decode cX0_reset 36 = .ok (.aload_n 0, 1) := by decide +kernel
theorem dX0_reset_37 : decode cX0_reset 37 = .ok (.iconst 0, 1) := by decide +kernel
theorem dX0_reset_38 : decode cX0_reset 38 = .ok (.putfield 55, 3) := by decide +kernel
theorem dX0_reset_41 : decode cX0_reset 41 = .ok (.return_, 1) := by decide +kernel
theorem dX0_copyFrom_0 : decode cX0_copyFrom 0 = .ok (.aload_n 1, 1) := by decide +kernel
theorem dX0_copyFrom_1 : decode cX0_copyFrom 1 = .ok (.getfield 9, 3) := by decide +kernel
theorem dX0_copyFrom_4 : decode cX0_copyFrom 4 = .ok (.iconst 0, 1) := by decide +kernel
theorem dX0_copyFrom_5 : decode cX0_copyFrom 5 = .ok (.aload_n 0, 1) := by decide +kernel
theorem dX0_copyFrom_6 : decode cX0_copyFrom 6 = .ok (.getfield 9, 3) := by decide +kernel
theorem dX0_copyFrom_9 : decode cX0_copyFrom 9 = .ok (.iconst 0, 1) := by decide +kernel
theorem dX0_copyFrom_10 : decode cX0_copyFrom 10 = .ok (.bipush 6, 2) := by decide +kernel
theorem dX0_copyFrom_12 : decode cX0_copyFrom 12 = .ok (.invokestatic 58, 3) := by decide +kernel
theorem dX0_copyFrom_15 : decode cX0_copyFrom 15 = .ok (.aload_n 1, 1) := by decide +kernel
theorem dX0_copyFrom_16 : decode cX0_copyFrom 16 = .ok (.getfield 15, 3) := by decide +kernel
theorem dX0_copyFrom_19 : decode cX0_copyFrom 19 = .ok (.iconst 0, 1) := by decide +kernel
theorem dX0_copyFrom_20 : decode cX0_copyFrom 20 = .ok (.aload_n 0, 1) := by decide +kernel
theorem dX0_copyFrom_21 : decode cX0_copyFrom 21 = .ok (.getfield 15, 3) := by decide +kernel
theorem dX0_copyFrom_24 : decode cX0_copyFrom 24 = .ok (.iconst 0, 1) := by decide +kernel
theorem dX0_copyFrom_25 : decode cX0_copyFrom 25 = .ok (.iconst 4, 1) := by decide +kernel
theorem dX0_copyFrom_26 : decode cX0_copyFrom 26 = .ok (.invokestatic 58, 3) := by decide +kernel
theorem dX0_copyFrom_29 : decode cX0_copyFrom 29 = .ok (.aload_n 1, 1) := by decide +kernel
theorem dX0_copyFrom_30 : decode cX0_copyFrom 30 = .ok (.getfield 18, 3) := by decide +kernel
theorem dX0_copyFrom_33 : decode cX0_copyFrom 33 = .ok (.iconst 0, 1) := by decide +kernel
theorem dX0_copyFrom_34 : decode cX0_copyFrom 34 = .ok (.aload_n 0, 1) := by decide +kernel
theorem dX0_copyFrom_35 : decode cX0_copyFrom 35 = .ok (.getfield 18, 3) := by decide +kernel
theorem dX0_copyFrom_38 : decode cX0_copyFrom 38 = .ok (.iconst 0, 1) := by decide +kernel
theorem dX0_copyFrom_39 : decode cX0_copyFrom 39 = .ok (.iconst 4, 1) := by decide +kernel
theorem dX0_copyFrom_40 : decode cX0_copyFrom 40 = .ok (.invokestatic 58, 3) := by decide +kernel
theorem dX0_copyFrom_43 : decode cX0_copyFrom 43 = .ok (.aload_n 1, 1) := by decide +kernel
theorem dX0_copyFrom_44 : decode cX0_copyFrom 44 = .ok (.getfield 21, 3) := by decide +kernel
theorem dX0_copyFrom_47 : decode cX0_copyFrom 47 = .ok (.iconst 0, 1) := by decide +kernel
theorem dX0_copyFrom_48 : decode cX0_copyFrom 48 = .ok (.aload_n 0, 1) := by decide +kernel
theorem dX0_copyFrom_49 : decode cX0_copyFrom 49 = .ok (.getfield 21, 3) := by decide +kernel
theorem dX0_copyFrom_52 : decode cX0_copyFrom 52 = .ok (.iconst 0, 1) := by decide +kernel
theorem dX0_copyFrom_53 : decode cX0_copyFrom 53 = .ok (.bipush 8, 2) := by decide +kernel
theorem dX0_copyFrom_55 : decode cX0_copyFrom 55 = .ok (.invokestatic 58, 3) := by decide +kernel
theorem dX0_copyFrom_58 : decode cX0_copyFrom 58 = .ok (.aload_n 1, 1) := by decide +kernel
theorem dX0_copyFrom_59 : decode cX0_copyFrom 59 = .ok (.getfield 24, 3) := by decide +kernel
theorem dX0_copyFrom_62 : decode cX0_copyFrom 62 = .ok (.iconst 0, 1) := by decide +kernel
theorem dX0_copyFrom_63 : decode cX0_copyFrom 63 = .ok (.aload_n 0, 1) := by decide +kernel
theorem dX0_copyFrom_64 : decode cX0_copyFrom 64 = .ok (.getfield 24, 3) := by decide +kernel
theorem dX0_copyFrom_67 : decode cX0_copyFrom 67 = .ok (.iconst 0, 1) := by decide +kernel
theorem dX0_copyFrom_68 : decode cX0_copyFrom 68 = .ok (.bipush 8, 2) := by decide +kernel
theorem dX0_copyFrom_70 : decode cX0_copyFrom 70 = .ok (.invokestatic 58, 3) := by decide +kernel
theorem dX0_copyFrom_73 : decode cX0_copyFrom 73 = .ok (.aload_n 1, 1) := by decide +kernel
theorem dX0_copyFrom_74 : decode cX0_copyFrom 74 = .ok (.getfield 27, 3) := by decide +kernel
theorem dX0_copyFrom_77 : decode cX0_copyFrom 77 = .ok (.iconst 0, 1) := by decide +kernel
theorem dX0_copyFrom_78 : decode cX0_copyFrom 78 = .ok (.aload_n 0, 1) := by decide +kernel
theorem dX0_copyFrom_79 : decode cX0_copyFrom 79 = .ok (.getfield 27, 3) := by decide +kernel
theorem dX0_copyFrom_82 : decode cX0_copyFrom 82 = .ok (.iconst 0, 1) := by decide +kernel
theorem dX0_copyFrom_83 : decode cX0_copyFrom 83 = .ok (.bipush 8, 2) := by decide +kernel
theorem dX0_copyFrom_85 : decode cX0_copyFrom 85 = .ok (.invokestatic 58, 3) := by decide +kernel
theorem dX0_copyFrom_88 : decode cX0_copyFrom 88 = .ok (.aload_n 1, 1) := by decide +kernel
theorem dX0_copyFrom_89 : decode cX0_copyFrom 89 = .ok (.getfield 30, 3) := by decide +kernel
theorem dX0_copyFrom_92 : decode cX0_copyFrom 92 = .ok (.iconst 0, 1) := by decide +kernel
theorem dX0_copyFrom_93 : decode cX0_copyFrom 93 = .ok (.aload_n 0, 1) := by decide +kernel
theorem dX0_copyFrom_94 : decode cX0_copyFrom 94 = .ok (.getfield 30, 3) := by decide +kernel
theorem dX0_copyFrom_97 : decode cX0_copyFrom 97 = .ok (.iconst 0, 1) := by decide +kernel
theorem dX0_copyFrom_98 : decode cX0_copyFrom 98 = .ok (.bipush 8, 2) := by decide +kernel
theorem dX0_copyFrom_100 : decode cX0_copyFrom 100 = .ok (.invokestatic 58, 3) := by decide +kernel
theorem dX0_copyFrom_103 : decode cX0_copyFrom 103 = .ok (.aload_n 1, 1) := by decide +kernel
theorem dX0_copyFrom_104 : decode cX0_copyFrom 104 = .ok (.getfield 33, 3) := by decide +kernel
theorem dX0_copyFrom_107 : decode cX0_copyFrom 107 = .ok (.iconst 0, 1) := by decide +kernel
theorem dX0_copyFrom_108 : decode cX0_copyFrom 108 = .ok (.aload_n 0, 1) := by decide +kernel
theorem dX0_copyFrom_109 : decode cX0_copyFrom 109 = .ok (.getfield 33, 3) := by decide +kernel
theorem dX0_copyFrom_112 : decode cX0_copyFrom 112 = .ok (.iconst 0, 1) := by decide +kernel
theorem dX0_copyFrom_113 : decode cX0_copyFrom 113 = .ok (.bipush 8, 2) := by decide +kernel
theorem dX0_copyFrom_115 : decode cX0_copyFrom 115 = .ok (.invokestatic 58, 3) := by decide +kernel
theorem dX0_copyFrom_118 : decode cX0_copyFrom 118 = .ok (.aload_n 1, 1) := by decide +kernel
theorem dX0_copyFrom_119 : decode cX0_copyFrom 119 = .ok (.getfield 36, 3) := by decide +kernel
theorem dX0_copyFrom_122 : decode cX0_copyFrom 122 = .ok (.iconst 0, 1) := by decide +kernel
theorem dX0_copyFrom_123 : decode cX0_copyFrom 123 = .ok (.aload_n 0, 1) := by decide +kernel
theorem dX0_copyFrom_124 : decode cX0_copyFrom 124 = .ok (.getfield 36, 3) := by decide +kernel
theorem dX0_copyFrom_127 : decode cX0_copyFrom 127 = .ok (.iconst 0, 1) := by decide +kernel
theorem dX0_copyFrom_128 : decode cX0_copyFrom 128 = .ok (.bipush 8, 2) := by decide +kernel
theorem dX0_copyFrom_130 : decode cX0_copyFrom 130 = .ok (.invokestatic 58, 3) := by decide +kernel
theorem dX0_copyFrom_133 : decode cX0_copyFrom 133 = .ok (.aload_n 1, 1) := by decide +kernel
theorem dX0_copyFrom_134 : decode cX0_copyFrom 134 = .ok (.getfield 39, 3) := by decide +kernel
theorem dX0_copyFrom_137 : decode cX0_copyFrom 137 = .ok (.iconst 0, 1) := by decide +kernel
theorem dX0_copyFrom_138 : decode cX0_copyFrom 138 = .ok (.aload_n 0, 1) := by decide +kernel
theorem dX0_copyFrom_139 : decode cX0_copyFrom 139 = .ok (.getfield 39, 3) := by decide +kernel
theorem dX0_copyFrom_142 : decode cX0_copyFrom 142 = .ok (.iconst 0, 1) := by decide +kernel
theorem dX0_copyFrom_143 : decode cX0_copyFrom 143 = .ok (.bipush 8, 2) := by decide +kernel
theorem dX0_copyFrom_145 : decode cX0_copyFrom 145 = .ok (.invokestatic 58, 3) := by decide +kernel
theorem dX0_copyFrom_148 : decode cX0_copyFrom 148 = .ok (.aload_n 0, 1) := by decide +kernel
theorem dX0_copyFrom_149 : decode cX0_copyFrom 149 = .ok (.aload_n 1, 1) := by decide +kernel
theorem dX0_copyFrom_150 : decode cX0_copyFrom 150 = .ok (.getfield 45, 3) := by decide +kernel
theorem dX0_copyFrom_153 : decode cX0_copyFrom 153 = .ok (.putfield 45, 3) := by decide +kernel
theorem dX0_copyFrom_156 : decode cX0_copyFrom 156 = .ok (.aload_n 0, 1) := by decide +kernel
theorem dX0_copyFrom_157 : decode cX0_copyFrom 157 = .ok (.aload_n 1, 1) := by decide +kernel
theorem dX0_copyFrom_158 : decode cX0_copyFrom 158 = .ok (.getfield 49, 3) := by decide +kernel
theorem dX0_copyFrom_161 : decode cX0_copyFrom 161 = .ok (.putfield 49, 3) := by decide +kernel
theorem dX0_copyFrom_164 : decode cX0_copyFrom 164 = .ok (.aload_n 0, 1) := by decide +kernel
theorem dX0_copyFrom_165 : decode cX0_copyFrom 165 = .ok (.aload_n 1, 1) := by decide +kernel
theorem dX0_copyFrom_166 : decode cX0_copyFrom 166 = .ok (.getfield 52, 3) := by decide +kernel
theorem dX0_copyFrom_169 : decode cX0_copyFrom 169 = .ok (.putfield 52, 3) := by decide +kernel
theorem dX0_copyFrom_172 : decode cX0_copyFrom 172 = .ok (.aload_n 0, 1) := by decide +kernel
theorem dX0_copyFrom_173 : decode cX0_copyFrom 173 = .ok (.aload_n 1, 1) := by decide +kernel
theorem dX0_copyFrom_174 : decode cX0_copyFrom 174 = .ok (.getfield 55, 3) := by decide +kernel
theorem dX0_copyFrom_177 : decode cX0_copyFrom 177 = .ok (.putfield 55, 3) := by decide +kernel
theorem dX0_copyFrom_180 : decode cX0_copyFrom 180 = .ok (.return_, 1) := by decide +kernel
theorem dX0_isLaw_0 : decode cX0_isLaw 0 = .ok (.aload_n 0, 1) := by decide +kernel
theorem dX0_isLaw_1 : decode cX0_isLaw 1 = .ok (.getfield 45, 3) := by decide +kernel
theorem dX0_isLaw_4 : decode cX0_isLaw 4 = .ok (.iconst 4, 1) := by decide +kernel
theorem dX0_isLaw_5 : decode cX0_isLaw 5 = .ok (.iload_n 1, 1) := by decide +kernel
theorem dX0_isLaw_6 : decode cX0_isLaw 6 = .ok (.imul, 1) := by decide +kernel
theorem dX0_isLaw_7 : decode cX0_isLaw 7 = .ok (.iload_n 2, 1) := by decide +kernel
theorem dX0_isLaw_8 : decode cX0_isLaw 8 = .ok (.iadd, 1) := by decide +kernel
theorem dX0_isLaw_9 : decode cX0_isLaw 9 = .ok (.ishr, 1) := by decide +kernel
theorem dX0_isLaw_10 : decode cX0_isLaw 10 = .ok (.iconst 1, 1) := by decide +kernel
theorem dX0_isLaw_11 : decode cX0_isLaw 11 = .ok (.iand, 1) := by decide +kernel
theorem dX0_isLaw_12 : decode cX0_isLaw 12 = .ok (.iconst 1, 1) := by decide +kernel
theorem dX0_isLaw_13 : decode cX0_isLaw 13 = .ok (.if_icmp .ne 7, 3) := by decide +kernel
theorem dX0_isLaw_16 : decode cX0_isLaw 16 = .ok (.iconst 1, 1) := by decide +kernel
theorem dX0_isLaw_17 : decode cX0_isLaw 17 = .ok (.goto 4, 3) := by decide +kernel
theorem dX0_isLaw_20 : decode cX0_isLaw 20 = .ok (.iconst 0, 1) := by decide +kernel
theorem dX0_isLaw_21 : decode cX0_isLaw 21 = .ok (.ireturn, 1) := by decide +kernel
theorem dX0_addLaw_0 : decode cX0_addLaw 0 = .ok (.aload_n 0, 1) := by decide +kernel
theorem dX0_addLaw_1 : decode cX0_addLaw 1 = .ok (.dup, 1) := by decide +kernel
theorem dX0_addLaw_2 : decode cX0_addLaw 2 = .ok (.getfield 45, 3) := by decide +kernel
theorem dX0_addLaw_5 : decode cX0_addLaw 5 = .ok (.iconst 1, 1) := by decide +kernel
theorem dX0_addLaw_6 : decode cX0_addLaw 6 = .ok (.iconst 4, 1) := by decide +kernel
theorem dX0_addLaw_7 : decode cX0_addLaw 7 = .ok (.iload_n 1, 1) := by decide +kernel
theorem dX0_addLaw_8 : decode cX0_addLaw 8 = .ok (.imul, 1) := by decide +kernel
theorem dX0_addLaw_9 : decode cX0_addLaw 9 = .ok (.iload_n 2, 1) := by decide +kernel
theorem dX0_addLaw_10 : decode cX0_addLaw 10 = .ok (.iadd, 1) := by decide +kernel
theorem dX0_addLaw_11 : decode cX0_addLaw 11 = .ok (.ishl, 1) := by decide +kernel
theorem dX0_addLaw_12 : decode cX0_addLaw 12 = .ok (.ior, 1) := by decide +kernel
theorem dX0_addLaw_13 : decode cX0_addLaw 13 = .ok (.putfield 45, 3) := by decide +kernel
theorem dX0_addLaw_16 : decode cX0_addLaw 16 = .ok (.return_, 1) := by decide +kernel
theorem dX0_addInspector_0 : decode cX0_addInspector 0 = .ok (.aload_n 0, 1) := by decide +kernel
theorem dX0_addInspector_1 : decode cX0_addInspector 1 = .ok (.getfield 49, 3) := by decide +kernel
theorem dX0_addInspector_4 : decode cX0_addInspector 4 = .ok (.iconst 4, 1) := by decide +kernel
theorem dX0_addInspector_5 : decode cX0_addInspector 5 = .ok (.if_icmp .ge 33, 3) := by decide +kernel
theorem dX0_addInspector_8 : decode cX0_addInspector 8 = .ok (.aload_n 0, 1) := by decide +kernel
theorem dX0_addInspector_9 : decode cX0_addInspector 9 = .ok (.getfield 15, 3) := by decide +kernel
theorem dX0_addInspector_12 : decode cX0_addInspector 12 = .ok (.aload_n 0, 1) := by decide +kernel
theorem dX0_addInspector_13 : decode cX0_addInspector 13 = .ok (.getfield 49, 3) := by decide +kernel
theorem dX0_addInspector_16 : decode cX0_addInspector 16 = .ok (.iload_n 1, 1) := by decide +kernel
theorem dX0_addInspector_17 : decode cX0_addInspector 17 = .ok (.iastore, 1) := by decide +kernel
theorem dX0_addInspector_18 : decode cX0_addInspector 18 = .ok (.aload_n 0, 1) := by decide +kernel
theorem dX0_addInspector_19 : decode cX0_addInspector 19 = .ok (.getfield 18, 3) := by decide +kernel
theorem dX0_addInspector_22 : decode cX0_addInspector 22 = .ok (.aload_n 0, 1) := by decide +kernel
theorem dX0_addInspector_23 : decode cX0_addInspector 23 = .ok (.getfield 49, 3) := by decide +kernel
theorem dX0_addInspector_26 : decode cX0_addInspector 26 = .ok (.iload_n 2, 1) := by decide +kernel
theorem dX0_addInspector_27 : decode cX0_addInspector 27 = .ok (.iastore, 1) := by decide +kernel
theorem dX0_addInspector_28 : decode cX0_addInspector 28 = .ok (.aload_n 0, 1) := by decide +kernel
theorem dX0_addInspector_29 : decode cX0_addInspector 29 = .ok (.dup, 1) := by decide +kernel
theorem dX0_addInspector_30 : decode cX0_addInspector 30 = .ok (.getfield 49, 3) := by decide +kernel
theorem dX0_addInspector_33 : decode cX0_addInspector 33 = .ok (.iconst 1, 1) := by decide +kernel
theorem dX0_addInspector_34 : decode cX0_addInspector 34 = .ok (.iadd, 1) := by decide +kernel
theorem dX0_addInspector_35 : decode cX0_addInspector 35 = .ok (.putfield 49, 3) := by decide +kernel
theorem dX0_addInspector_38 : decode cX0_addInspector 38 = .ok (.return_, 1) := by decide +kernel
theorem dX0_addMark_0 : decode cX0_addMark 0 = .ok (.aload_n 0, 1) := by decide +kernel
theorem dX0_addMark_1 : decode cX0_addMark 1 = .ok (.getfield 52, 3) := by decide +kernel
theorem dX0_addMark_4 : decode cX0_addMark 4 = .ok (.bipush 8, 2) := by decide +kernel
theorem dX0_addMark_6 : decode cX0_addMark 6 = .ok (.if_icmp .ge 85, 3) := by decide +kernel
theorem dX0_addMark_9 : decode cX0_addMark 9 = .ok (.aload_n 0, 1) := by decide +kernel
theorem dX0_addMark_10 : decode cX0_addMark 10 = .ok (.iconst (-1), 1) := by decide +kernel
theorem dX0_addMark_11 : decode cX0_addMark 11 = .ok (.iconst (-1), 1) := by decide +kernel
theorem dX0_addMark_12 : decode cX0_addMark 12 = .ok (.invokevirtual 64, 3) := by decide +kernel
theorem dX0_addMark_15 : decode cX0_addMark 15 = .ok (.aload_n 0, 1) := by decide +kernel
theorem dX0_addMark_16 : decode cX0_addMark 16 = .ok (.getfield 21, 3) := by decide +kernel
theorem dX0_addMark_19 : decode cX0_addMark 19 = .ok (.aload_n 0, 1) := by decide +kernel
theorem dX0_addMark_20 : decode cX0_addMark 20 = .ok (.getfield 52, 3) := by decide +kernel
theorem dX0_addMark_23 : decode cX0_addMark 23 = .ok (.iload_n 1, 1) := by decide +kernel
theorem dX0_addMark_24 : decode cX0_addMark 24 = .ok (.iastore, 1) := by decide +kernel
theorem dX0_addMark_25 : decode cX0_addMark 25 = .ok (.aload_n 0, 1) := by decide +kernel
theorem dX0_addMark_26 : decode cX0_addMark 26 = .ok (.getfield 24, 3) := by decide +kernel
theorem dX0_addMark_29 : decode cX0_addMark 29 = .ok (.aload_n 0, 1) := by decide +kernel
theorem dX0_addMark_30 : decode cX0_addMark 30 = .ok (.getfield 52, 3) := by decide +kernel
theorem dX0_addMark_33 : decode cX0_addMark 33 = .ok (.iload_n 2, 1) := by decide +kernel
theorem dX0_addMark_34 : decode cX0_addMark 34 = .ok (.iastore, 1) := by decide +kernel
theorem dX0_addMark_35 : decode cX0_addMark 35 = .ok (.aload_n 0, 1) := by decide +kernel
theorem dX0_addMark_36 : decode cX0_addMark 36 = .ok (.getfield 27, 3) := by decide +kernel
theorem dX0_addMark_39 : decode cX0_addMark 39 = .ok (.aload_n 0, 1) := by decide +kernel
theorem dX0_addMark_40 : decode cX0_addMark 40 = .ok (.getfield 52, 3) := by decide +kernel
theorem dX0_addMark_43 : decode cX0_addMark 43 = .ok (.iload_n 3, 1) := by decide +kernel
theorem dX0_addMark_44 : decode cX0_addMark 44 = .ok (.iastore, 1) := by decide +kernel
theorem dX0_addMark_45 : decode cX0_addMark 45 = .ok (.aload_n 0, 1) := by decide +kernel
theorem dX0_addMark_46 : decode cX0_addMark 46 = .ok (.getfield 30, 3) := by decide +kernel
theorem dX0_addMark_49 : decode cX0_addMark 49 = .ok (.aload_n 0, 1) := by decide +kernel
theorem dX0_addMark_50 : decode cX0_addMark 50 = .ok (.getfield 52, 3) := by decide +kernel
theorem dX0_addMark_53 : decode cX0_addMark 53 = .ok (.iload 4, 2) := by decide +kernel
theorem dX0_addMark_55 : decode cX0_addMark 55 = .ok (.iastore, 1) := by decide +kernel
theorem dX0_addMark_56 : decode cX0_addMark 56 = .ok (.aload_n 0, 1) := by decide +kernel
theorem dX0_addMark_57 : decode cX0_addMark 57 = .ok (.getfield 33, 3) := by decide +kernel
theorem dX0_addMark_60 : decode cX0_addMark 60 = .ok (.aload_n 0, 1) := by decide +kernel
theorem dX0_addMark_61 : decode cX0_addMark 61 = .ok (.getfield 52, 3) := by decide +kernel
theorem dX0_addMark_64 : decode cX0_addMark 64 = .ok (.aload_n 0, 1) := by decide +kernel
theorem dX0_addMark_65 : decode cX0_addMark 65 = .ok (.getfield 18, 3) := by decide +kernel
theorem dX0_addMark_68 : decode cX0_addMark 68 = .ok (.iload_n 1, 1) := by decide +kernel
theorem dX0_addMark_69 : decode cX0_addMark 69 = .ok (.iaload, 1) := by decide +kernel
theorem dX0_addMark_70 : decode cX0_addMark 70 = .ok (.iastore, 1) := by decide +kernel
theorem dX0_addMark_71 : decode cX0_addMark 71 = .ok (.aload_n 0, 1) := by decide +kernel
theorem dX0_addMark_72 : decode cX0_addMark 72 = .ok (.getfield 18, 3) := by decide +kernel
theorem dX0_addMark_75 : decode cX0_addMark 75 = .ok (.iload_n 1, 1) := by decide +kernel
theorem dX0_addMark_76 : decode cX0_addMark 76 = .ok (.dup2, 1) := by decide +kernel
theorem dX0_addMark_77 : decode cX0_addMark 77 = .ok (.iaload, 1) := by decide +kernel
theorem dX0_addMark_78 : decode cX0_addMark 78 = .ok (.iconst 1, 1) := by decide +kernel
theorem dX0_addMark_79 : decode cX0_addMark 79 = .ok (.iadd, 1) := by decide +kernel
theorem dX0_addMark_80 : decode cX0_addMark 80 = .ok (.iastore, 1) := by decide +kernel
theorem dX0_addMark_81 : decode cX0_addMark 81 = .ok (.aload_n 0, 1) := by decide +kernel
theorem dX0_addMark_82 : decode cX0_addMark 82 = .ok (.dup, 1) := by decide +kernel
theorem dX0_addMark_83 : decode cX0_addMark 83 = .ok (.getfield 52, 3) := by decide +kernel
theorem dX0_addMark_86 : decode cX0_addMark 86 = .ok (.iconst 1, 1) := by decide +kernel
theorem dX0_addMark_87 : decode cX0_addMark 87 = .ok (.iadd, 1) := by decide +kernel
theorem dX0_addMark_88 : decode cX0_addMark 88 = .ok (.putfield 52, 3) := by decide +kernel
theorem dX0_addMark_91 : decode cX0_addMark 91 = .ok (.return_, 1) := by decide +kernel
theorem dX0_learn_0 : decode cX0_learn 0 = .ok (.aload_n 0, 1) := by decide +kernel
theorem dX0_learn_1 : decode cX0_learn 1 = .ok (.iload_n 1, 1) := by decide +kernel
theorem dX0_learn_2 : decode cX0_learn 2 = .ok (.aload_n 0, 1) := by decide +kernel
theorem dX0_learn_3 : decode cX0_learn 3 = .ok (.getfield 9, 3) := by decide +kernel
theorem dX0_learn_6 : decode cX0_learn 6 = .ok (.iload_n 1, 1) := by decide +kernel
theorem dX0_learn_7 : decode cX0_learn 7 = .ok (.iaload, 1) := by decide +kernel
theorem dX0_learn_8 : decode cX0_learn 8 = .ok (.invokevirtual 64, 3) := by decide +kernel
theorem dX0_learn_11 : decode cX0_learn 11 = .ok (.aload_n 0, 1) := by decide +kernel
theorem dX0_learn_12 : decode cX0_learn 12 = .ok (.getfield 9, 3) := by decide +kernel
theorem dX0_learn_15 : decode cX0_learn 15 = .ok (.iload_n 1, 1) := by decide +kernel
theorem dX0_learn_16 : decode cX0_learn 16 = .ok (.iload_n 2, 1) := by decide +kernel
theorem dX0_learn_17 : decode cX0_learn 17 = .ok (.iastore, 1) := by decide +kernel
theorem dX0_learn_18 : decode cX0_learn 18 = .ok (.return_, 1) := by decide +kernel
theorem dX0_knownDays_0 : decode cX0_knownDays 0 = .ok (.iconst 0, 1) := by decide +kernel
theorem dX0_knownDays_1 : decode cX0_knownDays 1 = .ok (.istore_n 1, 1) := by decide +kernel
theorem dX0_knownDays_2 : decode cX0_knownDays 2 = .ok (.iconst 0, 1) := by decide +kernel
theorem dX0_knownDays_3 : decode cX0_knownDays 3 = .ok (.istore_n 2, 1) := by decide +kernel
theorem dX0_knownDays_4 : decode cX0_knownDays 4 = .ok (.iload_n 2, 1) := by decide +kernel
theorem dX0_knownDays_5 : decode cX0_knownDays 5 = .ok (.bipush 6, 2) := by decide +kernel
theorem dX0_knownDays_7 : decode cX0_knownDays 7 = .ok (.if_icmp .ge 22, 3) := by decide +kernel
theorem dX0_knownDays_10 : decode cX0_knownDays 10 = .ok (.aload_n 0, 1) := by decide +kernel
theorem dX0_knownDays_11 : decode cX0_knownDays 11 = .ok (.getfield 9, 3) := by decide +kernel
theorem dX0_knownDays_14 : decode cX0_knownDays 14 = .ok (.iload_n 2, 1) := by decide +kernel
theorem dX0_knownDays_15 : decode cX0_knownDays 15 = .ok (.iaload, 1) := by decide +kernel
theorem dX0_knownDays_16 : decode cX0_knownDays 16 = .ok (.iconst (-1), 1) := by decide +kernel
theorem dX0_knownDays_17 : decode cX0_knownDays 17 = .ok (.if_icmp .eq 6, 3) := by decide +kernel
theorem dX0_knownDays_20 : decode cX0_knownDays 20 = .ok (.iinc 1 1, 3) := by decide +kernel
theorem dX0_knownDays_23 : decode cX0_knownDays 23 = .ok (.iinc 2 1, 3) := by decide +kernel
theorem dX0_knownDays_26 : decode cX0_knownDays 26 = .ok (.goto (-22), 3) := by decide +kernel
theorem dX0_knownDays_29 : decode cX0_knownDays 29 = .ok (.iload_n 1, 1) := by decide +kernel
theorem dX0_knownDays_30 : decode cX0_knownDays 30 = .ok (.ireturn, 1) := by decide +kernel
theorem dX0_remember_0 : decode cX0_remember 0 = .ok (.aload_n 0, 1) := by decide +kernel
theorem dX0_remember_1 : decode cX0_remember 1 = .ok (.getfield 55, 3) := by decide +kernel
theorem dX0_remember_4 : decode cX0_remember 4 = .ok (.bipush 8, 2) := by decide +kernel
theorem dX0_remember_6 : decode cX0_remember 6 = .ok (.if_icmp .lt 7, 3) := by decide +kernel
theorem dX0_remember_9 : decode cX0_remember 9 = .ok (.aload_n 0, 1) := by decide +kernel
theorem dX0_remember_10 : decode cX0_remember 10 = .ok (.invokevirtual 68, 3) := by decide +kernel
theorem dX0_remember_13 : decode cX0_remember 13 = .ok (.aload_n 0, 1) := by decide +kernel
theorem dX0_remember_14 : decode cX0_remember 14 = .ok (.getfield 36, 3) := by decide +kernel
theorem dX0_remember_17 : decode cX0_remember 17 = .ok (.aload_n 0, 1) := by decide +kernel
theorem dX0_remember_18 : decode cX0_remember 18 = .ok (.getfield 55, 3) := by decide +kernel
theorem dX0_remember_21 : decode cX0_remember 21 = .ok (.iload_n 1, 1) := by decide +kernel
theorem dX0_remember_22 : decode cX0_remember 22 = .ok (.iastore, 1) := by decide +kernel
theorem dX0_remember_23 : decode cX0_remember 23 = .ok (.aload_n 0, 1) := by decide +kernel
theorem dX0_remember_24 : decode cX0_remember 24 = .ok (.getfield 39, 3) := by decide +kernel
theorem dX0_remember_27 : decode cX0_remember 27 = .ok (.aload_n 0, 1) := by decide +kernel
theorem dX0_remember_28 : decode cX0_remember 28 = .ok (.getfield 55, 3) := by decide +kernel
theorem dX0_remember_31 : decode cX0_remember 31 = .ok (.iload_n 2, 1) := by decide +kernel
theorem dX0_remember_32 : decode cX0_remember 32 = .ok (.iastore, 1) := by decide +kernel
theorem dX0_remember_33 : decode cX0_remember 33 = .ok (.aload_n 0, 1) := by decide +kernel
theorem dX0_remember_34 : decode cX0_remember 34 = .ok (.dup, 1) := by decide +kernel
theorem dX0_remember_35 : decode cX0_remember 35 = .ok (.getfield 55, 3) := by decide +kernel
theorem dX0_remember_38 : decode cX0_remember 38 = .ok (.iconst 1, 1) := by decide +kernel
theorem dX0_remember_39 : decode cX0_remember 39 = .ok (.iadd, 1) := by decide +kernel
theorem dX0_remember_40 : decode cX0_remember 40 = .ok (.putfield 55, 3) := by decide +kernel
theorem dX0_remember_43 : decode cX0_remember 43 = .ok (.return_, 1) := by decide +kernel
theorem dX0_forgetOldest_0 : decode cX0_forgetOldest 0 = .ok (.iconst 1, 1) := by decide +kernel
theorem dX0_forgetOldest_1 : decode cX0_forgetOldest 1 = .ok (.istore_n 1, 1) := by decide +kernel
theorem dX0_forgetOldest_2 : decode cX0_forgetOldest 2 = .ok (.iload_n 1, 1) := by decide +kernel
theorem dX0_forgetOldest_3 : decode cX0_forgetOldest 3 = .ok (.bipush 8, 2) := by decide +kernel
theorem dX0_forgetOldest_5 : decode cX0_forgetOldest 5 = .ok (.if_icmp .ge 37, 3) := by decide +kernel
theorem dX0_forgetOldest_8 : decode cX0_forgetOldest 8 = .ok (.aload_n 0, 1) := by decide +kernel
theorem dX0_forgetOldest_9 : decode cX0_forgetOldest 9 = .ok (.getfield 36, 3) := by decide +kernel
theorem dX0_forgetOldest_12 : decode cX0_forgetOldest 12 = .ok (.iload_n 1, 1) := by decide +kernel
theorem dX0_forgetOldest_13 : decode cX0_forgetOldest 13 = .ok (.iconst 1, 1) := by decide +kernel
theorem dX0_forgetOldest_14 : decode cX0_forgetOldest 14 = .ok (.isub, 1) := by decide +kernel
theorem dX0_forgetOldest_15 : decode cX0_forgetOldest 15 = .ok (.aload_n 0, 1) := by decide +kernel
theorem dX0_forgetOldest_16 : decode cX0_forgetOldest 16 = .ok (.getfield 36, 3) := by decide +kernel
theorem dX0_forgetOldest_19 : decode cX0_forgetOldest 19 = .ok (.iload_n 1, 1) := by decide +kernel
theorem dX0_forgetOldest_20 : decode cX0_forgetOldest 20 = .ok (.iaload, 1) := by decide +kernel
theorem dX0_forgetOldest_21 : decode cX0_forgetOldest 21 = .ok (.iastore, 1) := by decide +kernel
theorem dX0_forgetOldest_22 : decode cX0_forgetOldest 22 = .ok (.aload_n 0, 1) := by decide +kernel
theorem dX0_forgetOldest_23 : decode cX0_forgetOldest 23 = .ok (.getfield 39, 3) := by decide +kernel
theorem dX0_forgetOldest_26 : decode cX0_forgetOldest 26 = .ok (.iload_n 1, 1) := by decide +kernel
theorem dX0_forgetOldest_27 : decode cX0_forgetOldest 27 = .ok (.iconst 1, 1) := by decide +kernel
theorem dX0_forgetOldest_28 : decode cX0_forgetOldest 28 = .ok (.isub, 1) := by decide +kernel
theorem dX0_forgetOldest_29 : decode cX0_forgetOldest 29 = .ok (.aload_n 0, 1) := by decide +kernel
theorem dX0_forgetOldest_30 : decode cX0_forgetOldest 30 = .ok (.getfield 39, 3) := by decide +kernel
theorem dX0_forgetOldest_33 : decode cX0_forgetOldest 33 = .ok (.iload_n 1, 1) := by decide +kernel
theorem dX0_forgetOldest_34 : decode cX0_forgetOldest 34 = .ok (.iaload, 1) := by decide +kernel
theorem dX0_forgetOldest_35 : decode cX0_forgetOldest 35 = .ok (.iastore, 1) := by decide +kernel
theorem dX0_forgetOldest_36 : decode cX0_forgetOldest 36 = .ok (.iinc 1 1, 3) := by decide +kernel
theorem dX0_forgetOldest_39 : decode cX0_forgetOldest 39 = .ok (.goto (-37), 3) := by decide +kernel
theorem dX0_forgetOldest_42 : decode cX0_forgetOldest 42 = .ok (.aload_n 0, 1) := by decide +kernel
theorem dX0_forgetOldest_43 : decode cX0_forgetOldest 43 = .ok (.bipush 7, 2) := by decide +kernel
theorem dX0_forgetOldest_45 : decode cX0_forgetOldest 45 = .ok (.putfield 55, 3) := by decide +kernel
theorem dX0_forgetOldest_48 : decode cX0_forgetOldest 48 = .ok (.return_, 1) := by decide +kernel
theorem dX0_takeBack_0 : decode cX0_takeBack 0 = .ok (.aload_n 0, 1) := by decide +kernel
theorem dX0_takeBack_1 : decode cX0_takeBack 1 = .ok (.getfield 55, 3) := by decide +kernel
theorem dX0_takeBack_4 : decode cX0_takeBack 4 = .ok (.ifCond .le 52, 3) := by decide +kernel
theorem dX0_takeBack_7 : decode cX0_takeBack 7 = .ok (.aload_n 0, 1) := by decide +kernel
theorem dX0_takeBack_8 : decode cX0_takeBack 8 = .ok (.dup, 1) := by decide +kernel
theorem dX0_takeBack_9 : decode cX0_takeBack 9 = .ok (.getfield 55, 3) := by decide +kernel
theorem dX0_takeBack_12 : decode cX0_takeBack 12 = .ok (.iconst 1, 1) := by decide +kernel
theorem dX0_takeBack_13 : decode cX0_takeBack 13 = .ok (.isub, 1) := by decide +kernel
theorem dX0_takeBack_14 : decode cX0_takeBack 14 = .ok (.putfield 55, 3) := by decide +kernel
theorem dX0_takeBack_17 : decode cX0_takeBack 17 = .ok (.aload_n 0, 1) := by decide +kernel
theorem dX0_takeBack_18 : decode cX0_takeBack 18 = .ok (.getfield 36, 3) := by decide +kernel
theorem dX0_takeBack_21 : decode cX0_takeBack 21 = .ok (.aload_n 0, 1) := by decide +kernel
theorem dX0_takeBack_22 : decode cX0_takeBack 22 = .ok (.getfield 55, 3) := by decide +kernel
theorem dX0_takeBack_25 : decode cX0_takeBack 25 = .ok (.iaload, 1) := by decide +kernel
theorem dX0_takeBack_26 : decode cX0_takeBack 26 = .ok (.istore_n 1, 1) := by decide +kernel
theorem dX0_takeBack_27 : decode cX0_takeBack 27 = .ok (.iload_n 1, 1) := by decide +kernel
theorem dX0_takeBack_28 : decode cX0_takeBack 28 = .ok (.invokestatic 71, 3) := by decide +kernel
theorem dX0_takeBack_31 : decode cX0_takeBack 31 = .ok (.ifCond .eq 21, 3) := by decide +kernel
theorem dX0_takeBack_34 : decode cX0_takeBack 34 = .ok (.aload_n 0, 1) := by decide +kernel
theorem dX0_takeBack_35 : decode cX0_takeBack 35 = .ok (.getfield 9, 3) := by decide +kernel
theorem dX0_takeBack_38 : decode cX0_takeBack 38 = .ok (.iload_n 1, 1) := by decide +kernel
theorem dX0_takeBack_39 : decode cX0_takeBack 39 = .ok (.aload_n 0, 1) := by decide +kernel
theorem dX0_takeBack_40 : decode cX0_takeBack 40 = .ok (.getfield 39, 3) := by decide +kernel
theorem dX0_takeBack_43 : decode cX0_takeBack 43 = .ok (.aload_n 0, 1) := by decide +kernel
theorem dX0_takeBack_44 : decode cX0_takeBack 44 = .ok (.getfield 55, 3) := by decide +kernel
theorem dX0_takeBack_47 : decode cX0_takeBack 47 = .ok (.iaload, 1) := by decide +kernel
theorem dX0_takeBack_48 : decode cX0_takeBack 48 = .ok (.iastore, 1) := by decide +kernel
theorem dX0_takeBack_49 : decode cX0_takeBack 49 = .ok (.goto 7, 3) := by decide +kernel
theorem dX0_takeBack_52 : decode cX0_takeBack 52 = .ok (.aload_n 0, 1) := by decide +kernel
theorem dX0_takeBack_53 : decode cX0_takeBack 53 = .ok (.invokevirtual 75, 3) := by decide +kernel
theorem dX0_takeBack_56 : decode cX0_takeBack 56 = .ok (.return_, 1) := by decide +kernel
theorem dX0_dropLastMark_0 : decode cX0_dropLastMark 0 = .ok (.aload_n 0, 1) := by decide +kernel
theorem dX0_dropLastMark_1 : decode cX0_dropLastMark 1 = .ok (.getfield 52, 3) := by decide +kernel
theorem dX0_dropLastMark_4 : decode cX0_dropLastMark 4 = .ok (.ifCond .le 36, 3) := by decide +kernel
theorem dX0_dropLastMark_7 : decode cX0_dropLastMark 7 = .ok (.aload_n 0, 1) := by decide +kernel
theorem dX0_dropLastMark_8 : decode cX0_dropLastMark 8 = .ok (.dup, 1) := by decide +kernel
theorem dX0_dropLastMark_9 : decode cX0_dropLastMark 9 = .ok (.getfield 52, 3) := by decide +kernel
theorem dX0_dropLastMark_12 : decode cX0_dropLastMark 12 = .ok (.iconst 1, 1) := by decide +kernel
theorem dX0_dropLastMark_13 : decode cX0_dropLastMark 13 = .ok (.isub, 1) := by decide +kernel
theorem dX0_dropLastMark_14 : decode cX0_dropLastMark 14 = .ok (.putfield 52, 3) := by decide +kernel
theorem dX0_dropLastMark_17 : decode cX0_dropLastMark 17 = .ok (.aload_n 0, 1) := by decide +kernel
theorem dX0_dropLastMark_18 : decode cX0_dropLastMark 18 = .ok (.getfield 18, 3) := by decide +kernel
theorem dX0_dropLastMark_21 : decode cX0_dropLastMark 21 = .ok (.aload_n 0, 1) := by decide +kernel
theorem dX0_dropLastMark_22 : decode cX0_dropLastMark 22 = .ok (.getfield 21, 3) := by decide +kernel
theorem dX0_dropLastMark_25 : decode cX0_dropLastMark 25 = .ok (.aload_n 0, 1) := by decide +kernel
theorem dX0_dropLastMark_26 : decode cX0_dropLastMark 26 = .ok (.getfield 52, 3) := by decide +kernel
theorem dX0_dropLastMark_29 : decode cX0_dropLastMark 29 = .ok (.iaload, 1) := by decide +kernel
theorem dX0_dropLastMark_30 : decode cX0_dropLastMark 30 = .ok (.aload_n 0, 1) := by decide +kernel
theorem dX0_dropLastMark_31 : decode cX0_dropLastMark 31 = .ok (.getfield 33, 3) := by decide +kernel
theorem dX0_dropLastMark_34 : decode cX0_dropLastMark 34 = .ok (.aload_n 0, 1) := by decide +kernel
theorem dX0_dropLastMark_35 : decode cX0_dropLastMark 35 = .ok (.getfield 52, 3) := by decide +kernel
theorem dX0_dropLastMark_38 : decode cX0_dropLastMark 38 = .ok (.iaload, 1) := by decide +kernel
theorem dX0_dropLastMark_39 : decode cX0_dropLastMark 39 = .ok (.iastore, 1) := by decide +kernel
theorem dX0_dropLastMark_40 : decode cX0_dropLastMark 40 = .ok (.return_, 1) := by decide +kernel
theorem dX0_allows_0 : decode cX0_allows 0 = .ok (.aload_n 0, 1) := by decide +kernel
theorem dX0_allows_1 : decode cX0_allows 1 = .ok (.getfield 9, 3) := by decide +kernel
theorem dX0_allows_4 : decode cX0_allows 4 = .ok (.iload_n 1, 1) := by decide +kernel
theorem dX0_allows_5 : decode cX0_allows 5 = .ok (.iaload, 1) := by decide +kernel
theorem dX0_allows_6 : decode cX0_allows 6 = .ok (.iconst (-1), 1) := by decide +kernel
theorem dX0_allows_7 : decode cX0_allows 7 = .ok (.if_icmp .eq 13, 3) := by decide +kernel
theorem dX0_allows_10 : decode cX0_allows 10 = .ok (.aload_n 0, 1) := by decide +kernel
theorem dX0_allows_11 : decode cX0_allows 11 = .ok (.getfield 9, 3) := by decide +kernel
theorem dX0_allows_14 : decode cX0_allows 14 = .ok (.iload_n 1, 1) := by decide +kernel
theorem dX0_allows_15 : decode cX0_allows 15 = .ok (.iaload, 1) := by decide +kernel
theorem dX0_allows_16 : decode cX0_allows 16 = .ok (.iload_n 2, 1) := by decide +kernel
theorem dX0_allows_17 : decode cX0_allows 17 = .ok (.if_icmp .ne 7, 3) := by decide +kernel
theorem dX0_allows_20 : decode cX0_allows 20 = .ok (.iconst 1, 1) := by decide +kernel
theorem dX0_allows_21 : decode cX0_allows 21 = .ok (.goto 4, 3) := by decide +kernel
theorem dX0_allows_24 : decode cX0_allows 24 = .ok (.iconst 0, 1) := by decide +kernel
theorem dX0_allows_25 : decode cX0_allows 25 = .ok (.ireturn, 1) := by decide +kernel
theorem dX0_missed_0 : decode cX0_missed 0 = .ok (.iconst 0, 1) := by decide +kernel
theorem dX0_missed_1 : decode cX0_missed 1 = .ok (.istore_n 3, 1) := by decide +kernel
theorem dX0_missed_2 : decode cX0_missed 2 = .ok (.iconst 0, 1) := by decide +kernel
theorem dX0_missed_3 : decode cX0_missed 3 = .ok (.istore 4, 2) := by decide +kernel
theorem dX0_missed_5 : decode cX0_missed 5 = .ok (.iload 4, 2) := by decide +kernel
theorem dX0_missed_7 : decode cX0_missed 7 = .ok (.aload_n 0, 1) := by decide +kernel
theorem dX0_missed_8 : decode cX0_missed 8 = .ok (.getfield 52, 3) := by decide +kernel
theorem dX0_missed_11 : decode cX0_missed 11 = .ok (.if_icmp .ge 44, 3) := by decide +kernel
theorem dX0_missed_14 : decode cX0_missed 14 = .ok (.aload_n 0, 1) := by decide +kernel
theorem dX0_missed_15 : decode cX0_missed 15 = .ok (.getfield 24, 3) := by decide +kernel
theorem dX0_missed_18 : decode cX0_missed 18 = .ok (.iload 4, 2) := by decide +kernel
theorem dX0_missed_20 : decode cX0_missed 20 = .ok (.iaload, 1) := by decide +kernel
theorem dX0_missed_21 : decode cX0_missed 21 = .ok (.iload_n 1, 1) := by decide +kernel
theorem dX0_missed_22 : decode cX0_missed 22 = .ok (.if_icmp .ne 27, 3) := by decide +kernel
theorem dX0_missed_25 : decode cX0_missed 25 = .ok (.aload_n 0, 1) := by decide +kernel
theorem dX0_missed_26 : decode cX0_missed 26 = .ok (.iload 4, 2) := by decide +kernel
theorem dX0_missed_28 : decode cX0_missed 28 = .ok (.iload_n 2, 1) := by decide +kernel
theorem dX0_missed_29 : decode cX0_missed 29 = .ok (.invokevirtual 78, 3) := by decide +kernel
theorem dX0_missed_32 : decode cX0_missed 32 = .ok (.aload_n 0, 1) := by decide +kernel
theorem dX0_missed_33 : decode cX0_missed 33 = .ok (.getfield 30, 3) := by decide +kernel
theorem dX0_missed_36 : decode cX0_missed 36 = .ok (.iload 4, 2) := by decide +kernel
theorem dX0_missed_38 : decode cX0_missed 38 = .ok (.iaload, 1) := by decide +kernel
theorem dX0_missed_39 : decode cX0_missed 39 = .ok (.if_icmp .eq 10, 3) := by decide +kernel
theorem dX0_missed_42 : decode cX0_missed 42 = .ok (.iload_n 3, 1) := by decide +kernel
theorem dX0_missed_43 : decode cX0_missed 43 = .ok (.iconst 1, 1) := by decide +kernel
theorem dX0_missed_44 : decode cX0_missed 44 = .ok (.iload 4, 2) := by decide +kernel
theorem dX0_missed_46 : decode cX0_missed 46 = .ok (.ishl, 1) := by decide +kernel
theorem dX0_missed_47 : decode cX0_missed 47 = .ok (.ior, 1) := by decide +kernel
theorem dX0_missed_48 : decode cX0_missed 48 = .ok (.istore_n 3, 1) := by decide +kernel
theorem dX0_missed_49 : decode cX0_missed 49 = .ok (.iinc 4 1, 3) := by decide +kernel
theorem dX0_missed_52 : decode cX0_missed 52 = .ok (.goto (-47), 3) := by decide +kernel
theorem dX0_missed_55 : decode cX0_missed 55 = .ok (.iload_n 3, 1) := by decide +kernel
theorem dX0_missed_56 : decode cX0_missed 56 = .ok (.ireturn, 1) := by decide +kernel
theorem dX0_markBy_0 : decode cX0_markBy 0 = .ok (.aload_n 0, 1) := by decide +kernel
theorem dX0_markBy_1 : decode cX0_markBy 1 = .ok (.getfield 27, 3) := by decide +kernel
theorem dX0_markBy_4 : decode cX0_markBy 4 = .ok (.iload_n 1, 1) := by decide +kernel
theorem dX0_markBy_5 : decode cX0_markBy 5 = .ok (.iaload, 1) := by decide +kernel
theorem dX0_markBy_6 : decode cX0_markBy 6 = .ok (.istore_n 3, 1) := by decide +kernel
theorem dX0_markBy_7 : decode cX0_markBy 7 = .ok (.aload_n 0, 1) := by decide +kernel
theorem dX0_markBy_8 : decode cX0_markBy 8 = .ok (.getfield 15, 3) := by decide +kernel
theorem dX0_markBy_11 : decode cX0_markBy 11 = .ok (.aload_n 0, 1) := by decide +kernel
theorem dX0_markBy_12 : decode cX0_markBy 12 = .ok (.getfield 21, 3) := by decide +kernel
theorem dX0_markBy_15 : decode cX0_markBy 15 = .ok (.iload_n 1, 1) := by decide +kernel
theorem dX0_markBy_16 : decode cX0_markBy 16 = .ok (.iaload, 1) := by decide +kernel
theorem dX0_markBy_17 : decode cX0_markBy 17 = .ok (.iaload, 1) := by decide +kernel
theorem dX0_markBy_18 : decode cX0_markBy 18 = .ok (.iload_n 3, 1) := by decide +kernel
theorem dX0_markBy_19 : decode cX0_markBy 19 = .ok (.iload_n 2, 1) := by decide +kernel
theorem dX0_markBy_20 : decode cX0_markBy 20 = .ok (.invokestatic 82, 3) := by decide +kernel
theorem dX0_markBy_23 : decode cX0_markBy 23 = .ok (.aload_n 0, 1) := by decide +kernel
theorem dX0_markBy_24 : decode cX0_markBy 24 = .ok (.getfield 24, 3) := by decide +kernel
theorem dX0_markBy_27 : decode cX0_markBy 27 = .ok (.iload_n 1, 1) := by decide +kernel
theorem dX0_markBy_28 : decode cX0_markBy 28 = .ok (.iaload, 1) := by decide +kernel
theorem dX0_markBy_29 : decode cX0_markBy 29 = .ok (.iload_n 3, 1) := by decide +kernel
theorem dX0_markBy_30 : decode cX0_markBy 30 = .ok (.aload_n 0, 1) := by decide +kernel
theorem dX0_markBy_31 : decode cX0_markBy 31 = .ok (.getfield 33, 3) := by decide +kernel
theorem dX0_markBy_34 : decode cX0_markBy 34 = .ok (.iload_n 1, 1) := by decide +kernel
theorem dX0_markBy_35 : decode cX0_markBy 35 = .ok (.iaload, 1) := by decide +kernel
theorem dX0_markBy_36 : decode cX0_markBy 36 = .ok (.invokestatic 85, 3) := by decide +kernel
theorem dX0_markBy_39 : decode cX0_markBy 39 = .ok (.ireturn, 1) := by decide +kernel
theorem dX0_marksOf_0 : decode cX0_marksOf 0 = .ok (.iconst 0, 1) := by decide +kernel
theorem dX0_marksOf_1 : decode cX0_marksOf 1 = .ok (.istore_n 2, 1) := by decide +kernel
theorem dX0_marksOf_2 : decode cX0_marksOf 2 = .ok (.iconst 0, 1) := by decide +kernel
theorem dX0_marksOf_3 : decode cX0_marksOf 3 = .ok (.istore_n 3, 1) := by decide +kernel
theorem dX0_marksOf_4 : decode cX0_marksOf 4 = .ok (.iload_n 3, 1) := by decide +kernel
theorem dX0_marksOf_5 : decode cX0_marksOf 5 = .ok (.aload_n 0, 1) := by decide +kernel
theorem dX0_marksOf_6 : decode cX0_marksOf 6 = .ok (.getfield 52, 3) := by decide +kernel
theorem dX0_marksOf_9 : decode cX0_marksOf 9 = .ok (.if_icmp .ge 22, 3) := by decide +kernel
theorem dX0_marksOf_12 : decode cX0_marksOf 12 = .ok (.aload_n 0, 1) := by decide +kernel
theorem dX0_marksOf_13 : decode cX0_marksOf 13 = .ok (.getfield 24, 3) := by decide +kernel
theorem dX0_marksOf_16 : decode cX0_marksOf 16 = .ok (.iload_n 3, 1) := by decide +kernel
theorem dX0_marksOf_17 : decode cX0_marksOf 17 = .ok (.iaload, 1) := by decide +kernel
theorem dX0_marksOf_18 : decode cX0_marksOf 18 = .ok (.iload_n 1, 1) := by decide +kernel
theorem dX0_marksOf_19 : decode cX0_marksOf 19 = .ok (.if_icmp .ne 6, 3) := by decide +kernel
theorem dX0_marksOf_22 : decode cX0_marksOf 22 = .ok (.iinc 2 1, 3) := by decide +kernel
theorem dX0_marksOf_25 : decode cX0_marksOf 25 = .ok (.iinc 3 1, 3) := by decide +kernel
theorem dX0_marksOf_28 : decode cX0_marksOf 28 = .ok (.goto (-24), 3) := by decide +kernel
theorem dX0_marksOf_31 : decode cX0_marksOf 31 = .ok (.iload_n 2, 1) := by decide +kernel
theorem dX0_marksOf_32 : decode cX0_marksOf 32 = .ok (.ireturn, 1) := by decide +kernel
theorem dX0_digestOn_0 : decode cX0_digestOn 0 = .ok (.lload_n 1, 1) := by decide +kernel
theorem dX0_digestOn_1 : decode cX0_digestOn 1 = .ok (.lstore_n 3, 1) := by decide +kernel
theorem dX0_digestOn_2 : decode cX0_digestOn 2 = .ok (.iconst 0, 1) := by decide +kernel
theorem dX0_digestOn_3 : decode cX0_digestOn 3 = .ok (.istore 5, 2) := by decide +kernel
theorem dX0_digestOn_5 : decode cX0_digestOn 5 = .ok (.iload 5, 2) := by decide +kernel
theorem dX0_digestOn_7 : decode cX0_digestOn 7 = .ok (.bipush 16, 2) := by decide +kernel
theorem dX0_digestOn_9 : decode cX0_digestOn 9 = .ok (.if_icmp .ge 26, 3) := by decide +kernel
theorem dX0_digestOn_12 : decode cX0_digestOn 12 = .ok (.ldc2_w 89, 3) := by decide +kernel
theorem dX0_digestOn_15 : decode cX0_digestOn 15 = .ok (.lload_n 3, 1) := by decide +kernel
theorem dX0_digestOn_16 : decode cX0_digestOn 16 = .ok (.lmul, 1) := by decide +kernel
theorem dX0_digestOn_17 : decode cX0_digestOn 17 = .ok (.aload_n 0, 1) := by decide +kernel
theorem dX0_digestOn_18 : decode cX0_digestOn 18 = .ok (.getfield 45, 3) := by decide +kernel
theorem dX0_digestOn_21 : decode cX0_digestOn 21 = .ok (.iload 5, 2) := by decide +kernel
theorem dX0_digestOn_23 : decode cX0_digestOn 23 = .ok (.ishr, 1) := by decide +kernel
theorem dX0_digestOn_24 : decode cX0_digestOn 24 = .ok (.iconst 1, 1) := by decide +kernel
theorem dX0_digestOn_25 : decode cX0_digestOn 25 = .ok (.iand, 1) := by decide +kernel
theorem dX0_digestOn_26 : decode cX0_digestOn 26 = .ok (.i2l, 1) := by decide +kernel
theorem dX0_digestOn_27 : decode cX0_digestOn 27 = .ok (.ladd, 1) := by decide +kernel
theorem dX0_digestOn_28 : decode cX0_digestOn 28 = .ok (.lstore_n 3, 1) := by decide +kernel
theorem dX0_digestOn_29 : decode cX0_digestOn 29 = .ok (.iinc 5 1, 3) := by decide +kernel
theorem dX0_digestOn_32 : decode cX0_digestOn 32 = .ok (.goto (-27), 3) := by decide +kernel
theorem dX0_digestOn_35 : decode cX0_digestOn 35 = .ok (.iconst 0, 1) := by decide +kernel
theorem dX0_digestOn_36 : decode cX0_digestOn 36 = .ok (.istore 5, 2) := by decide +kernel
theorem dX0_digestOn_38 : decode cX0_digestOn 38 = .ok (.iload 5, 2) := by decide +kernel
theorem dX0_digestOn_40 : decode cX0_digestOn 40 = .ok (.bipush 6, 2) := by decide +kernel
theorem dX0_digestOn_42 : decode cX0_digestOn 42 = .ok (.if_icmp .ge 24, 3) := by decide +kernel
theorem dX0_digestOn_45 : decode cX0_digestOn 45 = .ok (.ldc2_w 89, 3) := by decide +kernel
theorem dX0_digestOn_48 : decode cX0_digestOn 48 = .ok (.lload_n 3, 1) := by decide +kernel
theorem dX0_digestOn_49 : decode cX0_digestOn 49 = .ok (.lmul, 1) := by decide +kernel
theorem dX0_digestOn_50 : decode cX0_digestOn 50 = .ok (.aload_n 0, 1) := by decide +kernel
theorem dX0_digestOn_51 : decode cX0_digestOn 51 = .ok (.getfield 9, 3) := by decide +kernel
theorem dX0_digestOn_54 : decode cX0_digestOn 54 = .ok (.iload 5, 2) := by decide +kernel
theorem dX0_digestOn_56 : decode cX0_digestOn 56 = .ok (.iaload, 1) := by decide +kernel
theorem dX0_digestOn_57 : decode cX0_digestOn 57 = .ok (.i2l, 1) := by decide +kernel
theorem dX0_digestOn_58 : decode cX0_digestOn 58 = .ok (.ladd, 1) := by decide +kernel
theorem dX0_digestOn_59 : decode cX0_digestOn 59 = .ok (.lstore_n 3, 1) := by decide +kernel
theorem dX0_digestOn_60 : decode cX0_digestOn 60 = .ok (.iinc 5 1, 3) := by decide +kernel
theorem dX0_digestOn_63 : decode cX0_digestOn 63 = .ok (.goto (-25), 3) := by decide +kernel
theorem dX0_digestOn_66 : decode cX0_digestOn 66 = .ok (.iconst 0, 1) := by decide +kernel
theorem dX0_digestOn_67 : decode cX0_digestOn 67 = .ok (.istore 5, 2) := by decide +kernel
theorem dX0_digestOn_69 : decode cX0_digestOn 69 = .ok (.iload 5, 2) := by decide +kernel
theorem dX0_digestOn_71 : decode cX0_digestOn 71 = .ok (.aload_n 0, 1) := by decide +kernel
theorem dX0_digestOn_72 : decode cX0_digestOn 72 = .ok (.getfield 49, 3) := by decide +kernel
theorem dX0_digestOn_75 : decode cX0_digestOn 75 = .ok (.if_icmp .ge 39, 3) := by decide +kernel
theorem dX0_digestOn_78 : decode cX0_digestOn 78 = .ok (.ldc2_w 89, 3) := by decide +kernel
theorem dX0_digestOn_81 : decode cX0_digestOn 81 = .ok (.lload_n 3, 1) := by decide +kernel
theorem dX0_digestOn_82 : decode cX0_digestOn 82 = .ok (.lmul, 1) := by decide +kernel
theorem dX0_digestOn_83 : decode cX0_digestOn 83 = .ok (.aload_n 0, 1) := by decide +kernel
theorem dX0_digestOn_84 : decode cX0_digestOn 84 = .ok (.getfield 15, 3) := by decide +kernel
theorem dX0_digestOn_87 : decode cX0_digestOn 87 = .ok (.iload 5, 2) := by decide +kernel
theorem dX0_digestOn_89 : decode cX0_digestOn 89 = .ok (.iaload, 1) := by decide +kernel
theorem dX0_digestOn_90 : decode cX0_digestOn 90 = .ok (.i2l, 1) := by decide +kernel
theorem dX0_digestOn_91 : decode cX0_digestOn 91 = .ok (.ladd, 1) := by decide +kernel
theorem dX0_digestOn_92 : decode cX0_digestOn 92 = .ok (.lstore_n 3, 1) := by decide +kernel
theorem dX0_digestOn_93 : decode cX0_digestOn 93 = .ok (.ldc2_w 89, 3) := by decide +kernel
theorem dX0_digestOn_96 : decode cX0_digestOn 96 = .ok (.lload_n 3, 1) := by decide +kernel
theorem dX0_digestOn_97 : decode cX0_digestOn 97 = .ok (.lmul, 1) := by decide +kernel
theorem dX0_digestOn_98 : decode cX0_digestOn 98 = .ok (.aload_n 0, 1) := by decide +kernel
theorem dX0_digestOn_99 : decode cX0_digestOn 99 = .ok (.getfield 18, 3) := by decide +kernel
theorem dX0_digestOn_102 : decode cX0_digestOn 102 = .ok (.iload 5, 2) := by decide +kernel
theorem dX0_digestOn_104 : decode cX0_digestOn 104 = .ok (.iaload, 1) := by decide +kernel
theorem dX0_digestOn_105 : decode cX0_digestOn 105 = .ok (.i2l, 1) := by decide +kernel
theorem dX0_digestOn_106 : decode cX0_digestOn 106 = .ok (.ladd, 1) := by decide +kernel
theorem dX0_digestOn_107 : decode cX0_digestOn 107 = .ok (.lstore_n 3, 1) := by decide +kernel
theorem dX0_digestOn_108 : decode cX0_digestOn 108 = .ok (.iinc 5 1, 3) := by decide +kernel
theorem dX0_digestOn_111 : decode cX0_digestOn 111 = .ok (.goto (-42), 3) := by decide +kernel
theorem dX0_digestOn_114 : decode cX0_digestOn 114 = .ok (.iconst 0, 1) := by decide +kernel
theorem dX0_digestOn_115 : decode cX0_digestOn 115 = .ok (.istore 5, 2) := by decide +kernel
theorem dX0_digestOn_117 : decode cX0_digestOn 117 = .ok (.iload 5, 2) := by decide +kernel
theorem dX0_digestOn_119 : decode cX0_digestOn 119 = .ok (.aload_n 0, 1) := by decide +kernel
theorem dX0_digestOn_120 : decode cX0_digestOn 120 = .ok (.getfield 52, 3) := by decide +kernel
theorem dX0_digestOn_123 : decode cX0_digestOn 123 = .ok (.if_icmp .ge 84, 3) := by decide +kernel
theorem dX0_digestOn_126 : decode cX0_digestOn 126 = .ok (.ldc2_w 89, 3) := by decide +kernel
theorem dX0_digestOn_129 : decode cX0_digestOn 129 = .ok (.lload_n 3, 1) := by decide +kernel
theorem dX0_digestOn_130 : decode cX0_digestOn 130 = .ok (.lmul, 1) := by decide +kernel
theorem dX0_digestOn_131 : decode cX0_digestOn 131 = .ok (.aload_n 0, 1) := by decide +kernel
theorem dX0_digestOn_132 : decode cX0_digestOn 132 = .ok (.getfield 21, 3) := by decide +kernel
theorem dX0_digestOn_135 : decode cX0_digestOn 135 = .ok (.iload 5, 2) := by decide +kernel
theorem dX0_digestOn_137 : decode cX0_digestOn 137 = .ok (.iaload, 1) := by decide +kernel
theorem dX0_digestOn_138 : decode cX0_digestOn 138 = .ok (.i2l, 1) := by decide +kernel
theorem dX0_digestOn_139 : decode cX0_digestOn 139 = .ok (.ladd, 1) := by decide +kernel
theorem dX0_digestOn_140 : decode cX0_digestOn 140 = .ok (.lstore_n 3, 1) := by decide +kernel
theorem dX0_digestOn_141 : decode cX0_digestOn 141 = .ok (.ldc2_w 89, 3) := by decide +kernel
theorem dX0_digestOn_144 : decode cX0_digestOn 144 = .ok (.lload_n 3, 1) := by decide +kernel
theorem dX0_digestOn_145 : decode cX0_digestOn 145 = .ok (.lmul, 1) := by decide +kernel
theorem dX0_digestOn_146 : decode cX0_digestOn 146 = .ok (.aload_n 0, 1) := by decide +kernel
theorem dX0_digestOn_147 : decode cX0_digestOn 147 = .ok (.getfield 24, 3) := by decide +kernel
theorem dX0_digestOn_150 : decode cX0_digestOn 150 = .ok (.iload 5, 2) := by decide +kernel
theorem dX0_digestOn_152 : decode cX0_digestOn 152 = .ok (.iaload, 1) := by decide +kernel
theorem dX0_digestOn_153 : decode cX0_digestOn 153 = .ok (.i2l, 1) := by decide +kernel
theorem dX0_digestOn_154 : decode cX0_digestOn 154 = .ok (.ladd, 1) := by decide +kernel
theorem dX0_digestOn_155 : decode cX0_digestOn 155 = .ok (.lstore_n 3, 1) := by decide +kernel
theorem dX0_digestOn_156 : decode cX0_digestOn 156 = .ok (.ldc2_w 89, 3) := by decide +kernel
theorem dX0_digestOn_159 : decode cX0_digestOn 159 = .ok (.lload_n 3, 1) := by decide +kernel
theorem dX0_digestOn_160 : decode cX0_digestOn 160 = .ok (.lmul, 1) := by decide +kernel
theorem dX0_digestOn_161 : decode cX0_digestOn 161 = .ok (.aload_n 0, 1) := by decide +kernel
theorem dX0_digestOn_162 : decode cX0_digestOn 162 = .ok (.getfield 27, 3) := by decide +kernel
theorem dX0_digestOn_165 : decode cX0_digestOn 165 = .ok (.iload 5, 2) := by decide +kernel
theorem dX0_digestOn_167 : decode cX0_digestOn 167 = .ok (.iaload, 1) := by decide +kernel
theorem dX0_digestOn_168 : decode cX0_digestOn 168 = .ok (.i2l, 1) := by decide +kernel
theorem dX0_digestOn_169 : decode cX0_digestOn 169 = .ok (.ladd, 1) := by decide +kernel
theorem dX0_digestOn_170 : decode cX0_digestOn 170 = .ok (.lstore_n 3, 1) := by decide +kernel
theorem dX0_digestOn_171 : decode cX0_digestOn 171 = .ok (.ldc2_w 89, 3) := by decide +kernel
theorem dX0_digestOn_174 : decode cX0_digestOn 174 = .ok (.lload_n 3, 1) := by decide +kernel
theorem dX0_digestOn_175 : decode cX0_digestOn 175 = .ok (.lmul, 1) := by decide +kernel
theorem dX0_digestOn_176 : decode cX0_digestOn 176 = .ok (.aload_n 0, 1) := by decide +kernel
theorem dX0_digestOn_177 : decode cX0_digestOn 177 = .ok (.getfield 30, 3) := by decide +kernel
theorem dX0_digestOn_180 : decode cX0_digestOn 180 = .ok (.iload 5, 2) := by decide +kernel
theorem dX0_digestOn_182 : decode cX0_digestOn 182 = .ok (.iaload, 1) := by decide +kernel
theorem dX0_digestOn_183 : decode cX0_digestOn 183 = .ok (.i2l, 1) := by decide +kernel
theorem dX0_digestOn_184 : decode cX0_digestOn 184 = .ok (.ladd, 1) := by decide +kernel
theorem dX0_digestOn_185 : decode cX0_digestOn 185 = .ok (.lstore_n 3, 1) := by decide +kernel
theorem dX0_digestOn_186 : decode cX0_digestOn 186 = .ok (.ldc2_w 89, 3) := by decide +kernel
theorem dX0_digestOn_189 : decode cX0_digestOn 189 = .ok (.lload_n 3, 1) := by decide +kernel
theorem dX0_digestOn_190 : decode cX0_digestOn 190 = .ok (.lmul, 1) := by decide +kernel
theorem dX0_digestOn_191 : decode cX0_digestOn 191 = .ok (.aload_n 0, 1) := by decide +kernel
theorem dX0_digestOn_192 : decode cX0_digestOn 192 = .ok (.getfield 33, 3) := by decide +kernel
theorem dX0_digestOn_195 : decode cX0_digestOn 195 = .ok (.iload 5, 2) := by decide +kernel
theorem dX0_digestOn_197 : decode cX0_digestOn 197 = .ok (.iaload, 1) := by decide +kernel
theorem dX0_digestOn_198 : decode cX0_digestOn 198 = .ok (.i2l, 1) := by decide +kernel
theorem dX0_digestOn_199 : decode cX0_digestOn 199 = .ok (.ladd, 1) := by decide +kernel
theorem dX0_digestOn_200 : decode cX0_digestOn 200 = .ok (.lstore_n 3, 1) := by decide +kernel
theorem dX0_digestOn_201 : decode cX0_digestOn 201 = .ok (.iinc 5 1, 3) := by decide +kernel
theorem dX0_digestOn_204 : decode cX0_digestOn 204 = .ok (.goto (-87), 3) := by decide +kernel
theorem dX0_digestOn_207 : decode cX0_digestOn 207 = .ok (.lload_n 3, 1) := by decide +kernel
theorem dX0_digestOn_208 : decode cX0_digestOn 208 = .ok (.lreturn, 1) := by decide +kernel
theorem dX1_init_0 : decode cX1_init 0 = .ok (.aload_n 0, 1) := by decide +kernel
theorem dX1_init_1 : decode cX1_init 1 = .ok (.invokespecial 3, 3) := by decide +kernel
theorem dX1_init_4 : decode cX1_init 4 = .ok (.return_, 1) := by decide +kernel
theorem dX1_makeOffice_0 : decode cX1_makeOffice 0 = .ok (.aload_n 2, 1) := by decide +kernel
theorem dX1_makeOffice_1 : decode cX1_makeOffice 1 = .ok (.invokevirtual 9, 3) := by decide +kernel
theorem dX1_makeOffice_4 : decode cX1_makeOffice 4 = .ok (.aload_n 1, 1) := by decide +kernel
theorem dX1_makeOffice_5 : decode cX1_makeOffice 5 = .ok (.invokevirtual 14, 3) := by decide +kernel
theorem dX1_makeOffice_8 : decode cX1_makeOffice 8 = .ok (.aload_n 0, 1) := by decide +kernel
theorem dX1_makeOffice_9 : decode cX1_makeOffice 9 = .ok (.iconst (-1), 1) := by decide +kernel
theorem dX1_makeOffice_10 : decode cX1_makeOffice 10 = .ok (.putfield 19, 3) := by decide +kernel
theorem dX1_makeOffice_13 : decode cX1_makeOffice 13 = .ok (.aload_n 0, 1) := by decide +kernel
theorem dX1_makeOffice_14 : decode cX1_makeOffice 14 = .ok (.iconst 0, 1) := by decide +kernel
theorem dX1_makeOffice_15 : decode cX1_makeOffice 15 = .ok (.putfield 25, 3) := by decide +kernel
theorem dX1_makeOffice_18 : decode cX1_makeOffice 18 = .ok (.aload_n 0, 1) := by decide +kernel
theorem dX1_makeOffice_19 : decode cX1_makeOffice 19 = .ok (.aload_n 1, 1) := by decide +kernel
theorem dX1_makeOffice_20 : decode cX1_makeOffice 20 = .ok (.getfield 28, 3) := by decide +kernel
theorem dX1_makeOffice_23 : decode cX1_makeOffice 23 = .ok (.aload_n 0, 1) := by decide +kernel
theorem dX1_makeOffice_24 : decode cX1_makeOffice 24 = .ok (.getfield 25, 3) := by decide +kernel
theorem dX1_makeOffice_27 : decode cX1_makeOffice 27 = .ok (.iaload, 1) := by decide +kernel
theorem dX1_makeOffice_28 : decode cX1_makeOffice 28 = .ok (.putfield 32, 3) := by decide +kernel
theorem dX1_makeOffice_31 : decode cX1_makeOffice 31 = .ok (.aload_n 0, 1) := by decide +kernel
theorem dX1_makeOffice_32 : decode cX1_makeOffice 32 = .ok (.aload_n 1, 1) := by decide +kernel
theorem dX1_makeOffice_33 : decode cX1_makeOffice 33 = .ok (.aload_n 0, 1) := by decide +kernel
theorem dX1_makeOffice_34 : decode cX1_makeOffice 34 = .ok (.getfield 32, 3) := by decide +kernel
theorem dX1_makeOffice_37 : decode cX1_makeOffice 37 = .ok (.iconst 4, 1) := by decide +kernel
theorem dX1_makeOffice_38 : decode cX1_makeOffice 38 = .ok (.if_icmp .ne 7, 3) := by decide +kernel
theorem dX1_makeOffice_41 : decode cX1_makeOffice 41 = .ok (.iconst 1, 1) := by decide +kernel
theorem dX1_makeOffice_42 : decode cX1_makeOffice 42 = .ok (.goto 4, 3) := by decide +kernel
theorem dX1_makeOffice_45 : decode cX1_makeOffice 45 = .ok (.iconst 0, 1) := by decide +kernel
theorem dX1_makeOffice_46 : decode cX1_makeOffice 46 = .ok (.invokevirtual 34, 3) := by decide +kernel
theorem dX1_makeOffice_49 : decode cX1_makeOffice 49 = .ok (.aload_n 0, 1) := by decide +kernel
theorem dX1_makeOffice_50 : decode cX1_makeOffice 50 = .ok (.aload_n 1, 1) := by decide +kernel
theorem dX1_makeOffice_51 : decode cX1_makeOffice 51 = .ok (.invokevirtual 38, 3) := by decide +kernel
theorem dX1_makeOffice_54 : decode cX1_makeOffice 54 = .ok (.iconst 1, 1) := by decide +kernel
theorem dX1_makeOffice_55 : decode cX1_makeOffice 55 = .ok (.istore_n 3, 1) := by decide +kernel
theorem dX1_makeOffice_56 : decode cX1_makeOffice 56 = .ok (.iload_n 3, 1) := by decide +kernel
theorem dX1_makeOffice_57 : decode cX1_makeOffice 57 = .ok (.sipush 150, 3) := by decide +kernel
theorem dX1_makeOffice_60 : decode cX1_makeOffice 60 = .ok (.if_icmp .gt 30, 3) := by decide +kernel
theorem dX1_makeOffice_63 : decode cX1_makeOffice 63 = .ok (.aload_n 0, 1) := by decide +kernel
theorem dX1_makeOffice_64 : decode cX1_makeOffice 64 = .ok (.getfield 19, 3) := by decide +kernel
theorem dX1_makeOffice_67 : decode cX1_makeOffice 67 = .ok (.iconst (-1), 1) := by decide +kernel
theorem dX1_makeOffice_68 : decode cX1_makeOffice 68 = .ok (.if_icmp .ne 22, 3) := by decide +kernel
theorem dX1_makeOffice_71 : decode cX1_makeOffice 71 = .ok (.aload_n 0, 1) := by decide +kernel
theorem dX1_makeOffice_72 : decode cX1_makeOffice 72 = .ok (.getfield 32, 3) := by decide +kernel
theorem dX1_makeOffice_75 : decode cX1_makeOffice 75 = .ok (.ifCond .eq 15, 3) := by decide +kernel
theorem dX1_makeOffice_78 : decode cX1_makeOffice 78 = .ok (.aload_n 0, 1) := by decide +kernel
theorem dX1_makeOffice_79 : decode cX1_makeOffice 79 = .ok (.aload_n 1, 1) := by decide +kernel
theorem dX1_makeOffice_80 : decode cX1_makeOffice 80 = .ok (.aload_n 2, 1) := by decide +kernel
theorem dX1_makeOffice_81 : decode cX1_makeOffice 81 = .ok (.invokevirtual 42, 3) := by decide +kernel
theorem dX1_makeOffice_84 : decode cX1_makeOffice 84 = .ok (.iinc 3 1, 3) := by decide +kernel
theorem dX1_makeOffice_87 : decode cX1_makeOffice 87 = .ok (.goto (-31), 3) := by decide +kernel
theorem dX1_makeOffice_90 : decode cX1_makeOffice 90 = .ok (.aload_n 0, 1) := by decide +kernel
theorem dX1_makeOffice_91 : decode cX1_makeOffice 91 = .ok (.getfield 19, 3) := by decide +kernel
theorem dX1_makeOffice_94 : decode cX1_makeOffice 94 = .ok (.iconst (-1), 1) := by decide +kernel
theorem dX1_makeOffice_95 : decode cX1_makeOffice 95 = .ok (.if_icmp .ne 7, 3) := by decide +kernel
theorem dX1_makeOffice_98 : decode cX1_makeOffice 98 = .ok (.iload_n 3, 1) := by decide +kernel
theorem dX1_makeOffice_99 : decode cX1_makeOffice 99 = .ok (.goto 10, 3) := by decide +kernel
theorem dX1_makeOffice_102 : decode cX1_makeOffice 102 = .ok (.bipush (-10), 2) := by decide +kernel
theorem dX1_makeOffice_104 : decode cX1_makeOffice 104 = .ok (.aload_n 0, 1) := by decide +kernel
theorem dX1_makeOffice_105 : decode cX1_makeOffice 105 = .ok (.getfield 19, 3) := by decide +kernel
theorem dX1_makeOffice_108 : decode cX1_makeOffice 108 = .ok (.isub, 1) := by decide +kernel
theorem dX1_makeOffice_109 : decode cX1_makeOffice 109 = .ok (.ireturn, 1) := by decide +kernel
theorem dX1_takeItem_0 : decode cX1_takeItem 0 = .ok (.aload_n 0, 1) := by decide +kernel
theorem dX1_takeItem_1 : decode cX1_takeItem 1 = .ok (.getfield 32, 3) := by decide +kernel
theorem dX1_takeItem_4 : decode cX1_takeItem 4 = .ok (.tableswitch 68 5 8 #[32, 41, 50, 59], 32) := by decide +kernel
theorem dX1_takeItem_36 : decode cX1_takeItem 36 = .ok (.aload_n 0, 1) := by decide +kernel
theorem dX1_takeItem_37 : decode cX1_takeItem 37 = .ok (.aload_n 1, 1) := by decide +kernel
theorem dX1_takeItem_38 : decode cX1_takeItem 38 = .ok (.aload_n 2, 1) := by decide +kernel
theorem dX1_takeItem_39 : decode cX1_takeItem 39 = .ok (.invokevirtual 46, 3) := by decide +kernel
theorem dX1_takeItem_42 : decode cX1_takeItem 42 = .ok (.goto 35, 3) := by decide +kernel
theorem dX1_takeItem_45 : decode cX1_takeItem 45 = .ok (.aload_n 0, 1) := by decide +kernel
theorem dX1_takeItem_46 : decode cX1_takeItem 46 = .ok (.aload_n 1, 1) := by decide +kernel
theorem dX1_takeItem_47 : decode cX1_takeItem 47 = .ok (.aload_n 2, 1) := by decide +kernel
theorem dX1_takeItem_48 : decode cX1_takeItem 48 = .ok (.invokevirtual 49, 3) := by decide +kernel
theorem dX1_takeItem_51 : decode cX1_takeItem 51 = .ok (.goto 26, 3) := by decide +kernel
theorem dX1_takeItem_54 : decode cX1_takeItem 54 = .ok (.aload_n 0, 1) := by decide +kernel
theorem dX1_takeItem_55 : decode cX1_takeItem 55 = .ok (.aload_n 1, 1) := by decide +kernel
theorem dX1_takeItem_56 : decode cX1_takeItem 56 = .ok (.aload_n 2, 1) := by decide +kernel
theorem dX1_takeItem_57 : decode cX1_takeItem 57 = .ok (.invokevirtual 52, 3) := by decide +kernel
theorem dX1_takeItem_60 : decode cX1_takeItem 60 = .ok (.goto 17, 3) := by decide +kernel
theorem dX1_takeItem_63 : decode cX1_takeItem 63 = .ok (.aload_n 0, 1) := by decide +kernel
theorem dX1_takeItem_64 : decode cX1_takeItem 64 = .ok (.aload_n 1, 1) := by decide +kernel
theorem dX1_takeItem_65 : decode cX1_takeItem 65 = .ok (.aload_n 2, 1) := by decide +kernel
theorem dX1_takeItem_66 : decode cX1_takeItem 66 = .ok (.invokevirtual 55, 3) := by decide +kernel
theorem dX1_takeItem_69 : decode cX1_takeItem 69 = .ok (.goto 8, 3) := by decide +kernel
theorem dX1_takeItem_72 : decode cX1_takeItem 72 = .ok (.aload_n 0, 1) := by decide +kernel
theorem dX1_takeItem_73 : decode cX1_takeItem 73 = .ok (.aload_n 1, 1) := by decide +kernel
theorem dX1_takeItem_74 : decode cX1_takeItem 74 = .ok (.invokevirtual 58, 3) := by decide +kernel
theorem dX1_takeItem_77 : decode cX1_takeItem 77 = .ok (.return_, 1) := by decide +kernel
theorem dX1_takeLaw_0 : decode cX1_takeLaw 0 = .ok (.aload_n 0, 1) := by decide +kernel
theorem dX1_takeLaw_1 : decode cX1_takeLaw 1 = .ok (.aload_n 1, 1) := by decide +kernel
theorem dX1_takeLaw_2 : decode cX1_takeLaw 2 = .ok (.invokevirtual 61, 3) := by decide +kernel
theorem dX1_takeLaw_5 : decode cX1_takeLaw 5 = .ok (.aload_n 0, 1) := by decide +kernel
theorem dX1_takeLaw_6 : decode cX1_takeLaw 6 = .ok (.aload_n 1, 1) := by decide +kernel
theorem dX1_takeLaw_7 : decode cX1_takeLaw 7 = .ok (.iconst 4, 1) := by decide +kernel
theorem dX1_takeLaw_8 : decode cX1_takeLaw 8 = .ok (.invokevirtual 64, 3) := by decide +kernel
theorem dX1_takeLaw_11 : decode cX1_takeLaw 11 = .ok (.istore_n 3, 1) := by decide +kernel
theorem dX1_takeLaw_12 : decode cX1_takeLaw 12 = .ok (.aload_n 0, 1) := by decide +kernel
theorem dX1_takeLaw_13 : decode cX1_takeLaw 13 = .ok (.aload_n 1, 1) := by decide +kernel
theorem dX1_takeLaw_14 : decode cX1_takeLaw 14 = .ok (.iconst 4, 1) := by decide +kernel
theorem dX1_takeLaw_15 : decode cX1_takeLaw 15 = .ok (.invokevirtual 64, 3) := by decide +kernel
theorem dX1_takeLaw_18 : decode cX1_takeLaw 18 = .ok (.istore 4, 2) := by decide +kernel
theorem dX1_takeLaw_20 : decode cX1_takeLaw 20 = .ok (.aload_n 0, 1) := by decide +kernel
theorem dX1_takeLaw_21 : decode cX1_takeLaw 21 = .ok (.aload_n 1, 1) := by decide +kernel
theorem dX1_takeLaw_22 : decode cX1_takeLaw 22 = .ok (.invokevirtual 38, 3) := by decide +kernel
theorem dX1_takeLaw_25 : decode cX1_takeLaw 25 = .ok (.aload_n 0, 1) := by decide +kernel
theorem dX1_takeLaw_26 : decode cX1_takeLaw 26 = .ok (.getfield 19, 3) := by decide +kernel
theorem dX1_takeLaw_29 : decode cX1_takeLaw 29 = .ok (.iconst (-1), 1) := by decide +kernel
theorem dX1_takeLaw_30 : decode cX1_takeLaw 30 = .ok (.if_icmp .ne 10, 3) := by decide +kernel
theorem dX1_takeLaw_33 : decode cX1_takeLaw 33 = .ok (.aload_n 2, 1) := by decide +kernel
theorem dX1_takeLaw_34 : decode cX1_takeLaw 34 = .ok (.iload_n 3, 1) := by decide +kernel
theorem dX1_takeLaw_35 : decode cX1_takeLaw 35 = .ok (.iload 4, 2) := by decide +kernel
theorem dX1_takeLaw_37 : decode cX1_takeLaw 37 = .ok (.invokevirtual 68, 3) := by decide +kernel
theorem dX1_takeLaw_40 : decode cX1_takeLaw 40 = .ok (.return_, 1) := by decide +kernel
theorem dX1_takeKnown_0 : decode cX1_takeKnown 0 = .ok (.aload_n 0, 1) := by decide +kernel
theorem dX1_takeKnown_1 : decode cX1_takeKnown 1 = .ok (.aload_n 1, 1) := by decide +kernel
theorem dX1_takeKnown_2 : decode cX1_takeKnown 2 = .ok (.invokevirtual 61, 3) := by decide +kernel
theorem dX1_takeKnown_5 : decode cX1_takeKnown 5 = .ok (.aload_n 0, 1) := by decide +kernel
theorem dX1_takeKnown_6 : decode cX1_takeKnown 6 = .ok (.aload_n 1, 1) := by decide +kernel
theorem dX1_takeKnown_7 : decode cX1_takeKnown 7 = .ok (.bipush 6, 2) := by decide +kernel
theorem dX1_takeKnown_9 : decode cX1_takeKnown 9 = .ok (.invokevirtual 64, 3) := by decide +kernel
theorem dX1_takeKnown_12 : decode cX1_takeKnown 12 = .ok (.istore_n 3, 1) := by decide +kernel
theorem dX1_takeKnown_13 : decode cX1_takeKnown 13 = .ok (.aload_n 0, 1) := by decide +kernel
theorem dX1_takeKnown_14 : decode cX1_takeKnown 14 = .ok (.aload_n 1, 1) := by decide +kernel
theorem dX1_takeKnown_15 : decode cX1_takeKnown 15 = .ok (.iconst 4, 1) := by decide +kernel
theorem dX1_takeKnown_16 : decode cX1_takeKnown 16 = .ok (.invokevirtual 64, 3) := by decide +kernel
theorem dX1_takeKnown_19 : decode cX1_takeKnown 19 = .ok (.istore 4, 2) := by decide +kernel
theorem dX1_takeKnown_21 : decode cX1_takeKnown 21 = .ok (.aload_n 0, 1) := by decide +kernel
theorem dX1_takeKnown_22 : decode cX1_takeKnown 22 = .ok (.aload_n 1, 1) := by decide +kernel
theorem dX1_takeKnown_23 : decode cX1_takeKnown 23 = .ok (.invokevirtual 38, 3) := by decide +kernel
theorem dX1_takeKnown_26 : decode cX1_takeKnown 26 = .ok (.aload_n 0, 1) := by decide +kernel
theorem dX1_takeKnown_27 : decode cX1_takeKnown 27 = .ok (.getfield 19, 3) := by decide +kernel
theorem dX1_takeKnown_30 : decode cX1_takeKnown 30 = .ok (.iconst (-1), 1) := by decide +kernel
theorem dX1_takeKnown_31 : decode cX1_takeKnown 31 = .ok (.if_icmp .ne 10, 3) := by decide +kernel
theorem dX1_takeKnown_34 : decode cX1_takeKnown 34 = .ok (.aload_n 2, 1) := by decide +kernel
theorem dX1_takeKnown_35 : decode cX1_takeKnown 35 = .ok (.iload_n 3, 1) := by decide +kernel
theorem dX1_takeKnown_36 : decode cX1_takeKnown 36 = .ok (.iload 4, 2) := by decide +kernel
theorem dX1_takeKnown_38 : decode cX1_takeKnown 38 = .ok (.invokevirtual 72, 3) := by decide +kernel
theorem dX1_takeKnown_41 : decode cX1_takeKnown 41 = .ok (.return_, 1) := by decide +kernel
theorem dX1_takeInspector_0 : decode cX1_takeInspector 0 = .ok (.aload_n 0, 1) := by decide +kernel
theorem dX1_takeInspector_1 : decode cX1_takeInspector 1 = .ok (.aload_n 1, 1) := by decide +kernel
theorem dX1_takeInspector_2 : decode cX1_takeInspector 2 = .ok (.aload_n 2, 1) := by decide +kernel
theorem dX1_takeInspector_3 : decode cX1_takeInspector 3 = .ok (.getfield 75, 3) := by decide +kernel
theorem dX1_takeInspector_6 : decode cX1_takeInspector 6 = .ok (.iconst 4, 1) := by decide +kernel
theorem dX1_takeInspector_7 : decode cX1_takeInspector 7 = .ok (.if_icmp .ge 7, 3) := by decide +kernel
theorem dX1_takeInspector_10 : decode cX1_takeInspector 10 = .ok (.iconst 1, 1) := by decide +kernel
theorem dX1_takeInspector_11 : decode cX1_takeInspector 11 = .ok (.goto 4, 3) := by decide +kernel
theorem dX1_takeInspector_14 : decode cX1_takeInspector 14 = .ok (.iconst 0, 1) := by decide +kernel
theorem dX1_takeInspector_15 : decode cX1_takeInspector 15 = .ok (.invokevirtual 34, 3) := by decide +kernel
theorem dX1_takeInspector_18 : decode cX1_takeInspector 18 = .ok (.aload_n 0, 1) := by decide +kernel
theorem dX1_takeInspector_19 : decode cX1_takeInspector 19 = .ok (.aload_n 1, 1) := by decide +kernel
theorem dX1_takeInspector_20 : decode cX1_takeInspector 20 = .ok (.bipush 6, 2) := by decide +kernel
theorem dX1_takeInspector_22 : decode cX1_takeInspector 22 = .ok (.invokevirtual 64, 3) := by decide +kernel
theorem dX1_takeInspector_25 : decode cX1_takeInspector 25 = .ok (.istore_n 3, 1) := by decide +kernel
theorem dX1_takeInspector_26 : decode cX1_takeInspector 26 = .ok (.aload_n 0, 1) := by decide +kernel
theorem dX1_takeInspector_27 : decode cX1_takeInspector 27 = .ok (.aload_n 1, 1) := by decide +kernel
theorem dX1_takeInspector_28 : decode cX1_takeInspector 28 = .ok (.bipush 10, 2) := by decide +kernel
theorem dX1_takeInspector_30 : decode cX1_takeInspector 30 = .ok (.invokevirtual 64, 3) := by decide +kernel
theorem dX1_takeInspector_33 : decode cX1_takeInspector 33 = .ok (.istore 4, 2) := by decide +kernel
theorem dX1_takeInspector_35 : decode cX1_takeInspector 35 = .ok (.aload_n 0, 1) := by decide +kernel
theorem dX1_takeInspector_36 : decode cX1_takeInspector 36 = .ok (.aload_n 1, 1) := by decide +kernel
theorem dX1_takeInspector_37 : decode cX1_takeInspector 37 = .ok (.invokevirtual 38, 3) := by decide +kernel
theorem dX1_takeInspector_40 : decode cX1_takeInspector 40 = .ok (.aload_n 0, 1) := by decide +kernel
theorem dX1_takeInspector_41 : decode cX1_takeInspector 41 = .ok (.getfield 19, 3) := by decide +kernel
theorem dX1_takeInspector_44 : decode cX1_takeInspector 44 = .ok (.iconst (-1), 1) := by decide +kernel
theorem dX1_takeInspector_45 : decode cX1_takeInspector 45 = .ok (.if_icmp .ne 10, 3) := by decide +kernel
theorem dX1_takeInspector_48 : decode cX1_takeInspector 48 = .ok (.aload_n 2, 1) := by decide +kernel
theorem dX1_takeInspector_49 : decode cX1_takeInspector 49 = .ok (.iload_n 3, 1) := by decide +kernel
theorem dX1_takeInspector_50 : decode cX1_takeInspector 50 = .ok (.iload 4, 2) := by decide +kernel
theorem dX1_takeInspector_52 : decode cX1_takeInspector 52 = .ok (.invokevirtual 78, 3) := by decide +kernel
theorem dX1_takeInspector_55 : decode cX1_takeInspector 55 = .ok (.return_, 1) := by decide +kernel
theorem dX1_takeMark_0 : decode cX1_takeMark 0 = .ok (.aload_n 0, 1) := by decide +kernel
theorem dX1_takeMark_1 : decode cX1_takeMark 1 = .ok (.aload_n 1, 1) := by decide +kernel
theorem dX1_takeMark_2 : decode cX1_takeMark 2 = .ok (.aload_n 2, 1) := by decide +kernel
theorem dX1_takeMark_3 : decode cX1_takeMark 3 = .ok (.getfield 81, 3) := by decide +kernel
theorem dX1_takeMark_6 : decode cX1_takeMark 6 = .ok (.bipush 8, 2) := by decide +kernel
theorem dX1_takeMark_8 : decode cX1_takeMark 8 = .ok (.if_icmp .ge 7, 3) := by decide +kernel
theorem dX1_takeMark_11 : decode cX1_takeMark 11 = .ok (.iconst 1, 1) := by decide +kernel
theorem dX1_takeMark_12 : decode cX1_takeMark 12 = .ok (.goto 4, 3) := by decide +kernel
theorem dX1_takeMark_15 : decode cX1_takeMark 15 = .ok (.iconst 0, 1) := by decide +kernel
theorem dX1_takeMark_16 : decode cX1_takeMark 16 = .ok (.invokevirtual 34, 3) := by decide +kernel
theorem dX1_takeMark_19 : decode cX1_takeMark 19 = .ok (.aload_n 0, 1) := by decide +kernel
theorem dX1_takeMark_20 : decode cX1_takeMark 20 = .ok (.aload_n 1, 1) := by decide +kernel
theorem dX1_takeMark_21 : decode cX1_takeMark 21 = .ok (.aload_n 2, 1) := by decide +kernel
theorem dX1_takeMark_22 : decode cX1_takeMark 22 = .ok (.getfield 75, 3) := by decide +kernel
theorem dX1_takeMark_25 : decode cX1_takeMark 25 = .ok (.invokevirtual 64, 3) := by decide +kernel
theorem dX1_takeMark_28 : decode cX1_takeMark 28 = .ok (.istore_n 3, 1) := by decide +kernel
theorem dX1_takeMark_29 : decode cX1_takeMark 29 = .ok (.aload_n 0, 1) := by decide +kernel
theorem dX1_takeMark_30 : decode cX1_takeMark 30 = .ok (.aload_n 1, 1) := by decide +kernel
theorem dX1_takeMark_31 : decode cX1_takeMark 31 = .ok (.bipush 6, 2) := by decide +kernel
theorem dX1_takeMark_33 : decode cX1_takeMark 33 = .ok (.invokevirtual 64, 3) := by decide +kernel
theorem dX1_takeMark_36 : decode cX1_takeMark 36 = .ok (.istore 4, 2) := by decide +kernel
theorem dX1_takeMark_38 : decode cX1_takeMark 38 = .ok (.aload_n 0, 1) := by decide +kernel
theorem dX1_takeMark_39 : decode cX1_takeMark 39 = .ok (.aload_n 1, 1) := by decide +kernel
theorem dX1_takeMark_40 : decode cX1_takeMark 40 = .ok (.iconst 3, 1) := by decide +kernel
theorem dX1_takeMark_41 : decode cX1_takeMark 41 = .ok (.invokevirtual 64, 3) := by decide +kernel
theorem dX1_takeMark_44 : decode cX1_takeMark 44 = .ok (.istore 5, 2) := by decide +kernel
theorem dX1_takeMark_46 : decode cX1_takeMark 46 = .ok (.iconst 1, 1) := by decide +kernel
theorem dX1_takeMark_47 : decode cX1_takeMark 47 = .ok (.aload_n 0, 1) := by decide +kernel
theorem dX1_takeMark_48 : decode cX1_takeMark 48 = .ok (.aload_n 1, 1) := by decide +kernel
theorem dX1_takeMark_49 : decode cX1_takeMark 49 = .ok (.iconst 4, 1) := by decide +kernel
theorem dX1_takeMark_50 : decode cX1_takeMark 50 = .ok (.invokevirtual 64, 3) := by decide +kernel
theorem dX1_takeMark_53 : decode cX1_takeMark 53 = .ok (.ishl, 1) := by decide +kernel
theorem dX1_takeMark_54 : decode cX1_takeMark 54 = .ok (.istore 6, 2) := by decide +kernel
theorem dX1_takeMark_56 : decode cX1_takeMark 56 = .ok (.iconst 1, 1) := by decide +kernel
theorem dX1_takeMark_57 : decode cX1_takeMark 57 = .ok (.istore 7, 2) := by decide +kernel
theorem dX1_takeMark_59 : decode cX1_takeMark 59 = .ok (.iload 7, 2) := by decide +kernel
theorem dX1_takeMark_61 : decode cX1_takeMark 61 = .ok (.iconst 3, 1) := by decide +kernel
theorem dX1_takeMark_62 : decode cX1_takeMark 62 = .ok (.if_icmp .ge 26, 3) := by decide +kernel
theorem dX1_takeMark_65 : decode cX1_takeMark 65 = .ok (.aload_n 0, 1) := by decide +kernel
theorem dX1_takeMark_66 : decode cX1_takeMark 66 = .ok (.getfield 32, 3) := by decide +kernel
theorem dX1_takeMark_69 : decode cX1_takeMark 69 = .ok (.iconst 3, 1) := by decide +kernel
theorem dX1_takeMark_70 : decode cX1_takeMark 70 = .ok (.if_icmp .ne 18, 3) := by decide +kernel
theorem dX1_takeMark_73 : decode cX1_takeMark 73 = .ok (.aload_n 0, 1) := by decide +kernel
theorem dX1_takeMark_74 : decode cX1_takeMark 74 = .ok (.aload_n 1, 1) := by decide +kernel
theorem dX1_takeMark_75 : decode cX1_takeMark 75 = .ok (.iload 6, 2) := by decide +kernel
theorem dX1_takeMark_77 : decode cX1_takeMark 77 = .ok (.invokevirtual 84, 3) := by decide +kernel
theorem dX1_takeMark_80 : decode cX1_takeMark 80 = .ok (.istore 6, 2) := by decide +kernel
theorem dX1_takeMark_82 : decode cX1_takeMark 82 = .ok (.iinc 7 1, 3) := by decide +kernel
theorem dX1_takeMark_85 : decode cX1_takeMark 85 = .ok (.goto (-26), 3) := by decide +kernel
theorem dX1_takeMark_88 : decode cX1_takeMark 88 = .ok (.aload_n 0, 1) := by decide +kernel
theorem dX1_takeMark_89 : decode cX1_takeMark 89 = .ok (.aload_n 1, 1) := by decide +kernel
theorem dX1_takeMark_90 : decode cX1_takeMark 90 = .ok (.invokevirtual 38, 3) := by decide +kernel
theorem dX1_takeMark_93 : decode cX1_takeMark 93 = .ok (.aload_n 0, 1) := by decide +kernel
theorem dX1_takeMark_94 : decode cX1_takeMark 94 = .ok (.getfield 19, 3) := by decide +kernel
theorem dX1_takeMark_97 : decode cX1_takeMark 97 = .ok (.iconst (-1), 1) := by decide +kernel
theorem dX1_takeMark_98 : decode cX1_takeMark 98 = .ok (.if_icmp .ne 14, 3) := by decide +kernel
theorem dX1_takeMark_101 : decode cX1_takeMark 101 = .ok (.aload_n 2, 1) := by decide +kernel
theorem dX1_takeMark_102 : decode cX1_takeMark 102 = .ok (.iload_n 3, 1) := by decide +kernel
theorem dX1_takeMark_103 : decode cX1_takeMark 103 = .ok (.iload 4, 2) := by decide +kernel
theorem dX1_takeMark_105 : decode cX1_takeMark 105 = .ok (.iload 6, 2) := by decide +kernel
theorem dX1_takeMark_107 : decode cX1_takeMark 107 = .ok (.iload 5, 2) := by decide +kernel
theorem dX1_takeMark_109 : decode cX1_takeMark 109 = .ok (.invokevirtual 87, 3) := by decide +kernel
theorem dX1_takeMark_112 : decode cX1_takeMark 112 = .ok (.return_, 1) := by decide +kernel
theorem dX1_takeIf_0 : decode cX1_takeIf 0 = .ok (.iload_n 2, 1) := by decide +kernel
theorem dX1_takeIf_1 : decode cX1_takeIf 1 = .ok (.ifCond .eq 11, 3) := by decide +kernel
theorem dX1_takeIf_4 : decode cX1_takeIf 4 = .ok (.aload_n 0, 1) := by decide +kernel
theorem dX1_takeIf_5 : decode cX1_takeIf 5 = .ok (.aload_n 1, 1) := by decide +kernel
theorem dX1_takeIf_6 : decode cX1_takeIf 6 = .ok (.invokevirtual 61, 3) := by decide +kernel
theorem dX1_takeIf_9 : decode cX1_takeIf 9 = .ok (.goto 8, 3) := by decide +kernel
theorem dX1_takeIf_12 : decode cX1_takeIf 12 = .ok (.aload_n 0, 1) := by decide +kernel
theorem dX1_takeIf_13 : decode cX1_takeIf 13 = .ok (.aload_n 1, 1) := by decide +kernel
theorem dX1_takeIf_14 : decode cX1_takeIf 14 = .ok (.invokevirtual 58, 3) := by decide +kernel
theorem dX1_takeIf_17 : decode cX1_takeIf 17 = .ok (.return_, 1) := by decide +kernel
theorem dX1_takeUnlike_0 : decode cX1_takeUnlike 0 = .ok (.aload_n 1, 1) := by decide +kernel
theorem dX1_takeUnlike_1 : decode cX1_takeUnlike 1 = .ok (.getfield 91, 3) := by decide +kernel
theorem dX1_takeUnlike_4 : decode cX1_takeUnlike 4 = .ok (.aload_n 0, 1) := by decide +kernel
theorem dX1_takeUnlike_5 : decode cX1_takeUnlike 5 = .ok (.getfield 25, 3) := by decide +kernel
theorem dX1_takeUnlike_8 : decode cX1_takeUnlike 8 = .ok (.iaload, 1) := by decide +kernel
theorem dX1_takeUnlike_9 : decode cX1_takeUnlike 9 = .ok (.istore_n 3, 1) := by decide +kernel
theorem dX1_takeUnlike_10 : decode cX1_takeUnlike 10 = .ok (.iload_n 3, 1) := by decide +kernel
theorem dX1_takeUnlike_11 : decode cX1_takeUnlike 11 = .ok (.iconst 4, 1) := by decide +kernel
theorem dX1_takeUnlike_12 : decode cX1_takeUnlike 12 = .ok (.if_icmp .ge 19, 3) := by decide +kernel
theorem dX1_takeUnlike_15 : decode cX1_takeUnlike 15 = .ok (.iload_n 2, 1) := by decide +kernel
theorem dX1_takeUnlike_16 : decode cX1_takeUnlike 16 = .ok (.iload_n 3, 1) := by decide +kernel
theorem dX1_takeUnlike_17 : decode cX1_takeUnlike 17 = .ok (.ishr, 1) := by decide +kernel
theorem dX1_takeUnlike_18 : decode cX1_takeUnlike 18 = .ok (.iconst 1, 1) := by decide +kernel
theorem dX1_takeUnlike_19 : decode cX1_takeUnlike 19 = .ok (.iand, 1) := by decide +kernel
theorem dX1_takeUnlike_20 : decode cX1_takeUnlike 20 = .ok (.iconst 1, 1) := by decide +kernel
theorem dX1_takeUnlike_21 : decode cX1_takeUnlike 21 = .ok (.if_icmp .ne 10, 3) := by decide +kernel
theorem dX1_takeUnlike_24 : decode cX1_takeUnlike 24 = .ok (.aload_n 0, 1) := by decide +kernel
theorem dX1_takeUnlike_25 : decode cX1_takeUnlike 25 = .ok (.aload_n 1, 1) := by decide +kernel
theorem dX1_takeUnlike_26 : decode cX1_takeUnlike 26 = .ok (.invokevirtual 58, 3) := by decide +kernel
theorem dX1_takeUnlike_29 : decode cX1_takeUnlike 29 = .ok (.iload_n 2, 1) := by decide +kernel
theorem dX1_takeUnlike_30 : decode cX1_takeUnlike 30 = .ok (.ireturn, 1) := by decide +kernel
theorem dX1_takeUnlike_31 : decode cX1_takeUnlike 31 = .ok (.iload_n 2, 1) := by decide +kernel
theorem dX1_takeUnlike_32 : decode cX1_takeUnlike 32 = .ok (.iconst 1, 1) := by decide +kernel
theorem dX1_takeUnlike_33 : decode cX1_takeUnlike 33 = .ok (.aload_n 0, 1) := by decide +kernel
theorem dX1_takeUnlike_34 : decode cX1_takeUnlike 34 = .ok (.aload_n 1, 1) := by decide +kernel
theorem dX1_takeUnlike_35 : decode cX1_takeUnlike 35 = .ok (.iconst 4, 1) := by decide +kernel
theorem dX1_takeUnlike_36 : decode cX1_takeUnlike 36 = .ok (.invokevirtual 64, 3) := by decide +kernel
theorem dX1_takeUnlike_39 : decode cX1_takeUnlike 39 = .ok (.ishl, 1) := by decide +kernel
theorem dX1_takeUnlike_40 : decode cX1_takeUnlike 40 = .ok (.ior, 1) := by decide +kernel
theorem dX1_takeUnlike_41 : decode cX1_takeUnlike 41 = .ok (.ireturn, 1) := by decide +kernel
theorem dX1_takeNumber_0 : decode cX1_takeNumber 0 = .ok (.aload_n 1, 1) := by decide +kernel
theorem dX1_takeNumber_1 : decode cX1_takeNumber 1 = .ok (.getfield 91, 3) := by decide +kernel
theorem dX1_takeNumber_4 : decode cX1_takeNumber 4 = .ok (.aload_n 0, 1) := by decide +kernel
theorem dX1_takeNumber_5 : decode cX1_takeNumber 5 = .ok (.getfield 25, 3) := by decide +kernel
theorem dX1_takeNumber_8 : decode cX1_takeNumber 8 = .ok (.iaload, 1) := by decide +kernel
theorem dX1_takeNumber_9 : decode cX1_takeNumber 9 = .ok (.istore_n 3, 1) := by decide +kernel
theorem dX1_takeNumber_10 : decode cX1_takeNumber 10 = .ok (.aload_n 0, 1) := by decide +kernel
theorem dX1_takeNumber_11 : decode cX1_takeNumber 11 = .ok (.getfield 32, 3) := by decide +kernel
theorem dX1_takeNumber_14 : decode cX1_takeNumber 14 = .ok (.iconst 3, 1) := by decide +kernel
theorem dX1_takeNumber_15 : decode cX1_takeNumber 15 = .ok (.if_icmp .ne 8, 3) := by decide +kernel
theorem dX1_takeNumber_18 : decode cX1_takeNumber 18 = .ok (.iload_n 3, 1) := by decide +kernel
theorem dX1_takeNumber_19 : decode cX1_takeNumber 19 = .ok (.iload_n 2, 1) := by decide +kernel
theorem dX1_takeNumber_20 : decode cX1_takeNumber 20 = .ok (.if_icmp .lt 10, 3) := by decide +kernel
theorem dX1_takeNumber_23 : decode cX1_takeNumber 23 = .ok (.aload_n 0, 1) := by decide +kernel
theorem dX1_takeNumber_24 : decode cX1_takeNumber 24 = .ok (.aload_n 1, 1) := by decide +kernel
theorem dX1_takeNumber_25 : decode cX1_takeNumber 25 = .ok (.invokevirtual 58, 3) := by decide +kernel
theorem dX1_takeNumber_28 : decode cX1_takeNumber 28 = .ok (.iconst 0, 1) := by decide +kernel
theorem dX1_takeNumber_29 : decode cX1_takeNumber 29 = .ok (.ireturn, 1) := by decide +kernel
theorem dX1_takeNumber_30 : decode cX1_takeNumber 30 = .ok (.aload_n 0, 1) := by decide +kernel
theorem dX1_takeNumber_31 : decode cX1_takeNumber 31 = .ok (.aload_n 1, 1) := by decide +kernel
theorem dX1_takeNumber_32 : decode cX1_takeNumber 32 = .ok (.invokevirtual 61, 3) := by decide +kernel
theorem dX1_takeNumber_35 : decode cX1_takeNumber 35 = .ok (.iload_n 3, 1) := by decide +kernel
theorem dX1_takeNumber_36 : decode cX1_takeNumber 36 = .ok (.ireturn, 1) := by decide +kernel
theorem dX1_takeStop_0 : decode cX1_takeStop 0 = .ok (.aload_n 0, 1) := by decide +kernel
theorem dX1_takeStop_1 : decode cX1_takeStop 1 = .ok (.aload_n 1, 1) := by decide +kernel
theorem dX1_takeStop_2 : decode cX1_takeStop 2 = .ok (.aload_n 0, 1) := by decide +kernel
theorem dX1_takeStop_3 : decode cX1_takeStop 3 = .ok (.getfield 32, 3) := by decide +kernel
theorem dX1_takeStop_6 : decode cX1_takeStop 6 = .ok (.iconst 2, 1) := by decide +kernel
theorem dX1_takeStop_7 : decode cX1_takeStop 7 = .ok (.if_icmp .ne 7, 3) := by decide +kernel
theorem dX1_takeStop_10 : decode cX1_takeStop 10 = .ok (.iconst 1, 1) := by decide +kernel
theorem dX1_takeStop_11 : decode cX1_takeStop 11 = .ok (.goto 4, 3) := by decide +kernel
theorem dX1_takeStop_14 : decode cX1_takeStop 14 = .ok (.iconst 0, 1) := by decide +kernel
theorem dX1_takeStop_15 : decode cX1_takeStop 15 = .ok (.invokevirtual 34, 3) := by decide +kernel
theorem dX1_takeStop_18 : decode cX1_takeStop 18 = .ok (.return_, 1) := by decide +kernel
theorem dX1_advance_0 : decode cX1_advance 0 = .ok (.aload_n 0, 1) := by decide +kernel
theorem dX1_advance_1 : decode cX1_advance 1 = .ok (.getfield 25, 3) := by decide +kernel
theorem dX1_advance_4 : decode cX1_advance 4 = .ok (.sipush 150, 3) := by decide +kernel
theorem dX1_advance_7 : decode cX1_advance 7 = .ok (.if_icmp .ge 13, 3) := by decide +kernel
theorem dX1_advance_10 : decode cX1_advance 10 = .ok (.aload_n 0, 1) := by decide +kernel
theorem dX1_advance_11 : decode cX1_advance 11 = .ok (.dup, 1) := by decide +kernel
theorem dX1_advance_12 : decode cX1_advance 12 = .ok (.getfield 25, 3) := by decide +kernel
theorem dX1_advance_15 : decode cX1_advance 15 = .ok (.iconst 1, 1) := by decide +kernel
theorem dX1_advance_16 : decode cX1_advance 16 = .ok (.iadd, 1) := by decide +kernel
theorem dX1_advance_17 : decode cX1_advance 17 = .ok (.putfield 25, 3) := by decide +kernel
theorem dX1_advance_20 : decode cX1_advance 20 = .ok (.aload_n 0, 1) := by decide +kernel
theorem dX1_advance_21 : decode cX1_advance 21 = .ok (.aload_n 1, 1) := by decide +kernel
theorem dX1_advance_22 : decode cX1_advance 22 = .ok (.getfield 28, 3) := by decide +kernel
theorem dX1_advance_25 : decode cX1_advance 25 = .ok (.aload_n 0, 1) := by decide +kernel
theorem dX1_advance_26 : decode cX1_advance 26 = .ok (.getfield 25, 3) := by decide +kernel
theorem dX1_advance_29 : decode cX1_advance 29 = .ok (.iaload, 1) := by decide +kernel
theorem dX1_advance_30 : decode cX1_advance 30 = .ok (.putfield 32, 3) := by decide +kernel
theorem dX1_advance_33 : decode cX1_advance 33 = .ok (.return_, 1) := by decide +kernel
theorem dX1_reject_0 : decode cX1_reject 0 = .ok (.aload_n 0, 1) := by decide +kernel
theorem dX1_reject_1 : decode cX1_reject 1 = .ok (.getfield 19, 3) := by decide +kernel
theorem dX1_reject_4 : decode cX1_reject 4 = .ok (.iconst (-1), 1) := by decide +kernel
theorem dX1_reject_5 : decode cX1_reject 5 = .ok (.if_icmp .ne 16, 3) := by decide +kernel
theorem dX1_reject_8 : decode cX1_reject 8 = .ok (.aload_n 0, 1) := by decide +kernel
theorem dX1_reject_9 : decode cX1_reject 9 = .ok (.aload_n 1, 1) := by decide +kernel
theorem dX1_reject_10 : decode cX1_reject 10 = .ok (.getfield 94, 3) := by decide +kernel
theorem dX1_reject_13 : decode cX1_reject 13 = .ok (.aload_n 0, 1) := by decide +kernel
theorem dX1_reject_14 : decode cX1_reject 14 = .ok (.getfield 25, 3) := by decide +kernel
theorem dX1_reject_17 : decode cX1_reject 17 = .ok (.iaload, 1) := by decide +kernel
theorem dX1_reject_18 : decode cX1_reject 18 = .ok (.putfield 19, 3) := by decide +kernel
theorem dX1_reject_21 : decode cX1_reject 21 = .ok (.aload_n 0, 1) := by decide +kernel
theorem dX1_reject_22 : decode cX1_reject 22 = .ok (.iconst 1, 1) := by decide +kernel
theorem dX1_reject_23 : decode cX1_reject 23 = .ok (.putfield 32, 3) := by decide +kernel
theorem dX1_reject_26 : decode cX1_reject 26 = .ok (.return_, 1) := by decide +kernel
theorem dX2_init_0 : decode cX2_init 0 = .ok (.aload_n 0, 1) := by decide +kernel
theorem dX2_init_1 : decode cX2_init 1 = .ok (.invokespecial 3, 3) := by decide +kernel
theorem dX2_init_4 : decode cX2_init 4 = .ok (.aload_n 0, 1) := by decide +kernel
theorem dX2_init_5 : decode cX2_init 5 = .ok (.sipush 150, 3) := by decide +kernel
theorem dX2_init_8 : decode cX2_init 8 = .ok (.newarray .int, 2) := by decide +kernel
theorem dX2_init_10 : decode cX2_init 10 = .ok (.putfield 9, 3) := by decide +kernel
theorem dX2_init_13 : decode cX2_init 13 = .ok (.aload_n 0, 1) := by decide +kernel
theorem dX2_init_14 : decode cX2_init 14 = .ok (.sipush 151, 3) := by decide +kernel
theorem dX2_init_17 : decode cX2_init 17 = .ok (.newarray .int, 2) := by decide +kernel
theorem dX2_init_19 : decode cX2_init 19 = .ok (.putfield 15, 3) := by decide +kernel
theorem dX2_init_22 : decode cX2_init 22 = .ok (.aload_n 0, 1) := by decide +kernel
theorem dX2_init_23 : decode cX2_init 23 = .ok (.sipush 151, 3) := by decide +kernel
theorem dX2_init_26 : decode cX2_init 26 = .ok (.newarray .int, 2) := by decide +kernel
theorem dX2_init_28 : decode cX2_init 28 = .ok (.putfield 18, 3) := by decide +kernel
theorem dX2_init_31 : decode cX2_init 31 = .ok (.aload_n 0, 1) := by decide +kernel
theorem dX2_init_32 : decode cX2_init 32 = .ok (.sipush 151, 3) := by decide +kernel
theorem dX2_init_35 : decode cX2_init 35 = .ok (.newarray .int, 2) := by decide +kernel
theorem dX2_init_37 : decode cX2_init 37 = .ok (.putfield 21, 3) := by decide +kernel
theorem dX2_init_40 : decode cX2_init 40 = .ok (.return_, 1) := by decide +kernel
theorem dX2_append_0 : decode cX2_append 0 = .ok (.aload_n 0, 1) := by decide +kernel
theorem dX2_append_1 : decode cX2_append 1 = .ok (.getfield 24, 3) := by decide +kernel
theorem dX2_append_4 : decode cX2_append 4 = .ok (.sipush 150, 3) := by decide +kernel
theorem dX2_append_7 : decode cX2_append 7 = .ok (.if_icmp .ge 23, 3) := by decide +kernel
theorem dX2_append_10 : decode cX2_append 10 = .ok (.aload_n 0, 1) := by decide +kernel
theorem dX2_append_11 : decode cX2_append 11 = .ok (.getfield 9, 3) := by decide +kernel
theorem dX2_append_14 : decode cX2_append 14 = .ok (.aload_n 0, 1) := by decide +kernel
theorem dX2_append_15 : decode cX2_append 15 = .ok (.getfield 24, 3) := by decide +kernel
theorem dX2_append_18 : decode cX2_append 18 = .ok (.iload_n 1, 1) := by decide +kernel
theorem dX2_append_19 : decode cX2_append 19 = .ok (.iastore, 1) := by decide +kernel
theorem dX2_append_20 : decode cX2_append 20 = .ok (.aload_n 0, 1) := by decide +kernel
theorem dX2_append_21 : decode cX2_append 21 = .ok (.dup, 1) := by decide +kernel
theorem dX2_append_22 : decode cX2_append 22 = .ok (.getfield 24, 3) := by decide +kernel
theorem dX2_append_25 : decode cX2_append 25 = .ok (.iconst 1, 1) := by decide +kernel
theorem dX2_append_26 : decode cX2_append 26 = .ok (.iadd, 1) := by decide +kernel
theorem dX2_append_27 : decode cX2_append 27 = .ok (.putfield 24, 3) := by decide +kernel
theorem dX2_append_30 : decode cX2_append 30 = .ok (.return_, 1) := by decide +kernel
theorem dX2_split_0 : decode cX2_split 0 = .ok (.aload_n 0, 1) := by decide +kernel
theorem dX2_split_1 : decode cX2_split 1 = .ok (.iconst 0, 1) := by decide +kernel
theorem dX2_split_2 : decode cX2_split 2 = .ok (.putfield 28, 3) := by decide +kernel
theorem dX2_split_5 : decode cX2_split 5 = .ok (.aload_n 0, 1) := by decide +kernel
theorem dX2_split_6 : decode cX2_split 6 = .ok (.iconst 0, 1) := by decide +kernel
theorem dX2_split_7 : decode cX2_split 7 = .ok (.bipush 32, 2) := by decide +kernel
theorem dX2_split_9 : decode cX2_split 9 = .ok (.bipush 32, 2) := by decide +kernel
theorem dX2_split_11 : decode cX2_split 11 = .ok (.invokevirtual 31, 3) := by decide +kernel
theorem dX2_split_14 : decode cX2_split 14 = .ok (.istore_n 1, 1) := by decide +kernel
theorem dX2_split_15 : decode cX2_split 15 = .ok (.iconst 0, 1) := by decide +kernel
theorem dX2_split_16 : decode cX2_split 16 = .ok (.istore_n 2, 1) := by decide +kernel
theorem dX2_split_17 : decode cX2_split 17 = .ok (.iload_n 2, 1) := by decide +kernel
theorem dX2_split_18 : decode cX2_split 18 = .ok (.sipush 150, 3) := by decide +kernel
theorem dX2_split_21 : decode cX2_split 21 = .ok (.if_icmp .ge 31, 3) := by decide +kernel
theorem dX2_split_24 : decode cX2_split 24 = .ok (.iload_n 1, 1) := by decide +kernel
theorem dX2_split_25 : decode cX2_split 25 = .ok (.aload_n 0, 1) := by decide +kernel
theorem dX2_split_26 : decode cX2_split 26 = .ok (.getfield 24, 3) := by decide +kernel
theorem dX2_split_29 : decode cX2_split 29 = .ok (.if_icmp .ge 23, 3) := by decide +kernel
theorem dX2_split_32 : decode cX2_split 32 = .ok (.aload_n 0, 1) := by decide +kernel
theorem dX2_split_33 : decode cX2_split 33 = .ok (.aload_n 0, 1) := by decide +kernel
theorem dX2_split_34 : decode cX2_split 34 = .ok (.iload_n 1, 1) := by decide +kernel
theorem dX2_split_35 : decode cX2_split 35 = .ok (.invokevirtual 35, 3) := by decide +kernel
theorem dX2_split_38 : decode cX2_split 38 = .ok (.bipush 32, 2) := by decide +kernel
theorem dX2_split_40 : decode cX2_split 40 = .ok (.bipush 32, 2) := by decide +kernel
theorem dX2_split_42 : decode cX2_split 42 = .ok (.invokevirtual 31, 3) := by decide +kernel
theorem dX2_split_45 : decode cX2_split 45 = .ok (.istore_n 1, 1) := by decide +kernel
theorem dX2_split_46 : decode cX2_split 46 = .ok (.iinc 2 1, 3) := by decide +kernel
theorem dX2_split_49 : decode cX2_split 49 = .ok (.goto (-32), 3) := by decide +kernel
theorem dX2_split_52 : decode cX2_split 52 = .ok (.aload_n 0, 1) := by decide +kernel
theorem dX2_split_53 : decode cX2_split 53 = .ok (.aload_n 0, 1) := by decide +kernel
theorem dX2_split_54 : decode cX2_split 54 = .ok (.getfield 24, 3) := by decide +kernel
theorem dX2_split_57 : decode cX2_split 57 = .ok (.iconst 0, 1) := by decide +kernel
theorem dX2_split_58 : decode cX2_split 58 = .ok (.iconst 0, 1) := by decide +kernel
theorem dX2_split_59 : decode cX2_split 59 = .ok (.invokevirtual 39, 3) := by decide +kernel
theorem dX2_split_62 : decode cX2_split 62 = .ok (.return_, 1) := by decide +kernel
theorem dX2_addToken_0 : decode cX2_addToken 0 = .ok (.aload_n 0, 1) := by decide +kernel
theorem dX2_addToken_1 : decode cX2_addToken 1 = .ok (.iload_n 1, 1) := by decide +kernel
theorem dX2_addToken_2 : decode cX2_addToken 2 = .ok (.invokevirtual 43, 3) := by decide +kernel
theorem dX2_addToken_5 : decode cX2_addToken 5 = .ok (.istore_n 2, 1) := by decide +kernel
theorem dX2_addToken_6 : decode cX2_addToken 6 = .ok (.iload_n 2, 1) := by decide +kernel
theorem dX2_addToken_7 : decode cX2_addToken 7 = .ok (.invokestatic 46, 3) := by decide +kernel
theorem dX2_addToken_10 : decode cX2_addToken 10 = .ok (.ifCond .eq 27, 3) := by decide +kernel
theorem dX2_addToken_13 : decode cX2_addToken 13 = .ok (.aload_n 0, 1) := by decide +kernel
theorem dX2_addToken_14 : decode cX2_addToken 14 = .ok (.iload_n 1, 1) := by decide +kernel
theorem dX2_addToken_15 : decode cX2_addToken 15 = .ok (.bipush 97, 2) := by decide +kernel
theorem dX2_addToken_17 : decode cX2_addToken 17 = .ok (.bipush 122, 2) := by decide +kernel
theorem dX2_addToken_19 : decode cX2_addToken 19 = .ok (.invokevirtual 31, 3) := by decide +kernel
theorem dX2_addToken_22 : decode cX2_addToken 22 = .ok (.istore_n 3, 1) := by decide +kernel
theorem dX2_addToken_23 : decode cX2_addToken 23 = .ok (.aload_n 0, 1) := by decide +kernel
theorem dX2_addToken_24 : decode cX2_addToken 24 = .ok (.iload_n 1, 1) := by decide +kernel
theorem dX2_addToken_25 : decode cX2_addToken 25 = .ok (.aload_n 0, 1) := by decide +kernel
theorem dX2_addToken_26 : decode cX2_addToken 26 = .ok (.iload_n 1, 1) := by decide +kernel
theorem dX2_addToken_27 : decode cX2_addToken 27 = .ok (.iload_n 3, 1) := by decide +kernel
theorem dX2_addToken_28 : decode cX2_addToken 28 = .ok (.invokevirtual 50, 3) := by decide +kernel
theorem dX2_addToken_31 : decode cX2_addToken 31 = .ok (.iconst 0, 1) := by decide +kernel
theorem dX2_addToken_32 : decode cX2_addToken 32 = .ok (.invokevirtual 39, 3) := by decide +kernel
theorem dX2_addToken_35 : decode cX2_addToken 35 = .ok (.iload_n 3, 1) := by decide +kernel
theorem dX2_addToken_36 : decode cX2_addToken 36 = .ok (.ireturn, 1) := by decide +kernel
theorem dX2_addToken_37 : decode cX2_addToken 37 = .ok (.iload_n 2, 1) := by decide +kernel
theorem dX2_addToken_38 : decode cX2_addToken 38 = .ok (.invokestatic 54, 3) := by decide +kernel
theorem dX2_addToken_41 : decode cX2_addToken 41 = .ok (.ifCond .eq 59, 3) := by decide +kernel
theorem dX2_addToken_44 : decode cX2_addToken 44 = .ok (.aload_n 0, 1) := by decide +kernel
theorem dX2_addToken_45 : decode cX2_addToken 45 = .ok (.iload_n 1, 1) := by decide +kernel
theorem dX2_addToken_46 : decode cX2_addToken 46 = .ok (.bipush 48, 2) := by decide +kernel
theorem dX2_addToken_48 : decode cX2_addToken 48 = .ok (.bipush 57, 2) := by decide +kernel
theorem dX2_addToken_50 : decode cX2_addToken 50 = .ok (.invokevirtual 31, 3) := by decide +kernel
theorem dX2_addToken_53 : decode cX2_addToken 53 = .ok (.istore_n 3, 1) := by decide +kernel
theorem dX2_addToken_54 : decode cX2_addToken 54 = .ok (.iload_n 3, 1) := by decide +kernel
theorem dX2_addToken_55 : decode cX2_addToken 55 = .ok (.iload_n 1, 1) := by decide +kernel
theorem dX2_addToken_56 : decode cX2_addToken 56 = .ok (.isub, 1) := by decide +kernel
theorem dX2_addToken_57 : decode cX2_addToken 57 = .ok (.iconst 2, 1) := by decide +kernel
theorem dX2_addToken_58 : decode cX2_addToken 58 = .ok (.if_icmp .le 7, 3) := by decide +kernel
theorem dX2_addToken_61 : decode cX2_addToken 61 = .ok (.iconst 1, 1) := by decide +kernel
theorem dX2_addToken_62 : decode cX2_addToken 62 = .ok (.goto 4, 3) := by decide +kernel
theorem dX2_addToken_65 : decode cX2_addToken 65 = .ok (.iconst 0, 1) := by decide +kernel
theorem dX2_addToken_66 : decode cX2_addToken 66 = .ok (.istore 4, 2) := by decide +kernel
theorem dX2_addToken_68 : decode cX2_addToken 68 = .ok (.aload_n 0, 1) := by decide +kernel
theorem dX2_addToken_69 : decode cX2_addToken 69 = .ok (.iload_n 1, 1) := by decide +kernel
theorem dX2_addToken_70 : decode cX2_addToken 70 = .ok (.iload 4, 2) := by decide +kernel
theorem dX2_addToken_72 : decode cX2_addToken 72 = .ok (.ifCond .eq 7, 3) := by decide +kernel
theorem dX2_addToken_75 : decode cX2_addToken 75 = .ok (.iconst 1, 1) := by decide +kernel
theorem dX2_addToken_76 : decode cX2_addToken 76 = .ok (.goto 4, 3) := by decide +kernel
theorem dX2_addToken_79 : decode cX2_addToken 79 = .ok (.iconst 3, 1) := by decide +kernel
theorem dX2_addToken_80 : decode cX2_addToken 80 = .ok (.iload 4, 2) := by decide +kernel
theorem dX2_addToken_82 : decode cX2_addToken 82 = .ok (.ifCond .eq 7, 3) := by decide +kernel
theorem dX2_addToken_85 : decode cX2_addToken 85 = .ok (.iconst 0, 1) := by decide +kernel
theorem dX2_addToken_86 : decode cX2_addToken 86 = .ok (.goto 9, 3) := by decide +kernel
theorem dX2_addToken_89 : decode cX2_addToken 89 = .ok (.aload_n 0, 1) := by decide +kernel
theorem dX2_addToken_90 : decode cX2_addToken 90 = .ok (.iload_n 1, 1) := by decide +kernel
theorem dX2_addToken_91 : decode cX2_addToken 91 = .ok (.iload_n 3, 1) := by decide +kernel
theorem dX2_addToken_92 : decode cX2_addToken 92 = .ok (.invokevirtual 57, 3) := by decide +kernel
theorem dX2_addToken_95 : decode cX2_addToken 95 = .ok (.invokevirtual 39, 3) := by decide +kernel
theorem dX2_addToken_98 : decode cX2_addToken 98 = .ok (.iload_n 3, 1) := by decide +kernel
theorem dX2_addToken_99 : decode cX2_addToken 99 = .ok (.ireturn, 1) := by decide +kernel
theorem dX2_addToken_100 : decode cX2_addToken 100 = .ok (.aload_n 0, 1) := by decide +kernel
theorem dX2_addToken_101 : decode cX2_addToken 101 = .ok (.iload_n 1, 1) := by decide +kernel
theorem dX2_addToken_102 : decode cX2_addToken 102 = .ok (.iload_n 2, 1) := by decide +kernel
theorem dX2_addToken_103 : decode cX2_addToken 103 = .ok (.bipush 59, 2) := by decide +kernel
theorem dX2_addToken_105 : decode cX2_addToken 105 = .ok (.if_icmp .ne 7, 3) := by decide +kernel
theorem dX2_addToken_108 : decode cX2_addToken 108 = .ok (.iconst 2, 1) := by decide +kernel
theorem dX2_addToken_109 : decode cX2_addToken 109 = .ok (.goto 4, 3) := by decide +kernel
theorem dX2_addToken_112 : decode cX2_addToken 112 = .ok (.iconst 1, 1) := by decide +kernel
theorem dX2_addToken_113 : decode cX2_addToken 113 = .ok (.iconst 0, 1) := by decide +kernel
theorem dX2_addToken_114 : decode cX2_addToken 114 = .ok (.invokevirtual 39, 3) := by decide +kernel
theorem dX2_addToken_117 : decode cX2_addToken 117 = .ok (.iload_n 1, 1) := by decide +kernel
theorem dX2_addToken_118 : decode cX2_addToken 118 = .ok (.iconst 1, 1) := by decide +kernel
theorem dX2_addToken_119 : decode cX2_addToken 119 = .ok (.iadd, 1) := by decide +kernel
theorem dX2_addToken_120 : decode cX2_addToken 120 = .ok (.ireturn, 1) := by decide +kernel
theorem dX2_put_0 : decode cX2_put 0 = .ok (.aload_n 0, 1) := by decide +kernel
theorem dX2_put_1 : decode cX2_put 1 = .ok (.getfield 28, 3) := by decide +kernel
theorem dX2_put_4 : decode cX2_put 4 = .ok (.sipush 150, 3) := by decide +kernel
theorem dX2_put_7 : decode cX2_put 7 = .ok (.if_icmp .gt 43, 3) := by decide +kernel
theorem dX2_put_10 : decode cX2_put 10 = .ok (.aload_n 0, 1) := by decide +kernel
theorem dX2_put_11 : decode cX2_put 11 = .ok (.getfield 15, 3) := by decide +kernel
theorem dX2_put_14 : decode cX2_put 14 = .ok (.aload_n 0, 1) := by decide +kernel
theorem dX2_put_15 : decode cX2_put 15 = .ok (.getfield 28, 3) := by decide +kernel
theorem dX2_put_18 : decode cX2_put 18 = .ok (.iload_n 2, 1) := by decide +kernel
theorem dX2_put_19 : decode cX2_put 19 = .ok (.iastore, 1) := by decide +kernel
theorem dX2_put_20 : decode cX2_put 20 = .ok (.aload_n 0, 1) := by decide +kernel
theorem dX2_put_21 : decode cX2_put 21 = .ok (.getfield 18, 3) := by decide +kernel
theorem dX2_put_24 : decode cX2_put 24 = .ok (.aload_n 0, 1) := by decide +kernel
theorem dX2_put_25 : decode cX2_put 25 = .ok (.getfield 28, 3) := by decide +kernel
theorem dX2_put_28 : decode cX2_put 28 = .ok (.iload_n 1, 1) := by decide +kernel
theorem dX2_put_29 : decode cX2_put 29 = .ok (.iastore, 1) := by decide +kernel
theorem dX2_put_30 : decode cX2_put 30 = .ok (.aload_n 0, 1) := by decide +kernel
theorem dX2_put_31 : decode cX2_put 31 = .ok (.getfield 21, 3) := by decide +kernel
theorem dX2_put_34 : decode cX2_put 34 = .ok (.aload_n 0, 1) := by decide +kernel
theorem dX2_put_35 : decode cX2_put 35 = .ok (.getfield 28, 3) := by decide +kernel
theorem dX2_put_38 : decode cX2_put 38 = .ok (.iload_n 3, 1) := by decide +kernel
theorem dX2_put_39 : decode cX2_put 39 = .ok (.iastore, 1) := by decide +kernel
theorem dX2_put_40 : decode cX2_put 40 = .ok (.aload_n 0, 1) := by decide +kernel
theorem dX2_put_41 : decode cX2_put 41 = .ok (.dup, 1) := by decide +kernel
theorem dX2_put_42 : decode cX2_put 42 = .ok (.getfield 28, 3) := by decide +kernel
theorem dX2_put_45 : decode cX2_put 45 = .ok (.iconst 1, 1) := by decide +kernel
theorem dX2_put_46 : decode cX2_put 46 = .ok (.iadd, 1) := by decide +kernel
theorem dX2_put_47 : decode cX2_put 47 = .ok (.putfield 28, 3) := by decide +kernel
theorem dX2_put_50 : decode cX2_put 50 = .ok (.return_, 1) := by decide +kernel
theorem dX2_isLetter_0 : decode cX2_isLetter 0 = .ok (.iload_n 0, 1) := by decide +kernel
theorem dX2_isLetter_1 : decode cX2_isLetter 1 = .ok (.bipush 97, 2) := by decide +kernel
theorem dX2_isLetter_3 : decode cX2_isLetter 3 = .ok (.if_icmp .lt 13, 3) := by decide +kernel
theorem dX2_isLetter_6 : decode cX2_isLetter 6 = .ok (.iload_n 0, 1) := by decide +kernel
theorem dX2_isLetter_7 : decode cX2_isLetter 7 = .ok (.bipush 122, 2) := by decide +kernel
theorem dX2_isLetter_9 : decode cX2_isLetter 9 = .ok (.if_icmp .gt 7, 3) := by decide +kernel
theorem dX2_isLetter_12 : decode cX2_isLetter 12 = .ok (.iconst 1, 1) := by decide +kernel
theorem dX2_isLetter_13 : decode cX2_isLetter 13 = .ok (.goto 4, 3) := by decide +kernel
theorem dX2_isLetter_16 : decode cX2_isLetter 16 = .ok (.iconst 0, 1) := by decide +kernel
theorem dX2_isLetter_17 : decode cX2_isLetter 17 = .ok (.ireturn, 1) := by decide +kernel
theorem dX2_isFigure_0 : decode cX2_isFigure 0 = .ok (.iload_n 0, 1) := by decide +kernel
theorem dX2_isFigure_1 : decode cX2_isFigure 1 = .ok (.bipush 48, 2) := by decide +kernel
theorem dX2_isFigure_3 : decode cX2_isFigure 3 = .ok (.if_icmp .lt 13, 3) := by decide +kernel
theorem dX2_isFigure_6 : decode cX2_isFigure 6 = .ok (.iload_n 0, 1) := by decide +kernel
theorem dX2_isFigure_7 : decode cX2_isFigure 7 = .ok (.bipush 57, 2) := by decide +kernel
theorem dX2_isFigure_9 : decode cX2_isFigure 9 = .ok (.if_icmp .gt 7, 3) := by decide +kernel
theorem dX2_isFigure_12 : decode cX2_isFigure 12 = .ok (.iconst 1, 1) := by decide +kernel
theorem dX2_isFigure_13 : decode cX2_isFigure 13 = .ok (.goto 4, 3) := by decide +kernel
theorem dX2_isFigure_16 : decode cX2_isFigure 16 = .ok (.iconst 0, 1) := by decide +kernel
theorem dX2_isFigure_17 : decode cX2_isFigure 17 = .ok (.ireturn, 1) := by decide +kernel
theorem dX2_behindRun_0 : decode cX2_behindRun 0 = .ok (.iload_n 1, 1) := by decide +kernel
theorem dX2_behindRun_1 : decode cX2_behindRun 1 = .ok (.istore 4, 2) := by decide +kernel
theorem dX2_behindRun_3 : decode cX2_behindRun 3 = .ok (.iload 4, 2) := by decide +kernel
theorem dX2_behindRun_5 : decode cX2_behindRun 5 = .ok (.aload_n 0, 1) := by decide +kernel
theorem dX2_behindRun_6 : decode cX2_behindRun 6 = .ok (.getfield 24, 3) := by decide +kernel
theorem dX2_behindRun_9 : decode cX2_behindRun 9 = .ok (.if_icmp .ge 29, 3) := by decide +kernel
theorem dX2_behindRun_12 : decode cX2_behindRun 12 = .ok (.aload_n 0, 1) := by decide +kernel
theorem dX2_behindRun_13 : decode cX2_behindRun 13 = .ok (.iload 4, 2) := by decide +kernel
theorem dX2_behindRun_15 : decode cX2_behindRun 15 = .ok (.invokevirtual 43, 3) := by decide +kernel
theorem dX2_behindRun_18 : decode cX2_behindRun 18 = .ok (.iload_n 2, 1) := by decide +kernel
theorem dX2_behindRun_19 : decode cX2_behindRun 19 = .ok (.if_icmp .lt 19, 3) := by decide +kernel
theorem dX2_behindRun_22 : decode cX2_behindRun 22 = .ok (.aload_n 0, 1) := by decide +kernel
theorem dX2_behindRun_23 : decode cX2_behindRun 23 = .ok (.iload 4, 2) := by decide +kernel
theorem dX2_behindRun_25 : decode cX2_behindRun 25 = .ok (.invokevirtual 43, 3) := by decide +kernel
theorem dX2_behindRun_28 : decode cX2_behindRun 28 = .ok (.iload_n 3, 1) := by decide +kernel
theorem dX2_behindRun_29 : decode cX2_behindRun 29 = .ok (.if_icmp .gt 9, 3) := by decide +kernel
theorem dX2_behindRun_32 : decode cX2_behindRun 32 = .ok (.iinc 4 1, 3) := by decide +kernel
theorem dX2_behindRun_35 : decode cX2_behindRun 35 = .ok (.goto (-32), 3) := by decide +kernel
theorem dX2_behindRun_38 : decode cX2_behindRun 38 = .ok (.iload 4, 2) := by decide +kernel
theorem dX2_behindRun_40 : decode cX2_behindRun 40 = .ok (.ireturn, 1) := by decide +kernel
theorem dX2_number_0 : decode cX2_number 0 = .ok (.iconst 0, 1) := by decide +kernel
theorem dX2_number_1 : decode cX2_number 1 = .ok (.istore_n 3, 1) := by decide +kernel
theorem dX2_number_2 : decode cX2_number 2 = .ok (.iload_n 1, 1) := by decide +kernel
theorem dX2_number_3 : decode cX2_number 3 = .ok (.istore 4, 2) := by decide +kernel
theorem dX2_number_5 : decode cX2_number 5 = .ok (.iload 4, 2) := by decide +kernel
theorem dX2_number_7 : decode cX2_number 7 = .ok (.iload_n 2, 1) := by decide +kernel
theorem dX2_number_8 : decode cX2_number 8 = .ok (.if_icmp .ge 24, 3) := by decide +kernel
theorem dX2_number_11 : decode cX2_number 11 = .ok (.bipush 10, 2) := by decide +kernel
theorem dX2_number_13 : decode cX2_number 13 = .ok (.iload_n 3, 1) := by decide +kernel
theorem dX2_number_14 : decode cX2_number 14 = .ok (.imul, 1) := by decide +kernel
theorem dX2_number_15 : decode cX2_number 15 = .ok (.aload_n 0, 1) := by decide +kernel
theorem dX2_number_16 : decode cX2_number 16 = .ok (.iload 4, 2) := by decide +kernel
theorem dX2_number_18 : decode cX2_number 18 = .ok (.invokevirtual 43, 3) := by decide +kernel
theorem dX2_number_21 : decode cX2_number 21 = .ok (.iadd, 1) := by decide +kernel
theorem dX2_number_22 : decode cX2_number 22 = .ok (.bipush 48, 2) := by decide +kernel
theorem dX2_number_24 : decode cX2_number 24 = .ok (.isub, 1) := by decide +kernel
theorem dX2_number_25 : decode cX2_number 25 = .ok (.istore_n 3, 1) := by decide +kernel
theorem dX2_number_26 : decode cX2_number 26 = .ok (.iinc 4 1, 3) := by decide +kernel
theorem dX2_number_29 : decode cX2_number 29 = .ok (.goto (-24), 3) := by decide +kernel
theorem dX2_number_32 : decode cX2_number 32 = .ok (.iload_n 3, 1) := by decide +kernel
theorem dX2_number_33 : decode cX2_number 33 = .ok (.ireturn, 1) := by decide +kernel
theorem dX2_wordToken_0 : decode cX2_wordToken 0 = .ok (.aload_n 0, 1) := by decide +kernel
theorem dX2_wordToken_1 : decode cX2_wordToken 1 = .ok (.iload_n 1, 1) := by decide +kernel
theorem dX2_wordToken_2 : decode cX2_wordToken 2 = .ok (.iload_n 2, 1) := by decide +kernel
theorem dX2_wordToken_3 : decode cX2_wordToken 3 = .ok (.ldc 60, 2) := by decide +kernel
theorem dX2_wordToken_5 : decode cX2_wordToken 5 = .ok (.invokevirtual 62, 3) := by decide +kernel
theorem dX2_wordToken_8 : decode cX2_wordToken 8 = .ok (.ifCond .eq 5, 3) := by decide +kernel
theorem dX2_wordToken_11 : decode cX2_wordToken 11 = .ok (.iconst 4, 1) := by decide +kernel
theorem dX2_wordToken_12 : decode cX2_wordToken 12 = .ok (.ireturn, 1) := by decide +kernel
theorem dX2_wordToken_13 : decode cX2_wordToken 13 = .ok (.aload_n 0, 1) := by decide +kernel
theorem dX2_wordToken_14 : decode cX2_wordToken 14 = .ok (.iload_n 1, 1) := by decide +kernel
theorem dX2_wordToken_15 : decode cX2_wordToken 15 = .ok (.iload_n 2, 1) := by decide +kernel
theorem dX2_wordToken_16 : decode cX2_wordToken 16 = .ok (.ldc 66, 2) := by decide +kernel
theorem dX2_wordToken_18 : decode cX2_wordToken 18 = .ok (.invokevirtual 62, 3) := by decide +kernel
theorem dX2_wordToken_21 : decode cX2_wordToken 21 = .ok (.ifCond .eq 5, 3) := by decide +kernel
theorem dX2_wordToken_24 : decode cX2_wordToken 24 = .ok (.iconst 5, 1) := by decide +kernel
theorem dX2_wordToken_25 : decode cX2_wordToken 25 = .ok (.ireturn, 1) := by decide +kernel
theorem dX2_wordToken_26 : decode cX2_wordToken 26 = .ok (.aload_n 0, 1) := by decide +kernel
theorem dX2_wordToken_27 : decode cX2_wordToken 27 = .ok (.iload_n 1, 1) := by decide +kernel
theorem dX2_wordToken_28 : decode cX2_wordToken 28 = .ok (.iload_n 2, 1) := by decide +kernel
theorem dX2_wordToken_29 : decode cX2_wordToken 29 = .ok (.ldc 68, 2) := by decide +kernel
theorem dX2_wordToken_31 : decode cX2_wordToken 31 = .ok (.invokevirtual 62, 3) := by decide +kernel
theorem dX2_wordToken_34 : decode cX2_wordToken 34 = .ok (.ifCond .eq 6, 3) := by decide +kernel
theorem dX2_wordToken_37 : decode cX2_wordToken 37 = .ok (.bipush 6, 2) := by decide +kernel
theorem dX2_wordToken_39 : decode cX2_wordToken 39 = .ok (.ireturn, 1) := by decide +kernel
theorem dX2_wordToken_40 : decode cX2_wordToken 40 = .ok (.aload_n 0, 1) := by decide +kernel
theorem dX2_wordToken_41 : decode cX2_wordToken 41 = .ok (.iload_n 1, 1) := by decide +kernel
theorem dX2_wordToken_42 : decode cX2_wordToken 42 = .ok (.iload_n 2, 1) := by decide +kernel
theorem dX2_wordToken_43 : decode cX2_wordToken 43 = .ok (.ldc 70, 2) := by decide +kernel
theorem dX2_wordToken_45 : decode cX2_wordToken 45 = .ok (.invokevirtual 62, 3) := by decide +kernel
theorem dX2_wordToken_48 : decode cX2_wordToken 48 = .ok (.ifCond .eq 6, 3) := by decide +kernel
theorem dX2_wordToken_51 : decode cX2_wordToken 51 = .ok (.bipush 7, 2) := by decide +kernel
theorem dX2_wordToken_53 : decode cX2_wordToken 53 = .ok (.ireturn, 1) := by decide +kernel
theorem dX2_wordToken_54 : decode cX2_wordToken 54 = .ok (.aload_n 0, 1) := by decide +kernel
theorem dX2_wordToken_55 : decode cX2_wordToken 55 = .ok (.iload_n 1, 1) := by decide +kernel
theorem dX2_wordToken_56 : decode cX2_wordToken 56 = .ok (.iload_n 2, 1) := by decide +kernel
theorem dX2_wordToken_57 : decode cX2_wordToken 57 = .ok (.ldc 72, 2) := by decide +kernel
theorem dX2_wordToken_59 : decode cX2_wordToken 59 = .ok (.invokevirtual 62, 3) := by decide +kernel
theorem dX2_wordToken_62 : decode cX2_wordToken 62 = .ok (.ifCond .eq 8, 3) := by decide +kernel
theorem dX2_wordToken_65 : decode cX2_wordToken 65 = .ok (.bipush 8, 2) := by decide +kernel
theorem dX2_wordToken_67 : decode cX2_wordToken 67 = .ok (.goto 4, 3) := by decide +kernel
theorem dX2_wordToken_70 : decode cX2_wordToken 70 = .ok (.iconst 1, 1) := by decide +kernel
theorem dX2_wordToken_71 : decode cX2_wordToken 71 = .ok (.ireturn, 1) := by decide +kernel
theorem dX2_spells_0 : decode cX2_spells 0 = .ok (.iload_n 2, 1) := by decide +kernel
theorem dX2_spells_1 : decode cX2_spells 1 = .ok (.iload_n 1, 1) := by decide +kernel
theorem dX2_spells_2 : decode cX2_spells 2 = .ok (.isub, 1) := by decide +kernel
theorem dX2_spells_3 : decode cX2_spells 3 = .ok (.aload_n 3, 1) := by decide +kernel
theorem dX2_spells_4 : decode cX2_spells 4 = .ok (.invokevirtual 74, 3) := by decide +kernel
theorem dX2_spells_7 : decode cX2_spells 7 = .ok (.if_icmp .eq 5, 3) := by decide +kernel
theorem dX2_spells_10 : decode cX2_spells 10 = .ok (.iconst 0, 1) := by decide +kernel
theorem dX2_spells_11 : decode cX2_spells 11 = .ok (.ireturn, 1) := by decide +kernel
theorem dX2_spells_12 : decode cX2_spells 12 = .ok (.iconst 0, 1) := by decide +kernel
theorem dX2_spells_13 : decode cX2_spells 13 = .ok (.istore 4, 2) := by decide +kernel
theorem dX2_spells_15 : decode cX2_spells 15 = .ok (.iload 4, 2) := by decide +kernel
theorem dX2_spells_17 : decode cX2_spells 17 = .ok (.aload_n 3, 1) := by decide +kernel
theorem dX2_spells_18 : decode cX2_spells 18 = .ok (.invokevirtual 74, 3) := by decide +kernel
theorem dX2_spells_21 : decode cX2_spells 21 = .ok (.if_icmp .ge 28, 3) := by decide +kernel
theorem dX2_spells_24 : decode cX2_spells 24 = .ok (.aload_n 0, 1) := by decide +kernel
theorem dX2_spells_25 : decode cX2_spells 25 = .ok (.iload_n 1, 1) := by decide +kernel
theorem dX2_spells_26 : decode cX2_spells 26 = .ok (.iload 4, 2) := by decide +kernel
theorem dX2_spells_28 : decode cX2_spells 28 = .ok (.iadd, 1) := by decide +kernel
theorem dX2_spells_29 : decode cX2_spells 29 = .ok (.invokevirtual 43, 3) := by decide +kernel
theorem dX2_spells_32 : decode cX2_spells 32 = .ok (.aload_n 3, 1) := by decide +kernel
theorem dX2_spells_33 : decode cX2_spells 33 = .ok (.iload 4, 2) := by decide +kernel
theorem dX2_spells_35 : decode cX2_spells 35 = .ok (.invokevirtual 79, 3) := by decide +kernel
theorem dX2_spells_38 : decode cX2_spells 38 = .ok (.if_icmp .eq 5, 3) := by decide +kernel
theorem dX2_spells_41 : decode cX2_spells 41 = .ok (.iconst 0, 1) := by decide +kernel
theorem dX2_spells_42 : decode cX2_spells 42 = .ok (.ireturn, 1) := by decide +kernel
theorem dX2_spells_43 : decode cX2_spells 43 = .ok (.iinc 4 1, 3) := by decide +kernel
theorem dX2_spells_46 : decode cX2_spells 46 = .ok (.goto (-31), 3) := by decide +kernel
theorem dX2_spells_49 : decode cX2_spells 49 = .ok (.iconst 1, 1) := by decide +kernel
theorem dX2_spells_50 : decode cX2_spells 50 = .ok (.ireturn, 1) := by decide +kernel
theorem dX2_byteAt_0 : decode cX2_byteAt 0 = .ok (.iload_n 1, 1) := by decide +kernel
theorem dX2_byteAt_1 : decode cX2_byteAt 1 = .ok (.ifCond .lt 27, 3) := by decide +kernel
theorem dX2_byteAt_4 : decode cX2_byteAt 4 = .ok (.iload_n 1, 1) := by decide +kernel
theorem dX2_byteAt_5 : decode cX2_byteAt 5 = .ok (.aload_n 0, 1) := by decide +kernel
theorem dX2_byteAt_6 : decode cX2_byteAt 6 = .ok (.getfield 24, 3) := by decide +kernel
theorem dX2_byteAt_9 : decode cX2_byteAt 9 = .ok (.if_icmp .ge 19, 3) := by decide +kernel
theorem dX2_byteAt_12 : decode cX2_byteAt 12 = .ok (.iload_n 1, 1) := by decide +kernel
theorem dX2_byteAt_13 : decode cX2_byteAt 13 = .ok (.sipush 150, 3) := by decide +kernel
theorem dX2_byteAt_16 : decode cX2_byteAt 16 = .ok (.if_icmp .ge 12, 3) := by decide +kernel
theorem dX2_byteAt_19 : decode cX2_byteAt 19 = .ok (.aload_n 0, 1) := by decide +kernel
theorem dX2_byteAt_20 : decode cX2_byteAt 20 = .ok (.getfield 9, 3) := by decide +kernel
theorem dX2_byteAt_23 : decode cX2_byteAt 23 = .ok (.iload_n 1, 1) := by decide +kernel
theorem dX2_byteAt_24 : decode cX2_byteAt 24 = .ok (.iaload, 1) := by decide +kernel
theorem dX2_byteAt_25 : decode cX2_byteAt 25 = .ok (.goto 4, 3) := by decide +kernel
theorem dX2_byteAt_28 : decode cX2_byteAt 28 = .ok (.iconst (-1), 1) := by decide +kernel
theorem dX2_byteAt_29 : decode cX2_byteAt 29 = .ok (.ireturn, 1) := by decide +kernel
theorem dX3_init_0 : decode cX3_init 0 = .ok (.aload_n 0, 1) := by decide +kernel
theorem dX3_init_1 : decode cX3_init 1 = .ok (.invokespecial 3, 3) := by decide +kernel
theorem dX3_init_4 : decode cX3_init 4 = .ok (.aload_n 0, 1) := by decide +kernel
theorem dX3_init_5 : decode cX3_init 5 = .ok (.bipush 24, 2) := by decide +kernel
theorem dX3_init_7 : decode cX3_init 7 = .ok (.newarray .long, 2) := by decide +kernel
theorem dX3_init_9 : decode cX3_init 9 = .ok (.putfield 9, 3) := by decide +kernel
theorem dX3_init_12 : decode cX3_init 12 = .ok (.aload_n 0, 1) := by decide +kernel
theorem dX3_init_13 : decode cX3_init 13 = .ok (.bipush 24, 2) := by decide +kernel
theorem dX3_init_15 : decode cX3_init 15 = .ok (.newarray .long, 2) := by decide +kernel
theorem dX3_init_17 : decode cX3_init 17 = .ok (.putfield 15, 3) := by decide +kernel
theorem dX3_init_20 : decode cX3_init 20 = .ok (.aload_n 0, 1) := by decide +kernel
theorem dX3_init_21 : decode cX3_init 21 = .ok (.bipush 24, 2) := by decide +kernel
theorem dX3_init_23 : decode cX3_init 23 = .ok (.newarray .long, 2) := by decide +kernel
theorem dX3_init_25 : decode cX3_init 25 = .ok (.putfield 18, 3) := by decide +kernel
theorem dX3_init_28 : decode cX3_init 28 = .ok (.return_, 1) := by decide +kernel
theorem dX3_place_0 : decode cX3_place 0 = .ok (.iconst 4, 1) := by decide +kernel
theorem dX3_place_1 : decode cX3_place 1 = .ok (.iload_n 0, 1) := by decide +kernel
theorem dX3_place_2 : decode cX3_place 2 = .ok (.imul, 1) := by decide +kernel
theorem dX3_place_3 : decode cX3_place 3 = .ok (.iload_n 1, 1) := by decide +kernel
theorem dX3_place_4 : decode cX3_place 4 = .ok (.iadd, 1) := by decide +kernel
theorem dX3_place_5 : decode cX3_place 5 = .ok (.ireturn, 1) := by decide +kernel
theorem dX3_weighFits_0 : decode cX3_weighFits 0 = .ok (.iconst 0, 1) := by decide +kernel
theorem dX3_weighFits_1 : decode cX3_weighFits 1 = .ok (.istore_n 3, 1) := by decide +kernel
theorem dX3_weighFits_2 : decode cX3_weighFits 2 = .ok (.iload_n 3, 1) := by decide +kernel
theorem dX3_weighFits_3 : decode cX3_weighFits 3 = .ok (.bipush 6, 2) := by decide +kernel
theorem dX3_weighFits_5 : decode cX3_weighFits 5 = .ok (.if_icmp .ge 76, 3) := by decide +kernel
theorem dX3_weighFits_8 : decode cX3_weighFits 8 = .ok (.iconst 0, 1) := by decide +kernel
theorem dX3_weighFits_9 : decode cX3_weighFits 9 = .ok (.istore 4, 2) := by decide +kernel
theorem dX3_weighFits_11 : decode cX3_weighFits 11 = .ok (.iload 4, 2) := by decide +kernel
theorem dX3_weighFits_13 : decode cX3_weighFits 13 = .ok (.iconst 4, 1) := by decide +kernel
theorem dX3_weighFits_14 : decode cX3_weighFits 14 = .ok (.if_icmp .ge 61, 3) := by decide +kernel
theorem dX3_weighFits_17 : decode cX3_weighFits 17 = .ok (.aload_n 1, 1) := by decide +kernel
theorem dX3_weighFits_18 : decode cX3_weighFits 18 = .ok (.iload_n 3, 1) := by decide +kernel
theorem dX3_weighFits_19 : decode cX3_weighFits 19 = .ok (.iload 4, 2) := by decide +kernel
theorem dX3_weighFits_21 : decode cX3_weighFits 21 = .ok (.invokevirtual 21, 3) := by decide +kernel
theorem dX3_weighFits_24 : decode cX3_weighFits 24 = .ok (.ifCond .eq 21, 3) := by decide +kernel
theorem dX3_weighFits_27 : decode cX3_weighFits 27 = .ok (.aload_n 1, 1) := by decide +kernel
theorem dX3_weighFits_28 : decode cX3_weighFits 28 = .ok (.iload_n 3, 1) := by decide +kernel
theorem dX3_weighFits_29 : decode cX3_weighFits 29 = .ok (.iload 4, 2) := by decide +kernel
theorem dX3_weighFits_31 : decode cX3_weighFits 31 = .ok (.invokevirtual 27, 3) := by decide +kernel
theorem dX3_weighFits_34 : decode cX3_weighFits 34 = .ok (.iload_n 2, 1) := by decide +kernel
theorem dX3_weighFits_35 : decode cX3_weighFits 35 = .ok (.iconst (-1), 1) := by decide +kernel
theorem dX3_weighFits_36 : decode cX3_weighFits 36 = .ok (.ixor, 1) := by decide +kernel
theorem dX3_weighFits_37 : decode cX3_weighFits 37 = .ok (.iand, 1) := by decide +kernel
theorem dX3_weighFits_38 : decode cX3_weighFits 38 = .ok (.ifCond .ne 7, 3) := by decide +kernel
theorem dX3_weighFits_41 : decode cX3_weighFits 41 = .ok (.iconst 1, 1) := by decide +kernel
theorem dX3_weighFits_42 : decode cX3_weighFits 42 = .ok (.goto 4, 3) := by decide +kernel
theorem dX3_weighFits_45 : decode cX3_weighFits 45 = .ok (.iconst 0, 1) := by decide +kernel
theorem dX3_weighFits_46 : decode cX3_weighFits 46 = .ok (.istore 5, 2) := by decide +kernel
theorem dX3_weighFits_48 : decode cX3_weighFits 48 = .ok (.aload_n 0, 1) := by decide +kernel
theorem dX3_weighFits_49 : decode cX3_weighFits 49 = .ok (.getfield 9, 3) := by decide +kernel
theorem dX3_weighFits_52 : decode cX3_weighFits 52 = .ok (.iload_n 3, 1) := by decide +kernel
theorem dX3_weighFits_53 : decode cX3_weighFits 53 = .ok (.iload 4, 2) := by decide +kernel
theorem dX3_weighFits_55 : decode cX3_weighFits 55 = .ok (.invokestatic 31, 3) := by decide +kernel
theorem dX3_weighFits_58 : decode cX3_weighFits 58 = .ok (.iload 5, 2) := by decide +kernel
theorem dX3_weighFits_60 : decode cX3_weighFits 60 = .ok (.ifCond .eq 7, 3) := by decide +kernel
theorem dX3_weighFits_63 : decode cX3_weighFits 63 = .ok (.lconst 1, 1) := by decide +kernel
theorem dX3_weighFits_64 : decode cX3_weighFits 64 = .ok (.goto 4, 3) := by decide +kernel
theorem dX3_weighFits_67 : decode cX3_weighFits 67 = .ok (.lconst 0, 1) := by decide +kernel
theorem dX3_weighFits_68 : decode cX3_weighFits 68 = .ok (.lastore, 1) := by decide +kernel
theorem dX3_weighFits_69 : decode cX3_weighFits 69 = .ok (.iinc 4 1, 3) := by decide +kernel
theorem dX3_weighFits_72 : decode cX3_weighFits 72 = .ok (.goto (-61), 3) := by decide +kernel
theorem dX3_weighFits_75 : decode cX3_weighFits 75 = .ok (.iinc 3 1, 3) := by decide +kernel
theorem dX3_weighFits_78 : decode cX3_weighFits 78 = .ok (.goto (-76), 3) := by decide +kernel
theorem dX3_weighFits_81 : decode cX3_weighFits 81 = .ok (.return_, 1) := by decide +kernel
theorem dX3_weighOdds_0 : decode cX3_weighOdds 0 = .ok (.iconst 0, 1) := by decide +kernel
theorem dX3_weighOdds_1 : decode cX3_weighOdds 1 = .ok (.istore_n 3, 1) := by decide +kernel
theorem dX3_weighOdds_2 : decode cX3_weighOdds 2 = .ok (.iload_n 3, 1) := by decide +kernel
theorem dX3_weighOdds_3 : decode cX3_weighOdds 3 = .ok (.bipush 6, 2) := by decide +kernel
theorem dX3_weighOdds_5 : decode cX3_weighOdds 5 = .ok (.if_icmp .ge 109, 3) := by decide +kernel
theorem dX3_weighOdds_8 : decode cX3_weighOdds 8 = .ok (.iconst 0, 1) := by decide +kernel
theorem dX3_weighOdds_9 : decode cX3_weighOdds 9 = .ok (.istore 4, 2) := by decide +kernel
theorem dX3_weighOdds_11 : decode cX3_weighOdds 11 = .ok (.iload 4, 2) := by decide +kernel
theorem dX3_weighOdds_13 : decode cX3_weighOdds 13 = .ok (.iconst 4, 1) := by decide +kernel
theorem dX3_weighOdds_14 : decode cX3_weighOdds 14 = .ok (.if_icmp .ge 94, 3) := by decide +kernel
theorem dX3_weighOdds_17 : decode cX3_weighOdds 17 = .ok (.aload_n 1, 1) := by decide +kernel
theorem dX3_weighOdds_18 : decode cX3_weighOdds 18 = .ok (.iload_n 3, 1) := by decide +kernel
theorem dX3_weighOdds_19 : decode cX3_weighOdds 19 = .ok (.iload 4, 2) := by decide +kernel
theorem dX3_weighOdds_21 : decode cX3_weighOdds 21 = .ok (.invokevirtual 27, 3) := by decide +kernel
theorem dX3_weighOdds_24 : decode cX3_weighOdds 24 = .ok (.invokestatic 34, 3) := by decide +kernel
theorem dX3_weighOdds_27 : decode cX3_weighOdds 27 = .ok (.istore 5, 2) := by decide +kernel
theorem dX3_weighOdds_29 : decode cX3_weighOdds 29 = .ok (.aload_n 1, 1) := by decide +kernel
theorem dX3_weighOdds_30 : decode cX3_weighOdds 30 = .ok (.iload_n 3, 1) := by decide +kernel
theorem dX3_weighOdds_31 : decode cX3_weighOdds 31 = .ok (.invokevirtual 40, 3) := by decide +kernel
theorem dX3_weighOdds_34 : decode cX3_weighOdds 34 = .ok (.istore 6, 2) := by decide +kernel
theorem dX3_weighOdds_36 : decode cX3_weighOdds 36 = .ok (.aload_n 1, 1) := by decide +kernel
theorem dX3_weighOdds_37 : decode cX3_weighOdds 37 = .ok (.iload_n 3, 1) := by decide +kernel
theorem dX3_weighOdds_38 : decode cX3_weighOdds 38 = .ok (.iload 4, 2) := by decide +kernel
theorem dX3_weighOdds_40 : decode cX3_weighOdds 40 = .ok (.invokevirtual 21, 3) := by decide +kernel
theorem dX3_weighOdds_43 : decode cX3_weighOdds 43 = .ok (.ifCond .eq 7, 3) := by decide +kernel
theorem dX3_weighOdds_46 : decode cX3_weighOdds 46 = .ok (.lconst 1, 1) := by decide +kernel
theorem dX3_weighOdds_47 : decode cX3_weighOdds 47 = .ok (.goto 4, 3) := by decide +kernel
theorem dX3_weighOdds_50 : decode cX3_weighOdds 50 = .ok (.lconst 0, 1) := by decide +kernel
theorem dX3_weighOdds_51 : decode cX3_weighOdds 51 = .ok (.lstore 7, 2) := by decide +kernel
theorem dX3_weighOdds_53 : decode cX3_weighOdds 53 = .ok (.iconst 0, 1) := by decide +kernel
theorem dX3_weighOdds_54 : decode cX3_weighOdds 54 = .ok (.istore 9, 2) := by decide +kernel
theorem dX3_weighOdds_56 : decode cX3_weighOdds 56 = .ok (.iload 9, 2) := by decide +kernel
theorem dX3_weighOdds_58 : decode cX3_weighOdds 58 = .ok (.iload 6, 2) := by decide +kernel
theorem dX3_weighOdds_60 : decode cX3_weighOdds 60 = .ok (.if_icmp .ge 29, 3) := by decide +kernel
theorem dX3_weighOdds_63 : decode cX3_weighOdds 63 = .ok (.lload 7, 2) := by decide +kernel
theorem dX3_weighOdds_65 : decode cX3_weighOdds 65 = .ok (.iload 9, 2) := by decide +kernel
theorem dX3_weighOdds_67 : decode cX3_weighOdds 67 = .ok (.iload 5, 2) := by decide +kernel
