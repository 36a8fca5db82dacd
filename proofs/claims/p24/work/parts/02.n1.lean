theorem dX0_init_0 : decode cX0_init 0 = .ok (.aload_n 0, 1) := by decide +kernel
theorem dX0_init_1 : decode cX0_init 1 = .ok (.invokespecial 3, 3) := by decide +kernel
theorem dX0_init_4 : decode cX0_init 4 = .ok (.aload_n 0, 1) := by decide +kernel
theorem dX0_init_5 : decode cX0_init 5 = .ok (.iconst 4, 1) := by decide +kernel
theorem dX0_init_6 : decode cX0_init 6 = .ok (.newarray .int, 2) := by decide +kernel
theorem dX0_init_8 : decode cX0_init 8 = .ok (.putfield 9, 3) := by decide +kernel
theorem dX0_init_11 : decode cX0_init 11 = .ok (.aload_n 0, 1) := by decide +kernel
theorem dX0_init_12 : decode cX0_init 12 = .ok (.bipush 12, 2) := by decide +kernel
theorem dX0_init_14 : decode cX0_init 14 = .ok (.newarray .int, 2) := by decide +kernel
theorem dX0_init_16 : decode cX0_init 16 = .ok (.putfield 15, 3) := by decide +kernel
theorem dX0_init_19 : decode cX0_init 19 = .ok (.aload_n 0, 1) := by decide +kernel
theorem dX0_init_20 : decode cX0_init 20 = .ok (.bipush 12, 2) := by decide +kernel
theorem dX0_init_22 : decode cX0_init 22 = .ok (.newarray .int, 2) := by decide +kernel
theorem dX0_init_24 : decode cX0_init 24 = .ok (.putfield 18, 3) := by decide +kernel
theorem dX0_init_27 : decode cX0_init 27 = .ok (.aload_n 0, 1) := by decide +kernel
theorem dX0_init_28 : decode cX0_init 28 = .ok (.aload_n 1, 1) := by decide +kernel
theorem dX0_init_29 : decode cX0_init 29 = .ok (.putfield 21, 3) := by decide +kernel
theorem dX0_init_32 : decode cX0_init 32 = .ok (.aload_n 0, 1) := by decide +kernel
theorem dX0_init_33 : decode cX0_init 33 = .ok (.aload_n 2, 1) := by decide +kernel
theorem dX0_init_34 : decode cX0_init 34 = .ok (.putfield 25, 3) := by decide +kernel
theorem dX0_init_37 : decode cX0_init 37 = .ok (.aload_n 0, 1) := by decide +kernel
theorem dX0_init_38 : decode cX0_init 38 = .ok (.aload_n 3, 1) := by decide +kernel
theorem dX0_init_39 : decode cX0_init 39 = .ok (.putfield 29, 3) := by decide +kernel
theorem dX0_init_42 : decode cX0_init 42 = .ok (.return_, 1) := by decide +kernel
theorem dX0_foresee_0 : decode cX0_foresee 0 = .ok (.aload_n 0, 1) := by decide +kernel
theorem dX0_foresee_1 : decode cX0_foresee 1 = .ok (.iload_n 2, 1) := by decide +kernel
theorem dX0_foresee_2 : decode cX0_foresee 2 = .ok (.iload_n 3, 1) := by decide +kernel
theorem dX0_foresee_3 : decode cX0_foresee 3 = .ok (.iload 4, 2) := by decide +kernel
theorem dX0_foresee_5 : decode cX0_foresee 5 = .ok (.invokevirtual 33, 3) := by decide +kernel
theorem dX0_foresee_8 : decode cX0_foresee 8 = .ok (.iconst 0, 1) := by decide +kernel
theorem dX0_foresee_9 : decode cX0_foresee 9 = .ok (.istore 5, 2) := by decide +kernel
theorem dX0_foresee_11 : decode cX0_foresee 11 = .ok (.iload 5, 2) := by decide +kernel
theorem dX0_foresee_13 : decode cX0_foresee 13 = .ok (.bipush 12, 2) := by decide +kernel
theorem dX0_foresee_15 : decode cX0_foresee 15 = .ok (.if_icmp .ge 16, 3) := by decide +kernel
theorem dX0_foresee_18 : decode cX0_foresee 18 = .ok (.aload_n 0, 1) := by decide +kernel
theorem dX0_foresee_19 : decode cX0_foresee 19 = .ok (.aload_n 1, 1) := by decide +kernel
theorem dX0_foresee_20 : decode cX0_foresee 20 = .ok (.iload 5, 2) := by decide +kernel
theorem dX0_foresee_22 : decode cX0_foresee 22 = .ok (.invokevirtual 37, 3) := by decide +kernel
theorem dX0_foresee_25 : decode cX0_foresee 25 = .ok (.iinc 5 1, 3) := by decide +kernel
theorem dX0_foresee_28 : decode cX0_foresee 28 = .ok (.goto (-17), 3) := by decide +kernel
theorem dX0_foresee_31 : decode cX0_foresee 31 = .ok (.return_, 1) := by decide +kernel
theorem dX0_lookFrom_0 : decode cX0_lookFrom 0 = .ok (.aload_n 0, 1) := by decide +kernel
theorem dX0_lookFrom_1 : decode cX0_lookFrom 1 = .ok (.iload_n 1, 1) := by decide +kernel
theorem dX0_lookFrom_2 : decode cX0_lookFrom 2 = .ok (.iconst 1, 1) := by decide +kernel
theorem dX0_lookFrom_3 : decode cX0_lookFrom 3 = .ok (.iadd, 1) := by decide +kernel
theorem dX0_lookFrom_4 : decode cX0_lookFrom 4 = .ok (.putfield 41, 3) := by decide +kernel
theorem dX0_lookFrom_7 : decode cX0_lookFrom 7 = .ok (.iconst 0, 1) := by decide +kernel
theorem dX0_lookFrom_8 : decode cX0_lookFrom 8 = .ok (.istore 4, 2) := by decide +kernel
theorem dX0_lookFrom_10 : decode cX0_lookFrom 10 = .ok (.iload 4, 2) := by decide +kernel
theorem dX0_lookFrom_12 : decode cX0_lookFrom 12 = .ok (.iconst 4, 1) := by decide +kernel
theorem dX0_lookFrom_13 : decode cX0_lookFrom 13 = .ok (.if_icmp .ge 44, 3) := by decide +kernel
theorem dX0_lookFrom_16 : decode cX0_lookFrom 16 = .ok (.aload_n 0, 1) := by decide +kernel
theorem dX0_lookFrom_17 : decode cX0_lookFrom 17 = .ok (.getfield 9, 3) := by decide +kernel
theorem dX0_lookFrom_20 : decode cX0_lookFrom 20 = .ok (.iload 4, 2) := by decide +kernel
theorem dX0_lookFrom_22 : decode cX0_lookFrom 22 = .ok (.aload_n 0, 1) := by decide +kernel
theorem dX0_lookFrom_23 : decode cX0_lookFrom 23 = .ok (.getfield 25, 3) := by decide +kernel
theorem dX0_lookFrom_26 : decode cX0_lookFrom 26 = .ok (.iload 4, 2) := by decide +kernel
theorem dX0_lookFrom_28 : decode cX0_lookFrom 28 = .ok (.invokevirtual 45, 3) := by decide +kernel
theorem dX0_lookFrom_31 : decode cX0_lookFrom 31 = .ok (.ifCond .eq 7, 3) := by decide +kernel
theorem dX0_lookFrom_34 : decode cX0_lookFrom 34 = .ok (.iload_n 1, 1) := by decide +kernel
theorem dX0_lookFrom_35 : decode cX0_lookFrom 35 = .ok (.goto 15, 3) := by decide +kernel
theorem dX0_lookFrom_38 : decode cX0_lookFrom 38 = .ok (.aload_n 0, 1) := by decide +kernel
theorem dX0_lookFrom_39 : decode cX0_lookFrom 39 = .ok (.getfield 25, 3) := by decide +kernel
theorem dX0_lookFrom_42 : decode cX0_lookFrom 42 = .ok (.iload 4, 2) := by decide +kernel
theorem dX0_lookFrom_44 : decode cX0_lookFrom 44 = .ok (.iload_n 1, 1) := by decide +kernel
theorem dX0_lookFrom_45 : decode cX0_lookFrom 45 = .ok (.iload_n 2, 1) := by decide +kernel
theorem dX0_lookFrom_46 : decode cX0_lookFrom 46 = .ok (.iload_n 3, 1) := by decide +kernel
theorem dX0_lookFrom_47 : decode cX0_lookFrom 47 = .ok (.invokevirtual 51, 3) := by decide +kernel
theorem dX0_lookFrom_50 : decode cX0_lookFrom 50 = .ok (.iastore, 1) := by decide +kernel
theorem dX0_lookFrom_51 : decode cX0_lookFrom 51 = .ok (.iinc 4 1, 3) := by decide +kernel
theorem dX0_lookFrom_54 : decode cX0_lookFrom 54 = .ok (.goto (-44), 3) := by decide +kernel
theorem dX0_lookFrom_57 : decode cX0_lookFrom 57 = .ok (.return_, 1) := by decide +kernel
theorem dX0_foreseeStep_0 : decode cX0_foreseeStep 0 = .ok (.iload_n 2, 1) := by decide +kernel
theorem dX0_foreseeStep_1 : decode cX0_foreseeStep 1 = .ok (.ifCond .lt 9, 3) := by decide +kernel
theorem dX0_foreseeStep_4 : decode cX0_foreseeStep 4 = .ok (.iload_n 2, 1) := by decide +kernel
theorem dX0_foreseeStep_5 : decode cX0_foreseeStep 5 = .ok (.bipush 12, 2) := by decide +kernel
theorem dX0_foreseeStep_7 : decode cX0_foreseeStep 7 = .ok (.if_icmp .lt 4, 3) := by decide +kernel
theorem dX0_foreseeStep_10 : decode cX0_foreseeStep 10 = .ok (.return_, 1) := by decide +kernel
theorem dX0_foreseeStep_11 : decode cX0_foreseeStep 11 = .ok (.aload_n 0, 1) := by decide +kernel
theorem dX0_foreseeStep_12 : decode cX0_foreseeStep 12 = .ok (.aload_n 1, 1) := by decide +kernel
theorem dX0_foreseeStep_13 : decode cX0_foreseeStep 13 = .ok (.iload_n 2, 1) := by decide +kernel
theorem dX0_foreseeStep_14 : decode cX0_foreseeStep 14 = .ok (.invokevirtual 55, 3) := by decide +kernel
theorem dX0_foreseeStep_17 : decode cX0_foreseeStep 17 = .ok (.istore_n 3, 1) := by decide +kernel
theorem dX0_foreseeStep_18 : decode cX0_foreseeStep 18 = .ok (.aload_n 0, 1) := by decide +kernel
theorem dX0_foreseeStep_19 : decode cX0_foreseeStep 19 = .ok (.getfield 15, 3) := by decide +kernel
theorem dX0_foreseeStep_22 : decode cX0_foreseeStep 22 = .ok (.iload_n 2, 1) := by decide +kernel
theorem dX0_foreseeStep_23 : decode cX0_foreseeStep 23 = .ok (.iload_n 3, 1) := by decide +kernel
theorem dX0_foreseeStep_24 : decode cX0_foreseeStep 24 = .ok (.iastore, 1) := by decide +kernel
theorem dX0_foreseeStep_25 : decode cX0_foreseeStep 25 = .ok (.aload_n 0, 1) := by decide +kernel
theorem dX0_foreseeStep_26 : decode cX0_foreseeStep 26 = .ok (.getfield 18, 3) := by decide +kernel
theorem dX0_foreseeStep_29 : decode cX0_foreseeStep 29 = .ok (.iload_n 2, 1) := by decide +kernel
theorem dX0_foreseeStep_30 : decode cX0_foreseeStep 30 = .ok (.iload_n 3, 1) := by decide +kernel
theorem dX0_foreseeStep_31 : decode cX0_foreseeStep 31 = .ok (.iconst (-1), 1) := by decide +kernel
theorem dX0_foreseeStep_32 : decode cX0_foreseeStep 32 = .ok (.if_icmp .ne 7, 3) := by decide +kernel
theorem dX0_foreseeStep_35 : decode cX0_foreseeStep 35 = .ok (.iconst (-1), 1) := by decide +kernel
theorem dX0_foreseeStep_36 : decode cX0_foreseeStep 36 = .ok (.goto 16, 3) := by decide +kernel
theorem dX0_foreseeStep_39 : decode cX0_foreseeStep 39 = .ok (.iload_n 3, 1) := by decide +kernel
theorem dX0_foreseeStep_40 : decode cX0_foreseeStep 40 = .ok (.aload_n 0, 1) := by decide +kernel
theorem dX0_foreseeStep_41 : decode cX0_foreseeStep 41 = .ok (.getfield 21, 3) := by decide +kernel
theorem dX0_foreseeStep_44 : decode cX0_foreseeStep 44 = .ok (.aload_n 1, 1) := by decide +kernel
theorem dX0_foreseeStep_45 : decode cX0_foreseeStep 45 = .ok (.iload_n 2, 1) := by decide +kernel
theorem dX0_foreseeStep_46 : decode cX0_foreseeStep 46 = .ok (.invokevirtual 59, 3) := by decide +kernel
theorem dX0_foreseeStep_49 : decode cX0_foreseeStep 49 = .ok (.iadd, 1) := by decide +kernel
theorem dX0_foreseeStep_50 : decode cX0_foreseeStep 50 = .ok (.iconst 1, 1) := by decide +kernel
theorem dX0_foreseeStep_51 : decode cX0_foreseeStep 51 = .ok (.isub, 1) := by decide +kernel
theorem dX0_foreseeStep_52 : decode cX0_foreseeStep 52 = .ok (.iastore, 1) := by decide +kernel
theorem dX0_foreseeStep_53 : decode cX0_foreseeStep 53 = .ok (.return_, 1) := by decide +kernel
theorem dX0_beginOf_0 : decode cX0_beginOf 0 = .ok (.iload_n 2, 1) := by decide +kernel
theorem dX0_beginOf_1 : decode cX0_beginOf 1 = .ok (.ifCond .lt 27, 3) := by decide +kernel
theorem dX0_beginOf_4 : decode cX0_beginOf 4 = .ok (.iload_n 2, 1) := by decide +kernel
theorem dX0_beginOf_5 : decode cX0_beginOf 5 = .ok (.bipush 12, 2) := by decide +kernel
theorem dX0_beginOf_7 : decode cX0_beginOf 7 = .ok (.if_icmp .ge 21, 3) := by decide +kernel
theorem dX0_beginOf_10 : decode cX0_beginOf 10 = .ok (.aload_n 1, 1) := by decide +kernel
theorem dX0_beginOf_11 : decode cX0_beginOf 11 = .ok (.getfield 64, 3) := by decide +kernel
theorem dX0_beginOf_14 : decode cX0_beginOf 14 = .ok (.ifCond .ne 14, 3) := by decide +kernel
theorem dX0_beginOf_17 : decode cX0_beginOf 17 = .ok (.aload_n 1, 1) := by decide +kernel
theorem dX0_beginOf_18 : decode cX0_beginOf 18 = .ok (.getfield 70, 3) := by decide +kernel
theorem dX0_beginOf_21 : decode cX0_beginOf 21 = .ok (.iload_n 2, 1) := by decide +kernel
theorem dX0_beginOf_22 : decode cX0_beginOf 22 = .ok (.invokestatic 73, 3) := by decide +kernel
theorem dX0_beginOf_25 : decode cX0_beginOf 25 = .ok (.ifCond .ne 5, 3) := by decide +kernel
theorem dX0_beginOf_28 : decode cX0_beginOf 28 = .ok (.iconst (-1), 1) := by decide +kernel
theorem dX0_beginOf_29 : decode cX0_beginOf 29 = .ok (.ireturn, 1) := by decide +kernel
theorem dX0_beginOf_30 : decode cX0_beginOf 30 = .ok (.aload_n 1, 1) := by decide +kernel
theorem dX0_beginOf_31 : decode cX0_beginOf 31 = .ok (.getfield 77, 3) := by decide +kernel
theorem dX0_beginOf_34 : decode cX0_beginOf 34 = .ok (.iload_n 2, 1) := by decide +kernel
theorem dX0_beginOf_35 : decode cX0_beginOf 35 = .ok (.iaload, 1) := by decide +kernel
theorem dX0_beginOf_36 : decode cX0_beginOf 36 = .ok (.ifCond .eq 10, 3) := by decide +kernel
theorem dX0_beginOf_39 : decode cX0_beginOf 39 = .ok (.aload_n 1, 1) := by decide +kernel
theorem dX0_beginOf_40 : decode cX0_beginOf 40 = .ok (.getfield 80, 3) := by decide +kernel
theorem dX0_beginOf_43 : decode cX0_beginOf 43 = .ok (.iload_n 2, 1) := by decide +kernel
theorem dX0_beginOf_44 : decode cX0_beginOf 44 = .ok (.iaload, 1) := by decide +kernel
theorem dX0_beginOf_45 : decode cX0_beginOf 45 = .ok (.ireturn, 1) := by decide +kernel
theorem dX0_beginOf_46 : decode cX0_beginOf 46 = .ok (.aload_n 0, 1) := by decide +kernel
theorem dX0_beginOf_47 : decode cX0_beginOf 47 = .ok (.getfield 41, 3) := by decide +kernel
theorem dX0_beginOf_50 : decode cX0_beginOf 50 = .ok (.aload_n 1, 1) := by decide +kernel
theorem dX0_beginOf_51 : decode cX0_beginOf 51 = .ok (.getfield 81, 3) := by decide +kernel
theorem dX0_beginOf_54 : decode cX0_beginOf 54 = .ok (.invokestatic 84, 3) := by decide +kernel
theorem dX0_beginOf_57 : decode cX0_beginOf 57 = .ok (.istore_n 3, 1) := by decide +kernel
theorem dX0_beginOf_58 : decode cX0_beginOf 58 = .ok (.aload_n 0, 1) := by decide +kernel
theorem dX0_beginOf_59 : decode cX0_beginOf 59 = .ok (.getfield 21, 3) := by decide +kernel
theorem dX0_beginOf_62 : decode cX0_beginOf 62 = .ok (.getfield 90, 3) := by decide +kernel
theorem dX0_beginOf_65 : decode cX0_beginOf 65 = .ok (.iload_n 2, 1) := by decide +kernel
theorem dX0_beginOf_66 : decode cX0_beginOf 66 = .ok (.iaload, 1) := by decide +kernel
theorem dX0_beginOf_67 : decode cX0_beginOf 67 = .ok (.aload_n 1, 1) := by decide +kernel
theorem dX0_beginOf_68 : decode cX0_beginOf 68 = .ok (.getfield 70, 3) := by decide +kernel
theorem dX0_beginOf_71 : decode cX0_beginOf 71 = .ok (.iand, 1) := by decide +kernel
theorem dX0_beginOf_72 : decode cX0_beginOf 72 = .ok (.istore 4, 2) := by decide +kernel
theorem dX0_beginOf_74 : decode cX0_beginOf 74 = .ok (.iconst 0, 1) := by decide +kernel
theorem dX0_beginOf_75 : decode cX0_beginOf 75 = .ok (.istore 5, 2) := by decide +kernel
theorem dX0_beginOf_77 : decode cX0_beginOf 77 = .ok (.iload 5, 2) := by decide +kernel
theorem dX0_beginOf_79 : decode cX0_beginOf 79 = .ok (.iload_n 2, 1) := by decide +kernel
theorem dX0_beginOf_80 : decode cX0_beginOf 80 = .ok (.if_icmp .ge 46, 3) := by decide +kernel
theorem dX0_beginOf_83 : decode cX0_beginOf 83 = .ok (.iload 4, 2) := by decide +kernel
theorem dX0_beginOf_85 : decode cX0_beginOf 85 = .ok (.iload 5, 2) := by decide +kernel
theorem dX0_beginOf_87 : decode cX0_beginOf 87 = .ok (.invokestatic 73, 3) := by decide +kernel
theorem dX0_beginOf_90 : decode cX0_beginOf 90 = .ok (.ifCond .eq 30, 3) := by decide +kernel
theorem dX0_beginOf_93 : decode cX0_beginOf 93 = .ok (.aload_n 0, 1) := by decide +kernel
theorem dX0_beginOf_94 : decode cX0_beginOf 94 = .ok (.getfield 18, 3) := by decide +kernel
theorem dX0_beginOf_97 : decode cX0_beginOf 97 = .ok (.iload 5, 2) := by decide +kernel
theorem dX0_beginOf_99 : decode cX0_beginOf 99 = .ok (.iaload, 1) := by decide +kernel
theorem dX0_beginOf_100 : decode cX0_beginOf 100 = .ok (.iconst (-1), 1) := by decide +kernel
theorem dX0_beginOf_101 : decode cX0_beginOf 101 = .ok (.if_icmp .ne 5, 3) := by decide +kernel
theorem dX0_beginOf_104 : decode cX0_beginOf 104 = .ok (.iconst (-1), 1) := by decide +kernel
theorem dX0_beginOf_105 : decode cX0_beginOf 105 = .ok (.ireturn, 1) := by decide +kernel
theorem dX0_beginOf_106 : decode cX0_beginOf 106 = .ok (.iload_n 3, 1) := by decide +kernel
theorem dX0_beginOf_107 : decode cX0_beginOf 107 = .ok (.aload_n 0, 1) := by decide +kernel
theorem dX0_beginOf_108 : decode cX0_beginOf 108 = .ok (.getfield 18, 3) := by decide +kernel
theorem dX0_beginOf_111 : decode cX0_beginOf 111 = .ok (.iload 5, 2) := by decide +kernel
theorem dX0_beginOf_113 : decode cX0_beginOf 113 = .ok (.iaload, 1) := by decide +kernel
theorem dX0_beginOf_114 : decode cX0_beginOf 114 = .ok (.iconst 1, 1) := by decide +kernel
theorem dX0_beginOf_115 : decode cX0_beginOf 115 = .ok (.iadd, 1) := by decide +kernel
theorem dX0_beginOf_116 : decode cX0_beginOf 116 = .ok (.invokestatic 84, 3) := by decide +kernel
theorem dX0_beginOf_119 : decode cX0_beginOf 119 = .ok (.istore_n 3, 1) := by decide +kernel
theorem dX0_beginOf_120 : decode cX0_beginOf 120 = .ok (.iinc 5 1, 3) := by decide +kernel
theorem dX0_beginOf_123 : decode cX0_beginOf 123 = .ok (.goto (-46), 3) := by decide +kernel
theorem dX0_beginOf_126 : decode cX0_beginOf 126 = .ok (.aload_n 0, 1) := by decide +kernel
theorem dX0_beginOf_127 : decode cX0_beginOf 127 = .ok (.getfield 21, 3) := by decide +kernel
theorem dX0_beginOf_130 : decode cX0_beginOf 130 = .ok (.getfield 93, 3) := by decide +kernel
theorem dX0_beginOf_133 : decode cX0_beginOf 133 = .ok (.iload_n 2, 1) := by decide +kernel
theorem dX0_beginOf_134 : decode cX0_beginOf 134 = .ok (.iaload, 1) := by decide +kernel
theorem dX0_beginOf_135 : decode cX0_beginOf 135 = .ok (.iconst 2, 1) := by decide +kernel
theorem dX0_beginOf_136 : decode cX0_beginOf 136 = .ok (.if_icmp .ne 21, 3) := by decide +kernel
theorem dX0_beginOf_139 : decode cX0_beginOf 139 = .ok (.iload_n 3, 1) := by decide +kernel
theorem dX0_beginOf_140 : decode cX0_beginOf 140 = .ok (.aload_n 0, 1) := by decide +kernel
theorem dX0_beginOf_141 : decode cX0_beginOf 141 = .ok (.getfield 29, 3) := by decide +kernel
theorem dX0_beginOf_144 : decode cX0_beginOf 144 = .ok (.aload_n 1, 1) := by decide +kernel
theorem dX0_beginOf_145 : decode cX0_beginOf 145 = .ok (.getfield 96, 3) := by decide +kernel
theorem dX0_beginOf_148 : decode cX0_beginOf 148 = .ok (.iload_n 2, 1) := by decide +kernel
theorem dX0_beginOf_149 : decode cX0_beginOf 149 = .ok (.iaload, 1) := by decide +kernel
theorem dX0_beginOf_150 : decode cX0_beginOf 150 = .ok (.invokevirtual 99, 3) := by decide +kernel
theorem dX0_beginOf_153 : decode cX0_beginOf 153 = .ok (.invokestatic 84, 3) := by decide +kernel
theorem dX0_beginOf_156 : decode cX0_beginOf 156 = .ok (.ireturn, 1) := by decide +kernel
theorem dX0_beginOf_157 : decode cX0_beginOf 157 = .ok (.aload_n 0, 1) := by decide +kernel
theorem dX0_beginOf_158 : decode cX0_beginOf 158 = .ok (.getfield 21, 3) := by decide +kernel
theorem dX0_beginOf_161 : decode cX0_beginOf 161 = .ok (.getfield 93, 3) := by decide +kernel
theorem dX0_beginOf_164 : decode cX0_beginOf 164 = .ok (.iload_n 2, 1) := by decide +kernel
theorem dX0_beginOf_165 : decode cX0_beginOf 165 = .ok (.iaload, 1) := by decide +kernel
theorem dX0_beginOf_166 : decode cX0_beginOf 166 = .ok (.iconst 1, 1) := by decide +kernel
theorem dX0_beginOf_167 : decode cX0_beginOf 167 = .ok (.if_icmp .ne 20, 3) := by decide +kernel
theorem dX0_beginOf_170 : decode cX0_beginOf 170 = .ok (.aload_n 0, 1) := by decide +kernel
theorem dX0_beginOf_171 : decode cX0_beginOf 171 = .ok (.iload_n 3, 1) := by decide +kernel
theorem dX0_beginOf_172 : decode cX0_beginOf 172 = .ok (.aload_n 0, 1) := by decide +kernel
theorem dX0_beginOf_173 : decode cX0_beginOf 173 = .ok (.getfield 21, 3) := by decide +kernel
theorem dX0_beginOf_176 : decode cX0_beginOf 176 = .ok (.getfield 105, 3) := by decide +kernel
theorem dX0_beginOf_179 : decode cX0_beginOf 179 = .ok (.iload_n 2, 1) := by decide +kernel
theorem dX0_beginOf_180 : decode cX0_beginOf 180 = .ok (.iaload, 1) := by decide +kernel
theorem dX0_beginOf_181 : decode cX0_beginOf 181 = .ok (.invokevirtual 108, 3) := by decide +kernel
theorem dX0_beginOf_184 : decode cX0_beginOf 184 = .ok (.goto 4, 3) := by decide +kernel
theorem dX0_beginOf_187 : decode cX0_beginOf 187 = .ok (.iload_n 3, 1) := by decide +kernel
theorem dX0_beginOf_188 : decode cX0_beginOf 188 = .ok (.ireturn, 1) := by decide +kernel
theorem dX0_withSupply_0 : decode cX0_withSupply 0 = .ok (.iload_n 2, 1) := by decide +kernel
theorem dX0_withSupply_1 : decode cX0_withSupply 1 = .ok (.ifCond .lt 18, 3) := by decide +kernel
theorem dX0_withSupply_4 : decode cX0_withSupply 4 = .ok (.iload_n 2, 1) := by decide +kernel
theorem dX0_withSupply_5 : decode cX0_withSupply 5 = .ok (.iconst 4, 1) := by decide +kernel
theorem dX0_withSupply_6 : decode cX0_withSupply 6 = .ok (.if_icmp .ge 13, 3) := by decide +kernel
theorem dX0_withSupply_9 : decode cX0_withSupply 9 = .ok (.aload_n 0, 1) := by decide +kernel
theorem dX0_withSupply_10 : decode cX0_withSupply 10 = .ok (.getfield 9, 3) := by decide +kernel
theorem dX0_withSupply_13 : decode cX0_withSupply 13 = .ok (.iload_n 2, 1) := by decide +kernel
theorem dX0_withSupply_14 : decode cX0_withSupply 14 = .ok (.iaload, 1) := by decide +kernel
theorem dX0_withSupply_15 : decode cX0_withSupply 15 = .ok (.iconst (-1), 1) := by decide +kernel
theorem dX0_withSupply_16 : decode cX0_withSupply 16 = .ok (.if_icmp .ne 5, 3) := by decide +kernel
theorem dX0_withSupply_19 : decode cX0_withSupply 19 = .ok (.iconst (-1), 1) := by decide +kernel
theorem dX0_withSupply_20 : decode cX0_withSupply 20 = .ok (.ireturn, 1) := by decide +kernel
theorem dX0_withSupply_21 : decode cX0_withSupply 21 = .ok (.iload_n 1, 1) := by decide +kernel
theorem dX0_withSupply_22 : decode cX0_withSupply 22 = .ok (.aload_n 0, 1) := by decide +kernel
theorem dX0_withSupply_23 : decode cX0_withSupply 23 = .ok (.getfield 9, 3) := by decide +kernel
theorem dX0_withSupply_26 : decode cX0_withSupply 26 = .ok (.iload_n 2, 1) := by decide +kernel
theorem dX0_withSupply_27 : decode cX0_withSupply 27 = .ok (.iaload, 1) := by decide +kernel
theorem dX0_withSupply_28 : decode cX0_withSupply 28 = .ok (.invokestatic 84, 3) := by decide +kernel
theorem dX0_withSupply_31 : decode cX0_withSupply 31 = .ok (.ireturn, 1) := by decide +kernel
theorem dX0_dayBehind_0 : decode cX0_dayBehind 0 = .ok (.aload_n 0, 1) := by decide +kernel
theorem dX0_dayBehind_1 : decode cX0_dayBehind 1 = .ok (.iload_n 1, 1) := by decide +kernel
theorem dX0_dayBehind_2 : decode cX0_dayBehind 2 = .ok (.invokevirtual 111, 3) := by decide +kernel
theorem dX0_dayBehind_5 : decode cX0_dayBehind 5 = .ok (.istore_n 2, 1) := by decide +kernel
theorem dX0_dayBehind_6 : decode cX0_dayBehind 6 = .ok (.iload_n 2, 1) := by decide +kernel
theorem dX0_dayBehind_7 : decode cX0_dayBehind 7 = .ok (.iconst (-1), 1) := by decide +kernel
theorem dX0_dayBehind_8 : decode cX0_dayBehind 8 = .ok (.if_icmp .ne 7, 3) := by decide +kernel
theorem dX0_dayBehind_11 : decode cX0_dayBehind 11 = .ok (.iconst (-1), 1) := by decide +kernel
theorem dX0_dayBehind_12 : decode cX0_dayBehind 12 = .ok (.goto 6, 3) := by decide +kernel
theorem dX0_dayBehind_15 : decode cX0_dayBehind 15 = .ok (.iload_n 2, 1) := by decide +kernel
theorem dX0_dayBehind_16 : decode cX0_dayBehind 16 = .ok (.iconst 1, 1) := by decide +kernel
theorem dX0_dayBehind_17 : decode cX0_dayBehind 17 = .ok (.iadd, 1) := by decide +kernel
theorem dX0_dayBehind_18 : decode cX0_dayBehind 18 = .ok (.ireturn, 1) := by decide +kernel
theorem dX0_greatestEnd_0 : decode cX0_greatestEnd 0 = .ok (.iconst (-1), 1) := by decide +kernel
theorem dX0_greatestEnd_1 : decode cX0_greatestEnd 1 = .ok (.istore_n 2, 1) := by decide +kernel
theorem dX0_greatestEnd_2 : decode cX0_greatestEnd 2 = .ok (.iconst 0, 1) := by decide +kernel
theorem dX0_greatestEnd_3 : decode cX0_greatestEnd 3 = .ok (.istore_n 3, 1) := by decide +kernel
theorem dX0_greatestEnd_4 : decode cX0_greatestEnd 4 = .ok (.iload_n 3, 1) := by decide +kernel
theorem dX0_greatestEnd_5 : decode cX0_greatestEnd 5 = .ok (.bipush 12, 2) := by decide +kernel
theorem dX0_greatestEnd_7 : decode cX0_greatestEnd 7 = .ok (.if_icmp .ge 40, 3) := by decide +kernel
theorem dX0_greatestEnd_10 : decode cX0_greatestEnd 10 = .ok (.iload_n 1, 1) := by decide +kernel
theorem dX0_greatestEnd_11 : decode cX0_greatestEnd 11 = .ok (.iload_n 3, 1) := by decide +kernel
theorem dX0_greatestEnd_12 : decode cX0_greatestEnd 12 = .ok (.invokestatic 73, 3) := by decide +kernel
theorem dX0_greatestEnd_15 : decode cX0_greatestEnd 15 = .ok (.ifCond .eq 26, 3) := by decide +kernel
theorem dX0_greatestEnd_18 : decode cX0_greatestEnd 18 = .ok (.aload_n 0, 1) := by decide +kernel
theorem dX0_greatestEnd_19 : decode cX0_greatestEnd 19 = .ok (.getfield 18, 3) := by decide +kernel
theorem dX0_greatestEnd_22 : decode cX0_greatestEnd 22 = .ok (.iload_n 3, 1) := by decide +kernel
theorem dX0_greatestEnd_23 : decode cX0_greatestEnd 23 = .ok (.iaload, 1) := by decide +kernel
theorem dX0_greatestEnd_24 : decode cX0_greatestEnd 24 = .ok (.iconst (-1), 1) := by decide +kernel
theorem dX0_greatestEnd_25 : decode cX0_greatestEnd 25 = .ok (.if_icmp .ne 5, 3) := by decide +kernel
theorem dX0_greatestEnd_28 : decode cX0_greatestEnd 28 = .ok (.iconst (-1), 1) := by decide +kernel
theorem dX0_greatestEnd_29 : decode cX0_greatestEnd 29 = .ok (.ireturn, 1) := by decide +kernel
theorem dX0_greatestEnd_30 : decode cX0_greatestEnd 30 = .ok (.iload_n 2, 1) := by decide +kernel
theorem dX0_greatestEnd_31 : decode cX0_greatestEnd 31 = .ok (.aload_n 0, 1) := by decide +kernel
theorem dX0_greatestEnd_32 : decode cX0_greatestEnd 32 = .ok (.getfield 18, 3) := by decide +kernel
theorem dX0_greatestEnd_35 : decode cX0_greatestEnd 35 = .ok (.iload_n 3, 1) := by decide +kernel
theorem dX0_greatestEnd_36 : decode cX0_greatestEnd 36 = .ok (.iaload, 1) := by decide +kernel
theorem dX0_greatestEnd_37 : decode cX0_greatestEnd 37 = .ok (.invokestatic 84, 3) := by decide +kernel
theorem dX0_greatestEnd_40 : decode cX0_greatestEnd 40 = .ok (.istore_n 2, 1) := by decide +kernel
theorem dX0_greatestEnd_41 : decode cX0_greatestEnd 41 = .ok (.iinc 3 1, 3) := by decide +kernel
theorem dX0_greatestEnd_44 : decode cX0_greatestEnd 44 = .ok (.goto (-40), 3) := by decide +kernel
theorem dX0_greatestEnd_47 : decode cX0_greatestEnd 47 = .ok (.iload_n 2, 1) := by decide +kernel
theorem dX0_greatestEnd_48 : decode cX0_greatestEnd 48 = .ok (.ireturn, 1) := by decide +kernel
theorem dX1_init_0 : decode cX1_init 0 = .ok (.aload_n 0, 1) := by decide +kernel
theorem dX1_init_1 : decode cX1_init 1 = .ok (.invokespecial 3, 3) := by decide +kernel
theorem dX1_init_4 : decode cX1_init 4 = .ok (.aload_n 0, 1) := by decide +kernel
theorem dX1_init_5 : decode cX1_init 5 = .ok (.bipush 12, 2) := by decide +kernel
theorem dX1_init_7 : decode cX1_init 7 = .ok (.newarray .int, 2) := by decide +kernel
theorem dX1_init_9 : decode cX1_init 9 = .ok (.putfield 9, 3) := by decide +kernel
theorem dX1_init_12 : decode cX1_init 12 = .ok (.aload_n 0, 1) := by decide +kernel
theorem dX1_init_13 : decode cX1_init 13 = .ok (.bipush 12, 2) := by decide +kernel
theorem dX1_init_15 : decode cX1_init 15 = .ok (.newarray .int, 2) := by decide +kernel
theorem dX1_init_17 : decode cX1_init 17 = .ok (.putfield 15, 3) := by decide +kernel
theorem dX1_init_20 : decode cX1_init 20 = .ok (.aload_n 0, 1) := by decide +kernel
theorem dX1_init_21 : decode cX1_init 21 = .ok (.bipush 12, 2) := by decide +kernel
theorem dX1_init_23 : decode cX1_init 23 = .ok (.newarray .int, 2) := by decide +kernel
theorem dX1_init_25 : decode cX1_init 25 = .ok (.putfield 18, 3) := by decide +kernel
theorem dX1_init_28 : decode cX1_init 28 = .ok (.aload_n 0, 1) := by decide +kernel
theorem dX1_init_29 : decode cX1_init 29 = .ok (.bipush 12, 2) := by decide +kernel
theorem dX1_init_31 : decode cX1_init 31 = .ok (.newarray .int, 2) := by decide +kernel
theorem dX1_init_33 : decode cX1_init 33 = .ok (.putfield 21, 3) := by decide +kernel
theorem dX1_init_36 : decode cX1_init 36 = .ok (.aload_n 0, 1) := by decide +kernel
theorem dX1_init_37 : decode cX1_init 37 = .ok (.bipush 12, 2) := by decide +kernel
theorem dX1_init_39 : decode cX1_init 39 = .ok (.newarray .int, 2) := by decide +kernel
theorem dX1_init_41 : decode cX1_init 41 = .ok (.putfield 24, 3) := by decide +kernel
theorem dX1_init_44 : decode cX1_init 44 = .ok (.iconst 0, 1) := by decide +kernel
theorem dX1_init_45 : decode cX1_init 45 = .ok (.istore_n 1, 1) := by decide +kernel
theorem dX1_init_46 : decode cX1_init 46 = .ok (.iload_n 1, 1) := by decide +kernel
theorem dX1_init_47 : decode cX1_init 47 = .ok (.bipush 12, 2) := by decide +kernel
theorem dX1_init_49 : decode cX1_init 49 = .ok (.if_icmp .ge 16, 3) := by decide +kernel
theorem dX1_init_52 : decode cX1_init 52 = .ok (.aload_n 0, 1) := by decide +kernel
theorem dX1_init_53 : decode cX1_init 53 = .ok (.getfield 21, 3) := by decide +kernel
theorem dX1_init_56 : decode cX1_init 56 = .ok (.iload_n 1, 1) := by decide +kernel
theorem dX1_init_57 : decode cX1_init 57 = .ok (.iconst (-1), 1) := by decide +kernel
theorem dX1_init_58 : decode cX1_init 58 = .ok (.iastore, 1) := by decide +kernel
theorem dX1_init_59 : decode cX1_init 59 = .ok (.iinc 1 1, 3) := by decide +kernel
theorem dX1_init_62 : decode cX1_init 62 = .ok (.goto (-16), 3) := by decide +kernel
theorem dX1_init_65 : decode cX1_init 65 = .ok (.return_, 1) := by decide +kernel
theorem dX1_isIn_0 : decode cX1_isIn 0 = .ok (.iload_n 1, 1) := by decide +kernel
theorem dX1_isIn_1 : decode cX1_isIn 1 = .ok (.ifCond .lt 34, 3) := by decide +kernel
theorem dX1_isIn_4 : decode cX1_isIn 4 = .ok (.iload_n 1, 1) := by decide +kernel
theorem dX1_isIn_5 : decode cX1_isIn 5 = .ok (.bipush 12, 2) := by decide +kernel
theorem dX1_isIn_7 : decode cX1_isIn 7 = .ok (.if_icmp .ge 28, 3) := by decide +kernel
theorem dX1_isIn_10 : decode cX1_isIn 10 = .ok (.aload_n 0, 1) := by decide +kernel
theorem dX1_isIn_11 : decode cX1_isIn 11 = .ok (.getfield 27, 3) := by decide +kernel
theorem dX1_isIn_14 : decode cX1_isIn 14 = .ok (.iload_n 1, 1) := by decide +kernel
theorem dX1_isIn_15 : decode cX1_isIn 15 = .ok (.invokestatic 31, 3) := by decide +kernel
theorem dX1_isIn_18 : decode cX1_isIn 18 = .ok (.ifCond .eq 17, 3) := by decide +kernel
theorem dX1_isIn_21 : decode cX1_isIn 21 = .ok (.aload_n 0, 1) := by decide +kernel
theorem dX1_isIn_22 : decode cX1_isIn 22 = .ok (.getfield 9, 3) := by decide +kernel
theorem dX1_isIn_25 : decode cX1_isIn 25 = .ok (.iload_n 1, 1) := by decide +kernel
theorem dX1_isIn_26 : decode cX1_isIn 26 = .ok (.iaload, 1) := by decide +kernel
theorem dX1_isIn_27 : decode cX1_isIn 27 = .ok (.iload_n 2, 1) := by decide +kernel
theorem dX1_isIn_28 : decode cX1_isIn 28 = .ok (.if_icmp .ne 7, 3) := by decide +kernel
theorem dX1_isIn_31 : decode cX1_isIn 31 = .ok (.iconst 1, 1) := by decide +kernel
theorem dX1_isIn_32 : decode cX1_isIn 32 = .ok (.goto 4, 3) := by decide +kernel
theorem dX1_isIn_35 : decode cX1_isIn 35 = .ok (.iconst 0, 1) := by decide +kernel
theorem dX1_isIn_36 : decode cX1_isIn 36 = .ok (.ireturn, 1) := by decide +kernel
theorem dX1_stepsIn_0 : decode cX1_stepsIn 0 = .ok (.iconst 0, 1) := by decide +kernel
theorem dX1_stepsIn_1 : decode cX1_stepsIn 1 = .ok (.istore_n 2, 1) := by decide +kernel
theorem dX1_stepsIn_2 : decode cX1_stepsIn 2 = .ok (.iconst 0, 1) := by decide +kernel
theorem dX1_stepsIn_3 : decode cX1_stepsIn 3 = .ok (.istore_n 3, 1) := by decide +kernel
theorem dX1_stepsIn_4 : decode cX1_stepsIn 4 = .ok (.iload_n 3, 1) := by decide +kernel
theorem dX1_stepsIn_5 : decode cX1_stepsIn 5 = .ok (.bipush 12, 2) := by decide +kernel
theorem dX1_stepsIn_7 : decode cX1_stepsIn 7 = .ok (.if_icmp .ge 25, 3) := by decide +kernel
theorem dX1_stepsIn_10 : decode cX1_stepsIn 10 = .ok (.aload_n 0, 1) := by decide +kernel
theorem dX1_stepsIn_11 : decode cX1_stepsIn 11 = .ok (.getfield 9, 3) := by decide +kernel
theorem dX1_stepsIn_14 : decode cX1_stepsIn 14 = .ok (.iload_n 3, 1) := by decide +kernel
theorem dX1_stepsIn_15 : decode cX1_stepsIn 15 = .ok (.iaload, 1) := by decide +kernel
theorem dX1_stepsIn_16 : decode cX1_stepsIn 16 = .ok (.iload_n 1, 1) := by decide +kernel
theorem dX1_stepsIn_17 : decode cX1_stepsIn 17 = .ok (.if_icmp .ne 9, 3) := by decide +kernel
theorem dX1_stepsIn_20 : decode cX1_stepsIn 20 = .ok (.iload_n 2, 1) := by decide +kernel
theorem dX1_stepsIn_21 : decode cX1_stepsIn 21 = .ok (.iconst 1, 1) := by decide +kernel
theorem dX1_stepsIn_22 : decode cX1_stepsIn 22 = .ok (.iload_n 3, 1) := by decide +kernel
theorem dX1_stepsIn_23 : decode cX1_stepsIn 23 = .ok (.ishl, 1) := by decide +kernel
theorem dX1_stepsIn_24 : decode cX1_stepsIn 24 = .ok (.ior, 1) := by decide +kernel
theorem dX1_stepsIn_25 : decode cX1_stepsIn 25 = .ok (.istore_n 2, 1) := by decide +kernel
theorem dX1_stepsIn_26 : decode cX1_stepsIn 26 = .ok (.iinc 3 1, 3) := by decide +kernel
theorem dX1_stepsIn_29 : decode cX1_stepsIn 29 = .ok (.goto (-25), 3) := by decide +kernel
theorem dX1_stepsIn_32 : decode cX1_stepsIn 32 = .ok (.iload_n 2, 1) := by decide +kernel
theorem dX1_stepsIn_33 : decode cX1_stepsIn 33 = .ok (.aload_n 0, 1) := by decide +kernel
theorem dX1_stepsIn_34 : decode cX1_stepsIn 34 = .ok (.getfield 27, 3) := by decide +kernel
theorem dX1_stepsIn_37 : decode cX1_stepsIn 37 = .ok (.iand, 1) := by decide +kernel
theorem dX1_stepsIn_38 : decode cX1_stepsIn 38 = .ok (.ireturn, 1) := by decide +kernel
theorem dX1_countIn_0 : decode cX1_countIn 0 = .ok (.aload_n 0, 1) := by decide +kernel
theorem dX1_countIn_1 : decode cX1_countIn 1 = .ok (.iload_n 1, 1) := by decide +kernel
theorem dX1_countIn_2 : decode cX1_countIn 2 = .ok (.invokevirtual 35, 3) := by decide +kernel
theorem dX1_countIn_5 : decode cX1_countIn 5 = .ok (.invokestatic 39, 3) := by decide +kernel
theorem dX1_countIn_8 : decode cX1_countIn 8 = .ok (.ireturn, 1) := by decide +kernel
theorem dX1_finishSteps_0 : decode cX1_finishSteps 0 = .ok (.aload_n 0, 1) := by decide +kernel
theorem dX1_finishSteps_1 : decode cX1_finishSteps 1 = .ok (.getfield 44, 3) := by decide +kernel
theorem dX1_finishSteps_4 : decode cX1_finishSteps 4 = .ok (.ifCond .eq 5, 3) := by decide +kernel
theorem dX1_finishSteps_7 : decode cX1_finishSteps 7 = .ok (.iconst 0, 1) := by decide +kernel
theorem dX1_finishSteps_8 : decode cX1_finishSteps 8 = .ok (.ireturn, 1) := by decide +kernel
theorem dX1_finishSteps_9 : decode cX1_finishSteps 9 = .ok (.iconst 0, 1) := by decide +kernel
theorem dX1_finishSteps_10 : decode cX1_finishSteps 10 = .ok (.istore_n 2, 1) := by decide +kernel
theorem dX1_finishSteps_11 : decode cX1_finishSteps 11 = .ok (.iconst 0, 1) := by decide +kernel
theorem dX1_finishSteps_12 : decode cX1_finishSteps 12 = .ok (.istore_n 3, 1) := by decide +kernel
theorem dX1_finishSteps_13 : decode cX1_finishSteps 13 = .ok (.iload_n 3, 1) := by decide +kernel
theorem dX1_finishSteps_14 : decode cX1_finishSteps 14 = .ok (.bipush 12, 2) := by decide +kernel
theorem dX1_finishSteps_16 : decode cX1_finishSteps 16 = .ok (.if_icmp .ge 46, 3) := by decide +kernel
theorem dX1_finishSteps_19 : decode cX1_finishSteps 19 = .ok (.aload_n 0, 1) := by decide +kernel
theorem dX1_finishSteps_20 : decode cX1_finishSteps 20 = .ok (.getfield 9, 3) := by decide +kernel
theorem dX1_finishSteps_23 : decode cX1_finishSteps 23 = .ok (.iload_n 3, 1) := by decide +kernel
theorem dX1_finishSteps_24 : decode cX1_finishSteps 24 = .ok (.iaload, 1) := by decide +kernel
theorem dX1_finishSteps_25 : decode cX1_finishSteps 25 = .ok (.iconst 1, 1) := by decide +kernel
theorem dX1_finishSteps_26 : decode cX1_finishSteps 26 = .ok (.if_icmp .ne 30, 3) := by decide +kernel
theorem dX1_finishSteps_29 : decode cX1_finishSteps 29 = .ok (.aload_n 0, 1) := by decide +kernel
theorem dX1_finishSteps_30 : decode cX1_finishSteps 30 = .ok (.getfield 15, 3) := by decide +kernel
theorem dX1_finishSteps_33 : decode cX1_finishSteps 33 = .ok (.iload_n 3, 1) := by decide +kernel
theorem dX1_finishSteps_34 : decode cX1_finishSteps 34 = .ok (.iaload, 1) := by decide +kernel
theorem dX1_finishSteps_35 : decode cX1_finishSteps 35 = .ok (.aload_n 0, 1) := by decide +kernel
theorem dX1_finishSteps_36 : decode cX1_finishSteps 36 = .ok (.getfield 18, 3) := by decide +kernel
theorem dX1_finishSteps_39 : decode cX1_finishSteps 39 = .ok (.iload_n 3, 1) := by decide +kernel
theorem dX1_finishSteps_40 : decode cX1_finishSteps 40 = .ok (.iaload, 1) := by decide +kernel
theorem dX1_finishSteps_41 : decode cX1_finishSteps 41 = .ok (.iadd, 1) := by decide +kernel
theorem dX1_finishSteps_42 : decode cX1_finishSteps 42 = .ok (.iload_n 1, 1) := by decide +kernel
theorem dX1_finishSteps_43 : decode cX1_finishSteps 43 = .ok (.if_icmp .gt 13, 3) := by decide +kernel
theorem dX1_finishSteps_46 : decode cX1_finishSteps 46 = .ok (.aload_n 0, 1) := by decide +kernel
theorem dX1_finishSteps_47 : decode cX1_finishSteps 47 = .ok (.getfield 9, 3) := by decide +kernel
theorem dX1_finishSteps_50 : decode cX1_finishSteps 50 = .ok (.iload_n 3, 1) := by decide +kernel
theorem dX1_finishSteps_51 : decode cX1_finishSteps 51 = .ok (.iconst 2, 1) := by decide +kernel
theorem dX1_finishSteps_52 : decode cX1_finishSteps 52 = .ok (.iastore, 1) := by decide +kernel
theorem dX1_finishSteps_53 : decode cX1_finishSteps 53 = .ok (.iinc 2 1, 3) := by decide +kernel
theorem dX1_finishSteps_56 : decode cX1_finishSteps 56 = .ok (.iinc 3 1, 3) := by decide +kernel
theorem dX1_finishSteps_59 : decode cX1_finishSteps 59 = .ok (.goto (-46), 3) := by decide +kernel
theorem dX1_finishSteps_62 : decode cX1_finishSteps 62 = .ok (.iload_n 2, 1) := by decide +kernel
theorem dX1_finishSteps_63 : decode cX1_finishSteps 63 = .ok (.ireturn, 1) := by decide +kernel
theorem dX1_lastBegun_0 : decode cX1_lastBegun 0 = .ok (.iconst (-1), 1) := by decide +kernel
theorem dX1_lastBegun_1 : decode cX1_lastBegun 1 = .ok (.istore_n 1, 1) := by decide +kernel
theorem dX1_lastBegun_2 : decode cX1_lastBegun 2 = .ok (.iconst (-1), 1) := by decide +kernel
theorem dX1_lastBegun_3 : decode cX1_lastBegun 3 = .ok (.istore_n 2, 1) := by decide +kernel
theorem dX1_lastBegun_4 : decode cX1_lastBegun 4 = .ok (.iconst 0, 1) := by decide +kernel
theorem dX1_lastBegun_5 : decode cX1_lastBegun 5 = .ok (.istore_n 3, 1) := by decide +kernel
theorem dX1_lastBegun_6 : decode cX1_lastBegun 6 = .ok (.iload_n 3, 1) := by decide +kernel
theorem dX1_lastBegun_7 : decode cX1_lastBegun 7 = .ok (.bipush 12, 2) := by decide +kernel
theorem dX1_lastBegun_9 : decode cX1_lastBegun 9 = .ok (.if_icmp .ge 60, 3) := by decide +kernel
theorem dX1_lastBegun_12 : decode cX1_lastBegun 12 = .ok (.aload_n 0, 1) := by decide +kernel
theorem dX1_lastBegun_13 : decode cX1_lastBegun 13 = .ok (.getfield 9, 3) := by decide +kernel
theorem dX1_lastBegun_16 : decode cX1_lastBegun 16 = .ok (.iload_n 3, 1) := by decide +kernel
theorem dX1_lastBegun_17 : decode cX1_lastBegun 17 = .ok (.iaload, 1) := by decide +kernel
theorem dX1_lastBegun_18 : decode cX1_lastBegun 18 = .ok (.iconst 1, 1) := by decide +kernel
theorem dX1_lastBegun_19 : decode cX1_lastBegun 19 = .ok (.if_icmp .eq 13, 3) := by decide +kernel
theorem dX1_lastBegun_22 : decode cX1_lastBegun 22 = .ok (.aload_n 0, 1) := by decide +kernel
theorem dX1_lastBegun_23 : decode cX1_lastBegun 23 = .ok (.getfield 9, 3) := by decide +kernel
theorem dX1_lastBegun_26 : decode cX1_lastBegun 26 = .ok (.iload_n 3, 1) := by decide +kernel
theorem dX1_lastBegun_27 : decode cX1_lastBegun 27 = .ok (.iaload, 1) := by decide +kernel
theorem dX1_lastBegun_28 : decode cX1_lastBegun 28 = .ok (.iconst 2, 1) := by decide +kernel
theorem dX1_lastBegun_29 : decode cX1_lastBegun 29 = .ok (.if_icmp .ne 7, 3) := by decide +kernel
theorem dX1_lastBegun_32 : decode cX1_lastBegun 32 = .ok (.iconst 1, 1) := by decide +kernel
theorem dX1_lastBegun_33 : decode cX1_lastBegun 33 = .ok (.goto 4, 3) := by decide +kernel
theorem dX1_lastBegun_36 : decode cX1_lastBegun 36 = .ok (.iconst 0, 1) := by decide +kernel
theorem dX1_lastBegun_37 : decode cX1_lastBegun 37 = .ok (.istore 4, 2) := by decide +kernel
theorem dX1_lastBegun_39 : decode cX1_lastBegun 39 = .ok (.iload 4, 2) := by decide +kernel
theorem dX1_lastBegun_41 : decode cX1_lastBegun 41 = .ok (.ifCond .eq 22, 3) := by decide +kernel
theorem dX1_lastBegun_44 : decode cX1_lastBegun 44 = .ok (.aload_n 0, 1) := by decide +kernel
theorem dX1_lastBegun_45 : decode cX1_lastBegun 45 = .ok (.getfield 15, 3) := by decide +kernel
theorem dX1_lastBegun_48 : decode cX1_lastBegun 48 = .ok (.iload_n 3, 1) := by decide +kernel
theorem dX1_lastBegun_49 : decode cX1_lastBegun 49 = .ok (.iaload, 1) := by decide +kernel
theorem dX1_lastBegun_50 : decode cX1_lastBegun 50 = .ok (.iload_n 2, 1) := by decide +kernel
theorem dX1_lastBegun_51 : decode cX1_lastBegun 51 = .ok (.if_icmp .lt 12, 3) := by decide +kernel
theorem dX1_lastBegun_54 : decode cX1_lastBegun 54 = .ok (.iload_n 3, 1) := by decide +kernel
theorem dX1_lastBegun_55 : decode cX1_lastBegun 55 = .ok (.istore_n 1, 1) := by decide +kernel
theorem dX1_lastBegun_56 : decode cX1_lastBegun 56 = .ok (.aload_n 0, 1) := by decide +kernel
theorem dX1_lastBegun_57 : decode cX1_lastBegun 57 = .ok (.getfield 15, 3) := by decide +kernel
theorem dX1_lastBegun_60 : decode cX1_lastBegun 60 = .ok (.iload_n 3, 1) := by decide +kernel
theorem dX1_lastBegun_61 : decode cX1_lastBegun 61 = .ok (.iaload, 1) := by decide +kernel
theorem dX1_lastBegun_62 : decode cX1_lastBegun 62 = .ok (.istore_n 2, 1) := by decide +kernel
theorem dX1_lastBegun_63 : decode cX1_lastBegun 63 = .ok (.iinc 3 1, 3) := by decide +kernel
theorem dX1_lastBegun_66 : decode cX1_lastBegun 66 = .ok (.goto (-60), 3) := by decide +kernel
theorem dX1_lastBegun_69 : decode cX1_lastBegun 69 = .ok (.iload_n 1, 1) := by decide +kernel
theorem dX1_lastBegun_70 : decode cX1_lastBegun 70 = .ok (.ireturn, 1) := by decide +kernel
theorem dX2_init_0 : decode cX2_init 0 = .ok (.aload_n 0, 1) := by decide +kernel
theorem dX2_init_1 : decode cX2_init 1 = .ok (.invokespecial 3, 3) := by decide +kernel
theorem dX2_init_4 : decode cX2_init 4 = .ok (.aload_n 0, 1) := by decide +kernel
theorem dX2_init_5 : decode cX2_init 5 = .ok (.bipush 12, 2) := by decide +kernel
theorem dX2_init_7 : decode cX2_init 7 = .ok (.newarray .int, 2) := by decide +kernel
theorem dX2_init_9 : decode cX2_init 9 = .ok (.putfield 9, 3) := by decide +kernel
theorem dX2_init_12 : decode cX2_init 12 = .ok (.aload_n 0, 1) := by decide +kernel
theorem dX2_init_13 : decode cX2_init 13 = .ok (.bipush 12, 2) := by decide +kernel
theorem dX2_init_15 : decode cX2_init 15 = .ok (.newarray .int, 2) := by decide +kernel
theorem dX2_init_17 : decode cX2_init 17 = .ok (.putfield 15, 3) := by decide +kernel
theorem dX2_init_20 : decode cX2_init 20 = .ok (.aload_n 0, 1) := by decide +kernel
theorem dX2_init_21 : decode cX2_init 21 = .ok (.bipush 12, 2) := by decide +kernel
theorem dX2_init_23 : decode cX2_init 23 = .ok (.newarray .int, 2) := by decide +kernel
theorem dX2_init_25 : decode cX2_init 25 = .ok (.putfield 18, 3) := by decide +kernel
theorem dX2_init_28 : decode cX2_init 28 = .ok (.aload_n 0, 1) := by decide +kernel
theorem dX2_init_29 : decode cX2_init 29 = .ok (.bipush 12, 2) := by decide +kernel
theorem dX2_init_31 : decode cX2_init 31 = .ok (.newarray .int, 2) := by decide +kernel
theorem dX2_init_33 : decode cX2_init 33 = .ok (.putfield 21, 3) := by decide +kernel
theorem dX2_init_36 : decode cX2_init 36 = .ok (.aload_n 0, 1) := by decide +kernel
theorem dX2_init_37 : decode cX2_init 37 = .ok (.iconst 4, 1) := by decide +kernel
theorem dX2_init_38 : decode cX2_init 38 = .ok (.newarray .int, 2) := by decide +kernel
theorem dX2_init_40 : decode cX2_init 40 = .ok (.putfield 24, 3) := by decide +kernel
theorem dX2_init_43 : decode cX2_init 43 = .ok (.aload_n 0, 1) := by decide +kernel
theorem dX2_init_44 : decode cX2_init 44 = .ok (.bipush 6, 2) := by decide +kernel
theorem dX2_init_46 : decode cX2_init 46 = .ok (.newarray .int, 2) := by decide +kernel
theorem dX2_init_48 : decode cX2_init 48 = .ok (.putfield 27, 3) := by decide +kernel
theorem dX2_init_51 : decode cX2_init 51 = .ok (.return_, 1) := by decide +kernel
theorem dX2_knows_0 : decode cX2_knows 0 = .ok (.iload_n 1, 1) := by decide +kernel
theorem dX2_knows_1 : decode cX2_knows 1 = .ok (.ifCond .lt 16, 3) := by decide +kernel
theorem dX2_knows_4 : decode cX2_knows 4 = .ok (.iload_n 1, 1) := by decide +kernel
theorem dX2_knows_5 : decode cX2_knows 5 = .ok (.aload_n 0, 1) := by decide +kernel
theorem dX2_knows_6 : decode cX2_knows 6 = .ok (.getfield 30, 3) := by decide +kernel
theorem dX2_knows_9 : decode cX2_knows 9 = .ok (.ishr, 1) := by decide +kernel
theorem dX2_knows_10 : decode cX2_knows 10 = .ok (.ifCond .ne 7, 3) := by decide +kernel
theorem dX2_knows_13 : decode cX2_knows 13 = .ok (.iconst 1, 1) := by decide +kernel
theorem dX2_knows_14 : decode cX2_knows 14 = .ok (.goto 4, 3) := by decide +kernel
theorem dX2_knows_17 : decode cX2_knows 17 = .ok (.iconst 0, 1) := by decide +kernel
theorem dX2_knows_18 : decode cX2_knows 18 = .ok (.ireturn, 1) := by decide +kernel
theorem dX2_addStep_0 : decode cX2_addStep 0 = .ok (.aload_n 0, 1) := by decide +kernel
theorem dX2_addStep_1 : decode cX2_addStep 1 = .ok (.getfield 30, 3) := by decide +kernel
theorem dX2_addStep_4 : decode cX2_addStep 4 = .ok (.bipush 12, 2) := by decide +kernel
theorem dX2_addStep_6 : decode cX2_addStep 6 = .ok (.if_icmp .lt 5, 3) := by decide +kernel
theorem dX2_addStep_9 : decode cX2_addStep 9 = .ok (.iconst (-1), 1) := by decide +kernel
theorem dX2_addStep_10 : decode cX2_addStep 10 = .ok (.ireturn, 1) := by decide +kernel
theorem dX2_addStep_11 : decode cX2_addStep 11 = .ok (.aload_n 0, 1) := by decide +kernel
theorem dX2_addStep_12 : decode cX2_addStep 12 = .ok (.getfield 9, 3) := by decide +kernel
theorem dX2_addStep_15 : decode cX2_addStep 15 = .ok (.aload_n 0, 1) := by decide +kernel
theorem dX2_addStep_16 : decode cX2_addStep 16 = .ok (.getfield 30, 3) := by decide +kernel
theorem dX2_addStep_19 : decode cX2_addStep 19 = .ok (.iload_n 1, 1) := by decide +kernel
theorem dX2_addStep_20 : decode cX2_addStep 20 = .ok (.iastore, 1) := by decide +kernel
theorem dX2_addStep_21 : decode cX2_addStep 21 = .ok (.aload_n 0, 1) := by decide +kernel
theorem dX2_addStep_22 : decode cX2_addStep 22 = .ok (.getfield 15, 3) := by decide +kernel
theorem dX2_addStep_25 : decode cX2_addStep 25 = .ok (.aload_n 0, 1) := by decide +kernel
theorem dX2_addStep_26 : decode cX2_addStep 26 = .ok (.getfield 30, 3) := by decide +kernel
theorem dX2_addStep_29 : decode cX2_addStep 29 = .ok (.iload_n 2, 1) := by decide +kernel
theorem dX2_addStep_30 : decode cX2_addStep 30 = .ok (.iastore, 1) := by decide +kernel
theorem dX2_addStep_31 : decode cX2_addStep 31 = .ok (.aload_n 0, 1) := by decide +kernel
theorem dX2_addStep_32 : decode cX2_addStep 32 = .ok (.getfield 18, 3) := by decide +kernel
theorem dX2_addStep_35 : decode cX2_addStep 35 = .ok (.aload_n 0, 1) := by decide +kernel
theorem dX2_addStep_36 : decode cX2_addStep 36 = .ok (.getfield 30, 3) := by decide +kernel
theorem dX2_addStep_39 : decode cX2_addStep 39 = .ok (.iload_n 3, 1) := by decide +kernel
theorem dX2_addStep_40 : decode cX2_addStep 40 = .ok (.iastore, 1) := by decide +kernel
theorem dX2_addStep_41 : decode cX2_addStep 41 = .ok (.aload_n 0, 1) := by decide +kernel
theorem dX2_addStep_42 : decode cX2_addStep 42 = .ok (.getfield 21, 3) := by decide +kernel
theorem dX2_addStep_45 : decode cX2_addStep 45 = .ok (.aload_n 0, 1) := by decide +kernel
theorem dX2_addStep_46 : decode cX2_addStep 46 = .ok (.getfield 30, 3) := by decide +kernel
theorem dX2_addStep_49 : decode cX2_addStep 49 = .ok (.iload 4, 2) := by decide +kernel
theorem dX2_addStep_51 : decode cX2_addStep 51 = .ok (.iastore, 1) := by decide +kernel
theorem dX2_addStep_52 : decode cX2_addStep 52 = .ok (.aload_n 0, 1) := by decide +kernel
theorem dX2_addStep_53 : decode cX2_addStep 53 = .ok (.dup, 1) := by decide +kernel
theorem dX2_addStep_54 : decode cX2_addStep 54 = .ok (.getfield 30, 3) := by decide +kernel
theorem dX2_addStep_57 : decode cX2_addStep 57 = .ok (.iconst 1, 1) := by decide +kernel
theorem dX2_addStep_58 : decode cX2_addStep 58 = .ok (.iadd, 1) := by decide +kernel
theorem dX2_addStep_59 : decode cX2_addStep 59 = .ok (.putfield 30, 3) := by decide +kernel
theorem dX2_addStep_62 : decode cX2_addStep 62 = .ok (.aload_n 0, 1) := by decide +kernel
theorem dX2_addStep_63 : decode cX2_addStep 63 = .ok (.getfield 30, 3) := by decide +kernel
theorem dX2_addStep_66 : decode cX2_addStep 66 = .ok (.iconst 1, 1) := by decide +kernel
theorem dX2_addStep_67 : decode cX2_addStep 67 = .ok (.isub, 1) := by decide +kernel
theorem dX2_addStep_68 : decode cX2_addStep 68 = .ok (.ireturn, 1) := by decide +kernel
theorem dX2_addRight_0 : decode cX2_addRight 0 = .ok (.aload_n 0, 1) := by decide +kernel
theorem dX2_addRight_1 : decode cX2_addRight 1 = .ok (.getfield 34, 3) := by decide +kernel
theorem dX2_addRight_4 : decode cX2_addRight 4 = .ok (.bipush 6, 2) := by decide +kernel
theorem dX2_addRight_6 : decode cX2_addRight 6 = .ok (.if_icmp .lt 5, 3) := by decide +kernel
theorem dX2_addRight_9 : decode cX2_addRight 9 = .ok (.iconst (-1), 1) := by decide +kernel
theorem dX2_addRight_10 : decode cX2_addRight 10 = .ok (.ireturn, 1) := by decide +kernel
theorem dX2_addRight_11 : decode cX2_addRight 11 = .ok (.aload_n 0, 1) := by decide +kernel
theorem dX2_addRight_12 : decode cX2_addRight 12 = .ok (.getfield 27, 3) := by decide +kernel
theorem dX2_addRight_15 : decode cX2_addRight 15 = .ok (.aload_n 0, 1) := by decide +kernel
theorem dX2_addRight_16 : decode cX2_addRight 16 = .ok (.getfield 34, 3) := by decide +kernel
theorem dX2_addRight_19 : decode cX2_addRight 19 = .ok (.iload_n 1, 1) := by decide +kernel
theorem dX2_addRight_20 : decode cX2_addRight 20 = .ok (.iastore, 1) := by decide +kernel
theorem dX2_addRight_21 : decode cX2_addRight 21 = .ok (.aload_n 0, 1) := by decide +kernel
theorem dX2_addRight_22 : decode cX2_addRight 22 = .ok (.dup, 1) := by decide +kernel
theorem dX2_addRight_23 : decode cX2_addRight 23 = .ok (.getfield 34, 3) := by decide +kernel
theorem dX2_addRight_26 : decode cX2_addRight 26 = .ok (.iconst 1, 1) := by decide +kernel
theorem dX2_addRight_27 : decode cX2_addRight 27 = .ok (.iadd, 1) := by decide +kernel
theorem dX2_addRight_28 : decode cX2_addRight 28 = .ok (.putfield 34, 3) := by decide +kernel
theorem dX2_addRight_31 : decode cX2_addRight 31 = .ok (.aload_n 0, 1) := by decide +kernel
theorem dX2_addRight_32 : decode cX2_addRight 32 = .ok (.getfield 34, 3) := by decide +kernel
theorem dX2_addRight_35 : decode cX2_addRight 35 = .ok (.iconst 1, 1) := by decide +kernel
theorem dX2_addRight_36 : decode cX2_addRight 36 = .ok (.isub, 1) := by decide +kernel
theorem dX2_addRight_37 : decode cX2_addRight 37 = .ok (.ireturn, 1) := by decide +kernel
theorem dX2_needsAreDone_0 : decode cX2_needsAreDone 0 = .ok (.iload_n 2, 1) := by decide +kernel
theorem dX2_needsAreDone_1 : decode cX2_needsAreDone 1 = .ok (.ifCond .lt 9, 3) := by decide +kernel
theorem dX2_needsAreDone_4 : decode cX2_needsAreDone 4 = .ok (.iload_n 2, 1) := by decide +kernel
theorem dX2_needsAreDone_5 : decode cX2_needsAreDone 5 = .ok (.bipush 12, 2) := by decide +kernel
theorem dX2_needsAreDone_7 : decode cX2_needsAreDone 7 = .ok (.if_icmp .lt 5, 3) := by decide +kernel
theorem dX2_needsAreDone_10 : decode cX2_needsAreDone 10 = .ok (.iconst 0, 1) := by decide +kernel
theorem dX2_needsAreDone_11 : decode cX2_needsAreDone 11 = .ok (.ireturn, 1) := by decide +kernel
theorem dX2_needsAreDone_12 : decode cX2_needsAreDone 12 = .ok (.aload_n 0, 1) := by decide +kernel
theorem dX2_needsAreDone_13 : decode cX2_needsAreDone 13 = .ok (.getfield 18, 3) := by decide +kernel
theorem dX2_needsAreDone_16 : decode cX2_needsAreDone 16 = .ok (.iload_n 2, 1) := by decide +kernel
theorem dX2_needsAreDone_17 : decode cX2_needsAreDone 17 = .ok (.iaload, 1) := by decide +kernel
theorem dX2_needsAreDone_18 : decode cX2_needsAreDone 18 = .ok (.aload_n 1, 1) := by decide +kernel
theorem dX2_needsAreDone_19 : decode cX2_needsAreDone 19 = .ok (.getfield 37, 3) := by decide +kernel
theorem dX2_needsAreDone_22 : decode cX2_needsAreDone 22 = .ok (.iand, 1) := by decide +kernel
theorem dX2_needsAreDone_23 : decode cX2_needsAreDone 23 = .ok (.aload_n 1, 1) := by decide +kernel
theorem dX2_needsAreDone_24 : decode cX2_needsAreDone 24 = .ok (.iconst 2, 1) := by decide +kernel
theorem dX2_needsAreDone_25 : decode cX2_needsAreDone 25 = .ok (.invokevirtual 42, 3) := by decide +kernel
theorem dX2_needsAreDone_28 : decode cX2_needsAreDone 28 = .ok (.iconst (-1), 1) := by decide +kernel
theorem dX2_needsAreDone_29 : decode cX2_needsAreDone 29 = .ok (.ixor, 1) := by decide +kernel
theorem dX2_needsAreDone_30 : decode cX2_needsAreDone 30 = .ok (.iand, 1) := by decide +kernel
theorem dX2_needsAreDone_31 : decode cX2_needsAreDone 31 = .ok (.ifCond .ne 7, 3) := by decide +kernel
theorem dX2_needsAreDone_34 : decode cX2_needsAreDone 34 = .ok (.iconst 1, 1) := by decide +kernel
theorem dX2_needsAreDone_35 : decode cX2_needsAreDone 35 = .ok (.goto 4, 3) := by decide +kernel
theorem dX2_needsAreDone_38 : decode cX2_needsAreDone 38 = .ok (.iconst 0, 1) := by decide +kernel
theorem dX2_needsAreDone_39 : decode cX2_needsAreDone 39 = .ok (.ireturn, 1) := by decide +kernel
theorem dX2_lengthFor_0 : decode cX2_lengthFor 0 = .ok (.iload_n 2, 1) := by decide +kernel
theorem dX2_lengthFor_1 : decode cX2_lengthFor 1 = .ok (.ifCond .lt 9, 3) := by decide +kernel
theorem dX2_lengthFor_4 : decode cX2_lengthFor 4 = .ok (.iload_n 2, 1) := by decide +kernel
theorem dX2_lengthFor_5 : decode cX2_lengthFor 5 = .ok (.bipush 12, 2) := by decide +kernel
theorem dX2_lengthFor_7 : decode cX2_lengthFor 7 = .ok (.if_icmp .lt 5, 3) := by decide +kernel
theorem dX2_lengthFor_10 : decode cX2_lengthFor 10 = .ok (.iconst (-1), 1) := by decide +kernel
theorem dX2_lengthFor_11 : decode cX2_lengthFor 11 = .ok (.ireturn, 1) := by decide +kernel
theorem dX2_lengthFor_12 : decode cX2_lengthFor 12 = .ok (.aload_n 1, 1) := by decide +kernel
theorem dX2_lengthFor_13 : decode cX2_lengthFor 13 = .ok (.getfield 46, 3) := by decide +kernel
theorem dX2_lengthFor_16 : decode cX2_lengthFor 16 = .ok (.iload_n 2, 1) := by decide +kernel
theorem dX2_lengthFor_17 : decode cX2_lengthFor 17 = .ok (.iaload, 1) := by decide +kernel
theorem dX2_lengthFor_18 : decode cX2_lengthFor 18 = .ok (.ifCond .eq 10, 3) := by decide +kernel
theorem dX2_lengthFor_21 : decode cX2_lengthFor 21 = .ok (.aload_n 1, 1) := by decide +kernel
theorem dX2_lengthFor_22 : decode cX2_lengthFor 22 = .ok (.getfield 49, 3) := by decide +kernel
theorem dX2_lengthFor_25 : decode cX2_lengthFor 25 = .ok (.iload_n 2, 1) := by decide +kernel
theorem dX2_lengthFor_26 : decode cX2_lengthFor 26 = .ok (.iaload, 1) := by decide +kernel
theorem dX2_lengthFor_27 : decode cX2_lengthFor 27 = .ok (.ireturn, 1) := by decide +kernel
theorem dX2_lengthFor_28 : decode cX2_lengthFor 28 = .ok (.aload_n 0, 1) := by decide +kernel
theorem dX2_lengthFor_29 : decode cX2_lengthFor 29 = .ok (.getfield 9, 3) := by decide +kernel
theorem dX2_lengthFor_32 : decode cX2_lengthFor 32 = .ok (.iload_n 2, 1) := by decide +kernel
theorem dX2_lengthFor_33 : decode cX2_lengthFor 33 = .ok (.iaload, 1) := by decide +kernel
theorem dX2_lengthFor_34 : decode cX2_lengthFor 34 = .ok (.ifCond .eq 10, 3) := by decide +kernel
theorem dX2_lengthFor_37 : decode cX2_lengthFor 37 = .ok (.aload_n 0, 1) := by decide +kernel
theorem dX2_lengthFor_38 : decode cX2_lengthFor 38 = .ok (.getfield 15, 3) := by decide +kernel
theorem dX2_lengthFor_41 : decode cX2_lengthFor 41 = .ok (.iload_n 2, 1) := by decide +kernel
theorem dX2_lengthFor_42 : decode cX2_lengthFor 42 = .ok (.iaload, 1) := by decide +kernel
theorem dX2_lengthFor_43 : decode cX2_lengthFor 43 = .ok (.ireturn, 1) := by decide +kernel
theorem dX2_lengthFor_44 : decode cX2_lengthFor 44 = .ok (.aload_n 0, 1) := by decide +kernel
theorem dX2_lengthFor_45 : decode cX2_lengthFor 45 = .ok (.getfield 21, 3) := by decide +kernel
theorem dX2_lengthFor_48 : decode cX2_lengthFor 48 = .ok (.iload_n 2, 1) := by decide +kernel
theorem dX2_lengthFor_49 : decode cX2_lengthFor 49 = .ok (.iaload, 1) := by decide +kernel
theorem dX2_lengthFor_50 : decode cX2_lengthFor 50 = .ok (.istore_n 3, 1) := by decide +kernel
theorem dX2_lengthFor_51 : decode cX2_lengthFor 51 = .ok (.aload_n 1, 1) := by decide +kernel
theorem dX2_lengthFor_52 : decode cX2_lengthFor 52 = .ok (.iconst 2, 1) := by decide +kernel
theorem dX2_lengthFor_53 : decode cX2_lengthFor 53 = .ok (.invokevirtual 42, 3) := by decide +kernel
theorem dX2_lengthFor_56 : decode cX2_lengthFor 56 = .ok (.istore 4, 2) := by decide +kernel
theorem dX2_lengthFor_58 : decode cX2_lengthFor 58 = .ok (.iconst 0, 1) := by decide +kernel
theorem dX2_lengthFor_59 : decode cX2_lengthFor 59 = .ok (.istore 5, 2) := by decide +kernel
theorem dX2_lengthFor_61 : decode cX2_lengthFor 61 = .ok (.iload 5, 2) := by decide +kernel
theorem dX2_lengthFor_63 : decode cX2_lengthFor 63 = .ok (.bipush 12, 2) := by decide +kernel
theorem dX2_lengthFor_65 : decode cX2_lengthFor 65 = .ok (.if_icmp .ge 41, 3) := by decide +kernel
theorem dX2_lengthFor_68 : decode cX2_lengthFor 68 = .ok (.aload_n 0, 1) := by decide +kernel
theorem dX2_lengthFor_69 : decode cX2_lengthFor 69 = .ok (.getfield 9, 3) := by decide +kernel
theorem dX2_lengthFor_72 : decode cX2_lengthFor 72 = .ok (.iload 5, 2) := by decide +kernel
theorem dX2_lengthFor_74 : decode cX2_lengthFor 74 = .ok (.iaload, 1) := by decide +kernel
theorem dX2_lengthFor_75 : decode cX2_lengthFor 75 = .ok (.ifCond .ne 25, 3) := by decide +kernel
theorem dX2_lengthFor_78 : decode cX2_lengthFor 78 = .ok (.iload 4, 2) := by decide +kernel
theorem dX2_lengthFor_80 : decode cX2_lengthFor 80 = .ok (.iload 5, 2) := by decide +kernel
theorem dX2_lengthFor_82 : decode cX2_lengthFor 82 = .ok (.invokestatic 52, 3) := by decide +kernel
theorem dX2_lengthFor_85 : decode cX2_lengthFor 85 = .ok (.ifCond .eq 15, 3) := by decide +kernel
theorem dX2_lengthFor_88 : decode cX2_lengthFor 88 = .ok (.iload_n 3, 1) := by decide +kernel
theorem dX2_lengthFor_89 : decode cX2_lengthFor 89 = .ok (.aload_n 0, 1) := by decide +kernel
theorem dX2_lengthFor_90 : decode cX2_lengthFor 90 = .ok (.getfield 21, 3) := by decide +kernel
theorem dX2_lengthFor_93 : decode cX2_lengthFor 93 = .ok (.iload 5, 2) := by decide +kernel
theorem dX2_lengthFor_95 : decode cX2_lengthFor 95 = .ok (.iaload, 1) := by decide +kernel
theorem dX2_lengthFor_96 : decode cX2_lengthFor 96 = .ok (.iconst (-1), 1) := by decide +kernel
theorem dX2_lengthFor_97 : decode cX2_lengthFor 97 = .ok (.ixor, 1) := by decide +kernel
theorem dX2_lengthFor_98 : decode cX2_lengthFor 98 = .ok (.iand, 1) := by decide +kernel
theorem dX2_lengthFor_99 : decode cX2_lengthFor 99 = .ok (.istore_n 3, 1) := by decide +kernel
theorem dX2_lengthFor_100 : decode cX2_lengthFor 100 = .ok (.iinc 5 1, 3) := by decide +kernel
theorem dX2_lengthFor_103 : decode cX2_lengthFor 103 = .ok (.goto (-42), 3) := by decide +kernel
theorem dX2_lengthFor_106 : decode cX2_lengthFor 106 = .ok (.aload_n 0, 1) := by decide +kernel
theorem dX2_lengthFor_107 : decode cX2_lengthFor 107 = .ok (.getfield 15, 3) := by decide +kernel
theorem dX2_lengthFor_110 : decode cX2_lengthFor 110 = .ok (.iload_n 2, 1) := by decide +kernel
theorem dX2_lengthFor_111 : decode cX2_lengthFor 111 = .ok (.iaload, 1) := by decide +kernel
theorem dX2_lengthFor_112 : decode cX2_lengthFor 112 = .ok (.iload_n 3, 1) := by decide +kernel
theorem dX2_lengthFor_113 : decode cX2_lengthFor 113 = .ok (.invokestatic 56, 3) := by decide +kernel
theorem dX2_lengthFor_116 : decode cX2_lengthFor 116 = .ok (.iconst 1, 1) := by decide +kernel
theorem dX2_lengthFor_117 : decode cX2_lengthFor 117 = .ok (.iadd, 1) := by decide +kernel
theorem dX2_lengthFor_118 : decode cX2_lengthFor 118 = .ok (.iconst 2, 1) := by decide +kernel
theorem dX2_lengthFor_119 : decode cX2_lengthFor 119 = .ok (.idiv, 1) := by decide +kernel
theorem dX2_lengthFor_120 : decode cX2_lengthFor 120 = .ok (.iadd, 1) := by decide +kernel
theorem dX2_lengthFor_121 : decode cX2_lengthFor 121 = .ok (.ireturn, 1) := by decide +kernel
theorem dX2_rightsOf_0 : decode cX2_rightsOf 0 = .ok (.aload_n 1, 1) := by decide +kernel
theorem dX2_rightsOf_1 : decode cX2_rightsOf 1 = .ok (.iconst 2, 1) := by decide +kernel
theorem dX2_rightsOf_2 : decode cX2_rightsOf 2 = .ok (.invokevirtual 42, 3) := by decide +kernel
theorem dX2_rightsOf_5 : decode cX2_rightsOf 5 = .ok (.istore_n 2, 1) := by decide +kernel
theorem dX2_rightsOf_6 : decode cX2_rightsOf 6 = .ok (.iconst 0, 1) := by decide +kernel
theorem dX2_rightsOf_7 : decode cX2_rightsOf 7 = .ok (.istore_n 3, 1) := by decide +kernel
theorem dX2_rightsOf_8 : decode cX2_rightsOf 8 = .ok (.iconst 0, 1) := by decide +kernel
theorem dX2_rightsOf_9 : decode cX2_rightsOf 9 = .ok (.istore 4, 2) := by decide +kernel
theorem dX2_rightsOf_11 : decode cX2_rightsOf 11 = .ok (.iload 4, 2) := by decide +kernel
theorem dX2_rightsOf_13 : decode cX2_rightsOf 13 = .ok (.aload_n 0, 1) := by decide +kernel
theorem dX2_rightsOf_14 : decode cX2_rightsOf 14 = .ok (.getfield 34, 3) := by decide +kernel
theorem dX2_rightsOf_17 : decode cX2_rightsOf 17 = .ok (.if_icmp .ge 30, 3) := by decide +kernel
theorem dX2_rightsOf_20 : decode cX2_rightsOf 20 = .ok (.aload_n 0, 1) := by decide +kernel
theorem dX2_rightsOf_21 : decode cX2_rightsOf 21 = .ok (.getfield 27, 3) := by decide +kernel
theorem dX2_rightsOf_24 : decode cX2_rightsOf 24 = .ok (.iload 4, 2) := by decide +kernel
theorem dX2_rightsOf_26 : decode cX2_rightsOf 26 = .ok (.iaload, 1) := by decide +kernel
theorem dX2_rightsOf_27 : decode cX2_rightsOf 27 = .ok (.iload_n 2, 1) := by decide +kernel
theorem dX2_rightsOf_28 : decode cX2_rightsOf 28 = .ok (.iconst (-1), 1) := by decide +kernel
theorem dX2_rightsOf_29 : decode cX2_rightsOf 29 = .ok (.ixor, 1) := by decide +kernel
theorem dX2_rightsOf_30 : decode cX2_rightsOf 30 = .ok (.iand, 1) := by decide +kernel
theorem dX2_rightsOf_31 : decode cX2_rightsOf 31 = .ok (.ifCond .ne 10, 3) := by decide +kernel
theorem dX2_rightsOf_34 : decode cX2_rightsOf 34 = .ok (.iload_n 3, 1) := by decide +kernel
theorem dX2_rightsOf_35 : decode cX2_rightsOf 35 = .ok (.iconst 1, 1) := by decide +kernel
theorem dX2_rightsOf_36 : decode cX2_rightsOf 36 = .ok (.iload 4, 2) := by decide +kernel
theorem dX2_rightsOf_38 : decode cX2_rightsOf 38 = .ok (.ishl, 1) := by decide +kernel
theorem dX2_rightsOf_39 : decode cX2_rightsOf 39 = .ok (.ior, 1) := by decide +kernel
theorem dX2_rightsOf_40 : decode cX2_rightsOf 40 = .ok (.istore_n 3, 1) := by decide +kernel
theorem dX2_rightsOf_41 : decode cX2_rightsOf 41 = .ok (.iinc 4 1, 3) := by decide +kernel
theorem dX2_rightsOf_44 : decode cX2_rightsOf 44 = .ok (.goto (-33), 3) := by decide +kernel
theorem dX2_rightsOf_47 : decode cX2_rightsOf 47 = .ok (.iload_n 3, 1) := by decide +kernel
theorem dX2_rightsOf_48 : decode cX2_rightsOf 48 = .ok (.ireturn, 1) := by decide +kernel
theorem dX3_init_0 : decode cX3_init 0 = .ok (.aload_n 0, 1) := by decide +kernel
theorem dX3_init_1 : decode cX3_init 1 = .ok (.invokespecial 3, 3) := by decide +kernel
theorem dX3_init_4 : decode cX3_init 4 = .ok (.aload_n 0, 1) := by decide +kernel
theorem dX3_init_5 : decode cX3_init 5 = .ok (.iconst 4, 1) := by decide +kernel
theorem dX3_init_6 : decode cX3_init 6 = .ok (.newarray .int, 2) := by decide +kernel
theorem dX3_init_8 : decode cX3_init 8 = .ok (.putfield 9, 3) := by decide +kernel
theorem dX3_init_11 : decode cX3_init 11 = .ok (.aload_n 0, 1) := by decide +kernel
theorem dX3_init_12 : decode cX3_init 12 = .ok (.bipush 20, 2) := by decide +kernel
theorem dX3_init_14 : decode cX3_init 14 = .ok (.newarray .int, 2) := by decide +kernel
theorem dX3_init_16 : decode cX3_init 16 = .ok (.putfield 15, 3) := by decide +kernel
theorem dX3_init_19 : decode cX3_init 19 = .ok (.aload_n 0, 1) := by decide +kernel
theorem dX3_init_20 : decode cX3_init 20 = .ok (.bipush 20, 2) := by decide +kernel
theorem dX3_init_22 : decode cX3_init 22 = .ok (.newarray .int, 2) := by decide +kernel
theorem dX3_init_24 : decode cX3_init 24 = .ok (.putfield 18, 3) := by decide +kernel
theorem dX3_init_27 : decode cX3_init 27 = .ok (.aload_n 0, 1) := by decide +kernel
theorem dX3_init_28 : decode cX3_init 28 = .ok (.bipush 20, 2) := by decide +kernel
theorem dX3_init_30 : decode cX3_init 30 = .ok (.newarray .int, 2) := by decide +kernel
theorem dX3_init_32 : decode cX3_init 32 = .ok (.putfield 21, 3) := by decide +kernel
theorem dX3_init_35 : decode cX3_init 35 = .ok (.return_, 1) := by decide +kernel
theorem dX3_hasPiece_0 : decode cX3_hasPiece 0 = .ok (.iload_n 1, 1) := by decide +kernel
theorem dX3_hasPiece_1 : decode cX3_hasPiece 1 = .ok (.ifCond .lt 21, 3) := by decide +kernel
theorem dX3_hasPiece_4 : decode cX3_hasPiece 4 = .ok (.iload_n 1, 1) := by decide +kernel
theorem dX3_hasPiece_5 : decode cX3_hasPiece 5 = .ok (.iconst 4, 1) := by decide +kernel
theorem dX3_hasPiece_6 : decode cX3_hasPiece 6 = .ok (.if_icmp .ge 16, 3) := by decide +kernel
theorem dX3_hasPiece_9 : decode cX3_hasPiece 9 = .ok (.aload_n 0, 1) := by decide +kernel
theorem dX3_hasPiece_10 : decode cX3_hasPiece 10 = .ok (.getfield 9, 3) := by decide +kernel
theorem dX3_hasPiece_13 : decode cX3_hasPiece 13 = .ok (.iload_n 1, 1) := by decide +kernel
theorem dX3_hasPiece_14 : decode cX3_hasPiece 14 = .ok (.iaload, 1) := by decide +kernel
theorem dX3_hasPiece_15 : decode cX3_hasPiece 15 = .ok (.ifCond .le 7, 3) := by decide +kernel
theorem dX3_hasPiece_18 : decode cX3_hasPiece 18 = .ok (.iconst 1, 1) := by decide +kernel
theorem dX3_hasPiece_19 : decode cX3_hasPiece 19 = .ok (.goto 4, 3) := by decide +kernel
theorem dX3_hasPiece_22 : decode cX3_hasPiece 22 = .ok (.iconst 0, 1) := by decide +kernel
theorem dX3_hasPiece_23 : decode cX3_hasPiece 23 = .ok (.ireturn, 1) := by decide +kernel
theorem dX3_putIn_0 : decode cX3_putIn 0 = .ok (.iload_n 1, 1) := by decide +kernel
theorem dX3_putIn_1 : decode cX3_putIn 1 = .ok (.ifCond .lt 18, 3) := by decide +kernel
theorem dX3_putIn_4 : decode cX3_putIn 4 = .ok (.iload_n 1, 1) := by decide +kernel
theorem dX3_putIn_5 : decode cX3_putIn 5 = .ok (.iconst 4, 1) := by decide +kernel
theorem dX3_putIn_6 : decode cX3_putIn 6 = .ok (.if_icmp .ge 13, 3) := by decide +kernel
theorem dX3_putIn_9 : decode cX3_putIn 9 = .ok (.aload_n 0, 1) := by decide +kernel
theorem dX3_putIn_10 : decode cX3_putIn 10 = .ok (.getfield 9, 3) := by decide +kernel
theorem dX3_putIn_13 : decode cX3_putIn 13 = .ok (.iload_n 1, 1) := by decide +kernel
theorem dX3_putIn_14 : decode cX3_putIn 14 = .ok (.dup2, 1) := by decide +kernel
theorem dX3_putIn_15 : decode cX3_putIn 15 = .ok (.iaload, 1) := by decide +kernel
theorem dX3_putIn_16 : decode cX3_putIn 16 = .ok (.iload_n 2, 1) := by decide +kernel
theorem dX3_putIn_17 : decode cX3_putIn 17 = .ok (.iadd, 1) := by decide +kernel
theorem dX3_putIn_18 : decode cX3_putIn 18 = .ok (.iastore, 1) := by decide +kernel
theorem dX3_putIn_19 : decode cX3_putIn 19 = .ok (.return_, 1) := by decide +kernel
theorem dX3_takeOne_0 : decode cX3_takeOne 0 = .ok (.aload_n 0, 1) := by decide +kernel
theorem dX3_takeOne_1 : decode cX3_takeOne 1 = .ok (.iload_n 1, 1) := by decide +kernel
theorem dX3_takeOne_2 : decode cX3_takeOne 2 = .ok (.invokevirtual 24, 3) := by decide +kernel
theorem dX3_takeOne_5 : decode cX3_takeOne 5 = .ok (.ifCond .eq 13, 3) := by decide +kernel
theorem dX3_takeOne_8 : decode cX3_takeOne 8 = .ok (.aload_n 0, 1) := by decide +kernel
theorem dX3_takeOne_9 : decode cX3_takeOne 9 = .ok (.getfield 9, 3) := by decide +kernel
theorem dX3_takeOne_12 : decode cX3_takeOne 12 = .ok (.iload_n 1, 1) := by decide +kernel
theorem dX3_takeOne_13 : decode cX3_takeOne 13 = .ok (.dup2, 1) := by decide +kernel
theorem dX3_takeOne_14 : decode cX3_takeOne 14 = .ok (.iaload, 1) := by decide +kernel
theorem dX3_takeOne_15 : decode cX3_takeOne 15 = .ok (.iconst 1, 1) := by decide +kernel
theorem dX3_takeOne_16 : decode cX3_takeOne 16 = .ok (.isub, 1) := by decide +kernel
theorem dX3_takeOne_17 : decode cX3_takeOne 17 = .ok (.iastore, 1) := by decide +kernel
theorem dX3_takeOne_18 : decode cX3_takeOne 18 = .ok (.return_, 1) := by decide +kernel
theorem dX3_addOrder_0 : decode cX3_addOrder 0 = .ok (.aload_n 0, 1) := by decide +kernel
theorem dX3_addOrder_1 : decode cX3_addOrder 1 = .ok (.getfield 28, 3) := by decide +kernel
theorem dX3_addOrder_4 : decode cX3_addOrder 4 = .ok (.bipush 20, 2) := by decide +kernel
theorem dX3_addOrder_6 : decode cX3_addOrder 6 = .ok (.if_icmp .lt 5, 3) := by decide +kernel
theorem dX3_addOrder_9 : decode cX3_addOrder 9 = .ok (.iconst (-1), 1) := by decide +kernel
theorem dX3_addOrder_10 : decode cX3_addOrder 10 = .ok (.ireturn, 1) := by decide +kernel
theorem dX3_addOrder_11 : decode cX3_addOrder 11 = .ok (.aload_n 0, 1) := by decide +kernel
theorem dX3_addOrder_12 : decode cX3_addOrder 12 = .ok (.getfield 15, 3) := by decide +kernel
theorem dX3_addOrder_15 : decode cX3_addOrder 15 = .ok (.aload_n 0, 1) := by decide +kernel
theorem dX3_addOrder_16 : decode cX3_addOrder 16 = .ok (.getfield 28, 3) := by decide +kernel
theorem dX3_addOrder_19 : decode cX3_addOrder 19 = .ok (.iload_n 1, 1) := by decide +kernel
theorem dX3_addOrder_20 : decode cX3_addOrder 20 = .ok (.iastore, 1) := by decide +kernel
theorem dX3_addOrder_21 : decode cX3_addOrder 21 = .ok (.aload_n 0, 1) := by decide +kernel
theorem dX3_addOrder_22 : decode cX3_addOrder 22 = .ok (.getfield 18, 3) := by decide +kernel
theorem dX3_addOrder_25 : decode cX3_addOrder 25 = .ok (.aload_n 0, 1) := by decide +kernel
theorem dX3_addOrder_26 : decode cX3_addOrder 26 = .ok (.getfield 28, 3) := by decide +kernel
theorem dX3_addOrder_29 : decode cX3_addOrder 29 = .ok (.iload_n 2, 1) := by decide +kernel
theorem dX3_addOrder_30 : decode cX3_addOrder 30 = .ok (.iastore, 1) := by decide +kernel
theorem dX3_addOrder_31 : decode cX3_addOrder 31 = .ok (.aload_n 0, 1) := by decide +kernel
theorem dX3_addOrder_32 : decode cX3_addOrder 32 = .ok (.getfield 21, 3) := by decide +kernel
theorem dX3_addOrder_35 : decode cX3_addOrder 35 = .ok (.aload_n 0, 1) := by decide +kernel
theorem dX3_addOrder_36 : decode cX3_addOrder 36 = .ok (.getfield 28, 3) := by decide +kernel
theorem dX3_addOrder_39 : decode cX3_addOrder 39 = .ok (.iload_n 3, 1) := by decide +kernel
theorem dX3_addOrder_40 : decode cX3_addOrder 40 = .ok (.iastore, 1) := by decide +kernel
theorem dX3_addOrder_41 : decode cX3_addOrder 41 = .ok (.aload_n 0, 1) := by decide +kernel
theorem dX3_addOrder_42 : decode cX3_addOrder 42 = .ok (.dup, 1) := by decide +kernel
theorem dX3_addOrder_43 : decode cX3_addOrder 43 = .ok (.getfield 28, 3) := by decide +kernel
theorem dX3_addOrder_46 : decode cX3_addOrder 46 = .ok (.iconst 1, 1) := by decide +kernel
theorem dX3_addOrder_47 : decode cX3_addOrder 47 = .ok (.iadd, 1) := by decide +kernel
theorem dX3_addOrder_48 : decode cX3_addOrder 48 = .ok (.putfield 28, 3) := by decide +kernel
theorem dX3_addOrder_51 : decode cX3_addOrder 51 = .ok (.aload_n 0, 1) := by decide +kernel
theorem dX3_addOrder_52 : decode cX3_addOrder 52 = .ok (.getfield 28, 3) := by decide +kernel
theorem dX3_addOrder_55 : decode cX3_addOrder 55 = .ok (.iconst 1, 1) := by decide +kernel
theorem dX3_addOrder_56 : decode cX3_addOrder 56 = .ok (.isub, 1) := by decide +kernel
theorem dX3_addOrder_57 : decode cX3_addOrder 57 = .ok (.ireturn, 1) := by decide +kernel
theorem dX3_receive_0 : decode cX3_receive 0 = .ok (.iconst 0, 1) := by decide +kernel
theorem dX3_receive_1 : decode cX3_receive 1 = .ok (.istore_n 2, 1) := by decide +kernel
theorem dX3_receive_2 : decode cX3_receive 2 = .ok (.iload_n 2, 1) := by decide +kernel
theorem dX3_receive_3 : decode cX3_receive 3 = .ok (.aload_n 0, 1) := by decide +kernel
theorem dX3_receive_4 : decode cX3_receive 4 = .ok (.getfield 28, 3) := by decide +kernel
theorem dX3_receive_7 : decode cX3_receive 7 = .ok (.if_icmp .ge 35, 3) := by decide +kernel
theorem dX3_receive_10 : decode cX3_receive 10 = .ok (.aload_n 0, 1) := by decide +kernel
theorem dX3_receive_11 : decode cX3_receive 11 = .ok (.getfield 21, 3) := by decide +kernel
theorem dX3_receive_14 : decode cX3_receive 14 = .ok (.iload_n 2, 1) := by decide +kernel
theorem dX3_receive_15 : decode cX3_receive 15 = .ok (.iaload, 1) := by decide +kernel
theorem dX3_receive_16 : decode cX3_receive 16 = .ok (.iload_n 1, 1) := by decide +kernel
theorem dX3_receive_17 : decode cX3_receive 17 = .ok (.if_icmp .ne 19, 3) := by decide +kernel
theorem dX3_receive_20 : decode cX3_receive 20 = .ok (.aload_n 0, 1) := by decide +kernel
theorem dX3_receive_21 : decode cX3_receive 21 = .ok (.aload_n 0, 1) := by decide +kernel
theorem dX3_receive_22 : decode cX3_receive 22 = .ok (.getfield 15, 3) := by decide +kernel
theorem dX3_receive_25 : decode cX3_receive 25 = .ok (.iload_n 2, 1) := by decide +kernel
theorem dX3_receive_26 : decode cX3_receive 26 = .ok (.iaload, 1) := by decide +kernel
theorem dX3_receive_27 : decode cX3_receive 27 = .ok (.aload_n 0, 1) := by decide +kernel
theorem dX3_receive_28 : decode cX3_receive 28 = .ok (.getfield 18, 3) := by decide +kernel
theorem dX3_receive_31 : decode cX3_receive 31 = .ok (.iload_n 2, 1) := by decide +kernel
theorem dX3_receive_32 : decode cX3_receive 32 = .ok (.iaload, 1) := by decide +kernel
theorem dX3_receive_33 : decode cX3_receive 33 = .ok (.invokevirtual 32, 3) := by decide +kernel
theorem dX3_receive_36 : decode cX3_receive 36 = .ok (.iinc 2 1, 3) := by decide +kernel
theorem dX3_receive_39 : decode cX3_receive 39 = .ok (.goto (-37), 3) := by decide +kernel
theorem dX3_receive_42 : decode cX3_receive 42 = .ok (.return_, 1) := by decide +kernel
theorem dX3_piecesToCome_0 : decode cX3_piecesToCome 0 = .ok (.iconst 0, 1) := by decide +kernel
theorem dX3_piecesToCome_1 : decode cX3_piecesToCome 1 = .ok (.istore_n 3, 1) := by decide +kernel
theorem dX3_piecesToCome_2 : decode cX3_piecesToCome 2 = .ok (.iconst 0, 1) := by decide +kernel
theorem dX3_piecesToCome_3 : decode cX3_piecesToCome 3 = .ok (.istore 4, 2) := by decide +kernel
theorem dX3_piecesToCome_5 : decode cX3_piecesToCome 5 = .ok (.iload 4, 2) := by decide +kernel
theorem dX3_piecesToCome_7 : decode cX3_piecesToCome 7 = .ok (.aload_n 0, 1) := by decide +kernel
theorem dX3_piecesToCome_8 : decode cX3_piecesToCome 8 = .ok (.getfield 28, 3) := by decide +kernel
theorem dX3_piecesToCome_11 : decode cX3_piecesToCome 11 = .ok (.if_icmp .ge 41, 3) := by decide +kernel
theorem dX3_piecesToCome_14 : decode cX3_piecesToCome 14 = .ok (.aload_n 0, 1) := by decide +kernel
theorem dX3_piecesToCome_15 : decode cX3_piecesToCome 15 = .ok (.getfield 15, 3) := by decide +kernel
theorem dX3_piecesToCome_18 : decode cX3_piecesToCome 18 = .ok (.iload 4, 2) := by decide +kernel
theorem dX3_piecesToCome_20 : decode cX3_piecesToCome 20 = .ok (.iaload, 1) := by decide +kernel
theorem dX3_piecesToCome_21 : decode cX3_piecesToCome 21 = .ok (.iload_n 1, 1) := by decide +kernel
theorem dX3_piecesToCome_22 : decode cX3_piecesToCome 22 = .ok (.if_icmp .ne 24, 3) := by decide +kernel
theorem dX3_piecesToCome_25 : decode cX3_piecesToCome 25 = .ok (.aload_n 0, 1) := by decide +kernel
theorem dX3_piecesToCome_26 : decode cX3_piecesToCome 26 = .ok (.getfield 21, 3) := by decide +kernel
theorem dX3_piecesToCome_29 : decode cX3_piecesToCome 29 = .ok (.iload 4, 2) := by decide +kernel
theorem dX3_piecesToCome_31 : decode cX3_piecesToCome 31 = .ok (.iaload, 1) := by decide +kernel
theorem dX3_piecesToCome_32 : decode cX3_piecesToCome 32 = .ok (.iload_n 2, 1) := by decide +kernel
theorem dX3_piecesToCome_33 : decode cX3_piecesToCome 33 = .ok (.if_icmp .le 13, 3) := by decide +kernel
theorem dX3_piecesToCome_36 : decode cX3_piecesToCome 36 = .ok (.iload_n 3, 1) := by decide +kernel
theorem dX3_piecesToCome_37 : decode cX3_piecesToCome 37 = .ok (.aload_n 0, 1) := by decide +kernel
theorem dX3_piecesToCome_38 : decode cX3_piecesToCome 38 = .ok (.getfield 18, 3) := by decide +kernel
theorem dX3_piecesToCome_41 : decode cX3_piecesToCome 41 = .ok (.iload 4, 2) := by decide +kernel
theorem dX3_piecesToCome_43 : decode cX3_piecesToCome 43 = .ok (.iaload, 1) := by decide +kernel
theorem dX3_piecesToCome_44 : decode cX3_piecesToCome 44 = .ok (.iadd, 1) := by decide +kernel
theorem dX3_piecesToCome_45 : decode cX3_piecesToCome 45 = .ok (.istore_n 3, 1) := by decide +kernel
theorem dX3_piecesToCome_46 : decode cX3_piecesToCome 46 = .ok (.iinc 4 1, 3) := by decide +kernel
theorem dX3_piecesToCome_49 : decode cX3_piecesToCome 49 = .ok (.goto (-44), 3) := by decide +kernel
theorem dX3_piecesToCome_52 : decode cX3_piecesToCome 52 = .ok (.iload_n 3, 1) := by decide +kernel
theorem dX3_piecesToCome_53 : decode cX3_piecesToCome 53 = .ok (.ireturn, 1) := by decide +kernel
theorem dX3_earliestToCome_0 : decode cX3_earliestToCome 0 = .ok (.iconst (-1), 1) := by decide +kernel
theorem dX3_earliestToCome_1 : decode cX3_earliestToCome 1 = .ok (.istore 5, 2) := by decide +kernel
theorem dX3_earliestToCome_3 : decode cX3_earliestToCome 3 = .ok (.iconst 0, 1) := by decide +kernel
theorem dX3_earliestToCome_4 : decode cX3_earliestToCome 4 = .ok (.istore 6, 2) := by decide +kernel
theorem dX3_earliestToCome_6 : decode cX3_earliestToCome 6 = .ok (.iload 6, 2) := by decide +kernel
theorem dX3_earliestToCome_8 : decode cX3_earliestToCome 8 = .ok (.aload_n 0, 1) := by decide +kernel
theorem dX3_earliestToCome_9 : decode cX3_earliestToCome 9 = .ok (.getfield 28, 3) := by decide +kernel
theorem dX3_earliestToCome_12 : decode cX3_earliestToCome 12 = .ok (.if_icmp .ge 79, 3) := by decide +kernel
theorem dX3_earliestToCome_15 : decode cX3_earliestToCome 15 = .ok (.aload_n 0, 1) := by decide +kernel
theorem dX3_earliestToCome_16 : decode cX3_earliestToCome 16 = .ok (.getfield 15, 3) := by decide +kernel
theorem dX3_earliestToCome_19 : decode cX3_earliestToCome 19 = .ok (.iload 6, 2) := by decide +kernel
theorem dX3_earliestToCome_21 : decode cX3_earliestToCome 21 = .ok (.iaload, 1) := by decide +kernel
theorem dX3_earliestToCome_22 : decode cX3_earliestToCome 22 = .ok (.iload_n 1, 1) := by decide +kernel
theorem dX3_earliestToCome_23 : decode cX3_earliestToCome 23 = .ok (.if_icmp .ne 62, 3) := by decide +kernel
theorem dX3_earliestToCome_26 : decode cX3_earliestToCome 26 = .ok (.aload_n 0, 1) := by decide +kernel
theorem dX3_earliestToCome_27 : decode cX3_earliestToCome 27 = .ok (.getfield 21, 3) := by decide +kernel
theorem dX3_earliestToCome_30 : decode cX3_earliestToCome 30 = .ok (.iload 6, 2) := by decide +kernel
theorem dX3_earliestToCome_32 : decode cX3_earliestToCome 32 = .ok (.iaload, 1) := by decide +kernel
theorem dX3_earliestToCome_33 : decode cX3_earliestToCome 33 = .ok (.iload_n 2, 1) := by decide +kernel
theorem dX3_earliestToCome_34 : decode cX3_earliestToCome 34 = .ok (.if_icmp .le 51, 3) := by decide +kernel
theorem dX3_earliestToCome_37 : decode cX3_earliestToCome 37 = .ok (.iload 6, 2) := by decide +kernel
theorem dX3_earliestToCome_39 : decode cX3_earliestToCome 39 = .ok (.iload_n 3, 1) := by decide +kernel
theorem dX3_earliestToCome_40 : decode cX3_earliestToCome 40 = .ok (.if_icmp .ne 16, 3) := by decide +kernel
theorem dX3_earliestToCome_43 : decode cX3_earliestToCome 43 = .ok (.aload_n 0, 1) := by decide +kernel
theorem dX3_earliestToCome_44 : decode cX3_earliestToCome 44 = .ok (.getfield 21, 3) := by decide +kernel
theorem dX3_earliestToCome_47 : decode cX3_earliestToCome 47 = .ok (.iload 6, 2) := by decide +kernel
theorem dX3_earliestToCome_49 : decode cX3_earliestToCome 49 = .ok (.iaload, 1) := by decide +kernel
theorem dX3_earliestToCome_50 : decode cX3_earliestToCome 50 = .ok (.iload 4, 2) := by decide +kernel
theorem dX3_earliestToCome_52 : decode cX3_earliestToCome 52 = .ok (.iadd, 1) := by decide +kernel
theorem dX3_earliestToCome_53 : decode cX3_earliestToCome 53 = .ok (.goto 10, 3) := by decide +kernel
theorem dX3_earliestToCome_56 : decode cX3_earliestToCome 56 = .ok (.aload_n 0, 1) := by decide +kernel
theorem dX3_earliestToCome_57 : decode cX3_earliestToCome 57 = .ok (.getfield 21, 3) := by decide +kernel
theorem dX3_earliestToCome_60 : decode cX3_earliestToCome 60 = .ok (.iload 6, 2) := by decide +kernel
theorem dX3_earliestToCome_62 : decode cX3_earliestToCome 62 = .ok (.iaload, 1) := by decide +kernel
theorem dX3_earliestToCome_63 : decode cX3_earliestToCome 63 = .ok (.istore 7, 2) := by decide +kernel
theorem dX3_earliestToCome_65 : decode cX3_earliestToCome 65 = .ok (.iload 5, 2) := by decide +kernel
theorem dX3_earliestToCome_67 : decode cX3_earliestToCome 67 = .ok (.iconst (-1), 1) := by decide +kernel
theorem dX3_earliestToCome_68 : decode cX3_earliestToCome 68 = .ok (.if_icmp .ne 8, 3) := by decide +kernel
theorem dX3_earliestToCome_71 : decode cX3_earliestToCome 71 = .ok (.iload 7, 2) := by decide +kernel
theorem dX3_earliestToCome_73 : decode cX3_earliestToCome 73 = .ok (.goto 10, 3) := by decide +kernel
theorem dX3_earliestToCome_76 : decode cX3_earliestToCome 76 = .ok (.iload 5, 2) := by decide +kernel
theorem dX3_earliestToCome_78 : decode cX3_earliestToCome 78 = .ok (.iload 7, 2) := by decide +kernel
theorem dX3_earliestToCome_80 : decode cX3_earliestToCome 80 = .ok (.invokestatic 36, 3) := by decide +kernel
theorem dX3_earliestToCome_83 : decode cX3_earliestToCome 83 = .ok (.istore 5, 2) := by decide +kernel
theorem dX3_earliestToCome_85 : decode cX3_earliestToCome 85 = .ok (.iinc 6 1, 3) := by decide +kernel
theorem dX3_earliestToCome_88 : decode cX3_earliestToCome 88 = .ok (.goto (-82), 3) := by decide +kernel
theorem dX3_earliestToCome_91 : decode cX3_earliestToCome 91 = .ok (.iload 5, 2) := by decide +kernel
theorem dX3_earliestToCome_93 : decode cX3_earliestToCome 93 = .ok (.ireturn, 1) := by decide +kernel
theorem dX4_init_0 : decode cX4_init 0 = .ok (.aload_n 0, 1) := by decide +kernel
theorem dX4_init_1 : decode cX4_init 1 = .ok (.invokespecial 3, 3) := by decide +kernel
theorem dX4_init_4 : decode cX4_init 4 = .ok (.aload_n 0, 1) := by decide +kernel
theorem dX4_init_5 : decode cX4_init 5 = .ok (.bipush 20, 2) := by decide +kernel
theorem dX4_init_7 : decode cX4_init 7 = .ok (.newarray .int, 2) := by decide +kernel
theorem dX4_init_9 : decode cX4_init 9 = .ok (.putfield 9, 3) := by decide +kernel
theorem dX4_init_12 : decode cX4_init 12 = .ok (.aload_n 0, 1) := by decide +kernel
theorem dX4_init_13 : decode cX4_init 13 = .ok (.bipush 20, 2) := by decide +kernel
theorem dX4_init_15 : decode cX4_init 15 = .ok (.newarray .int, 2) := by decide +kernel
theorem dX4_init_17 : decode cX4_init 17 = .ok (.putfield 15, 3) := by decide +kernel
theorem dX4_init_20 : decode cX4_init 20 = .ok (.aload_n 0, 1) := by decide +kernel
theorem dX4_init_21 : decode cX4_init 21 = .ok (.bipush 20, 2) := by decide +kernel
theorem dX4_init_23 : decode cX4_init 23 = .ok (.newarray .int, 2) := by decide +kernel
theorem dX4_init_25 : decode cX4_init 25 = .ok (.putfield 18, 3) := by decide +kernel
theorem dX4_init_28 : decode cX4_init 28 = .ok (.aload_n 0, 1) := by decide +kernel
