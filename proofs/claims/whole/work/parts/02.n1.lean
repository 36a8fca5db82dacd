theorem dX0_init_0 : decode cX0_init 0 = .ok (.aload_n 0, 1) := by decide +kernel
theorem dX0_init_1 : decode cX0_init 1 = .ok (.invokespecial 3, 3) := by decide +kernel
theorem dX0_init_4 : decode cX0_init 4 = .ok (.aload_n 0, 1) := by decide +kernel
theorem dX0_init_5 : decode cX0_init 5 = .ok (.iconst 4, 1) := by decide +kernel
theorem dX0_init_6 : decode cX0_init 6 = .ok (.newarray .int, 2) := by decide +kernel
theorem dX0_init_8 : decode cX0_init 8 = .ok (.putfield 9, 3) := by decide +kernel
theorem dX0_init_11 : decode cX0_init 11 = .ok (.aload_n 0, 1) := by decide +kernel
theorem dX0_init_12 : decode cX0_init 12 = .ok (.bipush 12, 2) := by decide +kernel
theorem dX0_init_14 : decode cX0_init 14 = .ok (.newarray .int, 2) := by decide +kernel
theorem dX0_init_16 : decode cX0_init 16 = .ok (.putfield 15, 3) := by decide +kernel
theorem dX0_init_19 : decode cX0_init 19 = .ok (.aload_n 0, 1) := by decide +kernel
theorem dX0_init_20 : decode cX0_init 20 = .ok (.bipush 12, 2) := by decide +kernel
theorem dX0_init_22 : decode cX0_init 22 = .ok (.newarray .int, 2) := by decide +kernel
theorem dX0_init_24 : decode cX0_init 24 = .ok (.putfield 18, 3) := by decide +kernel
theorem dX0_init_27 : decode cX0_init 27 = .ok (.aload_n 0, 1) := by decide +kernel
theorem dX0_init_28 : decode cX0_init 28 = .ok (.aload_n 1, 1) := by decide +kernel
theorem dX0_init_29 : decode cX0_init 29 = .ok (.putfield 21, 3) := by decide +kernel
theorem dX0_init_32 : decode cX0_init 32 = .ok (.aload_n 0, 1) := by decide +kernel
theorem dX0_init_33 : decode cX0_init 33 = .ok (.aload_n 2, 1) := by decide +kernel
theorem dX0_init_34 : decode cX0_init 34 = .ok (.putfield 25, 3) := by decide +kernel
theorem dX0_init_37 : decode cX0_init 37 = .ok (.aload_n 0, 1) := by decide +kernel
theorem dX0_init_38 : decode cX0_init 38 = .ok (.aload_n 3, 1) := by decide +kernel
theorem dX0_init_39 : decode cX0_init 39 = .ok (.putfield 29, 3) := by decide +kernel
theorem dX0_init_42 : decode cX0_init 42 = .ok (.return_, 1) := by decide +kernel
theorem dX0_foresee_0 : decode cX0_foresee 0 = .ok (.aload_n 0, 1) := by decide +kernel
theorem dX0_foresee_1 : decode cX0_foresee 1 = .ok (.iload_n 2, 1) := by decide +kernel
theorem dX0_foresee_2 : decode cX0_foresee 2 = .ok (.iload_n 3, 1) := by decide +kernel
theorem dX0_foresee_3 : decode cX0_foresee 3 = .ok (.iload 4, 2) := by decide +kernel
theorem dX0_foresee_5 : decode cX0_foresee 5 = .ok (.invokevirtual 33, 3) := by decide +kernel
theorem dX0_foresee_8 : decode cX0_foresee 8 = .ok (.iconst 0, 1) := by decide +kernel
theorem dX0_foresee_9 : decode cX0_foresee 9 = .ok (.istore 5, 2) := by decide +kernel
theorem dX0_foresee_11 : decode cX0_foresee 11 = .ok (.iload 5, 2) := by decide +kernel
theorem dX0_foresee_13 : decode cX0_foresee 13 = .ok (.bipush 12, 2) := by decide +kernel
theorem dX0_foresee_15 : decode cX0_foresee 15 = .ok (.if_icmp .ge 16, 3) := by decide +kernel
theorem dX0_foresee_18 : decode cX0_foresee 18 = .ok (.aload_n 0, 1) := by decide +kernel
theorem dX0_foresee_19 : decode cX0_foresee 19 = .ok (.aload_n 1, 1) := by decide +kernel
theorem dX0_foresee_20 : decode cX0_foresee 20 = .ok (.iload 5, 2) := by decide +kernel
theorem dX0_foresee_22 : decode cX0_foresee 22 = .ok (.invokevirtual 37, 3) := by decide +kernel
theorem dX0_foresee_25 : decode cX0_foresee 25 = .ok (.iinc 5 1, 3) := by decide +kernel
theorem dX0_foresee_28 : decode cX0_foresee 28 = .ok (.goto (-17), 3) := by decide +kernel
theorem dX0_foresee_31 : decode cX0_foresee 31 = .ok (.return_, 1) := by decide +kernel
theorem dX0_lookFrom_0 : decode cX0_lookFrom 0 = .ok (.aload_n 0, 1) := by decide +kernel
theorem dX0_lookFrom_1 : decode cX0_lookFrom 1 = .ok (.iload_n 1, 1) := by decide +kernel
theorem dX0_lookFrom_2 : decode cX0_lookFrom 2 = .ok (.iconst 1, 1) := by decide +kernel
theorem dX0_lookFrom_3 : decode cX0_lookFrom 3 = .ok (.iadd, 1) := by decide +kernel
theorem dX0_lookFrom_4 : decode cX0_lookFrom 4 = .ok (.putfield 41, 3) := by decide +kernel
theorem dX0_lookFrom_7 : decode cX0_lookFrom 7 = .ok (.iconst 0, 1) := by decide +kernel
theorem dX0_lookFrom_8 : decode cX0_lookFrom 8 = .ok (.istore 4, 2) := by decide +kernel
theorem dX0_lookFrom_10 : decode cX0_lookFrom 10 = .ok (.iload 4, 2) := by decide +kernel
theorem dX0_lookFrom_12 : decode cX0_lookFrom 12 = .ok (.iconst 4, 1) := by decide +kernel
theorem dX0_lookFrom_13 : decode cX0_lookFrom 13 = .ok (.if_icmp .ge 44, 3) := by decide +kernel
theorem dX0_lookFrom_16 : decode cX0_lookFrom 16 = .ok (.aload_n 0, 1) := by decide +kernel
theorem dX0_lookFrom_17 : decode cX0_lookFrom 17 = .ok (.getfield 9, 3) := by decide +kernel
theorem dX0_lookFrom_20 : decode cX0_lookFrom 20 = .ok (.iload 4, 2) := by decide +kernel
theorem dX0_lookFrom_22 : decode cX0_lookFrom 22 = .ok (.aload_n 0, 1) := by decide +kernel
theorem dX0_lookFrom_23 : decode cX0_lookFrom 23 = .ok (.getfield 25, 3) := by decide +kernel
theorem dX0_lookFrom_26 : decode cX0_lookFrom 26 = .ok (.iload 4, 2) := by decide +kernel
theorem dX0_lookFrom_28 : decode cX0_lookFrom 28 = .ok (.invokevirtual 45, 3) := by decide +kernel
theorem dX0_lookFrom_31 : decode cX0_lookFrom 31 = .ok (.ifCond .eq 7, 3) := by decide +kernel
theorem dX0_lookFrom_34 : decode cX0_lookFrom 34 = .ok (.iload_n 1, 1) := by decide +kernel
theorem dX0_lookFrom_35 : decode cX0_lookFrom 35 = .ok (.goto 15, 3) := by decide +kernel
theorem dX0_lookFrom_38 : decode cX0_lookFrom 38 = .ok (.aload_n 0, 1) := by decide +kernel
theorem dX0_lookFrom_39 : decode cX0_lookFrom 39 = .ok (.getfield 25, 3) := by decide +kernel
theorem dX0_lookFrom_42 : decode cX0_lookFrom 42 = .ok (.iload 4, 2) := by decide +kernel
theorem dX0_lookFrom_44 : decode cX0_lookFrom 44 = .ok (.iload_n 1, 1) := by decide +kernel
theorem dX0_lookFrom_45 : decode cX0_lookFrom 45 = .ok (.iload_n 2, 1) := by decide +kernel
theorem dX0_lookFrom_46 : decode cX0_lookFrom 46 = .ok (.iload_n 3, 1) := by decide +kernel
theorem dX0_lookFrom_47 : decode cX0_lookFrom 47 = .ok (.invokevirtual 51, 3) := by decide +kernel
theorem dX0_lookFrom_50 : decode cX0_lookFrom 50 = .ok (.iastore, 1) := by decide +kernel
theorem dX0_lookFrom_51 : decode cX0_lookFrom 51 = .ok (.iinc 4 1, 3) := by decide +kernel
theorem dX0_lookFrom_54 : decode cX0_lookFrom 54 = .ok (.goto (-44), 3) := by decide +kernel
theorem dX0_lookFrom_57 : decode cX0_lookFrom 57 = .ok (.return_, 1) := by decide +kernel
theorem dX0_foreseeStep_0 : decode cX0_foreseeStep 0 = .ok (.iload_n 2, 1) := by decide +kernel
theorem dX0_foreseeStep_1 : decode cX0_foreseeStep 1 = .ok (.ifCond .lt 9, 3) := by decide +kernel
theorem dX0_foreseeStep_4 : decode cX0_foreseeStep 4 = .ok (.iload_n 2, 1) := by decide +kernel
theorem dX0_foreseeStep_5 : decode cX0_foreseeStep 5 = .ok (.bipush 12, 2) := by decide +kernel
theorem dX0_foreseeStep_7 : decode cX0_foreseeStep 7 = .ok (.if_icmp .lt 4, 3) := by decide +kernel
theorem dX0_foreseeStep_10 : decode cX0_foreseeStep 10 = .ok (.return_, 1) := by decide +kernel
theorem dX0_foreseeStep_11 : decode cX0_foreseeStep 11 = .ok (.aload_n 0, 1) := by decide +kernel
theorem dX0_foreseeStep_12 : decode cX0_foreseeStep 12 = .ok (.aload_n 1, 1) := by decide +kernel
theorem dX0_foreseeStep_13 : decode cX0_foreseeStep 13 = .ok (.iload_n 2, 1) := by decide +kernel
theorem dX0_foreseeStep_14 : decode cX0_foreseeStep 14 = .ok (.invokevirtual 55, 3) := by decide +kernel
theorem dX0_foreseeStep_17 : decode cX0_foreseeStep 17 = .ok (.istore_n 3, 1) := by decide +kernel
theorem dX0_foreseeStep_18 : decode cX0_foreseeStep 18 = .ok (.aload_n 0, 1) := by decide +kernel
theorem dX0_foreseeStep_19 : decode cX0_foreseeStep 19 = .ok (.getfield 15, 3) := by decide +kernel
theorem dX0_foreseeStep_22 : decode cX0_foreseeStep 22 = .ok (.iload_n 2, 1) := by decide +kernel
theorem dX0_foreseeStep_23 : decode cX0_foreseeStep 23 = .ok (.iload_n 3, 1) := by decide +kernel
theorem dX0_foreseeStep_24 : decode cX0_foreseeStep 24 = .ok (.iastore, 1) := by decide +kernel
theorem dX0_foreseeStep_25 : decode cX0_foreseeStep 25 = .ok (.aload_n 0, 1) := by decide +kernel
theorem dX0_foreseeStep_26 : decode cX0_foreseeStep 26 = .ok (.getfield 18, 3) := by decide +kernel
theorem dX0_foreseeStep_29 : decode cX0_foreseeStep 29 = .ok (.iload_n 2, 1) := by decide +kernel
theorem dX0_foreseeStep_30 : decode cX0_foreseeStep 30 = .ok (.iload_n 3, 1) := by decide +kernel
theorem dX0_foreseeStep_31 : decode cX0_foreseeStep 31 = .ok (.iconst (-1), 1) := by decide +kernel
theorem dX0_foreseeStep_32 : decode cX0_foreseeStep 32 = .ok (.if_icmp .ne 7, 3) := by decide +kernel
theorem dX0_foreseeStep_35 : decode cX0_foreseeStep 35 = .ok (.iconst (-1), 1) := by decide +kernel
theorem dX0_foreseeStep_36 : decode cX0_foreseeStep 36 = .ok (.goto 16, 3) := by decide +kernel
theorem dX0_foreseeStep_39 : decode cX0_foreseeStep 39 = .ok (.iload_n 3, 1) := by decide +kernel
theorem dX0_foreseeStep_40 : decode cX0_foreseeStep 40 = .ok (.aload_n 0, 1) := by decide +kernel
theorem dX0_foreseeStep_41 : decode cX0_foreseeStep 41 = .ok (.getfield 21, 3) := by decide +kernel
theorem dX0_foreseeStep_44 : decode cX0_foreseeStep 44 = .ok (.aload_n 1, 1) := by decide +kernel
theorem dX0_foreseeStep_45 : decode cX0_foreseeStep 45 = .ok (.iload_n 2, 1) := by decide +kernel
theorem dX0_foreseeStep_46 : decode cX0_foreseeStep 46 = .ok (.invokevirtual 59, 3) := by decide +kernel
theorem dX0_foreseeStep_49 : decode cX0_foreseeStep 49 = .ok (.iadd, 1) := by decide +kernel
theorem dX0_foreseeStep_50 : decode cX0_foreseeStep 50 = .ok (.iconst 1, 1) := by decide +kernel
theorem dX0_foreseeStep_51 : decode cX0_foreseeStep 51 = .ok (.isub, 1) := by decide +kernel
theorem dX0_foreseeStep_52 : decode cX0_foreseeStep 52 = .ok (.iastore, 1) := by decide +kernel
theorem dX0_foreseeStep_53 : decode cX0_foreseeStep 53 = .ok (.return_, 1) := by decide +kernel
theorem dX0_beginOf_0 : decode cX0_beginOf 0 = .ok (.iload_n 2, 1) := by decide +kernel
theorem dX0_beginOf_1 : decode cX0_beginOf 1 = .ok (.ifCond .lt 27, 3) := by decide +kernel
theorem dX0_beginOf_4 : decode cX0_beginOf 4 = .ok (.iload_n 2, 1) := by decide +kernel
theorem dX0_beginOf_5 : decode cX0_beginOf 5 = .ok (.bipush 12, 2) := by decide +kernel
theorem dX0_beginOf_7 : decode cX0_beginOf 7 = .ok (.if_icmp .ge 21, 3) := by decide +kernel
theorem dX0_beginOf_10 : decode cX0_beginOf 10 = .ok (.aload_n 1, 1) := by decide +kernel
theorem dX0_beginOf_11 : decode cX0_beginOf 11 = .ok (.getfield 64, 3) := by decide +kernel
theorem dX0_beginOf_14 : decode cX0_beginOf 14 = .ok (.ifCond .ne 14, 3) := by decide +kernel
theorem dX0_beginOf_17 : decode cX0_beginOf 17 = .ok (.aload_n 1, 1) := by decide +kernel
theorem dX0_beginOf_18 : decode cX0_beginOf 18 = .ok (.getfield 70, 3) := by decide +kernel
theorem dX0_beginOf_21 : decode cX0_beginOf 21 = .ok (.iload_n 2, 1) := by decide +kernel
theorem dX0_beginOf_22 : decode cX0_beginOf 22 = .ok (.invokestatic 73, 3) := by decide +kernel
theorem dX0_beginOf_25 : decode cX0_beginOf 25 = .ok (.ifCond .ne 5, 3) := by decide +kernel
theorem dX0_beginOf_28 : decode cX0_beginOf 28 = .ok (.iconst (-1), 1) := by decide +kernel
theorem dX0_beginOf_29 : decode cX0_beginOf 29 = .ok (.ireturn, 1) := by decide +kernel
theorem dX0_beginOf_30 : decode cX0_beginOf 30 = .ok (.aload_n 1, 1) := by decide +kernel
theorem dX0_beginOf_31 : decode cX0_beginOf 31 = .ok (.getfield 77, 3) := by decide +kernel
theorem dX0_beginOf_34 : decode cX0_beginOf 34 = .ok (.iload_n 2, 1) := by decide +kernel
theorem dX0_beginOf_35 : decode cX0_beginOf 35 = .ok (.iaload, 1) := by decide +kernel
theorem dX0_beginOf_36 : decode cX0_beginOf 36 = .ok (.ifCond .eq 10, 3) := by decide +kernel
theorem dX0_beginOf_39 : decode cX0_beginOf 39 = .ok (.aload_n 1, 1) := by decide +kernel
theorem dX0_beginOf_40 : decode cX0_beginOf 40 = .ok (.getfield 80, 3) := by decide +kernel
theorem dX0_beginOf_43 : decode cX0_beginOf 43 = .ok (.iload_n 2, 1) := by decide +kernel
theorem dX0_beginOf_44 : decode cX0_beginOf 44 = .ok (.iaload, 1) := by decide +kernel
theorem dX0_beginOf_45 : decode cX0_beginOf 45 = .ok (.ireturn, 1) := by decide +kernel
theorem dX0_beginOf_46 : decode cX0_beginOf 46 = .ok (.aload_n 0, 1) := by decide +kernel
theorem dX0_beginOf_47 : decode cX0_beginOf 47 = .ok (.getfield 41, 3) := by decide +kernel
theorem dX0_beginOf_50 : decode cX0_beginOf 50 = .ok (.aload_n 1, 1) := by decide +kernel
theorem dX0_beginOf_51 : decode cX0_beginOf 51 = .ok (.getfield 81, 3) := by decide +kernel
theorem dX0_beginOf_54 : decode cX0_beginOf 54 = .ok (.invokestatic 84, 3) := by decide +kernel
theorem dX0_beginOf_57 : decode cX0_beginOf 57 = .ok (.istore_n 3, 1) := by decide +kernel
theorem dX0_beginOf_58 : decode cX0_beginOf 58 = .ok (.aload_n 0, 1) := by decide +kernel
theorem dX0_beginOf_59 : decode cX0_beginOf 59 = .ok (.getfield 21, 3) := by decide +kernel
theorem dX0_beginOf_62 : decode cX0_beginOf 62 = .ok (.getfield 90, 3) := by decide +kernel
theorem dX0_beginOf_65 : decode cX0_beginOf 65 = .ok (.iload_n 2, 1) := by decide +kernel
theorem dX0_beginOf_66 : decode cX0_beginOf 66 = .ok (.iaload, 1) := by decide +kernel
theorem dX0_beginOf_67 : decode cX0_beginOf 67 = .ok (.aload_n 1, 1) := by decide +kernel
theorem dX0_beginOf_68 : decode cX0_beginOf 68 = .ok (.getfield 70, 3) := by decide +kernel
theorem dX0_beginOf_71 : decode cX0_beginOf 71 = .ok (.iand, 1) := by decide +kernel
theorem dX0_beginOf_72 : decode cX0_beginOf 72 = .ok (.istore 4, 2) := by decide +kernel
theorem dX0_beginOf_74 : decode cX0_beginOf 74 = .ok (.iconst 0, 1) := by decide +kernel
theorem dX0_beginOf_75 : decode cX0_beginOf 75 = .ok (.istore 5, 2) := by decide +kernel
theorem dX0_beginOf_77 : decode cX0_beginOf 77 = .ok (.iload 5, 2) := by decide +kernel
theorem dX0_beginOf_79 : decode cX0_beginOf 79 = .ok (.iload_n 2, 1) := by decide +kernel
theorem dX0_beginOf_80 : decode cX0_beginOf 80 = .ok (.if_icmp .ge 46, 3) := by decide +kernel
theorem dX0_beginOf_83 : decode cX0_beginOf 83 = .ok (.iload 4, 2) := by decide +kernel
theorem dX0_beginOf_85 : decode cX0_beginOf 85 = .ok (.iload 5, 2) := by decide +kernel
theorem dX0_beginOf_87 : decode cX0_beginOf 87 = .ok (.invokestatic 73, 3) := by decide +kernel
theorem dX0_beginOf_90 : decode cX0_beginOf 90 = .ok (.ifCond .eq 30, 3) := by decide +kernel
theorem dX0_beginOf_93 : decode cX0_beginOf 93 = .ok (.aload_n 0, 1) := by decide +kernel
theorem dX0_beginOf_94 : decode cX0_beginOf 94 = .ok (.getfield 18, 3) := by decide +kernel
theorem dX0_beginOf_97 : decode cX0_beginOf 97 = .ok (.iload 5, 2) := by decide +kernel
theorem dX0_beginOf_99 : decode cX0_beginOf 99 = .ok (.iaload, 1) := by decide +kernel
theorem dX0_beginOf_100 : decode cX0_beginOf 100 = .ok (.iconst (-1), 1) := by decide +kernel
theorem dX0_beginOf_101 : decode cX0_beginOf 101 = .ok (.if_icmp .ne 5, 3) := by decide +kernel
theorem dX0_beginOf_104 : decode cX0_beginOf 104 = .ok (.iconst (-1), 1) := by decide +kernel
theorem dX0_beginOf_105 : decode cX0_beginOf 105 = .ok (.ireturn, 1) := by decide +kernel
theorem dX0_beginOf_106 : decode cX0_beginOf 106 = .ok (.iload_n 3, 1) := by decide +kernel
theorem dX0_beginOf_107 : decode cX0_beginOf 107 = .ok (.aload_n 0, 1) := by decide +kernel
theorem dX0_beginOf_108 : decode cX0_beginOf 108 = .ok (.getfield 18, 3) := by decide +kernel
theorem dX0_beginOf_111 : decode cX0_beginOf 111 = .ok (.iload 5, 2) := by decide +kernel
theorem dX0_beginOf_113 : decode cX0_beginOf 113 = .ok (.iaload, 1) := by decide +kernel
theorem dX0_beginOf_114 : decode cX0_beginOf 114 = .ok (.iconst 1, 1) := by decide +kernel
theorem dX0_beginOf_115 : decode cX0_beginOf 115 = .ok (.iadd, 1) := by decide +kernel
theorem dX0_beginOf_116 : decode cX0_beginOf 116 = .ok (.invokestatic 84, 3) := by decide +kernel
theorem dX0_beginOf_119 : decode cX0_beginOf 119 = .ok (.istore_n 3, 1) := by decide +kernel
theorem dX0_beginOf_120 : decode cX0_beginOf 120 = .ok (.iinc 5 1, 3) := by decide +kernel
theorem dX0_beginOf_123 : decode cX0_beginOf 123 = .ok (.goto (-46), 3) := by decide +kernel
theorem dX0_beginOf_126 : decode cX0_beginOf 126 = .ok (.aload_n 0, 1) := by decide +kernel
theorem dX0_beginOf_127 : decode cX0_beginOf 127 = .ok (.getfield 21, 3) := by decide +kernel
theorem dX0_beginOf_130 : decode cX0_beginOf 130 = .ok (.getfield 93, 3) := by decide +kernel
theorem dX0_beginOf_133 : decode cX0_beginOf 133 = .ok (.iload_n 2, 1) := by decide +kernel
theorem dX0_beginOf_134 : decode cX0_beginOf 134 = .ok (.iaload, 1) := by decide +kernel
theorem dX0_beginOf_135 : decode cX0_beginOf 135 = .ok (.iconst 2, 1) := by decide +kernel
theorem dX0_beginOf_136 : decode cX0_beginOf 136 = .ok (.if_icmp .ne 21, 3) := by decide +kernel
theorem dX0_beginOf_139 : decode cX0_beginOf 139 = .ok (.iload_n 3, 1) := by decide +kernel
theorem dX0_beginOf_140 : decode cX0_beginOf 140 = .ok (.aload_n 0, 1) := by decide +kernel
theorem dX0_beginOf_141 : decode cX0_beginOf 141 = .ok (.getfield 29, 3) := by decide +kernel
theorem dX0_beginOf_144 : decode cX0_beginOf 144 = .ok (.aload_n 1, 1) := by decide +kernel
theorem dX0_beginOf_145 : decode cX0_beginOf 145 = .ok (.getfield 96, 3) := by decide +kernel
theorem dX0_beginOf_148 : decode cX0_beginOf 148 = .ok (.iload_n 2, 1) := by decide +kernel
theorem dX0_beginOf_149 : decode cX0_beginOf 149 = .ok (.iaload, 1) := by decide +kernel
theorem dX0_beginOf_150 : decode cX0_beginOf 150 = .ok (.invokevirtual 99, 3) := by decide +kernel
theorem dX0_beginOf_153 : decode cX0_beginOf 153 = .ok (.invokestatic 84, 3) := by decide +kernel
theorem dX0_beginOf_156 : decode cX0_beginOf 156 = .ok (.ireturn, 1) := by decide +kernel
theorem dX0_beginOf_157 : decode cX0_beginOf 157 = .ok (.aload_n 0, 1) := by decide +kernel
theorem dX0_beginOf_158 : decode cX0_beginOf 158 = .ok (.getfield 21, 3) := by decide +kernel
theorem dX0_beginOf_161 : decode cX0_beginOf 161 = .ok (.getfield 93, 3) := by decide +kernel
theorem dX0_beginOf_164 : decode cX0_beginOf 164 = .ok (.iload_n 2, 1) := by decide +kernel
theorem dX0_beginOf_165 : decode cX0_beginOf 165 = .ok (.iaload, 1) := by decide +kernel
theorem dX0_beginOf_166 : decode cX0_beginOf 166 = .ok (.iconst 1, 1) := by decide +kernel
theorem dX0_beginOf_167 : decode cX0_beginOf 167 = .ok (.if_icmp .ne 20, 3) := by decide +kernel
theorem dX0_beginOf_170 : decode cX0_beginOf 170 = .ok (.aload_n 0, 1) := by decide +kernel
theorem dX0_beginOf_171 : decode cX0_beginOf 171 = .ok (.iload_n 3, 1) := by decide +kernel
theorem dX0_beginOf_172 : decode cX0_beginOf 172 = .ok (.aload_n 0, 1) := by decide +kernel
theorem dX0_beginOf_173 : decode cX0_beginOf 173 = .ok (.getfield 21, 3) := by decide +kernel
theorem dX0_beginOf_176 : decode cX0_beginOf 176 = .ok (.getfield 105, 3) := by decide +kernel
theorem dX0_beginOf_179 : decode cX0_beginOf 179 = .ok (.iload_n 2, 1) := by decide +kernel
theorem dX0_beginOf_180 : decode cX0_beginOf 180 = .ok (.iaload, 1) := by decide +kernel
theorem dX0_beginOf_181 : decode cX0_beginOf 181 = .ok (.invokevirtual 108, 3) := by decide +kernel
theorem dX0_beginOf_184 : decode cX0_beginOf 184 = .ok (.goto 4, 3) := by decide +kernel
theorem dX0_beginOf_187 : decode cX0_beginOf 187 = .ok (.iload_n 3, 1) := by decide +kernel
theorem dX0_beginOf_188 : decode cX0_beginOf 188 = .ok (.ireturn, 1) := by decide +kernel
theorem dX0_withSupply_0 : decode cX0_withSupply 0 = .ok (.iload_n 2, 1) := by decide +kernel
theorem dX0_withSupply_1 : decode cX0_withSupply 1 = .ok (.ifCond .lt 18, 3) := by decide +kernel
theorem dX0_withSupply_4 : decode cX0_withSupply 4 = .ok (.iload_n 2, 1) := by decide +kernel
theorem dX0_withSupply_5 : decode cX0_withSupply 5 = .ok (.iconst 4, 1) := by decide +kernel
theorem dX0_withSupply_6 : decode cX0_withSupply 6 = .ok (.if_icmp .ge 13, 3) := by decide +kernel
theorem dX0_withSupply_9 : decode cX0_withSupply 9 = .ok (.aload_n 0, 1) := by decide +kernel
theorem dX0_withSupply_10 : decode cX0_withSupply 10 = .ok (.getfield 9, 3) := by decide +kernel
theorem dX0_withSupply_13 : decode cX0_withSupply 13 = .ok (.iload_n 2, 1) := by decide +kernel
theorem dX0_withSupply_14 : decode cX0_withSupply 14 = .ok (.iaload, 1) := by decide +kernel
theorem dX0_withSupply_15 : decode cX0_withSupply 15 = .ok (.iconst (-1), 1) := by decide +kernel
theorem dX0_withSupply_16 : decode cX0_withSupply 16 = .ok (.if_icmp .ne 5, 3) := by decide +kernel
theorem dX0_withSupply_19 : decode cX0_withSupply 19 = .ok (.iconst (-1), 1) := by decide +kernel
theorem dX0_withSupply_20 : decode cX0_withSupply 20 = .ok (.ireturn, 1) := by decide +kernel
theorem dX0_withSupply_21 : decode cX0_withSupply 21 = .ok (.iload_n 1, 1) := by decide +kernel
theorem dX0_withSupply_22 : decode cX0_withSupply 22 = .ok (.aload_n 0, 1) := by decide +kernel
theorem dX0_withSupply_23 : decode cX0_withSupply 23 = .ok (.getfield 9, 3) := by decide +kernel
theorem dX0_withSupply_26 : decode cX0_withSupply 26 = .ok (.iload_n 2, 1) := by decide +kernel
theorem dX0_withSupply_27 : decode cX0_withSupply 27 = .ok (.iaload, 1) := by decide +kernel
theorem dX0_withSupply_28 : decode cX0_withSupply 28 = .ok (.invokestatic 84, 3) := by decide +kernel
theorem dX0_withSupply_31 : decode cX0_withSupply 31 = .ok (.ireturn, 1) := by decide +kernel
theorem dX0_dayBehind_0 : decode cX0_dayBehind 0 = .ok (.aload_n 0, 1) := by decide +kernel
theorem dX0_dayBehind_1 : decode cX0_dayBehind 1 = .ok (.iload_n 1, 1) := by decide +kernel
theorem dX0_dayBehind_2 : decode cX0_dayBehind 2 = .ok (.invokevirtual 111, 3) := by decide +kernel
theorem dX0_dayBehind_5 : decode cX0_dayBehind 5 = .ok (.istore_n 2, 1) := by decide +kernel
theorem dX0_dayBehind_6 : decode cX0_dayBehind 6 = .ok (.iload_n 2, 1) := by decide +kernel
theorem dX0_dayBehind_7 : decode cX0_dayBehind 7 = .ok (.iconst (-1), 1) := by decide +kernel
theorem dX0_dayBehind_8 : decode cX0_dayBehind 8 = .ok (.if_icmp .ne 7, 3) := by decide +kernel
theorem dX0_dayBehind_11 : decode cX0_dayBehind 11 = .ok (.iconst (-1), 1) := by decide +kernel
theorem dX0_dayBehind_12 : decode cX0_dayBehind 12 = .ok (.goto 6, 3) := by decide +kernel
theorem dX0_dayBehind_15 : decode cX0_dayBehind 15 = .ok (.iload_n 2, 1) := by decide +kernel
theorem dX0_dayBehind_16 : decode cX0_dayBehind 16 = .ok (.iconst 1, 1) := by decide +kernel
theorem dX0_dayBehind_17 : decode cX0_dayBehind 17 = .ok (.iadd, 1) := by decide +kernel
theorem dX0_dayBehind_18 : decode cX0_dayBehind 18 = .ok (.ireturn, 1) := by decide +kernel
theorem dX0_greatestEnd_0 : decode cX0_greatestEnd 0 = .ok (.iconst (-1), 1) := by decide +kernel
theorem dX0_greatestEnd_1 : decode cX0_greatestEnd 1 = .ok (.istore_n 2, 1) := by decide +kernel
theorem dX0_greatestEnd_2 : decode cX0_greatestEnd 2 = .ok (.iconst 0, 1) := by decide +kernel
theorem dX0_greatestEnd_3 : decode cX0_greatestEnd 3 = .ok (.istore_n 3, 1) := by decide +kernel
theorem dX0_greatestEnd_4 : decode cX0_greatestEnd 4 = .ok (.iload_n 3, 1) := by decide +kernel
theorem dX0_greatestEnd_5 : decode cX0_greatestEnd 5 = .ok (.bipush 12, 2) := by decide +kernel
theorem dX0_greatestEnd_7 : decode cX0_greatestEnd 7 = .ok (.if_icmp .ge 40, 3) := by decide +kernel
theorem dX0_greatestEnd_10 : decode cX0_greatestEnd 10 = .ok (.iload_n 1, 1) := by decide +kernel
theorem dX0_greatestEnd_11 : decode cX0_greatestEnd 11 = .ok (.iload_n 3, 1) := by decide +kernel
theorem dX0_greatestEnd_12 : decode cX0_greatestEnd 12 = .ok (.invokestatic 73, 3) := by decide +kernel
theorem dX0_greatestEnd_15 : decode cX0_greatestEnd 15 = .ok (.ifCond .eq 26, 3) := by decide +kernel
theorem dX0_greatestEnd_18 : decode cX0_greatestEnd 18 = .ok (.aload_n 0, 1) := by decide +kernel
theorem dX0_greatestEnd_19 : decode cX0_greatestEnd 19 = .ok (.getfield 18, 3) := by decide +kernel
theorem dX0_greatestEnd_22 : decode cX0_greatestEnd 22 = .ok (.iload_n 3, 1) := by decide +kernel
theorem dX0_greatestEnd_23 : decode cX0_greatestEnd 23 = .ok (.iaload, 1) := by decide +kernel
theorem dX0_greatestEnd_24 : decode cX0_greatestEnd 24 = .ok (.iconst (-1), 1) := by decide +kernel
theorem dX0_greatestEnd_25 : decode cX0_greatestEnd 25 = .ok (.if_icmp .ne 5, 3) := by decide +kernel
theorem dX0_greatestEnd_28 : decode cX0_greatestEnd 28 = .ok (.iconst (-1), 1) := by decide +kernel
theorem dX0_greatestEnd_29 : decode cX0_greatestEnd 29 = .ok (.ireturn, 1) := by decide +kernel
theorem dX0_greatestEnd_30 : decode cX0_greatestEnd 30 = .ok (.iload_n 2, 1) := by decide +kernel
theorem dX0_greatestEnd_31 : decode cX0_greatestEnd 31 = .ok (.aload_n 0, 1) := by decide +kernel
theorem dX0_greatestEnd_32 : decode cX0_greatestEnd 32 = .ok (.getfield 18, 3) := by decide +kernel
theorem dX0_greatestEnd_35 : decode cX0_greatestEnd 35 = .ok (.iload_n 3, 1) := by decide +kernel
theorem dX0_greatestEnd_36 : decode cX0_greatestEnd 36 = .ok (.iaload, 1) := by decide +kernel
theorem dX0_greatestEnd_37 : decode cX0_greatestEnd 37 = .ok (.invokestatic 84, 3) := by decide +kernel
theorem dX0_greatestEnd_40 : decode cX0_greatestEnd 40 = .ok (.istore_n 2, 1) := by decide +kernel
theorem dX0_greatestEnd_41 : decode cX0_greatestEnd 41 = .ok (.iinc 3 1, 3) := by decide +kernel
theorem dX0_greatestEnd_44 : decode cX0_greatestEnd 44 = .ok (.goto (-40), 3) := by decide +kernel
theorem dX0_greatestEnd_47 : decode cX0_greatestEnd 47 = .ok (.iload_n 2, 1) := by decide +kernel
theorem dX0_greatestEnd_48 : decode cX0_greatestEnd 48 = .ok (.ireturn, 1) := by decide +kernel
theorem dX1_init_0 : decode cX1_init 0 = .ok (.aload_n 0, 1) := by decide +kernel
theorem dX1_init_1 : decode cX1_init 1 = .ok (.invokespecial 3, 3) := by decide +kernel
theorem dX1_init_4 : decode cX1_init 4 = .ok (.aload_n 0, 1) := by decide +kernel
theorem dX1_init_5 : decode cX1_init 5 = .ok (.bipush 12, 2) := by decide +kernel
theorem dX1_init_7 : decode cX1_init 7 = .ok (.newarray .int, 2) := by decide +kernel
theorem dX1_init_9 : decode cX1_init 9 = .ok (.putfield 9, 3) := by decide +kernel
theorem dX1_init_12 : decode cX1_init 12 = .ok (.aload_n 0, 1) := by decide +kernel
theorem dX1_init_13 : decode cX1_init 13 = .ok (.bipush 12, 2) := by decide +kernel
theorem dX1_init_15 : decode cX1_init 15 = .ok (.newarray .int, 2) := by decide +kernel
theorem dX1_init_17 : decode cX1_init 17 = .ok (.putfield 15, 3) := by decide +kernel
theorem dX1_init_20 : decode cX1_init 20 = .ok (.aload_n 0, 1) := by decide +kernel
theorem dX1_init_21 : decode cX1_init 21 = .ok (.bipush 12, 2) := by decide +kernel
theorem dX1_init_23 : decode cX1_init 23 = .ok (.newarray .int, 2) := by decide +kernel
theorem dX1_init_25 : decode cX1_init 25 = .ok (.putfield 18, 3) := by decide +kernel
theorem dX1_init_28 : decode cX1_init 28 = .ok (.aload_n 0, 1) := by decide +kernel
theorem dX1_init_29 : decode cX1_init 29 = .ok (.bipush 12, 2) := by decide +kernel
theorem dX1_init_31 : decode cX1_init 31 = .ok (.newarray .int, 2) := by decide +kernel
theorem dX1_init_33 : decode cX1_init 33 = .ok (.putfield 21, 3) := by decide +kernel
theorem dX1_init_36 : decode cX1_init 36 = .ok (.aload_n 0, 1) := by decide +kernel
theorem dX1_init_37 : decode cX1_init 37 = .ok (.bipush 12, 2) := by decide +kernel
theorem dX1_init_39 : decode cX1_init 39 = .ok (.newarray .int, 2) := by decide +kernel
theorem dX1_init_41 : decode cX1_init 41 = .ok (.putfield 24, 3) := by decide +kernel
theorem dX1_init_44 : decode cX1_init 44 = .ok (.iconst 0, 1) := by decide +kernel
theorem dX1_init_45 : decode cX1_init 45 = .ok (.istore_n 1, 1) := by decide +kernel
theorem dX1_init_46 : decode cX1_init 46 = .ok (.iload_n 1, 1) := by decide +kernel
theorem dX1_init_47 : decode cX1_init 47 = .ok (.bipush 12, 2) := by decide +kernel
theorem dX1_init_49 : decode cX1_init 49 = .ok (.if_icmp .ge 16, 3) := by decide +kernel
theorem dX1_init_52 : decode cX1_init 52 = .ok (.aload_n 0, 1) := by decide +kernel
theorem dX1_init_53 : decode cX1_init 53 = .ok (.getfield 21, 3) := by decide +kernel
theorem dX1_init_56 : decode cX1_init 56 = .ok (.iload_n 1, 1) := by decide +kernel
theorem dX1_init_57 : decode cX1_init 57 = .ok (.iconst (-1), 1) := by decide +kernel
theorem dX1_init_58 : decode cX1_init 58 = .ok (.iastore, 1) := by decide +kernel
theorem dX1_init_59 : decode cX1_init 59 = .ok (.iinc 1 1, 3) := by decide +kernel
theorem dX1_init_62 : decode cX1_init 62 = .ok (.goto (-16), 3) := by decide +kernel
theorem dX1_init_65 : decode cX1_init 65 = .ok (.return_, 1) := by decide +kernel
theorem dX1_isIn_0 : decode cX1_isIn 0 = .ok (.iload_n 1, 1) := by decide +kernel
theorem dX1_isIn_1 : decode cX1_isIn 1 = .ok (.ifCond .lt 34, 3) := by decide +kernel
theorem dX1_isIn_4 : decode cX1_isIn 4 = .ok (.iload_n 1, 1) := by decide +kernel
theorem dX1_isIn_5 : decode cX1_isIn 5 = .ok (.bipush 12, 2) := by decide +kernel
theorem dX1_isIn_7 : decode cX1_isIn 7 = .ok (.if_icmp .ge 28, 3) := by decide +kernel
theorem dX1_isIn_10 : decode cX1_isIn 10 = .ok (.aload_n 0, 1) := by decide +kernel
theorem dX1_isIn_11 : decode cX1_isIn 11 = .ok (.getfield 27, 3) := by decide +kernel
theorem dX1_isIn_14 : decode cX1_isIn 14 = .ok (.iload_n 1, 1) := by decide +kernel
theorem dX1_isIn_15 : decode cX1_isIn 15 = .ok (.invokestatic 31, 3) := by decide +kernel
theorem dX1_isIn_18 : decode cX1_isIn 18 = .ok (.ifCond .eq 17, 3) := by decide +kernel
theorem dX1_isIn_21 : decode cX1_isIn 21 = .ok (.aload_n 0, 1) := by decide +kernel
theorem dX1_isIn_22 : decode cX1_isIn 22 = .ok (.getfield 9, 3) := by decide +kernel
theorem dX1_isIn_25 : decode cX1_isIn 25 = .ok (.iload_n 1, 1) := by decide +kernel
theorem dX1_isIn_26 : decode cX1_isIn 26 = .ok (.iaload, 1) := by decide +kernel
theorem dX1_isIn_27 : decode cX1_isIn 27 = .ok (.iload_n 2, 1) := by decide +kernel
theorem dX1_isIn_28 : decode cX1_isIn 28 = .ok (.if_icmp .ne 7, 3) := by decide +kernel
theorem dX1_isIn_31 : decode cX1_isIn 31 = .ok (.iconst 1, 1) := by decide +kernel
theorem dX1_isIn_32 : decode cX1_isIn 32 = .ok (.goto 4, 3) := by decide +kernel
theorem dX1_isIn_35 : decode cX1_isIn 35 = .ok (.iconst 0, 1) := by decide +kernel
theorem dX1_isIn_36 : decode cX1_isIn 36 = .ok (.ireturn, 1) := by decide +kernel
theorem dX1_stepsIn_0 : decode cX1_stepsIn 0 = .ok (.iconst 0, 1) := by decide +kernel
theorem dX1_stepsIn_1 : decode cX1_stepsIn 1 = .ok (.istore_n 2, 1) := by decide +kernel
theorem dX1_stepsIn_2 : decode cX1_stepsIn 2 = .ok (.iconst 0, 1) := by decide +kernel
theorem dX1_stepsIn_3 : decode cX1_stepsIn 3 = .ok (.istore_n 3, 1) := by decide +kernel
theorem dX1_stepsIn_4 : decode cX1_stepsIn 4 = .ok (.iload_n 3, 1) := by decide +kernel
theorem dX1_stepsIn_5 : decode cX1_stepsIn 5 = .ok (.bipush 12, 2) := by decide +kernel
theorem dX1_stepsIn_7 : decode cX1_stepsIn 7 = .ok (.if_icmp .ge 25, 3) := by decide +kernel
theorem dX1_stepsIn_10 : decode cX1_stepsIn 10 = .ok (.aload_n 0, 1) := by decide +kernel
theorem dX1_stepsIn_11 : decode cX1_stepsIn 11 = .ok (.getfield 9, 3) := by decide +kernel
theorem dX1_stepsIn_14 : decode cX1_stepsIn 14 = .ok (.iload_n 3, 1) := by decide +kernel
theorem dX1_stepsIn_15 : decode cX1_stepsIn 15 = .ok (.iaload, 1) := by decide +kernel
theorem dX1_stepsIn_16 : decode cX1_stepsIn 16 = .ok (.iload_n 1, 1) := by decide +kernel
theorem dX1_stepsIn_17 : decode cX1_stepsIn 17 = .ok (.if_icmp .ne 9, 3) := by decide +kernel
theorem dX1_stepsIn_20 : decode cX1_stepsIn 20 = .ok (.iload_n 2, 1) := by decide +kernel
theorem dX1_stepsIn_21 : decode cX1_stepsIn 21 = .ok (.iconst 1, 1) := by decide +kernel
theorem dX1_stepsIn_22 : decode cX1_stepsIn 22 = .ok (.iload_n 3, 1) := by decide +kernel
theorem dX1_stepsIn_23 : decode cX1_stepsIn 23 = .ok (.ishl, 1) := by decide +kernel
theorem dX1_stepsIn_24 : decode cX1_stepsIn 24 = .ok (.ior, 1) := by decide +kernel
theorem dX1_stepsIn_25 : decode cX1_stepsIn 25 = .ok (.istore_n 2, 1) := by decide +kernel
theorem dX1_stepsIn_26 : decode cX1_stepsIn 26 = .ok (.iinc 3 1, 3) := by decide +kernel
theorem dX1_stepsIn_29 : decode cX1_stepsIn 29 = .ok (.goto (-25), 3) := by decide +kernel
theorem dX1_stepsIn_32 : decode cX1_stepsIn 32 = .ok (.iload_n 2, 1) := by decide +kernel
theorem dX1_stepsIn_33 : decode cX1_stepsIn 33 = .ok (.aload_n 0, 1) := by decide +kernel
theorem dX1_stepsIn_34 : decode cX1_stepsIn 34 = .ok (.getfield 27, 3) := by decide +kernel
theorem dX1_stepsIn_37 : decode cX1_stepsIn 37 = .ok (.iand, 1) := by decide +kernel
theorem dX1_stepsIn_38 : decode cX1_stepsIn 38 = .ok (.ireturn, 1) := by decide +kernel
theorem dX1_countIn_0 : decode cX1_countIn 0 = .ok (.aload_n 0, 1) := by decide +kernel
theorem dX1_countIn_1 : decode cX1_countIn 1 = .ok (.iload_n 1, 1) := by decide +kernel
theorem dX1_countIn_2 : decode cX1_countIn 2 = .ok (.invokevirtual 35, 3) := by decide +kernel
theorem dX1_countIn_5 : decode cX1_countIn 5 = .ok (.invokestatic 39, 3) := by decide +kernel
theorem dX1_countIn_8 : decode cX1_countIn 8 = .ok (.ireturn, 1) := by decide +kernel
theorem dX1_finishSteps_0 : decode cX1_finishSteps 0 = .ok (.aload_n 0, 1) := by decide +kernel
theorem dX1_finishSteps_1 : decode cX1_finishSteps 1 = .ok (.getfield 44, 3) := by decide +kernel
theorem dX1_finishSteps_4 : decode cX1_finishSteps 4 = .ok (.ifCond .eq 5, 3) := by decide +kernel
theorem dX1_finishSteps_7 : decode cX1_finishSteps 7 = .ok (.iconst 0, 1) := by decide +kernel
theorem dX1_finishSteps_8 : decode cX1_finishSteps 8 = .ok (.ireturn, 1) := by decide +kernel
theorem dX1_finishSteps_9 : decode cX1_finishSteps 9 = .ok (.iconst 0, 1) := by decide +kernel
theorem dX1_finishSteps_10 : decode cX1_finishSteps 10 = .ok (.istore_n 2, 1) := by decide +kernel
theorem dX1_finishSteps_11 : decode cX1_finishSteps 11 = .ok (.iconst 0, 1) := by decide +kernel
theorem dX1_finishSteps_12 : decode cX1_finishSteps 12 = .ok (.istore_n 3, 1) := by decide +kernel
theorem dX1_finishSteps_13 : decode cX1_finishSteps 13 = .ok (.iload_n 3, 1) := by decide +kernel
theorem dX1_finishSteps_14 : decode cX1_finishSteps 14 = .ok (.bipush 12, 2) := by decide +kernel
theorem dX1_finishSteps_16 : decode cX1_finishSteps 16 = .ok (.if_icmp .ge 46, 3) := by decide +kernel
theorem dX1_finishSteps_19 : decode cX1_finishSteps 19 = .ok (.aload_n 0, 1) := by decide +kernel
theorem dX1_finishSteps_20 : decode cX1_finishSteps 20 = .ok (.getfield 9, 3) := by decide +kernel
theorem dX1_finishSteps_23 : decode cX1_finishSteps 23 = .ok (.iload_n 3, 1) := by decide +kernel
theorem dX1_finishSteps_24 : decode cX1_finishSteps 24 = .ok (.iaload, 1) := by decide +kernel
theorem dX1_finishSteps_25 : decode cX1_finishSteps 25 = .ok (.iconst 1, 1) := by decide +kernel
theorem dX1_finishSteps_26 : decode cX1_finishSteps 26 = .ok (.if_icmp .ne 30, 3) := by decide +kernel
theorem dX1_finishSteps_29 : decode cX1_finishSteps 29 = .ok (.aload_n 0, 1) := by decide +kernel
theorem dX1_finishSteps_30 : decode cX1_finishSteps 30 = .ok (.getfield 15, 3) := by decide +kernel
theorem dX1_finishSteps_33 : decode cX1_finishSteps 33 = .ok (.iload_n 3, 1) := by decide +kernel
theorem dX1_finishSteps_34 : decode cX1_finishSteps 34 = .ok (.iaload, 1) := by decide +kernel
theorem dX1_finishSteps_35 : decode cX1_finishSteps 35 = .ok (.aload_n 0, 1) := by decide +kernel
theorem dX1_finishSteps_36 : decode cX1_finishSteps 36 = .ok (.getfield 18, 3) := by decide +kernel
theorem dX1_finishSteps_39 : decode cX1_finishSteps 39 = .ok (.iload_n 3, 1) := by decide +kernel
theorem dX1_finishSteps_40 : decode cX1_finishSteps 40 = .ok (.iaload, 1) := by decide +kernel
theorem dX1_finishSteps_41 : decode cX1_finishSteps 41 = .ok (.iadd, 1) := by decide +kernel
theorem dX1_finishSteps_42 : decode cX1_finishSteps 42 = .ok (.iload_n 1, 1) := by decide +kernel
theorem dX1_finishSteps_43 : decode cX1_finishSteps 43 = .ok (.if_icmp .gt 13, 3) := by decide +kernel
theorem dX1_finishSteps_46 : decode cX1_finishSteps 46 = .ok (.aload_n 0, 1) := by decide +kernel
theorem dX1_finishSteps_47 : decode cX1_finishSteps 47 = .ok (.getfield 9, 3) := by decide +kernel
theorem dX1_finishSteps_50 : decode cX1_finishSteps 50 = .ok (.iload_n 3, 1) := by decide +kernel
theorem dX1_finishSteps_51 : decode cX1_finishSteps 51 = .ok (.iconst 2, 1) := by decide +kernel
theorem dX1_finishSteps_52 : decode cX1_finishSteps 52 = .ok (.iastore, 1) := by decide +kernel
theorem dX1_finishSteps_53 : decode cX1_finishSteps 53 = .ok (.iinc 2 1, 3) := by decide +kernel
theorem dX1_finishSteps_56 : decode cX1_finishSteps 56 = .ok (.iinc 3 1, 3) := by decide +kernel
theorem dX1_finishSteps_59 : decode cX1_finishSteps 59 = .ok (.goto (-46), 3) := by decide +kernel
theorem dX1_finishSteps_62 : decode cX1_finishSteps 62 = .ok (.iload_n 2, 1) := by decide +kernel
theorem dX1_finishSteps_63 : decode cX1_finishSteps 63 = .ok (.ireturn, 1) := by decide +kernel
theorem dX1_lastBegun_0 : decode cX1_lastBegun 0 = .ok (.iconst (-1), 1) := by decide +kernel
theorem dX1_lastBegun_1 : decode cX1_lastBegun 1 = .ok (.istore_n 1, 1) := by decide +kernel
theorem dX1_lastBegun_2 : decode cX1_lastBegun 2 = .ok (.iconst (-1), 1) := by decide +kernel
theorem dX1_lastBegun_3 : decode cX1_lastBegun 3 = .ok (.istore_n 2, 1) := by decide +kernel
theorem dX1_lastBegun_4 : decode cX1_lastBegun 4 = .ok (.iconst 0, 1) := by decide +kernel
theorem dX1_lastBegun_5 : decode cX1_lastBegun 5 = .ok (.istore_n 3, 1) := by decide +kernel
theorem dX1_lastBegun_6 : decode cX1_lastBegun 6 = .ok (.iload_n 3, 1) := by decide +kernel
theorem dX1_lastBegun_7 : decode cX1_lastBegun 7 = .ok (.bipush 12, 2) := by decide +kernel
theorem dX1_lastBegun_9 : decode cX1_lastBegun 9 = .ok (.if_icmp .ge 60, 3) := by decide +kernel
theorem dX1_lastBegun_12 : decode cX1_lastBegun 12 = .ok (.aload_n 0, 1) := by decide +kernel
theorem dX1_lastBegun_13 : decode cX1_lastBegun 13 = .ok (.getfield 9, 3) := by decide +kernel
theorem dX1_lastBegun_16 : decode cX1_lastBegun 16 = .ok (.iload_n 3, 1) := by decide +kernel
theorem dX1_lastBegun_17 : decode cX1_lastBegun 17 = .ok (.iaload, 1) := by decide +kernel
theorem dX1_lastBegun_18 : decode cX1_lastBegun 18 = .ok (.iconst 1, 1) := by decide +kernel
theorem dX1_lastBegun_19 : decode cX1_lastBegun 19 = .ok (.if_icmp .eq 13, 3) := by decide +kernel
theorem dX1_lastBegun_22 : decode cX1_lastBegun 22 = .ok (.aload_n 0, 1) := by decide +kernel
theorem dX1_lastBegun_23 : decode cX1_lastBegun 23 = .ok (.getfield 9, 3) := by decide +kernel
theorem dX1_lastBegun_26 : decode cX1_lastBegun 26 = .ok (.iload_n 3, 1) := by decide +kernel
theorem dX1_lastBegun_27 : decode cX1_lastBegun 27 = .ok (.iaload, 1) := by decide +kernel
theorem dX1_lastBegun_28 : decode cX1_lastBegun 28 = .ok (.iconst 2, 1) := by decide +kernel
theorem dX1_lastBegun_29 : decode cX1_lastBegun 29 = .ok (.if_icmp .ne 7, 3) := by decide +kernel
theorem dX1_lastBegun_32 : decode cX1_lastBegun 32 = .ok (.iconst 1, 1) := by decide +kernel
theorem dX1_lastBegun_33 : decode cX1_lastBegun 33 = .ok (.goto 4, 3) := by decide +kernel
theorem dX1_lastBegun_36 : decode cX1_lastBegun 36 = .ok (.iconst 0, 1) := by decide +kernel
theorem dX1_lastBegun_37 : decode cX1_lastBegun 37 = .ok (.istore 4, 2) := by decide +kernel
theorem dX1_lastBegun_39 : decode cX1_lastBegun 39 = .ok (.iload 4, 2) := by decide +kernel
theorem dX1_lastBegun_41 : decode cX1_lastBegun 41 = .ok (.ifCond .eq 22, 3) := by decide +kernel
theorem dX1_lastBegun_44 : decode cX1_lastBegun 44 = .ok (.aload_n 0, 1) := by decide +kernel
theorem dX1_lastBegun_45 : decode cX1_lastBegun 45 = .ok (.getfield 15, 3) := by decide +kernel
theorem dX1_lastBegun_48 : decode cX1_lastBegun 48 = .ok (.iload_n 3, 1) := by decide +kernel
theorem dX1_lastBegun_49 : decode cX1_lastBegun 49 = .ok (.iaload, 1) := by decide +kernel
theorem dX1_lastBegun_50 : decode cX1_lastBegun 50 = .ok (.iload_n 2, 1) := by decide +kernel
theorem dX1_lastBegun_51 : decode cX1_lastBegun 51 = .ok (.if_icmp .lt 12, 3) := by decide +kernel
theorem dX1_lastBegun_54 : decode cX1_lastBegun 54 = .ok (.iload_n 3, 1) := by decide +kernel
theorem dX1_lastBegun_55 : decode cX1_lastBegun 55 = .ok (.istore_n 1, 1) := by decide +kernel
theorem dX1_lastBegun_56 : decode cX1_lastBegun 56 = .ok (.aload_n 0, 1) := by decide +kernel
theorem dX1_lastBegun_57 : decode cX1_lastBegun 57 = .ok (.getfield 15, 3) := by decide +kernel
theorem dX1_lastBegun_60 : decode cX1_lastBegun 60 = .ok (.iload_n 3, 1) := by decide +kernel
theorem dX1_lastBegun_61 : decode cX1_lastBegun 61 = .ok (.iaload, 1) := by decide +kernel
theorem dX1_lastBegun_62 : decode cX1_lastBegun 62 = .ok (.istore_n 2, 1) := by decide +kernel
theorem dX1_lastBegun_63 : decode cX1_lastBegun 63 = .ok (.iinc 3 1, 3) := by decide +kernel
theorem dX1_lastBegun_66 : decode cX1_lastBegun 66 = .ok (.goto (-60), 3) := by decide +kernel
theorem dX1_lastBegun_69 : decode cX1_lastBegun 69 = .ok (.iload_n 1, 1) := by decide +kernel
theorem dX1_lastBegun_70 : decode cX1_lastBegun 70 = .ok (.ireturn, 1) := by decide +kernel
theorem dX2_init_0 : decode cX2_init 0 = .ok (.aload_n 0, 1) := by decide +kernel
theorem dX2_init_1 : decode cX2_init 1 = .ok (.invokespecial 3, 3) := by decide +kernel
theorem dX2_init_4 : decode cX2_init 4 = .ok (.aload_n 0, 1) := by decide +kernel
theorem dX2_init_5 : decode cX2_init 5 = .ok (.bipush 12, 2) := by decide +kernel
theorem dX2_init_7 : decode cX2_init 7 = .ok (.newarray .int, 2) := by decide +kernel
theorem dX2_init_9 : decode cX2_init 9 = .ok (.putfield 9, 3) := by decide +kernel
theorem dX2_init_12 : decode cX2_init 12 = .ok (.aload_n 0, 1) := by decide +kernel
theorem dX2_init_13 : decode cX2_init 13 = .ok (.bipush 12, 2) := by decide +kernel
theorem dX2_init_15 : decode cX2_init 15 = .ok (.newarray .int, 2) := by decide +kernel
theorem dX2_init_17 : decode cX2_init 17 = .ok (.putfield 15, 3) := by decide +kernel
theorem dX2_init_20 : decode cX2_init 20 = .ok (.aload_n 0, 1) := by decide +kernel
theorem dX2_init_21 : decode cX2_init 21 = .ok (.bipush 12, 2) := by decide +kernel
theorem dX2_init_23 : decode cX2_init 23 = .ok (.newarray .int, 2) := by decide +kernel
theorem dX2_init_25 : decode cX2_init 25 = .ok (.putfield 18, 3) := by decide +kernel
theorem dX2_init_28 : decode cX2_init 28 = .ok (.aload_n 0, 1) := by decide +kernel
theorem dX2_init_29 : decode cX2_init 29 = .ok (.bipush 12, 2) := by decide +kernel
theorem dX2_init_31 : decode cX2_init 31 = .ok (.newarray .int, 2) := by decide +kernel
theorem dX2_init_33 : decode cX2_init 33 = .ok (.putfield 21, 3) := by decide +kernel
theorem dX2_init_36 : decode cX2_init 36 = .ok (.aload_n 0, 1) := by decide +kernel
theorem dX2_init_37 : decode cX2_init 37 = .ok (.iconst 4, 1) := by decide +kernel
theorem dX2_init_38 : decode cX2_init 38 = .ok (.newarray .int, 2) := by decide +kernel
theorem dX2_init_40 : decode cX2_init 40 = .ok (.putfield 24, 3) := by decide +kernel
theorem dX2_init_43 : decode cX2_init 43 = .ok (.aload_n 0, 1) := by decide +kernel
theorem dX2_init_44 : decode cX2_init 44 = .ok (.bipush 6, 2) := by decide +kernel
theorem dX2_init_46 : decode cX2_init 46 = .ok (.newarray .int, 2) := by decide +kernel
theorem dX2_init_48 : decode cX2_init 48 = .ok (.putfield 27, 3) := by decide +kernel
theorem dX2_init_51 : decode cX2_init 51 = .ok (.return_, 1) := by decide +kernel
theorem dX2_knows_0 : decode cX2_knows 0 = .ok (.iload_n 1, 1) := by decide +kernel
theorem dX2_knows_1 : decode cX2_knows 1 = .ok (.ifCond .lt 16, 3) := by decide +kernel
theorem dX2_knows_4 : decode cX2_knows 4 = .ok (.iload_n 1, 1) := by decide +kernel
theorem dX2_knows_5 : decode cX2_knows 5 = .ok (.aload_n 0, 1) := by decide +kernel
theorem dX2_knows_6 : decode cX2_knows 6 = .ok (.getfield 30, 3) := by decide +kernel
theorem dX2_knows_9 : decode cX2_knows 9 = .ok (.ishr, 1) := by decide +kernel
theorem dX2_knows_10 : decode cX2_knows 10 = .ok (.ifCond .ne 7, 3) := by decide +kernel
theorem dX2_knows_13 : decode cX2_knows 13 = .ok (.iconst 1, 1) := by decide +kernel
theorem dX2_knows_14 : decode cX2_knows 14 = .ok (.goto 4, 3) := by decide +kernel
theorem dX2_knows_17 : decode cX2_knows 17 = .ok (.iconst 0, 1) := by decide +kernel
theorem dX2_knows_18 : decode cX2_knows 18 = .ok (.ireturn, 1) := by decide +kernel
theorem dX2_addStep_0 : decode cX2_addStep 0 = .ok (.aload_n 0, 1) := by decide +kernel
theorem dX2_addStep_1 : decode cX2_addStep 1 = .ok (.getfield 30, 3) := by decide +kernel
theorem dX2_addStep_4 : decode cX2_addStep 4 = .ok (.bipush 12, 2) := by decide +kernel
theorem dX2_addStep_6 : decode cX2_addStep 6 = .ok (.if_icmp .lt 5, 3) := by decide +kernel
theorem dX2_addStep_9 : decode cX2_addStep 9 = .ok (.iconst (-1), 1) := by decide +kernel
theorem dX2_addStep_10 : decode cX2_addStep 10 = .ok (.ireturn, 1) := by decide +kernel
theorem dX2_addStep_11 : decode cX2_addStep 11 = .ok (.aload_n 0, 1) := by decide +kernel
theorem dX2_addStep_12 : decode cX2_addStep 12 = .ok (.getfield 9, 3) := by decide +kernel
theorem dX2_addStep_15 : decode cX2_addStep 15 = .ok (.aload_n 0, 1) := by decide +kernel
theorem dX2_addStep_16 : decode cX2_addStep 16 = .ok (.getfield 30, 3) := by decide +kernel
theorem dX2_addStep_19 : decode cX2_addStep 19 = .ok (.iload_n 1, 1) := by decide +kernel
theorem dX2_addStep_20 : decode cX2_addStep 20 = .ok (.iastore, 1) := by decide +kernel
theorem dX2_addStep_21 : decode cX2_addStep 21 = .ok (.aload_n 0, 1) := by decide +kernel
theorem dX2_addStep_22 : decode cX2_addStep 22 = .ok (.getfield 15, 3) := by decide +kernel
theorem dX2_addStep_25 : decode cX2_addStep 25 = .ok (.aload_n 0, 1) := by decide +kernel
theorem dX2_addStep_26 : decode cX2_addStep 26 = .ok (.getfield 30, 3) := by decide +kernel
theorem dX2_addStep_29 : decode cX2_addStep 29 = .ok (.iload_n 2, 1) := by decide +kernel
theorem dX2_addStep_30 : decode cX2_addStep 30 = .ok (.iastore, 1) := by decide +kernel
theorem dX2_addStep_31 : decode cX2_addStep 31 = .ok (.aload_n 0, 1) := by decide +kernel
theorem dX2_addStep_32 : decode cX2_addStep 32 = .ok (.getfield 18, 3) := by decide +kernel
theorem dX2_addStep_35 : decode cX2_addStep 35 = .ok (.aload_n 0, 1) := by decide +kernel
theorem dX2_addStep_36 : decode cX2_addStep 36 = .ok (.getfield 30, 3) := by decide +kernel
theorem dX2_addStep_39 : decode cX2_addStep 39 = .ok (.iload_n 3, 1) := by decide +kernel
theorem dX2_addStep_40 : decode cX2_addStep 40 = .ok (.iastore, 1) := by decide +kernel
theorem dX2_addStep_41 : decode cX2_addStep 41 = .ok (.aload_n 0, 1) := by decide +kernel
theorem dX2_addStep_42 : decode cX2_addStep 42 = .ok (.getfield 21, 3) := by decide +kernel
theorem dX2_addStep_45 : decode cX2_addStep 45 = .ok (.aload_n 0, 1) := by decide +kernel
theorem dX2_addStep_46 : decode cX2_addStep 46 = .ok (.getfield 30, 3) := by decide +kernel
theorem dX2_addStep_49 : decode cX2_addStep 49 = .ok (.iload 4, 2) := by decide +kernel
theorem dX2_addStep_51 : decode cX2_addStep 51 = .ok (.iastore, 1) := by decide +kernel
theorem dX2_addStep_52 : decode cX2_addStep 52 = .ok (.aload_n 0, 1) := by decide +kernel
theorem dX2_addStep_53 : decode cX2_addStep 53 = .ok (.dup, 1) := by decide +kernel
theorem dX2_addStep_54 : decode cX2_addStep 54 = .ok (.getfield 30, 3) := by decide +kernel
theorem dX2_addStep_57 : decode cX2_addStep 57 = .ok (.iconst 1, 1) := by decide +kernel
theorem dX2_addStep_58 : decode cX2_addStep 58 = .ok (.iadd, 1) := by decide +kernel
theorem dX2_addStep_59 : decode cX2_addStep 59 = .ok (.putfield 30, 3) := by decide +kernel
theorem dX2_addStep_62 : decode cX2_addStep 62 = .ok (.aload_n 0, 1) := by decide +kernel
theorem dX2_addStep_63 : decode cX2_addStep 63 = .ok (.getfield 30, 3) := by decide +kernel
theorem dX2_addStep_66 : decode cX2_addStep 66 = .ok (.iconst 1, 1) := by decide +kernel
theorem dX2_addStep_67 : decode cX2_addStep 67 = .ok (.isub, 1) := by decide +kernel
theorem dX2_addStep_68 : decode cX2_addStep 68 = .ok (.ireturn, 1) := by decide +kernel
theorem dX2_addRight_0 : decode cX2_addRight 0 = .ok (.aload_n 0, 1) := by decide +kernel
theorem dX2_addRight_1 : decode cX2_addRight 1 = .ok (.getfield 34, 3) := by decide +kernel
theorem dX2_addRight_4 : decode cX2_addRight 4 = .ok (.bipush 6, 2) := by decide +kernel
theorem dX2_addRight_6 : decode cX2_addRight 6 = .ok (.if_icmp .lt 5, 3) := by decide +kernel
theorem dX2_addRight_9 : decode cX2_addRight 9 = .ok (.iconst (-1), 1) := by decide +kernel
theorem dX2_addRight_10 : decode cX2_addRight 10 = .ok (.ireturn, 1) := by decide +kernel
theorem dX2_addRight_11 : decode cX2_addRight 11 = .ok (.aload_n 0, 1) := by decide +kernel
theorem dX2_addRight_12 : decode cX2_addRight 12 = .ok (.getfield 27, 3) := by decide +kernel
theorem dX2_addRight_15 : decode cX2_addRight 15 = .ok (.aload_n 0, 1) := by decide +kernel
theorem dX2_addRight_16 : decode cX2_addRight 16 = .ok (.getfield 34, 3) := by decide +kernel
theorem dX2_addRight_19 : decode cX2_addRight 19 = .ok (.iload_n 1, 1) := by decide +kernel
theorem dX2_addRight_20 : decode cX2_addRight 20 = .ok (.iastore, 1) := by decide +kernel
theorem dX2_addRight_21 : decode cX2_addRight 21 = .ok (.aload_n 0, 1) := by decide +kernel
theorem dX2_addRight_22 : decode cX2_addRight 22 = .ok (.dup, 1) := by decide +kernel
theorem dX2_addRight_23 : decode cX2_addRight 23 = .ok (.getfield 34, 3) := by decide +kernel
theorem dX2_addRight_26 : decode cX2_addRight 26 = .ok (.iconst 1, 1) := by decide +kernel
theorem dX2_addRight_27 : decode cX2_addRight 27 = .ok (.iadd, 1) := by decide +kernel
theorem dX2_addRight_28 : decode cX2_addRight 28 = .ok (.putfield 34, 3) := by decide +kernel
theorem dX2_addRight_31 : decode cX2_addRight 31 = .ok (.aload_n 0, 1) := by decide +kernel
theorem dX2_addRight_32 : decode cX2_addRight 32 = .ok (.getfield 34, 3) := by decide +kernel
theorem dX2_addRight_35 : decode cX2_addRight 35 = .ok (.iconst 1, 1) := by decide +kernel
theorem dX2_addRight_36 : decode cX2_addRight 36 = .ok (.isub, 1) := by decide +kernel
theorem dX2_addRight_37 : decode cX2_addRight 37 = .ok (.ireturn, 1) := by decide +kernel
theorem dX2_needsAreDone_0 : decode cX2_needsAreDone 0 = .ok (.iload_n 2, 1) := by decide +kernel
theorem dX2_needsAreDone_1 : decode cX2_needsAreDone 1 = .ok (.ifCond .lt 9, 3) := by decide +kernel
theorem dX2_needsAreDone_4 : decode cX2_needsAreDone 4 = .ok (.iload_n 2, 1) := by decide +kernel
theorem dX2_needsAreDone_5 : decode cX2_needsAreDone 5 = .ok (.bipush 12, 2) := by decide +kernel
theorem dX2_needsAreDone_7 : decode cX2_needsAreDone 7 = .ok (.if_icmp .lt 5, 3) := by decide +kernel
theorem dX2_needsAreDone_10 : decode cX2_needsAreDone 10 = .ok (.iconst 0, 1) := by decide +kernel
theorem dX2_needsAreDone_11 : decode cX2_needsAreDone 11 = .ok (.ireturn, 1) := by decide +kernel
theorem dX2_needsAreDone_12 : decode cX2_needsAreDone 12 = .ok (.aload_n 0, 1) := by decide +kernel
theorem dX2_needsAreDone_13 : decode cX2_needsAreDone 13 = .ok (.getfield 18, 3) := by decide +kernel
theorem dX2_needsAreDone_16 : decode cX2_needsAreDone 16 = .ok (.iload_n 2, 1) := by decide +kernel
theorem dX2_needsAreDone_17 : decode cX2_needsAreDone 17 = .ok (.iaload, 1) := by decide +kernel
theorem dX2_needsAreDone_18 : decode cX2_needsAreDone 18 = .ok (.aload_n 1, 1) := by decide +kernel
theorem dX2_needsAreDone_19 : decode cX2_needsAreDone 19 = .ok (.getfield 37, 3) := by decide +kernel
theorem dX2_needsAreDone_22 : decode cX2_needsAreDone 22 = .ok (.iand, 1) := by decide +kernel
theorem dX2_needsAreDone_23 : decode cX2_needsAreDone 23 = .ok (.aload_n 1, 1) := by decide +kernel
theorem dX2_needsAreDone_24 : decode cX2_needsAreDone 24 = .ok (.iconst 2, 1) := by decide +kernel
theorem dX2_needsAreDone_25 : decode cX2_needsAreDone 25 = .ok (.invokevirtual 42, 3) := by decide +kernel
theorem dX2_needsAreDone_28 : decode cX2_needsAreDone 28 = .ok (.iconst (-1), 1) := by decide +kernel
theorem dX2_needsAreDone_29 : decode cX2_needsAreDone 29 = .ok (.ixor, 1) := by decide +kernel
theorem dX2_needsAreDone_30 : decode cX2_needsAreDone 30 = .ok (.iand, 1) := by decide +kernel
theorem dX2_needsAreDone_31 : decode cX2_needsAreDone 31 = .ok (.ifCond .ne 7, 3) := by decide +kernel
theorem dX2_needsAreDone_34 : decode cX2_needsAreDone 34 = .ok (.iconst 1, 1) := by decide +kernel
theorem dX2_needsAreDone_35 : decode cX2_needsAreDone 35 = .ok (.goto 4, 3) := by decide +kernel
theorem dX2_needsAreDone_38 : decode cX2_needsAreDone 38 = .ok (.iconst 0, 1) := by decide +kernel
theorem dX2_needsAreDone_39 : decode cX2_needsAreDone 39 = .ok (.ireturn, 1) := by decide +kernel
theorem dX2_lengthFor_0 : decode cX2_lengthFor 0 = .ok (.iload_n 2, 1) := by decide +kernel
theorem dX2_lengthFor_1 : decode cX2_lengthFor 1 = .ok (.ifCond .lt 9, 3) := by decide +kernel
theorem dX2_lengthFor_4 : decode cX2_lengthFor 4 = .ok (.iload_n 2, 1) := by decide +kernel
theorem dX2_lengthFor_5 : decode cX2_lengthFor 5 = .ok (.bipush 12, 2) := by decide +kernel
theorem dX2_lengthFor_7 : decode cX2_lengthFor 7 = .ok (.if_icmp .lt 5, 3) := by decide +kernel
theorem dX2_lengthFor_10 : decode cX2_lengthFor 10 = .ok (.iconst (-1), 1) := by decide +kernel
theorem dX2_lengthFor_11 : decode cX2_lengthFor 11 = .ok (.ireturn, 1) := by decide +kernel
theorem dX2_lengthFor_12 : decode cX2_lengthFor 12 = .ok (.aload_n 1, 1) := by decide +kernel
theorem dX2_lengthFor_13 : decode cX2_lengthFor 13 = .ok (.getfield 46, 3) := by decide +kernel
theorem dX2_lengthFor_16 : decode cX2_lengthFor 16 = .ok (.iload_n 2, 1) := by decide +kernel
theorem dX2_lengthFor_17 : decode cX2_lengthFor 17 = .ok (.iaload, 1) := by decide +kernel
theorem dX2_lengthFor_18 : decode cX2_lengthFor 18 = .ok (.ifCond .eq 10, 3) := by decide +kernel
theorem dX2_lengthFor_21 : decode cX2_lengthFor 21 = .ok (.aload_n 1, 1) := by decide +kernel
theorem dX2_lengthFor_22 : decode cX2_lengthFor 22 = .ok (.getfield 49, 3) := by decide +kernel
theorem dX2_lengthFor_25 : decode cX2_lengthFor 25 = .ok (.iload_n 2, 1) := by decide +kernel
theorem dX2_lengthFor_26 : decode cX2_lengthFor 26 = .ok (.iaload, 1) := by decide +kernel
theorem dX2_lengthFor_27 : decode cX2_lengthFor 27 = .ok (.ireturn, 1) := by decide +kernel
theorem dX2_lengthFor_28 : decode cX2_lengthFor 28 = .ok (.aload_n 0, 1) := by decide +kernel
theorem dX2_lengthFor_29 : decode cX2_lengthFor 29 = .ok (.getfield 9, 3) := by decide +kernel
theorem dX2_lengthFor_32 : decode cX2_lengthFor 32 = .ok (.iload_n 2, 1) := by decide +kernel
theorem dX2_lengthFor_33 : decode cX2_lengthFor 33 = .ok (.iaload, 1) := by decide +kernel
theorem dX2_lengthFor_34 : decode cX2_lengthFor 34 = .ok (.ifCond .eq 10, 3) := by decide +kernel
theorem dX2_lengthFor_37 : decode cX2_lengthFor 37 = .ok (.aload_n 0, 1) := by decide +kernel
theorem dX2_lengthFor_38 : decode cX2_lengthFor 38 = .ok (.getfield 15, 3) := by decide +kernel
theorem dX2_lengthFor_41 : decode cX2_lengthFor 41 = .ok (.iload_n 2, 1) := by decide +kernel
theorem dX2_lengthFor_42 : decode cX2_lengthFor 42 = .ok (.iaload, 1) := by decide +kernel
theorem dX2_lengthFor_43 : decode cX2_lengthFor 43 = .ok (.ireturn, 1) := by decide +kernel
theorem dX2_lengthFor_44 : decode cX2_lengthFor 44 = .ok (.aload_n 0, 1) := by decide +kernel
theorem dX2_lengthFor_45 : decode cX2_lengthFor 45 = .ok (.getfield 21, 3) := by decide +kernel
theorem dX2_lengthFor_48 : decode cX2_lengthFor 48 = .ok (.iload_n 2, 1) := by decide +kernel
theorem dX2_lengthFor_49 : decode cX2_lengthFor 49 = .ok (.iaload, 1) := by decide +kernel
theorem dX2_lengthFor_50 : decode cX2_lengthFor 50 = .ok (.istore_n 3, 1) := by decide +kernel
theorem dX2_lengthFor_51 : decode cX2_lengthFor 51 = .ok (.aload_n 1, 1) := by decide +kernel
theorem dX2_lengthFor_52 : decode cX2_lengthFor 52 = .ok (.iconst 2, 1) := by decide +kernel
theorem dX2_lengthFor_53 : decode cX2_lengthFor 53 = .ok (.invokevirtual 42, 3) := by decide +kernel
theorem dX2_lengthFor_56 : decode cX2_lengthFor 56 = .ok (.istore 4, 2) := by decide +kernel
theorem dX2_lengthFor_58 : decode cX2_lengthFor 58 = .ok (.iconst 0, 1) := by decide +kernel
theorem dX2_lengthFor_59 : decode cX2_lengthFor 59 = .ok (.istore 5, 2) := by decide +kernel
theorem dX2_lengthFor_61 : decode cX2_lengthFor 61 = .ok (.iload 5, 2) := by decide +kernel
theorem dX2_lengthFor_63 : decode cX2_lengthFor 63 = .ok (.bipush 12, 2) := by decide +kernel
theorem dX2_lengthFor_65 : decode cX2_lengthFor 65 = .ok (.if_icmp .ge 41, 3) := by decide +kernel
theorem dX2_lengthFor_68 : decode cX2_lengthFor 68 = .ok (.aload_n 0, 1) := by decide +kernel
theorem dX2_lengthFor_69 : decode cX2_lengthFor 69 = .ok (.getfield 9, 3) := by decide +kernel
theorem dX2_lengthFor_72 : decode cX2_lengthFor 72 = .ok (.iload 5, 2) := by decide +kernel
theorem dX2_lengthFor_74 : decode cX2_lengthFor 74 = .ok (.iaload, 1) := by decide +kernel
theorem dX2_lengthFor_75 : decode cX2_lengthFor 75 = .ok (.ifCond .ne 25, 3) := by decide +kernel
theorem dX2_lengthFor_78 : decode cX2_lengthFor 78 = .ok (.iload 4, 2) := by decide +kernel
theorem dX2_lengthFor_80 : decode cX2_lengthFor 80 = .ok (.iload 5, 2) := by decide +kernel
theorem dX2_lengthFor_82 : decode cX2_lengthFor 82 = .ok (.invokestatic 52, 3) := by decide +kernel
theorem dX2_lengthFor_85 : decode cX2_lengthFor 85 = .ok (.ifCond .eq 15, 3) := by decide +kernel
theorem dX2_lengthFor_88 : decode cX2_lengthFor 88 = .ok (.iload_n 3, 1) := by decide +kernel
theorem dX2_lengthFor_89 : decode cX2_lengthFor 89 = .ok (.aload_n 0, 1) := by decide +kernel
theorem dX2_lengthFor_90 : decode cX2_lengthFor 90 = .ok (.getfield 21, 3) := by decide +kernel
theorem dX2_lengthFor_93 : decode cX2_lengthFor 93 = .ok (.iload 5, 2) := by decide +kernel
theorem dX2_lengthFor_95 : decode cX2_lengthFor 95 = .ok (.iaload, 1) := by decide +kernel
theorem dX2_lengthFor_96 : decode cX2_lengthFor 96 = .ok (.iconst (-1), 1) := by decide +kernel
theorem dX2_lengthFor_97 : decode cX2_lengthFor 97 = .ok (.ixor, 1) := by decide +kernel
theorem dX2_lengthFor_98 : decode cX2_lengthFor 98 = .ok (.iand, 1) := by decide +kernel
theorem dX2_lengthFor_99 : decode cX2_lengthFor 99 = .ok (.istore_n 3, 1) := by decide +kernel
theorem dX2_lengthFor_100 : decode cX2_lengthFor 100 = .ok (.iinc 5 1, 3) := by decide +kernel
theorem dX2_lengthFor_103 : decode cX2_lengthFor 103 = .ok (.goto (-42), 3) := by decide +kernel
theorem dX2_lengthFor_106 : decode cX2_lengthFor 106 = .ok (.aload_n 0, 1) := by decide +kernel
theorem dX2_lengthFor_107 : decode cX2_lengthFor 107 = .ok (.getfield 15, 3) := by decide +kernel
theorem dX2_lengthFor_110 : decode cX2_lengthFor 110 = .ok (.iload_n 2, 1) := by decide +kernel
theorem dX2_lengthFor_111 : decode cX2_lengthFor 111 = .ok (.iaload, 1) := by decide +kernel
theorem dX2_lengthFor_112 : decode cX2_lengthFor 112 = .ok (.iload_n 3, 1) := by decide +kernel
theorem dX2_lengthFor_113 : decode cX2_lengthFor 113 = .ok (.invokestatic 56, 3) := by decide +kernel
theorem dX2_lengthFor_116 : decode cX2_lengthFor 116 = .ok (.iconst 1, 1) := by decide +kernel
theorem dX2_lengthFor_117 : decode cX2_lengthFor 117 = .ok (.iadd, 1) := by decide +kernel
theorem dX2_lengthFor_118 : decode cX2_lengthFor 118 = .ok (.iconst 2, 1) := by decide +kernel
theorem dX2_lengthFor_119 : decode cX2_lengthFor 119 = .ok (.idiv, 1) := by decide +kernel
theorem dX2_lengthFor_120 : decode cX2_lengthFor 120 = .ok (.iadd, 1) := by decide +kernel
theorem dX2_lengthFor_121 : decode cX2_lengthFor 121 = .ok (.ireturn, 1) := by decide +kernel
theorem dX2_rightsOf_0 : decode cX2_rightsOf 0 = .ok (.aload_n 1, 1) := by decide +kernel
theorem dX2_rightsOf_1 : decode cX2_rightsOf 1 = .ok (.iconst 2, 1) := by decide +kernel
theorem dX2_rightsOf_2 : decode cX2_rightsOf 2 = .ok (.invokevirtual 42, 3) := by decide +kernel
theorem dX2_rightsOf_5 : decode cX2_rightsOf 5 = .ok (.istore_n 2, 1) := by decide +kernel
theorem dX2_rightsOf_6 : decode cX2_rightsOf 6 = .ok (.iconst 0, 1) := by decide +kernel
theorem dX2_rightsOf_7 : decode cX2_rightsOf 7 = .ok (.istore_n 3, 1) := by decide +kernel
theorem dX2_rightsOf_8 : decode cX2_rightsOf 8 = .ok (.iconst 0, 1) := by decide +kernel
theorem dX2_rightsOf_9 : decode cX2_rightsOf 9 = .ok (.istore 4, 2) := by decide +kernel
theorem dX2_rightsOf_11 : decode cX2_rightsOf 11 = .ok (.iload 4, 2) := by decide +kernel
theorem dX2_rightsOf_13 : decode cX2_rightsOf 13 = .ok (.aload_n 0, 1) := by decide +kernel
theorem dX2_rightsOf_14 : decode cX2_rightsOf 14 = .ok (.getfield 34, 3) := by decide +kernel
theorem dX2_rightsOf_17 : decode cX2_rightsOf 17 = .ok (.if_icmp .ge 30, 3) := by decide +kernel
theorem dX2_rightsOf_20 : decode cX2_rightsOf 20 = .ok (.aload_n 0, 1) := by decide +kernel
theorem dX2_rightsOf_21 : decode cX2_rightsOf 21 = .ok (.getfield 27, 3) := by decide +kernel
theorem dX2_rightsOf_24 : decode cX2_rightsOf 24 = .ok (.iload 4, 2) := by decide +kernel
theorem dX2_rightsOf_26 : decode cX2_rightsOf 26 = .ok (.iaload, 1) := by decide +kernel
theorem dX2_rightsOf_27 : decode cX2_rightsOf 27 = .ok (.iload_n 2, 1) := by decide +kernel
theorem dX2_rightsOf_28 : decode cX2_rightsOf 28 = .ok (.iconst (-1), 1) := by decide +kernel
theorem dX2_rightsOf_29 : decode cX2_rightsOf 29 = .ok (.ixor, 1) := by decide +kernel
theorem dX2_rightsOf_30 : decode cX2_rightsOf 30 = .ok (.iand, 1) := by decide +kernel
theorem dX2_rightsOf_31 : decode cX2_rightsOf 31 = .ok (.ifCond .ne 10, 3) := by decide +kernel
theorem dX2_rightsOf_34 : decode cX2_rightsOf 34 = .ok (.iload_n 3, 1) := by decide +kernel
theorem dX2_rightsOf_35 : decode cX2_rightsOf 35 = .ok (.iconst 1, 1) := by decide +kernel
theorem dX2_rightsOf_36 : decode cX2_rightsOf 36 = .ok (.iload 4, 2) := by decide +kernel
theorem dX2_rightsOf_38 : decode cX2_rightsOf 38 = .ok (.ishl, 1) := by decide +kernel
theorem dX2_rightsOf_39 : decode cX2_rightsOf 39 = .ok (.ior, 1) := by decide +kernel
theorem dX2_rightsOf_40 : decode cX2_rightsOf 40 = .ok (.istore_n 3, 1) := by decide +kernel
theorem dX2_rightsOf_41 : decode cX2_rightsOf 41 = .ok (.iinc 4 1, 3) := by decide +kernel
theorem dX2_rightsOf_44 : decode cX2_rightsOf 44 = .ok (.goto (-33), 3) := by decide +kernel
theorem dX2_rightsOf_47 : decode cX2_rightsOf 47 = .ok (.iload_n 3, 1) := by decide +kernel
theorem dX2_rightsOf_48 : decode cX2_rightsOf 48 = .ok (.ireturn, 1) := by decide +kernel
theorem dX3_init_0 : decode cX3_init 0 = .ok (.aload_n 0, 1) := by decide +kernel
theorem dX3_init_1 : decode cX3_init 1 = .ok (.invokespecial 3, 3) := by decide +kernel
theorem dX3_init_4 : decode cX3_init 4 = .ok (.aload_n 0, 1) := by decide +kernel
theorem dX3_init_5 : decode cX3_init 5 = .ok (.iconst 4, 1) := by decide +kernel
theorem dX3_init_6 : decode cX3_init 6 = .ok (.newarray .int, 2) := by decide +kernel
theorem dX3_init_8 : decode cX3_init 8 = .ok (.putfield 9, 3) := by decide +kernel
theorem dX3_init_11 : decode cX3_init 11 = .ok (.aload_n 0, 1) := by decide +kernel
theorem dX3_init_12 : decode cX3_init 12 = .ok (.bipush 20, 2) := by decide +kernel
theorem dX3_init_14 : decode cX3_init 14 = .ok (.newarray .int, 2) := by decide +kernel
theorem dX3_init_16 : decode cX3_init 16 = .ok (.putfield 15, 3) := by decide +kernel
theorem dX3_init_19 : decode cX3_init 19 = .ok (.aload_n 0, 1) := by decide +kernel
theorem dX3_init_20 : decode cX3_init 20 = .ok (.bipush 20, 2) := by decide +kernel
theorem dX3_init_22 : decode cX3_init 22 = .ok (.newarray .int, 2) := by decide +kernel
theorem dX3_init_24 : decode cX3_init 24 = .ok (.putfield 18, 3) := by decide +kernel
theorem dX3_init_27 : decode cX3_init 27 = .ok (.aload_n 0, 1) := by decide +kernel
theorem dX3_init_28 : decode cX3_init 28 = .ok (.bipush 20, 2) := by decide +kernel
theorem dX3_init_30 : decode cX3_init 30 = .ok (.newarray .int, 2) := by decide +kernel
theorem dX3_init_32 : decode cX3_init 32 = .ok (.putfield 21, 3) := by decide +kernel
theorem dX3_init_35 : decode cX3_init 35 = .ok (.return_, 1) := by decide +kernel
theorem dX3_hasPiece_0 : decode cX3_hasPiece 0 = .ok (.iload_n 1, 1) := by decide +kernel
theorem dX3_hasPiece_1 : decode cX3_hasPiece 1 = .ok (.ifCond .lt 21, 3) := by decide +kernel
theorem dX3_hasPiece_4 : decode cX3_hasPiece 4 = .ok (.iload_n 1, 1) := by decide +kernel
theorem dX3_hasPiece_5 : decode cX3_hasPiece 5 = .ok (.iconst 4, 1) := by decide +kernel
theorem dX3_hasPiece_6 : decode cX3_hasPiece 6 = .ok (.if_icmp .ge 16, 3) := by decide +kernel
theorem dX3_hasPiece_9 : decode cX3_hasPiece 9 = .ok (.aload_n 0, 1) := by decide +kernel
theorem dX3_hasPiece_10 : decode cX3_hasPiece 10 = .ok (.getfield 9, 3) := by decide +kernel
theorem dX3_hasPiece_13 : decode cX3_hasPiece 13 = .ok (.iload_n 1, 1) := by decide +kernel
theorem dX3_hasPiece_14 : decode cX3_hasPiece 14 = .ok (.iaload, 1) := by decide +kernel
theorem dX3_hasPiece_15 : decode cX3_hasPiece 15 = .ok (.ifCond .le 7, 3) := by decide +kernel
theorem dX3_hasPiece_18 : decode cX3_hasPiece 18 = .ok (.iconst 1, 1) := by decide +kernel
theorem dX3_hasPiece_19 : decode cX3_hasPiece 19 = .ok (.goto 4, 3) := by decide +kernel
theorem dX3_hasPiece_22 : decode cX3_hasPiece 22 = .ok (.iconst 0, 1) := by decide +kernel
theorem dX3_hasPiece_23 : decode cX3_hasPiece 23 = .ok (.ireturn, 1) := by decide +kernel
theorem dX3_putIn_0 : decode cX3_putIn 0 = .ok (.iload_n 1, 1) := by decide +kernel
theorem dX3_putIn_1 : decode cX3_putIn 1 = .ok (.ifCond .lt 18, 3) := by decide +kernel
theorem dX3_putIn_4 : decode cX3_putIn 4 = .ok (.iload_n 1, 1) := by decide +kernel
theorem dX3_putIn_5 : decode cX3_putIn 5 = .ok (.iconst 4, 1) := by decide +kernel
theorem dX3_putIn_6 : decode cX3_putIn 6 = .ok (.if_icmp .ge 13, 3) := by decide +kernel
theorem dX3_putIn_9 : decode cX3_putIn 9 = .ok (.aload_n 0, 1) := by decide +kernel
theorem dX3_putIn_10 : decode cX3_putIn 10 = .ok (.getfield 9, 3) := by decide +kernel
theorem dX3_putIn_13 : decode cX3_putIn 13 = .ok (.iload_n 1, 1) := by decide +kernel
theorem dX3_putIn_14 : decode cX3_putIn 14 = .ok (.dup2, 1) := by decide +kernel
theorem dX3_putIn_15 : decode cX3_putIn 15 = .ok (.iaload, 1) := by decide +kernel
theorem dX3_putIn_16 : decode cX3_putIn 16 = .ok (.iload_n 2, 1) := by decide +kernel
theorem dX3_putIn_17 : decode cX3_putIn 17 = .ok (.iadd, 1) := by decide +kernel
theorem dX3_putIn_18 : decode cX3_putIn 18 = .ok (.iastore, 1) := by decide +kernel
theorem dX3_putIn_19 : decode cX3_putIn 19 = .ok (.return_, 1) := by decide +kernel
theorem dX3_takeOne_0 : decode cX3_takeOne 0 = .ok (.aload_n 0, 1) := by decide +kernel
theorem dX3_takeOne_1 : decode cX3_takeOne 1 = .ok (.iload_n 1, 1) := by decide +kernel
theorem dX3_takeOne_2 : decode cX3_takeOne 2 = .ok (.invokevirtual 24, 3) := by decide +kernel
theorem dX3_takeOne_5 : decode cX3_takeOne 5 = .ok (.ifCond .eq 13, 3) := by decide +kernel
theorem dX3_takeOne_8 : decode cX3_takeOne 8 = .ok (.aload_n 0, 1) := by decide +kernel
theorem dX3_takeOne_9 : decode cX3_takeOne 9 = .ok (.getfield 9, 3) := by decide +kernel
theorem dX3_takeOne_12 : decode cX3_takeOne 12 = .ok (.iload_n 1, 1) := by decide +kernel
theorem dX3_takeOne_13 : decode cX3_takeOne 13 = .ok (.dup2, 1) := by decide +kernel
theorem dX3_takeOne_14 : decode cX3_takeOne 14 = .ok (.iaload, 1) := by decide +kernel
theorem dX3_takeOne_15 : decode cX3_takeOne 15 = .ok (.iconst 1, 1) := by decide +kernel
theorem dX3_takeOne_16 : decode cX3_takeOne 16 = .ok (.isub, 1) := by decide +kernel
theorem dX3_takeOne_17 : decode cX3_takeOne 17 = .ok (.iastore, 1) := by decide +kernel
theorem dX3_takeOne_18 : decode cX3_takeOne 18 = .ok (.return_, 1) := by decide +kernel
theorem dX3_addOrder_0 : decode cX3_addOrder 0 = .ok (.aload_n 0, 1) := by decide +kernel
theorem dX3_addOrder_1 : decode cX3_addOrder 1 = .ok (.getfield 28, 3) := by decide +kernel
theorem dX3_addOrder_4 : decode cX3_addOrder 4 = .ok (.bipush 20, 2) := by decide +kernel
theorem dX3_addOrder_6 : decode cX3_addOrder 6 = .ok (.if_icmp .lt 5, 3) := by decide +kernel
theorem dX3_addOrder_9 : decode cX3_addOrder 9 = .ok (.iconst (-1), 1) := by decide +kernel
theorem dX3_addOrder_10 : decode cX3_addOrder 10 = .ok (.ireturn, 1) := by decide +kernel
theorem dX3_addOrder_11 : decode cX3_addOrder 11 = .ok (.aload_n 0, 1) := by decide +kernel
theorem dX3_addOrder_12 : decode cX3_addOrder 12 = .ok (.getfield 15, 3) := by decide +kernel
theorem dX3_addOrder_15 : decode cX3_addOrder 15 = .ok (.aload_n 0, 1) := by decide +kernel
theorem dX3_addOrder_16 : decode cX3_addOrder 16 = .ok (.getfield 28, 3) := by decide +kernel
theorem dX3_addOrder_19 : decode cX3_addOrder 19 = .ok (.iload_n 1, 1) := by decide +kernel
theorem dX3_addOrder_20 : decode cX3_addOrder 20 = .ok (.iastore, 1) := by decide +kernel
theorem dX3_addOrder_21 : decode cX3_addOrder 21 = .ok (.aload_n 0, 1) := by decide +kernel
theorem dX3_addOrder_22 : decode cX3_addOrder 22 = .ok (.getfield 18, 3) := by decide +kernel
theorem dX3_addOrder_25 : decode cX3_addOrder 25 = .ok (.aload_n 0, 1) := by decide +kernel
theorem dX3_addOrder_26 : decode cX3_addOrder 26 = .ok (.getfield 28, 3) := by decide +kernel
theorem dX3_addOrder_29 : decode cX3_addOrder 29 = .ok (.iload_n 2, 1) := by decide +kernel
theorem dX3_addOrder_30 : decode cX3_addOrder 30 = .ok (.iastore, 1) := by decide +kernel
theorem dX3_addOrder_31 : decode cX3_addOrder 31 = .ok (.aload_n 0, 1) := by decide +kernel
theorem dX3_addOrder_32 : decode cX3_addOrder 32 = .ok (.getfield 21, 3) := by decide +kernel
theorem dX3_addOrder_35 : decode cX3_addOrder 35 = .ok (.aload_n 0, 1) := by decide +kernel
theorem dX3_addOrder_36 : decode cX3_addOrder 36 = .ok (.getfield 28, 3) := by decide +kernel
theorem dX3_addOrder_39 : decode cX3_addOrder 39 = .ok (.iload_n 3, 1) := by decide +kernel
theorem dX3_addOrder_40 : decode cX3_addOrder 40 = .ok (.iastore, 1) := by decide +kernel
theorem dX3_addOrder_41 : decode cX3_addOrder 41 = .ok (.aload_n 0, 1) := by decide +kernel
theorem dX3_addOrder_42 : decode cX3_addOrder 42 = .ok (.dup, 1) := by decide +kernel
theorem dX3_addOrder_43 : decode cX3_addOrder 43 = .ok (.getfield 28, 3) := by decide +kernel
theorem dX3_addOrder_46 : decode cX3_addOrder 46 = .ok (.iconst 1, 1) := by decide +kernel
theorem dX3_addOrder_47 : decode cX3_addOrder 47 = .ok (.iadd, 1) := by decide +kernel
theorem dX3_addOrder_48 : decode cX3_addOrder 48 = .ok (.putfield 28, 3) := by decide +kernel
theorem dX3_addOrder_51 : decode cX3_addOrder 51 = .ok (.aload_n 0, 1) := by decide +kernel
theorem dX3_addOrder_52 : decode cX3_addOrder 52 = .ok (.getfield 28, 3) := by decide +kernel
theorem dX3_addOrder_55 : decode cX3_addOrder 55 = .ok (.iconst 1, 1) := by decide +kernel
theorem dX3_addOrder_56 : decode cX3_addOrder 56 = .ok (.isub, 1) := by decide +kernel
theorem dX3_addOrder_57 : decode cX3_addOrder 57 = .ok (.ireturn, 1) := by decide +kernel
theorem dX3_delay_0 : decode cX3_delay 0 = .ok (.iload_n 1, 1) := by decide +kernel
theorem dX3_delay_1 : decode cX3_delay 1 = .ok (.ifCond .lt 11, 3) := by decide +kernel
theorem dX3_delay_4 : decode cX3_delay 4 = .ok (.iload_n 1, 1) := by decide +kernel
theorem dX3_delay_5 : decode cX3_delay 5 = .ok (.aload_n 0, 1) := by decide +kernel
theorem dX3_delay_6 : decode cX3_delay 6 = .ok (.getfield 28, 3) := by decide +kernel
theorem dX3_delay_9 : decode cX3_delay 9 = .ok (.if_icmp .lt 5, 3) := by decide +kernel
theorem dX3_delay_12 : decode cX3_delay 12 = .ok (.iconst (-1), 1) := by decide +kernel
theorem dX3_delay_13 : decode cX3_delay 13 = .ok (.ireturn, 1) := by decide +kernel
theorem dX3_delay_14 : decode cX3_delay 14 = .ok (.aload_n 0, 1) := by decide +kernel
theorem dX3_delay_15 : decode cX3_delay 15 = .ok (.getfield 21, 3) := by decide +kernel
theorem dX3_delay_18 : decode cX3_delay 18 = .ok (.iload_n 1, 1) := by decide +kernel
theorem dX3_delay_19 : decode cX3_delay 19 = .ok (.dup2, 1) := by decide +kernel
theorem dX3_delay_20 : decode cX3_delay 20 = .ok (.iaload, 1) := by decide +kernel
theorem dX3_delay_21 : decode cX3_delay 21 = .ok (.iload_n 2, 1) := by decide +kernel
theorem dX3_delay_22 : decode cX3_delay 22 = .ok (.iadd, 1) := by decide +kernel
theorem dX3_delay_23 : decode cX3_delay 23 = .ok (.iastore, 1) := by decide +kernel
theorem dX3_delay_24 : decode cX3_delay 24 = .ok (.aload_n 0, 1) := by decide +kernel
theorem dX3_delay_25 : decode cX3_delay 25 = .ok (.getfield 21, 3) := by decide +kernel
theorem dX3_delay_28 : decode cX3_delay 28 = .ok (.iload_n 1, 1) := by decide +kernel
theorem dX3_delay_29 : decode cX3_delay 29 = .ok (.iaload, 1) := by decide +kernel
theorem dX3_delay_30 : decode cX3_delay 30 = .ok (.ireturn, 1) := by decide +kernel
theorem dX3_receive_0 : decode cX3_receive 0 = .ok (.iconst 0, 1) := by decide +kernel
theorem dX3_receive_1 : decode cX3_receive 1 = .ok (.istore_n 2, 1) := by decide +kernel
theorem dX3_receive_2 : decode cX3_receive 2 = .ok (.iload_n 2, 1) := by decide +kernel
theorem dX3_receive_3 : decode cX3_receive 3 = .ok (.aload_n 0, 1) := by decide +kernel
theorem dX3_receive_4 : decode cX3_receive 4 = .ok (.getfield 28, 3) := by decide +kernel
theorem dX3_receive_7 : decode cX3_receive 7 = .ok (.if_icmp .ge 35, 3) := by decide +kernel
theorem dX3_receive_10 : decode cX3_receive 10 = .ok (.aload_n 0, 1) := by decide +kernel
theorem dX3_receive_11 : decode cX3_receive 11 = .ok (.getfield 21, 3) := by decide +kernel
theorem dX3_receive_14 : decode cX3_receive 14 = .ok (.iload_n 2, 1) := by decide +kernel
theorem dX3_receive_15 : decode cX3_receive 15 = .ok (.iaload, 1) := by decide +kernel
theorem dX3_receive_16 : decode cX3_receive 16 = .ok (.iload_n 1, 1) := by decide +kernel
theorem dX3_receive_17 : decode cX3_receive 17 = .ok (.if_icmp .ne 19, 3) := by decide +kernel
theorem dX3_receive_20 : decode cX3_receive 20 = .ok (.aload_n 0, 1) := by decide +kernel
theorem dX3_receive_21 : decode cX3_receive 21 = .ok (.aload_n 0, 1) := by decide +kernel
theorem dX3_receive_22 : decode cX3_receive 22 = .ok (.getfield 15, 3) := by decide +kernel
theorem dX3_receive_25 : decode cX3_receive 25 = .ok (.iload_n 2, 1) := by decide +kernel
theorem dX3_receive_26 : decode cX3_receive 26 = .ok (.iaload, 1) := by decide +kernel
theorem dX3_receive_27 : decode cX3_receive 27 = .ok (.aload_n 0, 1) := by decide +kernel
theorem dX3_receive_28 : decode cX3_receive 28 = .ok (.getfield 18, 3) := by decide +kernel
theorem dX3_receive_31 : decode cX3_receive 31 = .ok (.iload_n 2, 1) := by decide +kernel
theorem dX3_receive_32 : decode cX3_receive 32 = .ok (.iaload, 1) := by decide +kernel
theorem dX3_receive_33 : decode cX3_receive 33 = .ok (.invokevirtual 32, 3) := by decide +kernel
theorem dX3_receive_36 : decode cX3_receive 36 = .ok (.iinc 2 1, 3) := by decide +kernel
theorem dX3_receive_39 : decode cX3_receive 39 = .ok (.goto (-37), 3) := by decide +kernel
theorem dX3_receive_42 : decode cX3_receive 42 = .ok (.return_, 1) := by decide +kernel
theorem dX3_piecesToCome_0 : decode cX3_piecesToCome 0 = .ok (.iconst 0, 1) := by decide +kernel
theorem dX3_piecesToCome_1 : decode cX3_piecesToCome 1 = .ok (.istore_n 3, 1) := by decide +kernel
theorem dX3_piecesToCome_2 : decode cX3_piecesToCome 2 = .ok (.iconst 0, 1) := by decide +kernel
theorem dX3_piecesToCome_3 : decode cX3_piecesToCome 3 = .ok (.istore 4, 2) := by decide +kernel
theorem dX3_piecesToCome_5 : decode cX3_piecesToCome 5 = .ok (.iload 4, 2) := by decide +kernel
theorem dX3_piecesToCome_7 : decode cX3_piecesToCome 7 = .ok (.aload_n 0, 1) := by decide +kernel
theorem dX3_piecesToCome_8 : decode cX3_piecesToCome 8 = .ok (.getfield 28, 3) := by decide +kernel
theorem dX3_piecesToCome_11 : decode cX3_piecesToCome 11 = .ok (.if_icmp .ge 41, 3) := by decide +kernel
theorem dX3_piecesToCome_14 : decode cX3_piecesToCome 14 = .ok (.aload_n 0, 1) := by decide +kernel
theorem dX3_piecesToCome_15 : decode cX3_piecesToCome 15 = .ok (.getfield 15, 3) := by decide +kernel
theorem dX3_piecesToCome_18 : decode cX3_piecesToCome 18 = .ok (.iload 4, 2) := by decide +kernel
theorem dX3_piecesToCome_20 : decode cX3_piecesToCome 20 = .ok (.iaload, 1) := by decide +kernel
theorem dX3_piecesToCome_21 : decode cX3_piecesToCome 21 = .ok (.iload_n 1, 1) := by decide +kernel
theorem dX3_piecesToCome_22 : decode cX3_piecesToCome 22 = .ok (.if_icmp .ne 24, 3) := by decide +kernel
theorem dX3_piecesToCome_25 : decode cX3_piecesToCome 25 = .ok (.aload_n 0, 1) := by decide +kernel
theorem dX3_piecesToCome_26 : decode cX3_piecesToCome 26 = .ok (.getfield 21, 3) := by decide +kernel
theorem dX3_piecesToCome_29 : decode cX3_piecesToCome 29 = .ok (.iload 4, 2) := by decide +kernel
theorem dX3_piecesToCome_31 : decode cX3_piecesToCome 31 = .ok (.iaload, 1) := by decide +kernel
theorem dX3_piecesToCome_32 : decode cX3_piecesToCome 32 = .ok (.iload_n 2, 1) := by decide +kernel
theorem dX3_piecesToCome_33 : decode cX3_piecesToCome 33 = .ok (.if_icmp .le 13, 3) := by decide +kernel
theorem dX3_piecesToCome_36 : decode cX3_piecesToCome 36 = .ok (.iload_n 3, 1) := by decide +kernel
theorem dX3_piecesToCome_37 : decode cX3_piecesToCome 37 = .ok (.aload_n 0, 1) := by decide +kernel
theorem dX3_piecesToCome_38 : decode cX3_piecesToCome 38 = .ok (.getfield 18, 3) := by decide +kernel
theorem dX3_piecesToCome_41 : decode cX3_piecesToCome 41 = .ok (.iload 4, 2) := by decide +kernel
theorem dX3_piecesToCome_43 : decode cX3_piecesToCome 43 = .ok (.iaload, 1) := by decide +kernel
theorem dX3_piecesToCome_44 : decode cX3_piecesToCome 44 = .ok (.iadd, 1) := by decide +kernel
theorem dX3_piecesToCome_45 : decode cX3_piecesToCome 45 = .ok (.istore_n 3, 1) := by decide +kernel
theorem dX3_piecesToCome_46 : decode cX3_piecesToCome 46 = .ok (.iinc 4 1, 3) := by decide +kernel
theorem dX3_piecesToCome_49 : decode cX3_piecesToCome 49 = .ok (.goto (-44), 3) := by decide +kernel
theorem dX3_piecesToCome_52 : decode cX3_piecesToCome 52 = .ok (.iload_n 3, 1) := by decide +kernel
theorem dX3_piecesToCome_53 : decode cX3_piecesToCome 53 = .ok (.ireturn, 1) := by decide +kernel
theorem dX3_earliestToCome_0 : decode cX3_earliestToCome 0 = .ok (.iconst (-1), 1) := by decide +kernel
theorem dX3_earliestToCome_1 : decode cX3_earliestToCome 1 = .ok (.istore 5, 2) := by decide +kernel
theorem dX3_earliestToCome_3 : decode cX3_earliestToCome 3 = .ok (.iconst 0, 1) := by decide +kernel
theorem dX3_earliestToCome_4 : decode cX3_earliestToCome 4 = .ok (.istore 6, 2) := by decide +kernel
theorem dX3_earliestToCome_6 : decode cX3_earliestToCome 6 = .ok (.iload 6, 2) := by decide +kernel
theorem dX3_earliestToCome_8 : decode cX3_earliestToCome 8 = .ok (.aload_n 0, 1) := by decide +kernel
theorem dX3_earliestToCome_9 : decode cX3_earliestToCome 9 = .ok (.getfield 28, 3) := by decide +kernel
theorem dX3_earliestToCome_12 : decode cX3_earliestToCome 12 = .ok (.if_icmp .ge 79, 3) := by decide +kernel
theorem dX3_earliestToCome_15 : decode cX3_earliestToCome 15 = .ok (.aload_n 0, 1) := by decide +kernel
theorem dX3_earliestToCome_16 : decode cX3_earliestToCome 16 = .ok (.getfield 15, 3) := by decide +kernel
theorem dX3_earliestToCome_19 : decode cX3_earliestToCome 19 = .ok (.iload 6, 2) := by decide +kernel
theorem dX3_earliestToCome_21 : decode cX3_earliestToCome 21 = .ok (.iaload, 1) := by decide +kernel
theorem dX3_earliestToCome_22 : decode cX3_earliestToCome 22 = .ok (.iload_n 1, 1) := by decide +kernel
theorem dX3_earliestToCome_23 : decode cX3_earliestToCome 23 = .ok (.if_icmp .ne 62, 3) := by decide +kernel
theorem dX3_earliestToCome_26 : decode cX3_earliestToCome 26 = .ok (.aload_n 0, 1) := by decide +kernel
theorem dX3_earliestToCome_27 : decode cX3_earliestToCome 27 = .ok (.getfield 21, 3) := by decide +kernel
theorem dX3_earliestToCome_30 : decode cX3_earliestToCome 30 = .ok (.iload 6, 2) := by decide +kernel
theorem dX3_earliestToCome_32 : decode cX3_earliestToCome 32 = .ok (.iaload, 1) := by decide +kernel
theorem dX3_earliestToCome_33 : decode cX3_earliestToCome 33 = .ok (.iload_n 2, 1) := by decide +kernel
theorem dX3_earliestToCome_34 : decode cX3_earliestToCome 34 = .ok (.if_icmp .le 51, 3) := by decide +kernel
theorem dX3_earliestToCome_37 : decode cX3_earliestToCome 37 = .ok (.iload 6, 2) := by decide +kernel
theorem dX3_earliestToCome_39 : decode cX3_earliestToCome 39 = .ok (.iload_n 3, 1) := by decide +kernel
theorem dX3_earliestToCome_40 : decode cX3_earliestToCome 40 = .ok (.if_icmp .ne 16, 3) := by decide +kernel
theorem dX3_earliestToCome_43 : decode cX3_earliestToCome 43 = .ok (.aload_n 0, 1) := by decide +kernel
theorem dX3_earliestToCome_44 : decode cX3_earliestToCome 44 = .ok (.getfield 21, 3) := by decide +kernel
theorem dX3_earliestToCome_47 : decode cX3_earliestToCome 47 = .ok (.iload 6, 2) := by decide +kernel
theorem dX3_earliestToCome_49 : decode cX3_earliestToCome 49 = .ok (.iaload, 1) := by decide +kernel
theorem dX3_earliestToCome_50 : decode cX3_earliestToCome 50 = .ok (.iload 4, 2) := by decide +kernel
theorem dX3_earliestToCome_52 : decode cX3_earliestToCome 52 = .ok (.iadd, 1) := by decide +kernel
theorem dX3_earliestToCome_53 : decode cX3_earliestToCome 53 = .ok (.goto 10, 3) := by decide +kernel
theorem dX3_earliestToCome_56 : decode cX3_earliestToCome 56 = .ok (.aload_n 0, 1) := by decide +kernel
theorem dX3_earliestToCome_57 : decode cX3_earliestToCome 57 = .ok (.getfield 21, 3) := by decide +kernel
theorem dX3_earliestToCome_60 : decode cX3_earliestToCome 60 = .ok (.iload 6, 2) := by decide +kernel
theorem dX3_earliestToCome_62 : decode cX3_earliestToCome 62 = .ok (.iaload, 1) := by decide +kernel
theorem dX3_earliestToCome_63 : decode cX3_earliestToCome 63 = .ok (.istore 7, 2) := by decide +kernel
theorem dX3_earliestToCome_65 : decode cX3_earliestToCome 65 = .ok (.iload 5, 2) := by decide +kernel
theorem dX3_earliestToCome_67 : decode cX3_earliestToCome 67 = .ok (.iconst (-1), 1) := by decide +kernel
theorem dX3_earliestToCome_68 : decode cX3_earliestToCome 68 = .ok (.if_icmp .ne 8, 3) := by decide +kernel
theorem dX3_earliestToCome_71 : decode cX3_earliestToCome 71 = .ok (.iload 7, 2) := by decide +kernel
theorem dX3_earliestToCome_73 : decode cX3_earliestToCome 73 = .ok (.goto 10, 3) := by decide +kernel
theorem dX3_earliestToCome_76 : decode cX3_earliestToCome 76 = .ok (.iload 5, 2) := by decide +kernel
theorem dX3_earliestToCome_78 : decode cX3_earliestToCome 78 = .ok (.iload 7, 2) := by decide +kernel
theorem dX3_earliestToCome_80 : decode cX3_earliestToCome 80 = .ok (.invokestatic 36, 3) := by decide +kernel
theorem dX3_earliestToCome_83 : decode cX3_earliestToCome 83 = .ok (.istore 5, 2) := by decide +kernel
theorem dX3_earliestToCome_85 : decode cX3_earliestToCome 85 = .ok (.iinc 6 1, 3) := by decide +kernel
theorem dX3_earliestToCome_88 : decode cX3_earliestToCome 88 = .ok (.goto (-82), 3) := by decide +kernel
theorem dX3_earliestToCome_91 : decode cX3_earliestToCome 91 = .ok (.iload 5, 2) := by decide +kernel
theorem dX3_earliestToCome_93 : decode cX3_earliestToCome 93 = .ok (.ireturn, 1) := by decide +kernel
theorem dX4_init_0 : decode cX4_init 0 = .ok (.aload_n 0, 1) := by decide +kernel
theorem dX4_init_1 : decode cX4_init 1 = .ok (.invokespecial 3, 3) := by decide +kernel
theorem dX4_init_4 : decode cX4_init 4 = .ok (.aload_n 0, 1) := by decide +kernel
theorem dX4_init_5 : decode cX4_init 5 = .ok (.bipush 20, 2) := by decide +kernel
theorem dX4_init_7 : decode cX4_init 7 = .ok (.newarray .int, 2) := by decide +kernel
theorem dX4_init_9 : decode cX4_init 9 = .ok (.putfield 9, 3) := by decide +kernel
theorem dX4_init_12 : decode cX4_init 12 = .ok (.aload_n 0, 1) := by decide +kernel
theorem dX4_init_13 : decode cX4_init 13 = .ok (.bipush 20, 2) := by decide +kernel
theorem dX4_init_15 : decode cX4_init 15 = .ok (.newarray .int, 2) := by decide +kernel
theorem dX4_init_17 : decode cX4_init 17 = .ok (.putfield 15, 3) := by decide +kernel
theorem dX4_init_20 : decode cX4_init 20 = .ok (.aload_n 0, 1) := by decide +kernel
theorem dX4_init_21 : decode cX4_init 21 = .ok (.bipush 20, 2) := by decide +kernel
theorem dX4_init_23 : decode cX4_init 23 = .ok (.newarray .int, 2) := by decide +kernel
theorem dX4_init_25 : decode cX4_init 25 = .ok (.putfield 18, 3) := by decide +kernel
theorem dX4_init_28 : decode cX4_init 28 = .ok (.aload_n 0, 1) := by decide +kernel
theorem dX4_init_29 : decode cX4_init 29 = .ok (.bipush 20, 2) := by decide +kernel
theorem dX4_init_31 : decode cX4_init 31 = .ok (.newarray .int, 2) := by decide +kernel
theorem dX4_init_33 : decode cX4_init 33 = .ok (.putfield 21, 3) := by decide +kernel
theorem dX4_init_36 : decode cX4_init 36 = .ok (.return_, 1) := by decide +kernel
theorem dX4_addSession_0 : decode cX4_addSession 0 = .ok (.aload_n 0, 1) := by decide +kernel
theorem dX4_addSession_1 : decode cX4_addSession 1 = .ok (.getfield 24, 3) := by decide +kernel
theorem dX4_addSession_4 : decode cX4_addSession 4 = .ok (.bipush 20, 2) := by decide +kernel
theorem dX4_addSession_6 : decode cX4_addSession 6 = .ok (.if_icmp .lt 5, 3) := by decide +kernel
theorem dX4_addSession_9 : decode cX4_addSession 9 = .ok (.iconst (-1), 1) := by decide +kernel
theorem dX4_addSession_10 : decode cX4_addSession 10 = .ok (.ireturn, 1) := by decide +kernel
theorem dX4_addSession_11 : decode cX4_addSession 11 = .ok (.aload_n 0, 1) := by decide +kernel
theorem dX4_addSession_12 : decode cX4_addSession 12 = .ok (.getfield 9, 3) := by decide +kernel
theorem dX4_addSession_15 : decode cX4_addSession 15 = .ok (.aload_n 0, 1) := by decide +kernel
theorem dX4_addSession_16 : decode cX4_addSession 16 = .ok (.getfield 24, 3) := by decide +kernel
theorem dX4_addSession_19 : decode cX4_addSession 19 = .ok (.iload_n 1, 1) := by decide +kernel
theorem dX4_addSession_20 : decode cX4_addSession 20 = .ok (.iastore, 1) := by decide +kernel
theorem dX4_addSession_21 : decode cX4_addSession 21 = .ok (.aload_n 0, 1) := by decide +kernel
theorem dX4_addSession_22 : decode cX4_addSession 22 = .ok (.getfield 15, 3) := by decide +kernel
theorem dX4_addSession_25 : decode cX4_addSession 25 = .ok (.aload_n 0, 1) := by decide +kernel
theorem dX4_addSession_26 : decode cX4_addSession 26 = .ok (.getfield 24, 3) := by decide +kernel
theorem dX4_addSession_29 : decode cX4_addSession 29 = .ok (.iload_n 2, 1) := by decide +kernel
theorem dX4_addSession_30 : decode cX4_addSession 30 = .ok (.iastore, 1) := by decide +kernel
theorem dX4_addSession_31 : decode cX4_addSession 31 = .ok (.aload_n 0, 1) := by decide +kernel
theorem dX4_addSession_32 : decode cX4_addSession 32 = .ok (.getfield 18, 3) := by decide +kernel
theorem dX4_addSession_35 : decode cX4_addSession 35 = .ok (.aload_n 0, 1) := by decide +kernel
theorem dX4_addSession_36 : decode cX4_addSession 36 = .ok (.getfield 24, 3) := by decide +kernel
theorem dX4_addSession_39 : decode cX4_addSession 39 = .ok (.iload_n 3, 1) := by decide +kernel
theorem dX4_addSession_40 : decode cX4_addSession 40 = .ok (.iastore, 1) := by decide +kernel
theorem dX4_addSession_41 : decode cX4_addSession 41 = .ok (.aload_n 0, 1) := by decide +kernel
theorem dX4_addSession_42 : decode cX4_addSession 42 = .ok (.dup, 1) := by decide +kernel
theorem dX4_addSession_43 : decode cX4_addSession 43 = .ok (.getfield 24, 3) := by decide +kernel
theorem dX4_addSession_46 : decode cX4_addSession 46 = .ok (.iconst 1, 1) := by decide +kernel
theorem dX4_addSession_47 : decode cX4_addSession 47 = .ok (.iadd, 1) := by decide +kernel
theorem dX4_addSession_48 : decode cX4_addSession 48 = .ok (.putfield 24, 3) := by decide +kernel
theorem dX4_addSession_51 : decode cX4_addSession 51 = .ok (.aload_n 0, 1) := by decide +kernel
theorem dX4_addSession_52 : decode cX4_addSession 52 = .ok (.getfield 24, 3) := by decide +kernel
theorem dX4_addSession_55 : decode cX4_addSession 55 = .ok (.iconst 1, 1) := by decide +kernel
theorem dX4_addSession_56 : decode cX4_addSession 56 = .ok (.isub, 1) := by decide +kernel
theorem dX4_addSession_57 : decode cX4_addSession 57 = .ok (.ireturn, 1) := by decide +kernel
theorem dX4_dayOf_0 : decode cX4_dayOf 0 = .ok (.iload_n 1, 1) := by decide +kernel
theorem dX4_dayOf_1 : decode cX4_dayOf 1 = .ok (.ifCond .lt 11, 3) := by decide +kernel
theorem dX4_dayOf_4 : decode cX4_dayOf 4 = .ok (.iload_n 1, 1) := by decide +kernel
theorem dX4_dayOf_5 : decode cX4_dayOf 5 = .ok (.aload_n 0, 1) := by decide +kernel
theorem dX4_dayOf_6 : decode cX4_dayOf 6 = .ok (.getfield 24, 3) := by decide +kernel
theorem dX4_dayOf_9 : decode cX4_dayOf 9 = .ok (.if_icmp .lt 7, 3) := by decide +kernel
theorem dX4_dayOf_12 : decode cX4_dayOf 12 = .ok (.iconst (-1), 1) := by decide +kernel
theorem dX4_dayOf_13 : decode cX4_dayOf 13 = .ok (.goto 9, 3) := by decide +kernel
theorem dX4_dayOf_16 : decode cX4_dayOf 16 = .ok (.aload_n 0, 1) := by decide +kernel
theorem dX4_dayOf_17 : decode cX4_dayOf 17 = .ok (.getfield 15, 3) := by decide +kernel
theorem dX4_dayOf_20 : decode cX4_dayOf 20 = .ok (.iload_n 1, 1) := by decide +kernel
theorem dX4_dayOf_21 : decode cX4_dayOf 21 = .ok (.iaload, 1) := by decide +kernel
theorem dX4_dayOf_22 : decode cX4_dayOf 22 = .ok (.ireturn, 1) := by decide +kernel
theorem dX4_book_0 : decode cX4_book 0 = .ok (.iload_n 2, 1) := by decide +kernel
theorem dX4_book_1 : decode cX4_book 1 = .ok (.iconst (-1), 1) := by decide +kernel
theorem dX4_book_2 : decode cX4_book 2 = .ok (.if_icmp .ne 5, 3) := by decide +kernel
theorem dX4_book_5 : decode cX4_book 5 = .ok (.iconst (-1), 1) := by decide +kernel
theorem dX4_book_6 : decode cX4_book 6 = .ok (.ireturn, 1) := by decide +kernel
theorem dX4_book_7 : decode cX4_book 7 = .ok (.iconst (-1), 1) := by decide +kernel
theorem dX4_book_8 : decode cX4_book 8 = .ok (.istore_n 3, 1) := by decide +kernel
theorem dX4_book_9 : decode cX4_book 9 = .ok (.iconst 0, 1) := by decide +kernel
theorem dX4_book_10 : decode cX4_book 10 = .ok (.istore 4, 2) := by decide +kernel
theorem dX4_book_12 : decode cX4_book 12 = .ok (.iload 4, 2) := by decide +kernel
theorem dX4_book_14 : decode cX4_book 14 = .ok (.aload_n 0, 1) := by decide +kernel
theorem dX4_book_15 : decode cX4_book 15 = .ok (.getfield 24, 3) := by decide +kernel
theorem dX4_book_18 : decode cX4_book 18 = .ok (.if_icmp .ge 83, 3) := by decide +kernel
theorem dX4_book_21 : decode cX4_book 21 = .ok (.aload_n 0, 1) := by decide +kernel
theorem dX4_book_22 : decode cX4_book 22 = .ok (.getfield 9, 3) := by decide +kernel
theorem dX4_book_25 : decode cX4_book 25 = .ok (.iload 4, 2) := by decide +kernel
theorem dX4_book_27 : decode cX4_book 27 = .ok (.iaload, 1) := by decide +kernel
theorem dX4_book_28 : decode cX4_book 28 = .ok (.iload_n 1, 1) := by decide +kernel
theorem dX4_book_29 : decode cX4_book 29 = .ok (.if_icmp .ne 35, 3) := by decide +kernel
theorem dX4_book_32 : decode cX4_book 32 = .ok (.aload_n 0, 1) := by decide +kernel
theorem dX4_book_33 : decode cX4_book 33 = .ok (.getfield 21, 3) := by decide +kernel
theorem dX4_book_36 : decode cX4_book 36 = .ok (.iload 4, 2) := by decide +kernel
theorem dX4_book_38 : decode cX4_book 38 = .ok (.iaload, 1) := by decide +kernel
theorem dX4_book_39 : decode cX4_book 39 = .ok (.aload_n 0, 1) := by decide +kernel
theorem dX4_book_40 : decode cX4_book 40 = .ok (.getfield 18, 3) := by decide +kernel
theorem dX4_book_43 : decode cX4_book 43 = .ok (.iload 4, 2) := by decide +kernel
theorem dX4_book_45 : decode cX4_book 45 = .ok (.iaload, 1) := by decide +kernel
theorem dX4_book_46 : decode cX4_book 46 = .ok (.if_icmp .ge 18, 3) := by decide +kernel
theorem dX4_book_49 : decode cX4_book 49 = .ok (.aload_n 0, 1) := by decide +kernel
theorem dX4_book_50 : decode cX4_book 50 = .ok (.getfield 15, 3) := by decide +kernel
theorem dX4_book_53 : decode cX4_book 53 = .ok (.iload 4, 2) := by decide +kernel
theorem dX4_book_55 : decode cX4_book 55 = .ok (.iaload, 1) := by decide +kernel
theorem dX4_book_56 : decode cX4_book 56 = .ok (.iload_n 2, 1) := by decide +kernel
theorem dX4_book_57 : decode cX4_book 57 = .ok (.if_icmp .lt 7, 3) := by decide +kernel
theorem dX4_book_60 : decode cX4_book 60 = .ok (.iconst 1, 1) := by decide +kernel
theorem dX4_book_61 : decode cX4_book 61 = .ok (.goto 4, 3) := by decide +kernel
theorem dX4_book_64 : decode cX4_book 64 = .ok (.iconst 0, 1) := by decide +kernel
theorem dX4_book_65 : decode cX4_book 65 = .ok (.istore 5, 2) := by decide +kernel
theorem dX4_book_67 : decode cX4_book 67 = .ok (.iload 5, 2) := by decide +kernel
theorem dX4_book_69 : decode cX4_book 69 = .ok (.ifCond .eq 26, 3) := by decide +kernel
theorem dX4_book_72 : decode cX4_book 72 = .ok (.iload_n 3, 1) := by decide +kernel
theorem dX4_book_73 : decode cX4_book 73 = .ok (.iconst (-1), 1) := by decide +kernel
theorem dX4_book_74 : decode cX4_book 74 = .ok (.if_icmp .eq 18, 3) := by decide +kernel
theorem dX4_book_77 : decode cX4_book 77 = .ok (.aload_n 0, 1) := by decide +kernel
theorem dX4_book_78 : decode cX4_book 78 = .ok (.getfield 15, 3) := by decide +kernel
theorem dX4_book_81 : decode cX4_book 81 = .ok (.iload 4, 2) := by decide +kernel
theorem dX4_book_83 : decode cX4_book 83 = .ok (.iaload, 1) := by decide +kernel
theorem dX4_book_84 : decode cX4_book 84 = .ok (.aload_n 0, 1) := by decide +kernel
theorem dX4_book_85 : decode cX4_book 85 = .ok (.iload_n 3, 1) := by decide +kernel
theorem dX4_book_86 : decode cX4_book 86 = .ok (.invokevirtual 28, 3) := by decide +kernel
theorem dX4_book_89 : decode cX4_book 89 = .ok (.if_icmp .ge 6, 3) := by decide +kernel
theorem dX4_book_92 : decode cX4_book 92 = .ok (.iload 4, 2) := by decide +kernel
theorem dX4_book_94 : decode cX4_book 94 = .ok (.istore_n 3, 1) := by decide +kernel
theorem dX4_book_95 : decode cX4_book 95 = .ok (.iinc 4 1, 3) := by decide +kernel
theorem dX4_book_98 : decode cX4_book 98 = .ok (.goto (-86), 3) := by decide +kernel
theorem dX4_book_101 : decode cX4_book 101 = .ok (.iload_n 3, 1) := by decide +kernel
theorem dX4_book_102 : decode cX4_book 102 = .ok (.ifCond .lt 21, 3) := by decide +kernel
theorem dX4_book_105 : decode cX4_book 105 = .ok (.iload_n 3, 1) := by decide +kernel
theorem dX4_book_106 : decode cX4_book 106 = .ok (.aload_n 0, 1) := by decide +kernel
theorem dX4_book_107 : decode cX4_book 107 = .ok (.getfield 24, 3) := by decide +kernel
theorem dX4_book_110 : decode cX4_book 110 = .ok (.if_icmp .ge 13, 3) := by decide +kernel
theorem dX4_book_113 : decode cX4_book 113 = .ok (.aload_n 0, 1) := by decide +kernel
theorem dX4_book_114 : decode cX4_book 114 = .ok (.getfield 21, 3) := by decide +kernel
theorem dX4_book_117 : decode cX4_book 117 = .ok (.iload_n 3, 1) := by decide +kernel
theorem dX4_book_118 : decode cX4_book 118 = .ok (.dup2, 1) := by decide +kernel
theorem dX4_book_119 : decode cX4_book 119 = .ok (.iaload, 1) := by decide +kernel
theorem dX4_book_120 : decode cX4_book 120 = .ok (.iconst 1, 1) := by decide +kernel
theorem dX4_book_121 : decode cX4_book 121 = .ok (.iadd, 1) := by decide +kernel
theorem dX4_book_122 : decode cX4_book 122 = .ok (.iastore, 1) := by decide +kernel
theorem dX4_book_123 : decode cX4_book 123 = .ok (.iload_n 3, 1) := by decide +kernel
theorem dX4_book_124 : decode cX4_book 124 = .ok (.ireturn, 1) := by decide +kernel
theorem dX4_release_0 : decode cX4_release 0 = .ok (.iload_n 1, 1) := by decide +kernel
theorem dX4_release_1 : decode cX4_release 1 = .ok (.ifCond .lt 21, 3) := by decide +kernel
theorem dX4_release_4 : decode cX4_release 4 = .ok (.iload_n 1, 1) := by decide +kernel
theorem dX4_release_5 : decode cX4_release 5 = .ok (.aload_n 0, 1) := by decide +kernel
theorem dX4_release_6 : decode cX4_release 6 = .ok (.getfield 24, 3) := by decide +kernel
theorem dX4_release_9 : decode cX4_release 9 = .ok (.if_icmp .ge 13, 3) := by decide +kernel
theorem dX4_release_12 : decode cX4_release 12 = .ok (.aload_n 0, 1) := by decide +kernel
theorem dX4_release_13 : decode cX4_release 13 = .ok (.getfield 21, 3) := by decide +kernel
theorem dX4_release_16 : decode cX4_release 16 = .ok (.iload_n 1, 1) := by decide +kernel
theorem dX4_release_17 : decode cX4_release 17 = .ok (.dup2, 1) := by decide +kernel
theorem dX4_release_18 : decode cX4_release 18 = .ok (.iaload, 1) := by decide +kernel
theorem dX4_release_19 : decode cX4_release 19 = .ok (.iconst 1, 1) := by decide +kernel
theorem dX4_release_20 : decode cX4_release 20 = .ok (.isub, 1) := by decide +kernel
theorem dX4_release_21 : decode cX4_release 21 = .ok (.iastore, 1) := by decide +kernel
theorem dX4_release_22 : decode cX4_release 22 = .ok (.return_, 1) := by decide +kernel
theorem dX4_seatsTaken_0 : decode cX4_seatsTaken 0 = .ok (.iconst 0, 1) := by decide +kernel
theorem dX4_seatsTaken_1 : decode cX4_seatsTaken 1 = .ok (.istore_n 1, 1) := by decide +kernel
theorem dX4_seatsTaken_2 : decode cX4_seatsTaken 2 = .ok (.iconst 0, 1) := by decide +kernel
theorem dX4_seatsTaken_3 : decode cX4_seatsTaken 3 = .ok (.istore_n 2, 1) := by decide +kernel
theorem dX4_seatsTaken_4 : decode cX4_seatsTaken 4 = .ok (.iload_n 2, 1) := by decide +kernel
theorem dX4_seatsTaken_5 : decode cX4_seatsTaken 5 = .ok (.aload_n 0, 1) := by decide +kernel
theorem dX4_seatsTaken_6 : decode cX4_seatsTaken 6 = .ok (.getfield 24, 3) := by decide +kernel
theorem dX4_seatsTaken_9 : decode cX4_seatsTaken 9 = .ok (.if_icmp .ge 18, 3) := by decide +kernel
theorem dX4_seatsTaken_12 : decode cX4_seatsTaken 12 = .ok (.iload_n 1, 1) := by decide +kernel
theorem dX4_seatsTaken_13 : decode cX4_seatsTaken 13 = .ok (.aload_n 0, 1) := by decide +kernel
theorem dX4_seatsTaken_14 : decode cX4_seatsTaken 14 = .ok (.getfield 21, 3) := by decide +kernel
theorem dX4_seatsTaken_17 : decode cX4_seatsTaken 17 = .ok (.iload_n 2, 1) := by decide +kernel
theorem dX4_seatsTaken_18 : decode cX4_seatsTaken 18 = .ok (.iaload, 1) := by decide +kernel
theorem dX4_seatsTaken_19 : decode cX4_seatsTaken 19 = .ok (.iadd, 1) := by decide +kernel
theorem dX4_seatsTaken_20 : decode cX4_seatsTaken 20 = .ok (.istore_n 1, 1) := by decide +kernel
theorem dX4_seatsTaken_21 : decode cX4_seatsTaken 21 = .ok (.iinc 2 1, 3) := by decide +kernel
theorem dX4_seatsTaken_24 : decode cX4_seatsTaken 24 = .ok (.goto (-20), 3) := by decide +kernel
theorem dX4_seatsTaken_27 : decode cX4_seatsTaken 27 = .ok (.iload_n 1, 1) := by decide +kernel
theorem dX4_seatsTaken_28 : decode cX4_seatsTaken 28 = .ok (.ireturn, 1) := by decide +kernel
theorem dX5_init_0 : decode cX5_init 0 = .ok (.aload_n 0, 1) := by decide +kernel
theorem dX5_init_1 : decode cX5_init 1 = .ok (.invokespecial 1, 3) := by decide +kernel
theorem dX5_init_4 : decode cX5_init 4 = .ok (.aload_n 0, 1) := by decide +kernel
theorem dX5_init_5 : decode cX5_init 5 = .ok (.new 7, 3) := by decide +kernel
theorem dX5_init_8 : decode cX5_init 8 = .ok (.dup, 1) := by decide +kernel
theorem dX5_init_9 : decode cX5_init 9 = .ok (.invokespecial 9, 3) := by decide +kernel
theorem dX5_init_12 : decode cX5_init 12 = .ok (.putfield 10, 3) := by decide +kernel
theorem dX5_init_15 : decode cX5_init 15 = .ok (.aload_n 0, 1) := by decide +kernel
theorem dX5_init_16 : decode cX5_init 16 = .ok (.new 16, 3) := by decide +kernel
theorem dX5_init_19 : decode cX5_init 19 = .ok (.dup, 1) := by decide +kernel
theorem dX5_init_20 : decode cX5_init 20 = .ok (.invokespecial 18, 3) := by decide +kernel
theorem dX5_init_23 : decode cX5_init 23 = .ok (.putfield 19, 3) := by decide +kernel
theorem dX5_init_26 : decode cX5_init 26 = .ok (.aload_n 0, 1) := by decide +kernel
theorem dX5_init_27 : decode cX5_init 27 = .ok (.new 23, 3) := by decide +kernel
theorem dX5_init_30 : decode cX5_init 30 = .ok (.dup, 1) := by decide +kernel
theorem dX5_init_31 : decode cX5_init 31 = .ok (.invokespecial 25, 3) := by decide +kernel
theorem dX5_init_34 : decode cX5_init 34 = .ok (.putfield 26, 3) := by decide +kernel
theorem dX5_init_37 : decode cX5_init 37 = .ok (.aload_n 0, 1) := by decide +kernel
theorem dX5_init_38 : decode cX5_init 38 = .ok (.new 30, 3) := by decide +kernel
theorem dX5_init_41 : decode cX5_init 41 = .ok (.dup, 1) := by decide +kernel
theorem dX5_init_42 : decode cX5_init 42 = .ok (.aload_n 0, 1) := by decide +kernel
theorem dX5_init_43 : decode cX5_init 43 = .ok (.getfield 10, 3) := by decide +kernel
theorem dX5_init_46 : decode cX5_init 46 = .ok (.aload_n 0, 1) := by decide +kernel
theorem dX5_init_47 : decode cX5_init 47 = .ok (.getfield 19, 3) := by decide +kernel
theorem dX5_init_50 : decode cX5_init 50 = .ok (.aload_n 0, 1) := by decide +kernel
theorem dX5_init_51 : decode cX5_init 51 = .ok (.getfield 26, 3) := by decide +kernel
theorem dX5_init_54 : decode cX5_init 54 = .ok (.invokespecial 32, 3) := by decide +kernel
theorem dX5_init_57 : decode cX5_init 57 = .ok (.putfield 35, 3) := by decide +kernel
theorem dX5_init_60 : decode cX5_init 60 = .ok (.aload_n 0, 1) := by decide +kernel
theorem dX5_init_61 : decode cX5_init 61 = .ok (.bipush 8, 2) := by decide +kernel
theorem dX5_init_63 : decode cX5_init 63 = .ok (.anewarray 39, 3) := by decide +kernel
theorem dX5_init_66 : decode cX5_init 66 = .ok (.putfield 41, 3) := by decide +kernel
theorem dX5_init_69 : decode cX5_init 69 = .ok (.iconst 0, 1) := by decide +kernel
theorem dX5_init_70 : decode cX5_init 70 = .ok (.istore_n 1, 1) := by decide +kernel
theorem dX5_init_71 : decode cX5_init 71 = .ok (.iload_n 1, 1) := by decide +kernel
theorem dX5_init_72 : decode cX5_init 72 = .ok (.bipush 8, 2) := by decide +kernel
theorem dX5_init_74 : decode cX5_init 74 = .ok (.if_icmp .ge 22, 3) := by decide +kernel
theorem dX5_init_77 : decode cX5_init 77 = .ok (.aload_n 0, 1) := by decide +kernel
theorem dX5_init_78 : decode cX5_init 78 = .ok (.getfield 41, 3) := by decide +kernel
theorem dX5_init_81 : decode cX5_init 81 = .ok (.iload_n 1, 1) := by decide +kernel
theorem dX5_init_82 : decode cX5_init 82 = .ok (.new 39, 3) := by decide +kernel
theorem dX5_init_85 : decode cX5_init 85 = .ok (.dup, 1) := by decide +kernel
theorem dX5_init_86 : decode cX5_init 86 = .ok (.invokespecial 45, 3) := by decide +kernel
theorem dX5_init_89 : decode cX5_init 89 = .ok (.aastore, 1) := by decide +kernel
theorem dX5_init_90 : decode cX5_init 90 = .ok (.iinc 1 1, 3) := by decide +kernel
theorem dX5_init_93 : decode cX5_init 93 = .ok (.goto (-22), 3) := by decide +kernel
theorem dX5_init_96 : decode cX5_init 96 = .ok (.return_, 1) := by decide +kernel
theorem dX5_step_0 : decode cX5_step 0 = .ok (.iload_n 1, 1) := by decide +kernel
theorem dX5_step_1 : decode cX5_step 1 = .ok (.iconst 0, 1) := by decide +kernel
theorem dX5_step_2 : decode cX5_step 2 = .ok (.iconst 3, 1) := by decide +kernel
theorem dX5_step_3 : decode cX5_step 3 = .ok (.invokestatic 46, 3) := by decide +kernel
theorem dX5_step_6 : decode cX5_step 6 = .ok (.ifCond .eq 33, 3) := by decide +kernel
theorem dX5_step_9 : decode cX5_step 9 = .ok (.iload_n 2, 1) := by decide +kernel
theorem dX5_step_10 : decode cX5_step 10 = .ok (.iconst 1, 1) := by decide +kernel
theorem dX5_step_11 : decode cX5_step 11 = .ok (.bipush 9, 2) := by decide +kernel
theorem dX5_step_13 : decode cX5_step 13 = .ok (.invokestatic 46, 3) := by decide +kernel
theorem dX5_step_16 : decode cX5_step 16 = .ok (.ifCond .eq 23, 3) := by decide +kernel
theorem dX5_step_19 : decode cX5_step 19 = .ok (.aload_n 0, 1) := by decide +kernel
theorem dX5_step_20 : decode cX5_step 20 = .ok (.getfield 10, 3) := by decide +kernel
theorem dX5_step_23 : decode cX5_step 23 = .ok (.iload_n 3, 1) := by decide +kernel
theorem dX5_step_24 : decode cX5_step 24 = .ok (.invokevirtual 50, 3) := by decide +kernel
theorem dX5_step_27 : decode cX5_step 27 = .ok (.ifCond .eq 12, 3) := by decide +kernel
theorem dX5_step_30 : decode cX5_step 30 = .ok (.iload_n 1, 1) := by decide +kernel
theorem dX5_step_31 : decode cX5_step 31 = .ok (.iload 4, 2) := by decide +kernel
theorem dX5_step_33 : decode cX5_step 33 = .ok (.invokestatic 54, 3) := by decide +kernel
theorem dX5_step_36 : decode cX5_step 36 = .ok (.ifCond .ne 13, 3) := by decide +kernel
theorem dX5_step_39 : decode cX5_step 39 = .ok (.new 58, 3) := by decide +kernel
theorem dX5_step_42 : decode cX5_step 42 = .ok (.dup, 1) := by decide +kernel
theorem dX5_step_43 : decode cX5_step 43 = .ok (.ldc 60, 2) := by decide +kernel
theorem dX5_step_45 : decode cX5_step 45 = .ok (.invokespecial 62, 3) := by decide +kernel
theorem dX5_step_48 : decode cX5_step 48 = .ok (.athrow, 1) := by decide +kernel
theorem dX5_step_49 : decode cX5_step 49 = .ok (.aload_n 0, 1) := by decide +kernel
theorem dX5_step_50 : decode cX5_step 50 = .ok (.getfield 10, 3) := by decide +kernel
theorem dX5_step_53 : decode cX5_step 53 = .ok (.iload_n 1, 1) := by decide +kernel
theorem dX5_step_54 : decode cX5_step 54 = .ok (.iload_n 2, 1) := by decide +kernel
theorem dX5_step_55 : decode cX5_step 55 = .ok (.iload_n 3, 1) := by decide +kernel
theorem dX5_step_56 : decode cX5_step 56 = .ok (.iload 4, 2) := by decide +kernel
theorem dX5_step_58 : decode cX5_step 58 = .ok (.invokevirtual 65, 3) := by decide +kernel
theorem dX5_step_61 : decode cX5_step 61 = .ok (.istore 5, 2) := by decide +kernel
theorem dX5_step_63 : decode cX5_step 63 = .ok (.iload 5, 2) := by decide +kernel
theorem dX5_step_65 : decode cX5_step 65 = .ok (.iconst (-1), 1) := by decide +kernel
theorem dX5_step_66 : decode cX5_step 66 = .ok (.if_icmp .ne 13, 3) := by decide +kernel
theorem dX5_step_69 : decode cX5_step 69 = .ok (.new 69, 3) := by decide +kernel
theorem dX5_step_72 : decode cX5_step 72 = .ok (.dup, 1) := by decide +kernel
theorem dX5_step_73 : decode cX5_step 73 = .ok (.ldc 71, 2) := by decide +kernel
theorem dX5_step_75 : decode cX5_step 75 = .ok (.invokespecial 73, 3) := by decide +kernel
theorem dX5_step_78 : decode cX5_step 78 = .ok (.athrow, 1) := by decide +kernel
theorem dX5_step_79 : decode cX5_step 79 = .ok (.iload 5, 2) := by decide +kernel
theorem dX5_step_81 : decode cX5_step 81 = .ok (.ireturn, 1) := by decide +kernel
theorem dX5_role_0 : decode cX5_role 0 = .ok (.iload_n 1, 1) := by decide +kernel
theorem dX5_role_1 : decode cX5_role 1 = .ok (.ifCond .lt 8, 3) := by decide +kernel
theorem dX5_role_4 : decode cX5_role 4 = .ok (.iload_n 1, 1) := by decide +kernel
theorem dX5_role_5 : decode cX5_role 5 = .ok (.iconst 4, 1) := by decide +kernel
theorem dX5_role_6 : decode cX5_role 6 = .ok (.if_icmp .lt 13, 3) := by decide +kernel
theorem dX5_role_9 : decode cX5_role 9 = .ok (.new 74, 3) := by decide +kernel
theorem dX5_role_12 : decode cX5_role 12 = .ok (.dup, 1) := by decide +kernel
theorem dX5_role_13 : decode cX5_role 13 = .ok (.ldc 76, 2) := by decide +kernel
theorem dX5_role_15 : decode cX5_role 15 = .ok (.invokespecial 78, 3) := by decide +kernel
theorem dX5_role_18 : decode cX5_role 18 = .ok (.athrow, 1) := by decide +kernel
theorem dX5_role_19 : decode cX5_role 19 = .ok (.aload_n 0, 1) := by decide +kernel
theorem dX5_role_20 : decode cX5_role 20 = .ok (.getfield 10, 3) := by decide +kernel
theorem dX5_role_23 : decode cX5_role 23 = .ok (.iload_n 2, 1) := by decide +kernel
theorem dX5_role_24 : decode cX5_role 24 = .ok (.invokevirtual 50, 3) := by decide +kernel
theorem dX5_role_27 : decode cX5_role 27 = .ok (.ifCond .ne 13, 3) := by decide +kernel
theorem dX5_role_30 : decode cX5_role 30 = .ok (.new 58, 3) := by decide +kernel
theorem dX5_role_33 : decode cX5_role 33 = .ok (.dup, 1) := by decide +kernel
theorem dX5_role_34 : decode cX5_role 34 = .ok (.ldc 79, 2) := by decide +kernel
theorem dX5_role_36 : decode cX5_role 36 = .ok (.invokespecial 62, 3) := by decide +kernel
theorem dX5_role_39 : decode cX5_role 39 = .ok (.athrow, 1) := by decide +kernel
theorem dX5_role_40 : decode cX5_role 40 = .ok (.aload_n 0, 1) := by decide +kernel
theorem dX5_role_41 : decode cX5_role 41 = .ok (.getfield 10, 3) := by decide +kernel
theorem dX5_role_44 : decode cX5_role 44 = .ok (.getfield 81, 3) := by decide +kernel
theorem dX5_role_47 : decode cX5_role 47 = .ok (.iload_n 1, 1) := by decide +kernel
theorem dX5_role_48 : decode cX5_role 48 = .ok (.iaload, 1) := by decide +kernel
theorem dX5_role_49 : decode cX5_role 49 = .ok (.istore_n 3, 1) := by decide +kernel
theorem dX5_role_50 : decode cX5_role 50 = .ok (.aload_n 0, 1) := by decide +kernel
theorem dX5_role_51 : decode cX5_role 51 = .ok (.getfield 10, 3) := by decide +kernel
theorem dX5_role_54 : decode cX5_role 54 = .ok (.getfield 81, 3) := by decide +kernel
theorem dX5_role_57 : decode cX5_role 57 = .ok (.iload_n 1, 1) := by decide +kernel
theorem dX5_role_58 : decode cX5_role 58 = .ok (.iload_n 2, 1) := by decide +kernel
theorem dX5_role_59 : decode cX5_role 59 = .ok (.iastore, 1) := by decide +kernel
theorem dX5_role_60 : decode cX5_role 60 = .ok (.iload_n 3, 1) := by decide +kernel
theorem dX5_role_61 : decode cX5_role 61 = .ok (.ireturn, 1) := by decide +kernel
theorem dX5_right_0 : decode cX5_right 0 = .ok (.iload_n 1, 1) := by decide +kernel
theorem dX5_right_1 : decode cX5_right 1 = .ok (.iconst 1, 1) := by decide +kernel
theorem dX5_right_2 : decode cX5_right 2 = .ok (.if_icmp .lt 14, 3) := by decide +kernel
theorem dX5_right_5 : decode cX5_right 5 = .ok (.aload_n 0, 1) := by decide +kernel
theorem dX5_right_6 : decode cX5_right 6 = .ok (.getfield 10, 3) := by decide +kernel
theorem dX5_right_9 : decode cX5_right 9 = .ok (.iload_n 1, 1) := by decide +kernel
theorem dX5_right_10 : decode cX5_right 10 = .ok (.invokevirtual 50, 3) := by decide +kernel
theorem dX5_right_13 : decode cX5_right 13 = .ok (.ifCond .ne 13, 3) := by decide +kernel
theorem dX5_right_16 : decode cX5_right 16 = .ok (.new 58, 3) := by decide +kernel
theorem dX5_right_19 : decode cX5_right 19 = .ok (.dup, 1) := by decide +kernel
theorem dX5_right_20 : decode cX5_right 20 = .ok (.ldc 79, 2) := by decide +kernel
theorem dX5_right_22 : decode cX5_right 22 = .ok (.invokespecial 62, 3) := by decide +kernel
theorem dX5_right_25 : decode cX5_right 25 = .ok (.athrow, 1) := by decide +kernel
theorem dX5_right_26 : decode cX5_right 26 = .ok (.aload_n 0, 1) := by decide +kernel
theorem dX5_right_27 : decode cX5_right 27 = .ok (.getfield 10, 3) := by decide +kernel
theorem dX5_right_30 : decode cX5_right 30 = .ok (.iload_n 1, 1) := by decide +kernel
theorem dX5_right_31 : decode cX5_right 31 = .ok (.invokevirtual 85, 3) := by decide +kernel
theorem dX5_right_34 : decode cX5_right 34 = .ok (.istore_n 2, 1) := by decide +kernel
theorem dX5_right_35 : decode cX5_right 35 = .ok (.iload_n 2, 1) := by decide +kernel
theorem dX5_right_36 : decode cX5_right 36 = .ok (.iconst (-1), 1) := by decide +kernel
theorem dX5_right_37 : decode cX5_right 37 = .ok (.if_icmp .ne 13, 3) := by decide +kernel
theorem dX5_right_40 : decode cX5_right 40 = .ok (.new 69, 3) := by decide +kernel
theorem dX5_right_43 : decode cX5_right 43 = .ok (.dup, 1) := by decide +kernel
theorem dX5_right_44 : decode cX5_right 44 = .ok (.ldc 89, 2) := by decide +kernel
theorem dX5_right_46 : decode cX5_right 46 = .ok (.invokespecial 73, 3) := by decide +kernel
theorem dX5_right_49 : decode cX5_right 49 = .ok (.athrow, 1) := by decide +kernel
theorem dX5_right_50 : decode cX5_right 50 = .ok (.iload_n 2, 1) := by decide +kernel
theorem dX5_right_51 : decode cX5_right 51 = .ok (.ireturn, 1) := by decide +kernel
theorem dX5_stock_0 : decode cX5_stock 0 = .ok (.iload_n 1, 1) := by decide +kernel
theorem dX5_stock_1 : decode cX5_stock 1 = .ok (.ifCond .lt 8, 3) := by decide +kernel
theorem dX5_stock_4 : decode cX5_stock 4 = .ok (.iload_n 1, 1) := by decide +kernel
theorem dX5_stock_5 : decode cX5_stock 5 = .ok (.iconst 4, 1) := by decide +kernel
theorem dX5_stock_6 : decode cX5_stock 6 = .ok (.if_icmp .lt 13, 3) := by decide +kernel
theorem dX5_stock_9 : decode cX5_stock 9 = .ok (.new 74, 3) := by decide +kernel
theorem dX5_stock_12 : decode cX5_stock 12 = .ok (.dup, 1) := by decide +kernel
theorem dX5_stock_13 : decode cX5_stock 13 = .ok (.ldc 91, 2) := by decide +kernel
theorem dX5_stock_15 : decode cX5_stock 15 = .ok (.invokespecial 78, 3) := by decide +kernel
theorem dX5_stock_18 : decode cX5_stock 18 = .ok (.athrow, 1) := by decide +kernel
theorem dX5_stock_19 : decode cX5_stock 19 = .ok (.iload_n 2, 1) := by decide +kernel
theorem dX5_stock_20 : decode cX5_stock 20 = .ok (.iconst 1, 1) := by decide +kernel
theorem dX5_stock_21 : decode cX5_stock 21 = .ok (.bipush 20, 2) := by decide +kernel
theorem dX5_stock_23 : decode cX5_stock 23 = .ok (.invokestatic 46, 3) := by decide +kernel
theorem dX5_stock_26 : decode cX5_stock 26 = .ok (.ifCond .ne 13, 3) := by decide +kernel
theorem dX5_stock_29 : decode cX5_stock 29 = .ok (.new 58, 3) := by decide +kernel
theorem dX5_stock_32 : decode cX5_stock 32 = .ok (.dup, 1) := by decide +kernel
theorem dX5_stock_33 : decode cX5_stock 33 = .ok (.ldc 93, 2) := by decide +kernel
theorem dX5_stock_35 : decode cX5_stock 35 = .ok (.invokespecial 62, 3) := by decide +kernel
theorem dX5_stock_38 : decode cX5_stock 38 = .ok (.athrow, 1) := by decide +kernel
theorem dX5_stock_39 : decode cX5_stock 39 = .ok (.aload_n 0, 1) := by decide +kernel
theorem dX5_stock_40 : decode cX5_stock 40 = .ok (.getfield 19, 3) := by decide +kernel
theorem dX5_stock_43 : decode cX5_stock 43 = .ok (.iload_n 1, 1) := by decide +kernel
theorem dX5_stock_44 : decode cX5_stock 44 = .ok (.iload_n 2, 1) := by decide +kernel
theorem dX5_stock_45 : decode cX5_stock 45 = .ok (.invokevirtual 95, 3) := by decide +kernel
theorem dX5_stock_48 : decode cX5_stock 48 = .ok (.aload_n 0, 1) := by decide +kernel
theorem dX5_stock_49 : decode cX5_stock 49 = .ok (.getfield 19, 3) := by decide +kernel
theorem dX5_stock_52 : decode cX5_stock 52 = .ok (.getfield 99, 3) := by decide +kernel
theorem dX5_stock_55 : decode cX5_stock 55 = .ok (.iload_n 1, 1) := by decide +kernel
theorem dX5_stock_56 : decode cX5_stock 56 = .ok (.iaload, 1) := by decide +kernel
theorem dX5_stock_57 : decode cX5_stock 57 = .ok (.ireturn, 1) := by decide +kernel
theorem dX5_order_0 : decode cX5_order 0 = .ok (.iload_n 1, 1) := by decide +kernel
theorem dX5_order_1 : decode cX5_order 1 = .ok (.ifCond .lt 8, 3) := by decide +kernel
theorem dX5_order_4 : decode cX5_order 4 = .ok (.iload_n 1, 1) := by decide +kernel
theorem dX5_order_5 : decode cX5_order 5 = .ok (.iconst 4, 1) := by decide +kernel
theorem dX5_order_6 : decode cX5_order 6 = .ok (.if_icmp .lt 13, 3) := by decide +kernel
theorem dX5_order_9 : decode cX5_order 9 = .ok (.new 74, 3) := by decide +kernel
theorem dX5_order_12 : decode cX5_order 12 = .ok (.dup, 1) := by decide +kernel
theorem dX5_order_13 : decode cX5_order 13 = .ok (.ldc 91, 2) := by decide +kernel
theorem dX5_order_15 : decode cX5_order 15 = .ok (.invokespecial 78, 3) := by decide +kernel
theorem dX5_order_18 : decode cX5_order 18 = .ok (.athrow, 1) := by decide +kernel
theorem dX5_order_19 : decode cX5_order 19 = .ok (.iload_n 2, 1) := by decide +kernel
theorem dX5_order_20 : decode cX5_order 20 = .ok (.iconst 1, 1) := by decide +kernel
theorem dX5_order_21 : decode cX5_order 21 = .ok (.bipush 20, 2) := by decide +kernel
theorem dX5_order_23 : decode cX5_order 23 = .ok (.invokestatic 46, 3) := by decide +kernel
theorem dX5_order_26 : decode cX5_order 26 = .ok (.ifCond .eq 11, 3) := by decide +kernel
theorem dX5_order_29 : decode cX5_order 29 = .ok (.aload_n 0, 1) := by decide +kernel
theorem dX5_order_30 : decode cX5_order 30 = .ok (.iload_n 3, 1) := by decide +kernel
theorem dX5_order_31 : decode cX5_order 31 = .ok (.invokevirtual 102, 3) := by decide +kernel
theorem dX5_order_34 : decode cX5_order 34 = .ok (.ifCond .ne 13, 3) := by decide +kernel
theorem dX5_order_37 : decode cX5_order 37 = .ok (.new 58, 3) := by decide +kernel
theorem dX5_order_40 : decode cX5_order 40 = .ok (.dup, 1) := by decide +kernel
theorem dX5_order_41 : decode cX5_order 41 = .ok (.ldc 105, 2) := by decide +kernel
theorem dX5_order_43 : decode cX5_order 43 = .ok (.invokespecial 62, 3) := by decide +kernel
theorem dX5_order_46 : decode cX5_order 46 = .ok (.athrow, 1) := by decide +kernel
theorem dX5_order_47 : decode cX5_order 47 = .ok (.aload_n 0, 1) := by decide +kernel
theorem dX5_order_48 : decode cX5_order 48 = .ok (.getfield 19, 3) := by decide +kernel
theorem dX5_order_51 : decode cX5_order 51 = .ok (.iload_n 1, 1) := by decide +kernel
theorem dX5_order_52 : decode cX5_order 52 = .ok (.iload_n 2, 1) := by decide +kernel
theorem dX5_order_53 : decode cX5_order 53 = .ok (.iload_n 3, 1) := by decide +kernel
theorem dX5_order_54 : decode cX5_order 54 = .ok (.invokevirtual 107, 3) := by decide +kernel
theorem dX5_order_57 : decode cX5_order 57 = .ok (.istore 4, 2) := by decide +kernel
theorem dX5_order_59 : decode cX5_order 59 = .ok (.iload 4, 2) := by decide +kernel
theorem dX5_order_61 : decode cX5_order 61 = .ok (.iconst (-1), 1) := by decide +kernel
theorem dX5_order_62 : decode cX5_order 62 = .ok (.if_icmp .ne 13, 3) := by decide +kernel
theorem dX5_order_65 : decode cX5_order 65 = .ok (.new 69, 3) := by decide +kernel
theorem dX5_order_68 : decode cX5_order 68 = .ok (.dup, 1) := by decide +kernel
theorem dX5_order_69 : decode cX5_order 69 = .ok (.ldc 111, 2) := by decide +kernel
theorem dX5_order_71 : decode cX5_order 71 = .ok (.invokespecial 73, 3) := by decide +kernel
theorem dX5_order_74 : decode cX5_order 74 = .ok (.athrow, 1) := by decide +kernel
theorem dX5_order_75 : decode cX5_order 75 = .ok (.iload 4, 2) := by decide +kernel
theorem dX5_order_77 : decode cX5_order 77 = .ok (.ireturn, 1) := by decide +kernel
theorem dX5_late_0 : decode cX5_late 0 = .ok (.aload_n 0, 1) := by decide +kernel
theorem dX5_late_1 : decode cX5_late 1 = .ok (.iload_n 1, 1) := by decide +kernel
theorem dX5_late_2 : decode cX5_late 2 = .ok (.iload_n 2, 1) := by decide +kernel
theorem dX5_late_3 : decode cX5_late 3 = .ok (.invokevirtual 113, 3) := by decide +kernel
theorem dX5_late_6 : decode cX5_late 6 = .ok (.aload_n 0, 1) := by decide +kernel
theorem dX5_late_7 : decode cX5_late 7 = .ok (.getfield 19, 3) := by decide +kernel
theorem dX5_late_10 : decode cX5_late 10 = .ok (.iload_n 1, 1) := by decide +kernel
theorem dX5_late_11 : decode cX5_late 11 = .ok (.iload_n 2, 1) := by decide +kernel
theorem dX5_late_12 : decode cX5_late 12 = .ok (.invokevirtual 116, 3) := by decide +kernel
theorem dX5_late_15 : decode cX5_late 15 = .ok (.ireturn, 1) := by decide +kernel
theorem dX5_session_0 : decode cX5_session 0 = .ok (.iload_n 1, 1) := by decide +kernel
theorem dX5_session_1 : decode cX5_session 1 = .ok (.ifCond .lt 14, 3) := by decide +kernel
theorem dX5_session_4 : decode cX5_session 4 = .ok (.iload_n 1, 1) := by decide +kernel
theorem dX5_session_5 : decode cX5_session 5 = .ok (.aload_n 0, 1) := by decide +kernel
theorem dX5_session_6 : decode cX5_session 6 = .ok (.getfield 10, 3) := by decide +kernel
theorem dX5_session_9 : decode cX5_session 9 = .ok (.getfield 120, 3) := by decide +kernel
theorem dX5_session_12 : decode cX5_session 12 = .ok (.if_icmp .lt 13, 3) := by decide +kernel
theorem dX5_session_15 : decode cX5_session 15 = .ok (.new 74, 3) := by decide +kernel
theorem dX5_session_18 : decode cX5_session 18 = .ok (.dup, 1) := by decide +kernel
theorem dX5_session_19 : decode cX5_session 19 = .ok (.ldc 124, 2) := by decide +kernel
theorem dX5_session_21 : decode cX5_session 21 = .ok (.invokespecial 78, 3) := by decide +kernel
theorem dX5_session_24 : decode cX5_session 24 = .ok (.athrow, 1) := by decide +kernel
theorem dX5_session_25 : decode cX5_session 25 = .ok (.aload_n 0, 1) := by decide +kernel
theorem dX5_session_26 : decode cX5_session 26 = .ok (.getfield 10, 3) := by decide +kernel
theorem dX5_session_29 : decode cX5_session 29 = .ok (.getfield 126, 3) := by decide +kernel
theorem dX5_session_32 : decode cX5_session 32 = .ok (.iload_n 1, 1) := by decide +kernel
theorem dX5_session_33 : decode cX5_session 33 = .ok (.iaload, 1) := by decide +kernel
theorem dX5_session_34 : decode cX5_session 34 = .ok (.iconst 2, 1) := by decide +kernel
theorem dX5_session_35 : decode cX5_session 35 = .ok (.if_icmp .ne 21, 3) := by decide +kernel
theorem dX5_session_38 : decode cX5_session 38 = .ok (.aload_n 0, 1) := by decide +kernel
theorem dX5_session_39 : decode cX5_session 39 = .ok (.iload_n 2, 1) := by decide +kernel
theorem dX5_session_40 : decode cX5_session 40 = .ok (.invokevirtual 102, 3) := by decide +kernel
theorem dX5_session_43 : decode cX5_session 43 = .ok (.ifCond .eq 13, 3) := by decide +kernel
theorem dX5_session_46 : decode cX5_session 46 = .ok (.iload_n 3, 1) := by decide +kernel
theorem dX5_session_47 : decode cX5_session 47 = .ok (.iconst 1, 1) := by decide +kernel
theorem dX5_session_48 : decode cX5_session 48 = .ok (.bipush 9, 2) := by decide +kernel
theorem dX5_session_50 : decode cX5_session 50 = .ok (.invokestatic 46, 3) := by decide +kernel
theorem dX5_session_53 : decode cX5_session 53 = .ok (.ifCond .ne 13, 3) := by decide +kernel
theorem dX5_session_56 : decode cX5_session 56 = .ok (.new 58, 3) := by decide +kernel
theorem dX5_session_59 : decode cX5_session 59 = .ok (.dup, 1) := by decide +kernel
theorem dX5_session_60 : decode cX5_session 60 = .ok (.ldc 129, 2) := by decide +kernel
theorem dX5_session_62 : decode cX5_session 62 = .ok (.invokespecial 62, 3) := by decide +kernel
theorem dX5_session_65 : decode cX5_session 65 = .ok (.athrow, 1) := by decide +kernel
theorem dX5_session_66 : decode cX5_session 66 = .ok (.aload_n 0, 1) := by decide +kernel
theorem dX5_session_67 : decode cX5_session 67 = .ok (.getfield 26, 3) := by decide +kernel
theorem dX5_session_70 : decode cX5_session 70 = .ok (.iload_n 1, 1) := by decide +kernel
theorem dX5_session_71 : decode cX5_session 71 = .ok (.iload_n 2, 1) := by decide +kernel
theorem dX5_session_72 : decode cX5_session 72 = .ok (.iload_n 3, 1) := by decide +kernel
theorem dX5_session_73 : decode cX5_session 73 = .ok (.invokevirtual 131, 3) := by decide +kernel
theorem dX5_session_76 : decode cX5_session 76 = .ok (.istore 4, 2) := by decide +kernel
theorem dX5_session_78 : decode cX5_session 78 = .ok (.iload 4, 2) := by decide +kernel
theorem dX5_session_80 : decode cX5_session 80 = .ok (.iconst (-1), 1) := by decide +kernel
theorem dX5_session_81 : decode cX5_session 81 = .ok (.if_icmp .ne 13, 3) := by decide +kernel
theorem dX5_session_84 : decode cX5_session 84 = .ok (.new 69, 3) := by decide +kernel
theorem dX5_session_87 : decode cX5_session 87 = .ok (.dup, 1) := by decide +kernel
theorem dX5_session_88 : decode cX5_session 88 = .ok (.ldc 134, 2) := by decide +kernel
theorem dX5_session_90 : decode cX5_session 90 = .ok (.invokespecial 73, 3) := by decide +kernel
theorem dX5_session_93 : decode cX5_session 93 = .ok (.athrow, 1) := by decide +kernel
theorem dX5_session_94 : decode cX5_session 94 = .ok (.aload_n 0, 1) := by decide +kernel
theorem dX5_session_95 : decode cX5_session 95 = .ok (.invokevirtual 136, 3) := by decide +kernel
theorem dX5_session_98 : decode cX5_session 98 = .ok (.iload 4, 2) := by decide +kernel
theorem dX5_session_100 : decode cX5_session 100 = .ok (.ireturn, 1) := by decide +kernel
theorem dX5_ofSession_0 : decode cX5_ofSession 0 = .ok (.iload_n 1, 1) := by decide +kernel
theorem dX5_ofSession_1 : decode cX5_ofSession 1 = .ok (.ifCond .lt 14, 3) := by decide +kernel
theorem dX5_ofSession_4 : decode cX5_ofSession 4 = .ok (.iload_n 1, 1) := by decide +kernel
theorem dX5_ofSession_5 : decode cX5_ofSession 5 = .ok (.aload_n 0, 1) := by decide +kernel
theorem dX5_ofSession_6 : decode cX5_ofSession 6 = .ok (.getfield 26, 3) := by decide +kernel
theorem dX5_ofSession_9 : decode cX5_ofSession 9 = .ok (.getfield 139, 3) := by decide +kernel
theorem dX5_ofSession_12 : decode cX5_ofSession 12 = .ok (.if_icmp .lt 13, 3) := by decide +kernel
theorem dX5_ofSession_15 : decode cX5_ofSession 15 = .ok (.new 74, 3) := by decide +kernel
theorem dX5_ofSession_18 : decode cX5_ofSession 18 = .ok (.dup, 1) := by decide +kernel
theorem dX5_ofSession_19 : decode cX5_ofSession 19 = .ok (.ldc 142, 2) := by decide +kernel
theorem dX5_ofSession_21 : decode cX5_ofSession 21 = .ok (.invokespecial 78, 3) := by decide +kernel
theorem dX5_ofSession_24 : decode cX5_ofSession 24 = .ok (.athrow, 1) := by decide +kernel
theorem dX5_ofSession_25 : decode cX5_ofSession 25 = .ok (.iload_n 2, 1) := by decide +kernel
theorem dX5_ofSession_26 : decode cX5_ofSession 26 = .ok (.iconst 0, 1) := by decide +kernel
theorem dX5_ofSession_27 : decode cX5_ofSession 27 = .ok (.iconst 3, 1) := by decide +kernel
theorem dX5_ofSession_28 : decode cX5_ofSession 28 = .ok (.invokestatic 46, 3) := by decide +kernel
theorem dX5_ofSession_31 : decode cX5_ofSession 31 = .ok (.ifCond .ne 13, 3) := by decide +kernel
theorem dX5_ofSession_34 : decode cX5_ofSession 34 = .ok (.new 58, 3) := by decide +kernel
theorem dX5_ofSession_37 : decode cX5_ofSession 37 = .ok (.dup, 1) := by decide +kernel
theorem dX5_ofSession_38 : decode cX5_ofSession 38 = .ok (.ldc 144, 2) := by decide +kernel
theorem dX5_ofSession_40 : decode cX5_ofSession 40 = .ok (.invokespecial 62, 3) := by decide +kernel
theorem dX5_ofSession_43 : decode cX5_ofSession 43 = .ok (.athrow, 1) := by decide +kernel
theorem dX5_ofSession_44 : decode cX5_ofSession 44 = .ok (.iload_n 2, 1) := by decide +kernel
theorem dX5_ofSession_45 : decode cX5_ofSession 45 = .ok (.tableswitch 57 0 2 #[27, 37, 47], 27) := by decide +kernel
theorem dX5_ofSession_72 : decode cX5_ofSession 72 = .ok (.aload_n 0, 1) := by decide +kernel
theorem dX5_ofSession_73 : decode cX5_ofSession 73 = .ok (.getfield 26, 3) := by decide +kernel
theorem dX5_ofSession_76 : decode cX5_ofSession 76 = .ok (.getfield 146, 3) := by decide +kernel
theorem dX5_ofSession_79 : decode cX5_ofSession 79 = .ok (.iload_n 1, 1) := by decide +kernel
theorem dX5_ofSession_80 : decode cX5_ofSession 80 = .ok (.iaload, 1) := by decide +kernel
theorem dX5_ofSession_81 : decode cX5_ofSession 81 = .ok (.ireturn, 1) := by decide +kernel
theorem dX5_ofSession_82 : decode cX5_ofSession 82 = .ok (.aload_n 0, 1) := by decide +kernel
theorem dX5_ofSession_83 : decode cX5_ofSession 83 = .ok (.getfield 26, 3) := by decide +kernel
theorem dX5_ofSession_86 : decode cX5_ofSession 86 = .ok (.getfield 149, 3) := by decide +kernel
theorem dX5_ofSession_89 : decode cX5_ofSession 89 = .ok (.iload_n 1, 1) := by decide +kernel
theorem dX5_ofSession_90 : decode cX5_ofSession 90 = .ok (.iaload, 1) := by decide +kernel
theorem dX5_ofSession_91 : decode cX5_ofSession 91 = .ok (.ireturn, 1) := by decide +kernel
theorem dX5_ofSession_92 : decode cX5_ofSession 92 = .ok (.aload_n 0, 1) := by decide +kernel
theorem dX5_ofSession_93 : decode cX5_ofSession 93 = .ok (.getfield 26, 3) := by decide +kernel
theorem dX5_ofSession_96 : decode cX5_ofSession 96 = .ok (.getfield 152, 3) := by decide +kernel
theorem dX5_ofSession_99 : decode cX5_ofSession 99 = .ok (.iload_n 1, 1) := by decide +kernel
theorem dX5_ofSession_100 : decode cX5_ofSession 100 = .ok (.iaload, 1) := by decide +kernel
theorem dX5_ofSession_101 : decode cX5_ofSession 101 = .ok (.ireturn, 1) := by decide +kernel
theorem dX5_ofSession_102 : decode cX5_ofSession 102 = .ok (.aload_n 0, 1) := by decide +kernel
theorem dX5_ofSession_103 : decode cX5_ofSession 103 = .ok (.getfield 26, 3) := by decide +kernel
theorem dX5_ofSession_106 : decode cX5_ofSession 106 = .ok (.getfield 155, 3) := by decide +kernel
theorem dX5_ofSession_109 : decode cX5_ofSession 109 = .ok (.iload_n 1, 1) := by decide +kernel
theorem dX5_ofSession_110 : decode cX5_ofSession 110 = .ok (.iaload, 1) := by decide +kernel
theorem dX5_ofSession_111 : decode cX5_ofSession 111 = .ok (.ireturn, 1) := by decide +kernel
theorem dX5_ofItem_0 : decode cX5_ofItem 0 = .ok (.iload_n 1, 1) := by decide +kernel
theorem dX5_ofItem_1 : decode cX5_ofItem 1 = .ok (.ifCond .lt 8, 3) := by decide +kernel
theorem dX5_ofItem_4 : decode cX5_ofItem 4 = .ok (.iload_n 1, 1) := by decide +kernel
theorem dX5_ofItem_5 : decode cX5_ofItem 5 = .ok (.iconst 4, 1) := by decide +kernel
theorem dX5_ofItem_6 : decode cX5_ofItem 6 = .ok (.if_icmp .lt 13, 3) := by decide +kernel
theorem dX5_ofItem_9 : decode cX5_ofItem 9 = .ok (.new 74, 3) := by decide +kernel
theorem dX5_ofItem_12 : decode cX5_ofItem 12 = .ok (.dup, 1) := by decide +kernel
theorem dX5_ofItem_13 : decode cX5_ofItem 13 = .ok (.ldc 91, 2) := by decide +kernel
theorem dX5_ofItem_15 : decode cX5_ofItem 15 = .ok (.invokespecial 78, 3) := by decide +kernel
theorem dX5_ofItem_18 : decode cX5_ofItem 18 = .ok (.athrow, 1) := by decide +kernel
theorem dX5_ofItem_19 : decode cX5_ofItem 19 = .ok (.iload_n 2, 1) := by decide +kernel
theorem dX5_ofItem_20 : decode cX5_ofItem 20 = .ok (.iconst 0, 1) := by decide +kernel
theorem dX5_ofItem_21 : decode cX5_ofItem 21 = .ok (.iconst 3, 1) := by decide +kernel
theorem dX5_ofItem_22 : decode cX5_ofItem 22 = .ok (.invokestatic 46, 3) := by decide +kernel
theorem dX5_ofItem_25 : decode cX5_ofItem 25 = .ok (.ifCond .ne 13, 3) := by decide +kernel
theorem dX5_ofItem_28 : decode cX5_ofItem 28 = .ok (.new 58, 3) := by decide +kernel
theorem dX5_ofItem_31 : decode cX5_ofItem 31 = .ok (.dup, 1) := by decide +kernel
theorem dX5_ofItem_32 : decode cX5_ofItem 32 = .ok (.ldc 158, 2) := by decide +kernel
theorem dX5_ofItem_34 : decode cX5_ofItem 34 = .ok (.invokespecial 62, 3) := by decide +kernel
theorem dX5_ofItem_37 : decode cX5_ofItem 37 = .ok (.athrow, 1) := by decide +kernel
theorem dX5_ofItem_38 : decode cX5_ofItem 38 = .ok (.iload_n 2, 1) := by decide +kernel
theorem dX5_ofItem_39 : decode cX5_ofItem 39 = .ok (.tableswitch 63 0 2 #[25, 35, 48], 25) := by decide +kernel
theorem dX5_ofItem_64 : decode cX5_ofItem 64 = .ok (.aload_n 0, 1) := by decide +kernel
theorem dX5_ofItem_65 : decode cX5_ofItem 65 = .ok (.getfield 19, 3) := by decide +kernel
theorem dX5_ofItem_68 : decode cX5_ofItem 68 = .ok (.getfield 99, 3) := by decide +kernel
theorem dX5_ofItem_71 : decode cX5_ofItem 71 = .ok (.iload_n 1, 1) := by decide +kernel
theorem dX5_ofItem_72 : decode cX5_ofItem 72 = .ok (.iaload, 1) := by decide +kernel
theorem dX5_ofItem_73 : decode cX5_ofItem 73 = .ok (.ireturn, 1) := by decide +kernel
theorem dX5_ofItem_74 : decode cX5_ofItem 74 = .ok (.aload_n 0, 1) := by decide +kernel
theorem dX5_ofItem_75 : decode cX5_ofItem 75 = .ok (.getfield 19, 3) := by decide +kernel
theorem dX5_ofItem_78 : decode cX5_ofItem 78 = .ok (.iload_n 1, 1) := by decide +kernel
theorem dX5_ofItem_79 : decode cX5_ofItem 79 = .ok (.aload_n 0, 1) := by decide +kernel
theorem dX5_ofItem_80 : decode cX5_ofItem 80 = .ok (.getfield 160, 3) := by decide +kernel
theorem dX5_ofItem_83 : decode cX5_ofItem 83 = .ok (.invokevirtual 163, 3) := by decide +kernel
theorem dX5_ofItem_86 : decode cX5_ofItem 86 = .ok (.ireturn, 1) := by decide +kernel
theorem dX5_ofItem_87 : decode cX5_ofItem 87 = .ok (.aload_n 0, 1) := by decide +kernel
theorem dX5_ofItem_88 : decode cX5_ofItem 88 = .ok (.getfield 19, 3) := by decide +kernel
theorem dX5_ofItem_91 : decode cX5_ofItem 91 = .ok (.iload_n 1, 1) := by decide +kernel
theorem dX5_ofItem_92 : decode cX5_ofItem 92 = .ok (.aload_n 0, 1) := by decide +kernel
theorem dX5_ofItem_93 : decode cX5_ofItem 93 = .ok (.getfield 160, 3) := by decide +kernel
theorem dX5_ofItem_96 : decode cX5_ofItem 96 = .ok (.iconst (-1), 1) := by decide +kernel
theorem dX5_ofItem_97 : decode cX5_ofItem 97 = .ok (.iconst 0, 1) := by decide +kernel
theorem dX5_ofItem_98 : decode cX5_ofItem 98 = .ok (.invokevirtual 166, 3) := by decide +kernel
theorem dX5_ofItem_101 : decode cX5_ofItem 101 = .ok (.ireturn, 1) := by decide +kernel
theorem dX5_ofItem_102 : decode cX5_ofItem 102 = .ok (.aload_n 0, 1) := by decide +kernel
theorem dX5_ofItem_103 : decode cX5_ofItem 103 = .ok (.iload_n 1, 1) := by decide +kernel
theorem dX5_ofItem_104 : decode cX5_ofItem 104 = .ok (.invokevirtual 169, 3) := by decide +kernel
theorem dX5_ofItem_107 : decode cX5_ofItem 107 = .ok (.ireturn, 1) := by decide +kernel
theorem dX5_join_0 : decode cX5_join 0 = .ok (.iload_n 1, 1) := by decide +kernel
theorem dX5_join_1 : decode cX5_join 1 = .ok (.ifCond .lt 8, 3) := by decide +kernel
theorem dX5_join_4 : decode cX5_join 4 = .ok (.iload_n 1, 1) := by decide +kernel
theorem dX5_join_5 : decode cX5_join 5 = .ok (.iconst 4, 1) := by decide +kernel
theorem dX5_join_6 : decode cX5_join 6 = .ok (.if_icmp .lt 13, 3) := by decide +kernel
theorem dX5_join_9 : decode cX5_join 9 = .ok (.new 74, 3) := by decide +kernel
theorem dX5_join_12 : decode cX5_join 12 = .ok (.dup, 1) := by decide +kernel
theorem dX5_join_13 : decode cX5_join 13 = .ok (.ldc 76, 2) := by decide +kernel
theorem dX5_join_15 : decode cX5_join 15 = .ok (.invokespecial 78, 3) := by decide +kernel
theorem dX5_join_18 : decode cX5_join 18 = .ok (.athrow, 1) := by decide +kernel
theorem dX5_join_19 : decode cX5_join 19 = .ok (.aload_n 0, 1) := by decide +kernel
theorem dX5_join_20 : decode cX5_join 20 = .ok (.iload_n 2, 1) := by decide +kernel
theorem dX5_join_21 : decode cX5_join 21 = .ok (.invokevirtual 102, 3) := by decide +kernel
theorem dX5_join_24 : decode cX5_join 24 = .ok (.ifCond .ne 13, 3) := by decide +kernel
theorem dX5_join_27 : decode cX5_join 27 = .ok (.new 58, 3) := by decide +kernel
theorem dX5_join_30 : decode cX5_join 30 = .ok (.dup, 1) := by decide +kernel
theorem dX5_join_31 : decode cX5_join 31 = .ok (.ldc 172, 2) := by decide +kernel
theorem dX5_join_33 : decode cX5_join 33 = .ok (.invokespecial 62, 3) := by decide +kernel
theorem dX5_join_36 : decode cX5_join 36 = .ok (.athrow, 1) := by decide +kernel
theorem dX5_join_37 : decode cX5_join 37 = .ok (.aload_n 0, 1) := by decide +kernel
theorem dX5_join_38 : decode cX5_join 38 = .ok (.getfield 174, 3) := by decide +kernel
theorem dX5_join_41 : decode cX5_join 41 = .ok (.bipush 8, 2) := by decide +kernel
theorem dX5_join_43 : decode cX5_join 43 = .ok (.if_icmp .ge 15, 3) := by decide +kernel
theorem dX5_join_46 : decode cX5_join 46 = .ok (.aload_n 0, 1) := by decide +kernel
theorem dX5_join_47 : decode cX5_join 47 = .ok (.getfield 10, 3) := by decide +kernel
theorem dX5_join_50 : decode cX5_join 50 = .ok (.getfield 81, 3) := by decide +kernel
theorem dX5_join_53 : decode cX5_join 53 = .ok (.iload_n 1, 1) := by decide +kernel
theorem dX5_join_54 : decode cX5_join 54 = .ok (.iaload, 1) := by decide +kernel
theorem dX5_join_55 : decode cX5_join 55 = .ok (.ifCond .ne 13, 3) := by decide +kernel
theorem dX5_join_58 : decode cX5_join 58 = .ok (.new 69, 3) := by decide +kernel
theorem dX5_join_61 : decode cX5_join 61 = .ok (.dup, 1) := by decide +kernel
theorem dX5_join_62 : decode cX5_join 62 = .ok (.ldc 177, 2) := by decide +kernel
theorem dX5_join_64 : decode cX5_join 64 = .ok (.invokespecial 73, 3) := by decide +kernel
theorem dX5_join_67 : decode cX5_join 67 = .ok (.athrow, 1) := by decide +kernel
theorem dX5_join_68 : decode cX5_join 68 = .ok (.aload_n 0, 1) := by decide +kernel
theorem dX5_join_69 : decode cX5_join 69 = .ok (.getfield 174, 3) := by decide +kernel
theorem dX5_join_72 : decode cX5_join 72 = .ok (.istore_n 3, 1) := by decide +kernel
theorem dX5_join_73 : decode cX5_join 73 = .ok (.aload_n 0, 1) := by decide +kernel
theorem dX5_join_74 : decode cX5_join 74 = .ok (.dup, 1) := by decide +kernel
theorem dX5_join_75 : decode cX5_join 75 = .ok (.getfield 174, 3) := by decide +kernel
theorem dX5_join_78 : decode cX5_join 78 = .ok (.iconst 1, 1) := by decide +kernel
theorem dX5_join_79 : decode cX5_join 79 = .ok (.iadd, 1) := by decide +kernel
theorem dX5_join_80 : decode cX5_join 80 = .ok (.putfield 174, 3) := by decide +kernel
theorem dX5_join_83 : decode cX5_join 83 = .ok (.aload_n 0, 1) := by decide +kernel
theorem dX5_join_84 : decode cX5_join 84 = .ok (.iload_n 3, 1) := by decide +kernel
theorem dX5_join_85 : decode cX5_join 85 = .ok (.invokevirtual 179, 3) := by decide +kernel
theorem dX5_join_88 : decode cX5_join 88 = .ok (.astore 4, 2) := by decide +kernel
theorem dX5_join_90 : decode cX5_join 90 = .ok (.aload 4, 2) := by decide +kernel
theorem dX5_join_92 : decode cX5_join 92 = .ok (.aload_n 0, 1) := by decide +kernel
theorem dX5_join_93 : decode cX5_join 93 = .ok (.getfield 10, 3) := by decide +kernel
theorem dX5_join_96 : decode cX5_join 96 = .ok (.getfield 81, 3) := by decide +kernel
theorem dX5_join_99 : decode cX5_join 99 = .ok (.iload_n 1, 1) := by decide +kernel
theorem dX5_join_100 : decode cX5_join 100 = .ok (.iaload, 1) := by decide +kernel
theorem dX5_join_101 : decode cX5_join 101 = .ok (.putfield 183, 3) := by decide +kernel
theorem dX5_join_104 : decode cX5_join 104 = .ok (.aload 4, 2) := by decide +kernel
theorem dX5_join_106 : decode cX5_join 106 = .ok (.iload_n 2, 1) := by decide +kernel
theorem dX5_join_107 : decode cX5_join 107 = .ok (.putfield 186, 3) := by decide +kernel
theorem dX5_join_110 : decode cX5_join 110 = .ok (.aload_n 0, 1) := by decide +kernel
theorem dX5_join_111 : decode cX5_join 111 = .ok (.invokevirtual 136, 3) := by decide +kernel
theorem dX5_join_114 : decode cX5_join 114 = .ok (.iload_n 3, 1) := by decide +kernel
theorem dX5_join_115 : decode cX5_join 115 = .ok (.ireturn, 1) := by decide +kernel
theorem dX5_leave_0 : decode cX5_leave 0 = .ok (.aload_n 0, 1) := by decide +kernel
theorem dX5_leave_1 : decode cX5_leave 1 = .ok (.iload_n 1, 1) := by decide +kernel
theorem dX5_leave_2 : decode cX5_leave 2 = .ok (.invokevirtual 179, 3) := by decide +kernel
theorem dX5_leave_5 : decode cX5_leave 5 = .ok (.astore_n 2, 1) := by decide +kernel
theorem dX5_leave_6 : decode cX5_leave 6 = .ok (.aload_n 2, 1) := by decide +kernel
theorem dX5_leave_7 : decode cX5_leave 7 = .ok (.getfield 189, 3) := by decide +kernel
theorem dX5_leave_10 : decode cX5_leave 10 = .ok (.ifCond .eq 13, 3) := by decide +kernel
theorem dX5_leave_13 : decode cX5_leave 13 = .ok (.new 69, 3) := by decide +kernel
theorem dX5_leave_16 : decode cX5_leave 16 = .ok (.dup, 1) := by decide +kernel
theorem dX5_leave_17 : decode cX5_leave 17 = .ok (.ldc 193, 2) := by decide +kernel
theorem dX5_leave_19 : decode cX5_leave 19 = .ok (.invokespecial 73, 3) := by decide +kernel
theorem dX5_leave_22 : decode cX5_leave 22 = .ok (.athrow, 1) := by decide +kernel
theorem dX5_leave_23 : decode cX5_leave 23 = .ok (.aload_n 2, 1) := by decide +kernel
theorem dX5_leave_24 : decode cX5_leave 24 = .ok (.iconst 1, 1) := by decide +kernel
theorem dX5_leave_25 : decode cX5_leave 25 = .ok (.putfield 189, 3) := by decide +kernel
theorem dX5_leave_28 : decode cX5_leave 28 = .ok (.iconst 0, 1) := by decide +kernel
theorem dX5_leave_29 : decode cX5_leave 29 = .ok (.istore_n 3, 1) := by decide +kernel
theorem dX5_leave_30 : decode cX5_leave 30 = .ok (.iload_n 3, 1) := by decide +kernel
theorem dX5_leave_31 : decode cX5_leave 31 = .ok (.bipush 12, 2) := by decide +kernel
theorem dX5_leave_33 : decode cX5_leave 33 = .ok (.if_icmp .ge 38, 3) := by decide +kernel
theorem dX5_leave_36 : decode cX5_leave 36 = .ok (.aload_n 2, 1) := by decide +kernel
theorem dX5_leave_37 : decode cX5_leave 37 = .ok (.getfield 195, 3) := by decide +kernel
theorem dX5_leave_40 : decode cX5_leave 40 = .ok (.iload_n 3, 1) := by decide +kernel
theorem dX5_leave_41 : decode cX5_leave 41 = .ok (.iaload, 1) := by decide +kernel
theorem dX5_leave_42 : decode cX5_leave 42 = .ok (.ifCond .ne 23, 3) := by decide +kernel
theorem dX5_leave_45 : decode cX5_leave 45 = .ok (.aload_n 0, 1) := by decide +kernel
theorem dX5_leave_46 : decode cX5_leave 46 = .ok (.getfield 26, 3) := by decide +kernel
theorem dX5_leave_49 : decode cX5_leave 49 = .ok (.aload_n 2, 1) := by decide +kernel
theorem dX5_leave_50 : decode cX5_leave 50 = .ok (.getfield 198, 3) := by decide +kernel
theorem dX5_leave_53 : decode cX5_leave 53 = .ok (.iload_n 3, 1) := by decide +kernel
theorem dX5_leave_54 : decode cX5_leave 54 = .ok (.iaload, 1) := by decide +kernel
theorem dX5_leave_55 : decode cX5_leave 55 = .ok (.invokevirtual 201, 3) := by decide +kernel
theorem dX5_leave_58 : decode cX5_leave 58 = .ok (.aload_n 2, 1) := by decide +kernel
theorem dX5_leave_59 : decode cX5_leave 59 = .ok (.getfield 198, 3) := by decide +kernel
theorem dX5_leave_62 : decode cX5_leave 62 = .ok (.iload_n 3, 1) := by decide +kernel
theorem dX5_leave_63 : decode cX5_leave 63 = .ok (.iconst (-1), 1) := by decide +kernel
theorem dX5_leave_64 : decode cX5_leave 64 = .ok (.iastore, 1) := by decide +kernel
theorem dX5_leave_65 : decode cX5_leave 65 = .ok (.iinc 3 1, 3) := by decide +kernel
theorem dX5_leave_68 : decode cX5_leave 68 = .ok (.goto (-38), 3) := by decide +kernel
theorem dX5_leave_71 : decode cX5_leave 71 = .ok (.aload_n 0, 1) := by decide +kernel
theorem dX5_leave_72 : decode cX5_leave 72 = .ok (.invokevirtual 136, 3) := by decide +kernel
theorem dX5_leave_75 : decode cX5_leave 75 = .ok (.aload_n 2, 1) := by decide +kernel
theorem dX5_leave_76 : decode cX5_leave 76 = .ok (.iconst 1, 1) := by decide +kernel
theorem dX5_leave_77 : decode cX5_leave 77 = .ok (.invokevirtual 205, 3) := by decide +kernel
theorem dX5_leave_80 : decode cX5_leave 80 = .ok (.aload_n 2, 1) := by decide +kernel
theorem dX5_leave_81 : decode cX5_leave 81 = .ok (.iconst 2, 1) := by decide +kernel
theorem dX5_leave_82 : decode cX5_leave 82 = .ok (.invokevirtual 205, 3) := by decide +kernel
theorem dX5_leave_85 : decode cX5_leave 85 = .ok (.iadd, 1) := by decide +kernel
theorem dX5_leave_86 : decode cX5_leave 86 = .ok (.ireturn, 1) := by decide +kernel
theorem dX5_day_0 : decode cX5_day 0 = .ok (.aload_n 0, 1) := by decide +kernel
theorem dX5_day_1 : decode cX5_day 1 = .ok (.getfield 160, 3) := by decide +kernel
theorem dX5_day_4 : decode cX5_day 4 = .ok (.sipush 199, 3) := by decide +kernel
theorem dX5_day_7 : decode cX5_day 7 = .ok (.if_icmp .lt 13, 3) := by decide +kernel
theorem dX5_day_10 : decode cX5_day 10 = .ok (.new 69, 3) := by decide +kernel
theorem dX5_day_13 : decode cX5_day 13 = .ok (.dup, 1) := by decide +kernel
theorem dX5_day_14 : decode cX5_day 14 = .ok (.ldc 208, 2) := by decide +kernel
theorem dX5_day_16 : decode cX5_day 16 = .ok (.invokespecial 73, 3) := by decide +kernel
theorem dX5_day_19 : decode cX5_day 19 = .ok (.athrow, 1) := by decide +kernel
theorem dX5_day_20 : decode cX5_day 20 = .ok (.aload_n 0, 1) := by decide +kernel
theorem dX5_day_21 : decode cX5_day 21 = .ok (.dup, 1) := by decide +kernel
theorem dX5_day_22 : decode cX5_day 22 = .ok (.getfield 160, 3) := by decide +kernel
theorem dX5_day_25 : decode cX5_day 25 = .ok (.iconst 1, 1) := by decide +kernel
theorem dX5_day_26 : decode cX5_day 26 = .ok (.iadd, 1) := by decide +kernel
theorem dX5_day_27 : decode cX5_day 27 = .ok (.putfield 160, 3) := by decide +kernel
theorem dX5_day_30 : decode cX5_day 30 = .ok (.aload_n 0, 1) := by decide +kernel
theorem dX5_day_31 : decode cX5_day 31 = .ok (.getfield 19, 3) := by decide +kernel
theorem dX5_day_34 : decode cX5_day 34 = .ok (.aload_n 0, 1) := by decide +kernel
theorem dX5_day_35 : decode cX5_day 35 = .ok (.getfield 160, 3) := by decide +kernel
theorem dX5_day_38 : decode cX5_day 38 = .ok (.invokevirtual 210, 3) := by decide +kernel
theorem dX5_day_41 : decode cX5_day 41 = .ok (.iconst 0, 1) := by decide +kernel
theorem dX5_day_42 : decode cX5_day 42 = .ok (.istore_n 1, 1) := by decide +kernel
theorem dX5_day_43 : decode cX5_day 43 = .ok (.iconst 0, 1) := by decide +kernel
theorem dX5_day_44 : decode cX5_day 44 = .ok (.istore_n 2, 1) := by decide +kernel
theorem dX5_day_45 : decode cX5_day 45 = .ok (.iload_n 2, 1) := by decide +kernel
theorem dX5_day_46 : decode cX5_day 46 = .ok (.aload_n 0, 1) := by decide +kernel
theorem dX5_day_47 : decode cX5_day 47 = .ok (.getfield 174, 3) := by decide +kernel
theorem dX5_day_50 : decode cX5_day 50 = .ok (.if_icmp .ge 24, 3) := by decide +kernel
theorem dX5_day_53 : decode cX5_day 53 = .ok (.iload_n 1, 1) := by decide +kernel
theorem dX5_day_54 : decode cX5_day 54 = .ok (.aload_n 0, 1) := by decide +kernel
theorem dX5_day_55 : decode cX5_day 55 = .ok (.iload_n 2, 1) := by decide +kernel
theorem dX5_day_56 : decode cX5_day 56 = .ok (.invokevirtual 179, 3) := by decide +kernel
theorem dX5_day_59 : decode cX5_day 59 = .ok (.aload_n 0, 1) := by decide +kernel
theorem dX5_day_60 : decode cX5_day 60 = .ok (.getfield 160, 3) := by decide +kernel
theorem dX5_day_63 : decode cX5_day 63 = .ok (.invokevirtual 213, 3) := by decide +kernel
theorem dX5_day_66 : decode cX5_day 66 = .ok (.iadd, 1) := by decide +kernel
theorem dX5_day_67 : decode cX5_day 67 = .ok (.istore_n 1, 1) := by decide +kernel
theorem dX5_day_68 : decode cX5_day 68 = .ok (.iinc 2 1, 3) := by decide +kernel
theorem dX5_day_71 : decode cX5_day 71 = .ok (.goto (-26), 3) := by decide +kernel
theorem dX5_day_74 : decode cX5_day 74 = .ok (.iconst 0, 1) := by decide +kernel
theorem dX5_day_75 : decode cX5_day 75 = .ok (.istore_n 2, 1) := by decide +kernel
theorem dX5_day_76 : decode cX5_day 76 = .ok (.iload_n 2, 1) := by decide +kernel
theorem dX5_day_77 : decode cX5_day 77 = .ok (.aload_n 0, 1) := by decide +kernel
theorem dX5_day_78 : decode cX5_day 78 = .ok (.getfield 174, 3) := by decide +kernel
theorem dX5_day_81 : decode cX5_day 81 = .ok (.if_icmp .ge 18, 3) := by decide +kernel
theorem dX5_day_84 : decode cX5_day 84 = .ok (.aload_n 0, 1) := by decide +kernel
theorem dX5_day_85 : decode cX5_day 85 = .ok (.aload_n 0, 1) := by decide +kernel
theorem dX5_day_86 : decode cX5_day 86 = .ok (.iload_n 2, 1) := by decide +kernel
theorem dX5_day_87 : decode cX5_day 87 = .ok (.invokevirtual 179, 3) := by decide +kernel
theorem dX5_day_90 : decode cX5_day 90 = .ok (.invokevirtual 216, 3) := by decide +kernel
theorem dX5_day_93 : decode cX5_day 93 = .ok (.iinc 2 1, 3) := by decide +kernel
theorem dX5_day_96 : decode cX5_day 96 = .ok (.goto (-20), 3) := by decide +kernel
theorem dX5_day_99 : decode cX5_day 99 = .ok (.iconst 0, 1) := by decide +kernel
theorem dX5_day_100 : decode cX5_day 100 = .ok (.istore_n 2, 1) := by decide +kernel
theorem dX5_day_101 : decode cX5_day 101 = .ok (.iload_n 2, 1) := by decide +kernel
theorem dX5_day_102 : decode cX5_day 102 = .ok (.aload_n 0, 1) := by decide +kernel
theorem dX5_day_103 : decode cX5_day 103 = .ok (.getfield 174, 3) := by decide +kernel
theorem dX5_day_106 : decode cX5_day 106 = .ok (.if_icmp .ge 18, 3) := by decide +kernel
theorem dX5_day_109 : decode cX5_day 109 = .ok (.aload_n 0, 1) := by decide +kernel
theorem dX5_day_110 : decode cX5_day 110 = .ok (.aload_n 0, 1) := by decide +kernel
theorem dX5_day_111 : decode cX5_day 111 = .ok (.iload_n 2, 1) := by decide +kernel
theorem dX5_day_112 : decode cX5_day 112 = .ok (.invokevirtual 179, 3) := by decide +kernel
theorem dX5_day_115 : decode cX5_day 115 = .ok (.invokevirtual 220, 3) := by decide +kernel
theorem dX5_day_118 : decode cX5_day 118 = .ok (.iinc 2 1, 3) := by decide +kernel
theorem dX5_day_121 : decode cX5_day 121 = .ok (.goto (-20), 3) := by decide +kernel
theorem dX5_day_124 : decode cX5_day 124 = .ok (.aload_n 0, 1) := by decide +kernel
theorem dX5_day_125 : decode cX5_day 125 = .ok (.invokevirtual 136, 3) := by decide +kernel
theorem dX5_day_128 : decode cX5_day 128 = .ok (.iconst 0, 1) := by decide +kernel
theorem dX5_day_129 : decode cX5_day 129 = .ok (.istore_n 2, 1) := by decide +kernel
theorem dX5_day_130 : decode cX5_day 130 = .ok (.iload_n 2, 1) := by decide +kernel
theorem dX5_day_131 : decode cX5_day 131 = .ok (.aload_n 0, 1) := by decide +kernel
theorem dX5_day_132 : decode cX5_day 132 = .ok (.getfield 174, 3) := by decide +kernel
theorem dX5_day_135 : decode cX5_day 135 = .ok (.if_icmp .ge 18, 3) := by decide +kernel
theorem dX5_day_138 : decode cX5_day 138 = .ok (.aload_n 0, 1) := by decide +kernel
theorem dX5_day_139 : decode cX5_day 139 = .ok (.aload_n 0, 1) := by decide +kernel
theorem dX5_day_140 : decode cX5_day 140 = .ok (.iload_n 2, 1) := by decide +kernel
theorem dX5_day_141 : decode cX5_day 141 = .ok (.invokevirtual 179, 3) := by decide +kernel
theorem dX5_day_144 : decode cX5_day 144 = .ok (.invokevirtual 223, 3) := by decide +kernel
theorem dX5_day_147 : decode cX5_day 147 = .ok (.iinc 2 1, 3) := by decide +kernel
theorem dX5_day_150 : decode cX5_day 150 = .ok (.goto (-20), 3) := by decide +kernel
theorem dX5_day_153 : decode cX5_day 153 = .ok (.iload_n 1, 1) := by decide +kernel
theorem dX5_day_154 : decode cX5_day 154 = .ok (.ireturn, 1) := by decide +kernel
theorem dX5_ofStep_0 : decode cX5_ofStep 0 = .ok (.aload_n 0, 1) := by decide +kernel
theorem dX5_ofStep_1 : decode cX5_ofStep 1 = .ok (.iload_n 1, 1) := by decide +kernel
theorem dX5_ofStep_2 : decode cX5_ofStep 2 = .ok (.invokevirtual 179, 3) := by decide +kernel
theorem dX5_ofStep_5 : decode cX5_ofStep 5 = .ok (.astore 4, 2) := by decide +kernel
theorem dX5_ofStep_7 : decode cX5_ofStep 7 = .ok (.iload_n 2, 1) := by decide +kernel
theorem dX5_ofStep_8 : decode cX5_ofStep 8 = .ok (.ifCond .lt 21, 3) := by decide +kernel
theorem dX5_ofStep_11 : decode cX5_ofStep 11 = .ok (.iload_n 2, 1) := by decide +kernel
theorem dX5_ofStep_12 : decode cX5_ofStep 12 = .ok (.bipush 12, 2) := by decide +kernel
theorem dX5_ofStep_14 : decode cX5_ofStep 14 = .ok (.if_icmp .ge 15, 3) := by decide +kernel
theorem dX5_ofStep_17 : decode cX5_ofStep 17 = .ok (.aload 4, 2) := by decide +kernel
theorem dX5_ofStep_19 : decode cX5_ofStep 19 = .ok (.getfield 183, 3) := by decide +kernel
theorem dX5_ofStep_22 : decode cX5_ofStep 22 = .ok (.iload_n 2, 1) := by decide +kernel
theorem dX5_ofStep_23 : decode cX5_ofStep 23 = .ok (.invokestatic 226, 3) := by decide +kernel
theorem dX5_ofStep_26 : decode cX5_ofStep 26 = .ok (.ifCond .ne 13, 3) := by decide +kernel
theorem dX5_ofStep_29 : decode cX5_ofStep 29 = .ok (.new 74, 3) := by decide +kernel
theorem dX5_ofStep_32 : decode cX5_ofStep 32 = .ok (.dup, 1) := by decide +kernel
theorem dX5_ofStep_33 : decode cX5_ofStep 33 = .ok (.ldc 229, 2) := by decide +kernel
theorem dX5_ofStep_35 : decode cX5_ofStep 35 = .ok (.invokespecial 78, 3) := by decide +kernel
theorem dX5_ofStep_38 : decode cX5_ofStep 38 = .ok (.athrow, 1) := by decide +kernel
theorem dX5_ofStep_39 : decode cX5_ofStep 39 = .ok (.iload_n 3, 1) := by decide +kernel
theorem dX5_ofStep_40 : decode cX5_ofStep 40 = .ok (.iconst 0, 1) := by decide +kernel
theorem dX5_ofStep_41 : decode cX5_ofStep 41 = .ok (.iconst 5, 1) := by decide +kernel
theorem dX5_ofStep_42 : decode cX5_ofStep 42 = .ok (.invokestatic 46, 3) := by decide +kernel
theorem dX5_ofStep_45 : decode cX5_ofStep 45 = .ok (.ifCond .ne 13, 3) := by decide +kernel
theorem dX5_ofStep_48 : decode cX5_ofStep 48 = .ok (.new 58, 3) := by decide +kernel
theorem dX5_ofStep_51 : decode cX5_ofStep 51 = .ok (.dup, 1) := by decide +kernel
theorem dX5_ofStep_52 : decode cX5_ofStep 52 = .ok (.ldc 231, 2) := by decide +kernel
theorem dX5_ofStep_54 : decode cX5_ofStep 54 = .ok (.invokespecial 62, 3) := by decide +kernel
theorem dX5_ofStep_57 : decode cX5_ofStep 57 = .ok (.athrow, 1) := by decide +kernel
theorem dX5_ofStep_58 : decode cX5_ofStep 58 = .ok (.aload_n 0, 1) := by decide +kernel
theorem dX5_ofStep_59 : decode cX5_ofStep 59 = .ok (.getfield 35, 3) := by decide +kernel
theorem dX5_ofStep_62 : decode cX5_ofStep 62 = .ok (.aload 4, 2) := by decide +kernel
theorem dX5_ofStep_64 : decode cX5_ofStep 64 = .ok (.aload_n 0, 1) := by decide +kernel
theorem dX5_ofStep_65 : decode cX5_ofStep 65 = .ok (.getfield 160, 3) := by decide +kernel
theorem dX5_ofStep_68 : decode cX5_ofStep 68 = .ok (.iconst (-1), 1) := by decide +kernel
theorem dX5_ofStep_69 : decode cX5_ofStep 69 = .ok (.iconst 0, 1) := by decide +kernel
theorem dX5_ofStep_70 : decode cX5_ofStep 70 = .ok (.invokevirtual 233, 3) := by decide +kernel
theorem dX5_ofStep_73 : decode cX5_ofStep 73 = .ok (.aload_n 0, 1) := by decide +kernel
theorem dX5_ofStep_74 : decode cX5_ofStep 74 = .ok (.aload 4, 2) := by decide +kernel
theorem dX5_ofStep_76 : decode cX5_ofStep 76 = .ok (.iload_n 2, 1) := by decide +kernel
theorem dX5_ofStep_77 : decode cX5_ofStep 77 = .ok (.iload_n 3, 1) := by decide +kernel
theorem dX5_ofStep_78 : decode cX5_ofStep 78 = .ok (.invokevirtual 237, 3) := by decide +kernel
theorem dX5_ofStep_81 : decode cX5_ofStep 81 = .ok (.ireturn, 1) := by decide +kernel
theorem dX5_ofJoiner_0 : decode cX5_ofJoiner 0 = .ok (.aload_n 0, 1) := by decide +kernel
theorem dX5_ofJoiner_1 : decode cX5_ofJoiner 1 = .ok (.iload_n 1, 1) := by decide +kernel
theorem dX5_ofJoiner_2 : decode cX5_ofJoiner 2 = .ok (.invokevirtual 179, 3) := by decide +kernel
theorem dX5_ofJoiner_5 : decode cX5_ofJoiner 5 = .ok (.astore_n 3, 1) := by decide +kernel
theorem dX5_ofJoiner_6 : decode cX5_ofJoiner 6 = .ok (.iload_n 2, 1) := by decide +kernel
theorem dX5_ofJoiner_7 : decode cX5_ofJoiner 7 = .ok (.iconst 0, 1) := by decide +kernel
theorem dX5_ofJoiner_8 : decode cX5_ofJoiner 8 = .ok (.bipush 6, 2) := by decide +kernel
theorem dX5_ofJoiner_10 : decode cX5_ofJoiner 10 = .ok (.invokestatic 46, 3) := by decide +kernel
theorem dX5_ofJoiner_13 : decode cX5_ofJoiner 13 = .ok (.ifCond .ne 13, 3) := by decide +kernel
theorem dX5_ofJoiner_16 : decode cX5_ofJoiner 16 = .ok (.new 58, 3) := by decide +kernel
theorem dX5_ofJoiner_19 : decode cX5_ofJoiner 19 = .ok (.dup, 1) := by decide +kernel
theorem dX5_ofJoiner_20 : decode cX5_ofJoiner 20 = .ok (.ldc 241, 2) := by decide +kernel
theorem dX5_ofJoiner_22 : decode cX5_ofJoiner 22 = .ok (.invokespecial 62, 3) := by decide +kernel
theorem dX5_ofJoiner_25 : decode cX5_ofJoiner 25 = .ok (.athrow, 1) := by decide +kernel
theorem dX5_ofJoiner_26 : decode cX5_ofJoiner 26 = .ok (.aload_n 0, 1) := by decide +kernel
theorem dX5_ofJoiner_27 : decode cX5_ofJoiner 27 = .ok (.getfield 35, 3) := by decide +kernel
theorem dX5_ofJoiner_30 : decode cX5_ofJoiner 30 = .ok (.aload_n 3, 1) := by decide +kernel
theorem dX5_ofJoiner_31 : decode cX5_ofJoiner 31 = .ok (.aload_n 0, 1) := by decide +kernel
theorem dX5_ofJoiner_32 : decode cX5_ofJoiner 32 = .ok (.getfield 160, 3) := by decide +kernel
theorem dX5_ofJoiner_35 : decode cX5_ofJoiner 35 = .ok (.iconst (-1), 1) := by decide +kernel
theorem dX5_ofJoiner_36 : decode cX5_ofJoiner 36 = .ok (.iconst 0, 1) := by decide +kernel
theorem dX5_ofJoiner_37 : decode cX5_ofJoiner 37 = .ok (.invokevirtual 233, 3) := by decide +kernel
theorem dX5_ofJoiner_40 : decode cX5_ofJoiner 40 = .ok (.aload_n 0, 1) := by decide +kernel
theorem dX5_ofJoiner_41 : decode cX5_ofJoiner 41 = .ok (.aload_n 3, 1) := by decide +kernel
theorem dX5_ofJoiner_42 : decode cX5_ofJoiner 42 = .ok (.iload_n 2, 1) := by decide +kernel
theorem dX5_ofJoiner_43 : decode cX5_ofJoiner 43 = .ok (.invokevirtual 243, 3) := by decide +kernel
theorem dX5_ofJoiner_46 : decode cX5_ofJoiner 46 = .ok (.ireturn, 1) := by decide +kernel
theorem dX5_many_0 : decode cX5_many 0 = .ok (.iload_n 1, 1) := by decide +kernel
theorem dX5_many_1 : decode cX5_many 1 = .ok (.iconst 0, 1) := by decide +kernel
theorem dX5_many_2 : decode cX5_many 2 = .ok (.bipush 10, 2) := by decide +kernel
theorem dX5_many_4 : decode cX5_many 4 = .ok (.invokestatic 46, 3) := by decide +kernel
theorem dX5_many_7 : decode cX5_many 7 = .ok (.ifCond .ne 13, 3) := by decide +kernel
theorem dX5_many_10 : decode cX5_many 10 = .ok (.new 58, 3) := by decide +kernel
theorem dX5_many_13 : decode cX5_many 13 = .ok (.dup, 1) := by decide +kernel
theorem dX5_many_14 : decode cX5_many 14 = .ok (.ldc 247, 2) := by decide +kernel
theorem dX5_many_16 : decode cX5_many 16 = .ok (.invokespecial 62, 3) := by decide +kernel
theorem dX5_many_19 : decode cX5_many 19 = .ok (.athrow, 1) := by decide +kernel
theorem dX5_many_20 : decode cX5_many 20 = .ok (.iload_n 1, 1) := by decide +kernel
theorem dX5_many_21 : decode cX5_many 21 = .ok (.tableswitch 122 0 9 #[55, 63, 71, 79, 87, 92, 97, 103, 109, 114], 55) := by decide +kernel
theorem dX5_many_76 : decode cX5_many 76 = .ok (.aload_n 0, 1) := by decide +kernel
theorem dX5_many_77 : decode cX5_many 77 = .ok (.getfield 10, 3) := by decide +kernel
theorem dX5_many_80 : decode cX5_many 80 = .ok (.getfield 120, 3) := by decide +kernel
theorem dX5_many_83 : decode cX5_many 83 = .ok (.ireturn, 1) := by decide +kernel
theorem dX5_many_84 : decode cX5_many 84 = .ok (.aload_n 0, 1) := by decide +kernel
theorem dX5_many_85 : decode cX5_many 85 = .ok (.getfield 10, 3) := by decide +kernel
theorem dX5_many_88 : decode cX5_many 88 = .ok (.getfield 249, 3) := by decide +kernel
theorem dX5_many_91 : decode cX5_many 91 = .ok (.ireturn, 1) := by decide +kernel
theorem dX5_many_92 : decode cX5_many 92 = .ok (.aload_n 0, 1) := by decide +kernel
theorem dX5_many_93 : decode cX5_many 93 = .ok (.getfield 19, 3) := by decide +kernel
theorem dX5_many_96 : decode cX5_many 96 = .ok (.getfield 252, 3) := by decide +kernel
theorem dX5_many_99 : decode cX5_many 99 = .ok (.ireturn, 1) := by decide +kernel
theorem dX5_many_100 : decode cX5_many 100 = .ok (.aload_n 0, 1) := by decide +kernel
theorem dX5_many_101 : decode cX5_many 101 = .ok (.getfield 26, 3) := by decide +kernel
theorem dX5_many_104 : decode cX5_many 104 = .ok (.getfield 139, 3) := by decide +kernel
theorem dX5_many_107 : decode cX5_many 107 = .ok (.ireturn, 1) := by decide +kernel
theorem dX5_many_108 : decode cX5_many 108 = .ok (.aload_n 0, 1) := by decide +kernel
theorem dX5_many_109 : decode cX5_many 109 = .ok (.getfield 174, 3) := by decide +kernel
theorem dX5_many_112 : decode cX5_many 112 = .ok (.ireturn, 1) := by decide +kernel
theorem dX5_many_113 : decode cX5_many 113 = .ok (.aload_n 0, 1) := by decide +kernel
theorem dX5_many_114 : decode cX5_many 114 = .ok (.invokevirtual 255, 3) := by decide +kernel
theorem dX5_many_117 : decode cX5_many 117 = .ok (.ireturn, 1) := by decide +kernel
theorem dX5_many_118 : decode cX5_many 118 = .ok (.aload_n 0, 1) := by decide +kernel
theorem dX5_many_119 : decode cX5_many 119 = .ok (.iconst 2, 1) := by decide +kernel
theorem dX5_many_120 : decode cX5_many 120 = .ok (.invokevirtual 259, 3) := by decide +kernel
theorem dX5_many_123 : decode cX5_many 123 = .ok (.ireturn, 1) := by decide +kernel
theorem dX5_many_124 : decode cX5_many 124 = .ok (.aload_n 0, 1) := by decide +kernel
theorem dX5_many_125 : decode cX5_many 125 = .ok (.iconst 1, 1) := by decide +kernel
theorem dX5_many_126 : decode cX5_many 126 = .ok (.invokevirtual 259, 3) := by decide +kernel
theorem dX5_many_129 : decode cX5_many 129 = .ok (.ireturn, 1) := by decide +kernel
theorem dX5_many_130 : decode cX5_many 130 = .ok (.aload_n 0, 1) := by decide +kernel
theorem dX5_many_131 : decode cX5_many 131 = .ok (.invokevirtual 262, 3) := by decide +kernel
theorem dX5_many_134 : decode cX5_many 134 = .ok (.ireturn, 1) := by decide +kernel
theorem dX5_many_135 : decode cX5_many 135 = .ok (.aload_n 0, 1) := by decide +kernel
theorem dX5_many_136 : decode cX5_many 136 = .ok (.getfield 26, 3) := by decide +kernel
theorem dX5_many_139 : decode cX5_many 139 = .ok (.invokevirtual 265, 3) := by decide +kernel
theorem dX5_many_142 : decode cX5_many 142 = .ok (.ireturn, 1) := by decide +kernel
theorem dX5_many_143 : decode cX5_many 143 = .ok (.aload_n 0, 1) := by decide +kernel
theorem dX5_many_144 : decode cX5_many 144 = .ok (.getfield 160, 3) := by decide +kernel
theorem dX5_many_147 : decode cX5_many 147 = .ok (.ireturn, 1) := by decide +kernel
theorem dX5_meanDays_0 : decode cX5_meanDays 0 = .ok (.iconst 0, 1) := by decide +kernel
theorem dX5_meanDays_1 : decode cX5_meanDays 1 = .ok (.istore_n 1, 1) := by decide +kernel
theorem dX5_meanDays_2 : decode cX5_meanDays 2 = .ok (.iconst 0, 1) := by decide +kernel
theorem dX5_meanDays_3 : decode cX5_meanDays 3 = .ok (.istore_n 2, 1) := by decide +kernel
theorem dX5_meanDays_4 : decode cX5_meanDays 4 = .ok (.iconst 0, 1) := by decide +kernel
theorem dX5_meanDays_5 : decode cX5_meanDays 5 = .ok (.istore_n 3, 1) := by decide +kernel
theorem dX5_meanDays_6 : decode cX5_meanDays 6 = .ok (.iload_n 3, 1) := by decide +kernel
theorem dX5_meanDays_7 : decode cX5_meanDays 7 = .ok (.aload_n 0, 1) := by decide +kernel
theorem dX5_meanDays_8 : decode cX5_meanDays 8 = .ok (.getfield 174, 3) := by decide +kernel
theorem dX5_meanDays_11 : decode cX5_meanDays 11 = .ok (.if_icmp .ge 65, 3) := by decide +kernel
theorem dX5_meanDays_14 : decode cX5_meanDays 14 = .ok (.aload_n 0, 1) := by decide +kernel
theorem dX5_meanDays_15 : decode cX5_meanDays 15 = .ok (.iload_n 3, 1) := by decide +kernel
theorem dX5_meanDays_16 : decode cX5_meanDays 16 = .ok (.invokevirtual 179, 3) := by decide +kernel
theorem dX5_meanDays_19 : decode cX5_meanDays 19 = .ok (.astore 4, 2) := by decide +kernel
theorem dX5_meanDays_21 : decode cX5_meanDays 21 = .ok (.aload_n 0, 1) := by decide +kernel
theorem dX5_meanDays_22 : decode cX5_meanDays 22 = .ok (.getfield 35, 3) := by decide +kernel
theorem dX5_meanDays_25 : decode cX5_meanDays 25 = .ok (.aload 4, 2) := by decide +kernel
theorem dX5_meanDays_27 : decode cX5_meanDays 27 = .ok (.aload_n 0, 1) := by decide +kernel
theorem dX5_meanDays_28 : decode cX5_meanDays 28 = .ok (.getfield 160, 3) := by decide +kernel
theorem dX5_meanDays_31 : decode cX5_meanDays 31 = .ok (.iconst (-1), 1) := by decide +kernel
theorem dX5_meanDays_32 : decode cX5_meanDays 32 = .ok (.iconst 0, 1) := by decide +kernel
theorem dX5_meanDays_33 : decode cX5_meanDays 33 = .ok (.invokevirtual 233, 3) := by decide +kernel
theorem dX5_meanDays_36 : decode cX5_meanDays 36 = .ok (.aload_n 0, 1) := by decide +kernel
theorem dX5_meanDays_37 : decode cX5_meanDays 37 = .ok (.getfield 35, 3) := by decide +kernel
theorem dX5_meanDays_40 : decode cX5_meanDays 40 = .ok (.aload 4, 2) := by decide +kernel
theorem dX5_meanDays_42 : decode cX5_meanDays 42 = .ok (.getfield 183, 3) := by decide +kernel
theorem dX5_meanDays_45 : decode cX5_meanDays 45 = .ok (.invokevirtual 268, 3) := by decide +kernel
theorem dX5_meanDays_48 : decode cX5_meanDays 48 = .ok (.istore 5, 2) := by decide +kernel
theorem dX5_meanDays_50 : decode cX5_meanDays 50 = .ok (.iload 5, 2) := by decide +kernel
theorem dX5_meanDays_52 : decode cX5_meanDays 52 = .ok (.iconst (-1), 1) := by decide +kernel
theorem dX5_meanDays_53 : decode cX5_meanDays 53 = .ok (.if_icmp .eq 17, 3) := by decide +kernel
theorem dX5_meanDays_56 : decode cX5_meanDays 56 = .ok (.iload_n 1, 1) := by decide +kernel
theorem dX5_meanDays_57 : decode cX5_meanDays 57 = .ok (.iload 5, 2) := by decide +kernel
theorem dX5_meanDays_59 : decode cX5_meanDays 59 = .ok (.aload 4, 2) := by decide +kernel
theorem dX5_meanDays_61 : decode cX5_meanDays 61 = .ok (.getfield 186, 3) := by decide +kernel
theorem dX5_meanDays_64 : decode cX5_meanDays 64 = .ok (.isub, 1) := by decide +kernel
theorem dX5_meanDays_65 : decode cX5_meanDays 65 = .ok (.iadd, 1) := by decide +kernel
theorem dX5_meanDays_66 : decode cX5_meanDays 66 = .ok (.istore_n 1, 1) := by decide +kernel
theorem dX5_meanDays_67 : decode cX5_meanDays 67 = .ok (.iinc 2 1, 3) := by decide +kernel
theorem dX5_meanDays_70 : decode cX5_meanDays 70 = .ok (.iinc 3 1, 3) := by decide +kernel
