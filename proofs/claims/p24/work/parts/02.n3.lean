theorem dX5_digest_9 : decode cX5_digest 9 = .ok (.if_icmp .gt 22, 3) := by decide +kernel
theorem dX5_digest_12 : decode cX5_digest 12 = .ok (.lload_n 1, 1) := by decide +kernel
theorem dX5_digest_13 : decode cX5_digest 13 = .ok (.ldc2_w 288, 3) := by decide +kernel
theorem dX5_digest_16 : decode cX5_digest 16 = .ok (.lmul, 1) := by decide +kernel
theorem dX5_digest_17 : decode cX5_digest 17 = .ok (.aload_n 0, 1) := by decide +kernel
theorem dX5_digest_18 : decode cX5_digest 18 = .ok (.iload_n 3, 1) := by decide +kernel
theorem dX5_digest_19 : decode cX5_digest 19 = .ok (.invokevirtual 290, 3) := by decide +kernel
theorem dX5_digest_22 : decode cX5_digest 22 = .ok (.i2l, 1) := by decide +kernel
theorem dX5_digest_23 : decode cX5_digest 23 = .ok (.ladd, 1) := by decide +kernel
theorem dX5_digest_24 : decode cX5_digest 24 = .ok (.lstore_n 1, 1) := by decide +kernel
theorem dX5_digest_25 : decode cX5_digest 25 = .ok (.iinc 3 1, 3) := by decide +kernel
theorem dX5_digest_28 : decode cX5_digest 28 = .ok (.goto (-22), 3) := by decide +kernel
theorem dX5_digest_31 : decode cX5_digest 31 = .ok (.iconst 0, 1) := by decide +kernel
theorem dX5_digest_32 : decode cX5_digest 32 = .ok (.istore_n 3, 1) := by decide +kernel
theorem dX5_digest_33 : decode cX5_digest 33 = .ok (.iload_n 3, 1) := by decide +kernel
theorem dX5_digest_34 : decode cX5_digest 34 = .ok (.iconst 4, 1) := by decide +kernel
theorem dX5_digest_35 : decode cX5_digest 35 = .ok (.if_icmp .ge 39, 3) := by decide +kernel
theorem dX5_digest_38 : decode cX5_digest 38 = .ok (.iconst 0, 1) := by decide +kernel
theorem dX5_digest_39 : decode cX5_digest 39 = .ok (.istore 4, 2) := by decide +kernel
theorem dX5_digest_41 : decode cX5_digest 41 = .ok (.iload 4, 2) := by decide +kernel
theorem dX5_digest_43 : decode cX5_digest 43 = .ok (.iconst 3, 1) := by decide +kernel
theorem dX5_digest_44 : decode cX5_digest 44 = .ok (.if_icmp .gt 24, 3) := by decide +kernel
theorem dX5_digest_47 : decode cX5_digest 47 = .ok (.lload_n 1, 1) := by decide +kernel
theorem dX5_digest_48 : decode cX5_digest 48 = .ok (.ldc2_w 288, 3) := by decide +kernel
theorem dX5_digest_51 : decode cX5_digest 51 = .ok (.lmul, 1) := by decide +kernel
theorem dX5_digest_52 : decode cX5_digest 52 = .ok (.aload_n 0, 1) := by decide +kernel
theorem dX5_digest_53 : decode cX5_digest 53 = .ok (.iload_n 3, 1) := by decide +kernel
theorem dX5_digest_54 : decode cX5_digest 54 = .ok (.iload 4, 2) := by decide +kernel
theorem dX5_digest_56 : decode cX5_digest 56 = .ok (.invokevirtual 293, 3) := by decide +kernel
theorem dX5_digest_59 : decode cX5_digest 59 = .ok (.i2l, 1) := by decide +kernel
theorem dX5_digest_60 : decode cX5_digest 60 = .ok (.ladd, 1) := by decide +kernel
theorem dX5_digest_61 : decode cX5_digest 61 = .ok (.lstore_n 1, 1) := by decide +kernel
theorem dX5_digest_62 : decode cX5_digest 62 = .ok (.iinc 4 1, 3) := by decide +kernel
theorem dX5_digest_65 : decode cX5_digest 65 = .ok (.goto (-24), 3) := by decide +kernel
theorem dX5_digest_68 : decode cX5_digest 68 = .ok (.iinc 3 1, 3) := by decide +kernel
theorem dX5_digest_71 : decode cX5_digest 71 = .ok (.goto (-38), 3) := by decide +kernel
theorem dX5_digest_74 : decode cX5_digest 74 = .ok (.iconst 0, 1) := by decide +kernel
theorem dX5_digest_75 : decode cX5_digest 75 = .ok (.istore_n 3, 1) := by decide +kernel
theorem dX5_digest_76 : decode cX5_digest 76 = .ok (.iload_n 3, 1) := by decide +kernel
theorem dX5_digest_77 : decode cX5_digest 77 = .ok (.aload_n 0, 1) := by decide +kernel
theorem dX5_digest_78 : decode cX5_digest 78 = .ok (.getfield 26, 3) := by decide +kernel
theorem dX5_digest_81 : decode cX5_digest 81 = .ok (.getfield 139, 3) := by decide +kernel
theorem dX5_digest_84 : decode cX5_digest 84 = .ok (.if_icmp .ge 39, 3) := by decide +kernel
theorem dX5_digest_87 : decode cX5_digest 87 = .ok (.iconst 0, 1) := by decide +kernel
theorem dX5_digest_88 : decode cX5_digest 88 = .ok (.istore 4, 2) := by decide +kernel
theorem dX5_digest_90 : decode cX5_digest 90 = .ok (.iload 4, 2) := by decide +kernel
theorem dX5_digest_92 : decode cX5_digest 92 = .ok (.iconst 3, 1) := by decide +kernel
theorem dX5_digest_93 : decode cX5_digest 93 = .ok (.if_icmp .gt 24, 3) := by decide +kernel
theorem dX5_digest_96 : decode cX5_digest 96 = .ok (.lload_n 1, 1) := by decide +kernel
theorem dX5_digest_97 : decode cX5_digest 97 = .ok (.ldc2_w 288, 3) := by decide +kernel
theorem dX5_digest_100 : decode cX5_digest 100 = .ok (.lmul, 1) := by decide +kernel
theorem dX5_digest_101 : decode cX5_digest 101 = .ok (.aload_n 0, 1) := by decide +kernel
theorem dX5_digest_102 : decode cX5_digest 102 = .ok (.iload_n 3, 1) := by decide +kernel
theorem dX5_digest_103 : decode cX5_digest 103 = .ok (.iload 4, 2) := by decide +kernel
theorem dX5_digest_105 : decode cX5_digest 105 = .ok (.invokevirtual 296, 3) := by decide +kernel
theorem dX5_digest_108 : decode cX5_digest 108 = .ok (.i2l, 1) := by decide +kernel
theorem dX5_digest_109 : decode cX5_digest 109 = .ok (.ladd, 1) := by decide +kernel
theorem dX5_digest_110 : decode cX5_digest 110 = .ok (.lstore_n 1, 1) := by decide +kernel
theorem dX5_digest_111 : decode cX5_digest 111 = .ok (.iinc 4 1, 3) := by decide +kernel
theorem dX5_digest_114 : decode cX5_digest 114 = .ok (.goto (-24), 3) := by decide +kernel
theorem dX5_digest_117 : decode cX5_digest 117 = .ok (.iinc 3 1, 3) := by decide +kernel
theorem dX5_digest_120 : decode cX5_digest 120 = .ok (.goto (-44), 3) := by decide +kernel
theorem dX5_digest_123 : decode cX5_digest 123 = .ok (.iconst 0, 1) := by decide +kernel
theorem dX5_digest_124 : decode cX5_digest 124 = .ok (.istore_n 3, 1) := by decide +kernel
theorem dX5_digest_125 : decode cX5_digest 125 = .ok (.iload_n 3, 1) := by decide +kernel
theorem dX5_digest_126 : decode cX5_digest 126 = .ok (.aload_n 0, 1) := by decide +kernel
theorem dX5_digest_127 : decode cX5_digest 127 = .ok (.getfield 174, 3) := by decide +kernel
theorem dX5_digest_130 : decode cX5_digest 130 = .ok (.if_icmp .ge 20, 3) := by decide +kernel
theorem dX5_digest_133 : decode cX5_digest 133 = .ok (.aload_n 0, 1) := by decide +kernel
theorem dX5_digest_134 : decode cX5_digest 134 = .ok (.lload_n 1, 1) := by decide +kernel
theorem dX5_digest_135 : decode cX5_digest 135 = .ok (.aload_n 0, 1) := by decide +kernel
theorem dX5_digest_136 : decode cX5_digest 136 = .ok (.iload_n 3, 1) := by decide +kernel
theorem dX5_digest_137 : decode cX5_digest 137 = .ok (.invokevirtual 179, 3) := by decide +kernel
theorem dX5_digest_140 : decode cX5_digest 140 = .ok (.invokevirtual 299, 3) := by decide +kernel
theorem dX5_digest_143 : decode cX5_digest 143 = .ok (.lstore_n 1, 1) := by decide +kernel
theorem dX5_digest_144 : decode cX5_digest 144 = .ok (.iinc 3 1, 3) := by decide +kernel
theorem dX5_digest_147 : decode cX5_digest 147 = .ok (.goto (-22), 3) := by decide +kernel
theorem dX5_digest_150 : decode cX5_digest 150 = .ok (.lload_n 1, 1) := by decide +kernel
theorem dX5_digest_151 : decode cX5_digest 151 = .ok (.lreturn, 1) := by decide +kernel
theorem dX5_has_0 : decode cX5_has 0 = .ok (.iload_n 0, 1) := by decide +kernel
theorem dX5_has_1 : decode cX5_has 1 = .ok (.iload_n 1, 1) := by decide +kernel
theorem dX5_has_2 : decode cX5_has 2 = .ok (.ishr, 1) := by decide +kernel
theorem dX5_has_3 : decode cX5_has 3 = .ok (.iconst 1, 1) := by decide +kernel
theorem dX5_has_4 : decode cX5_has 4 = .ok (.iand, 1) := by decide +kernel
theorem dX5_has_5 : decode cX5_has 5 = .ok (.iconst 1, 1) := by decide +kernel
theorem dX5_has_6 : decode cX5_has 6 = .ok (.if_icmp .ne 7, 3) := by decide +kernel
theorem dX5_has_9 : decode cX5_has 9 = .ok (.iconst 1, 1) := by decide +kernel
theorem dX5_has_10 : decode cX5_has 10 = .ok (.goto 4, 3) := by decide +kernel
theorem dX5_has_13 : decode cX5_has 13 = .ok (.iconst 0, 1) := by decide +kernel
theorem dX5_has_14 : decode cX5_has 14 = .ok (.ireturn, 1) := by decide +kernel
theorem dX5_isWithin_0 : decode cX5_isWithin 0 = .ok (.iload_n 0, 1) := by decide +kernel
theorem dX5_isWithin_1 : decode cX5_isWithin 1 = .ok (.iload_n 1, 1) := by decide +kernel
theorem dX5_isWithin_2 : decode cX5_isWithin 2 = .ok (.if_icmp .lt 12, 3) := by decide +kernel
theorem dX5_isWithin_5 : decode cX5_isWithin 5 = .ok (.iload_n 0, 1) := by decide +kernel
theorem dX5_isWithin_6 : decode cX5_isWithin 6 = .ok (.iload_n 2, 1) := by decide +kernel
theorem dX5_isWithin_7 : decode cX5_isWithin 7 = .ok (.if_icmp .gt 7, 3) := by decide +kernel
theorem dX5_isWithin_10 : decode cX5_isWithin 10 = .ok (.iconst 1, 1) := by decide +kernel
theorem dX5_isWithin_11 : decode cX5_isWithin 11 = .ok (.goto 4, 3) := by decide +kernel
theorem dX5_isWithin_14 : decode cX5_isWithin 14 = .ok (.iconst 0, 1) := by decide +kernel
theorem dX5_isWithin_15 : decode cX5_isWithin 15 = .ok (.ireturn, 1) := by decide +kernel
theorem dX5_isOfKind_0 : decode cX5_isOfKind 0 = .ok (.iload_n 0, 1) := by decide +kernel
theorem dX5_isOfKind_1 : decode cX5_isOfKind 1 = .ok (.ifCond .ne 12, 3) := by decide +kernel
theorem dX5_isOfKind_4 : decode cX5_isOfKind 4 = .ok (.iload_n 1, 1) := by decide +kernel
theorem dX5_isOfKind_5 : decode cX5_isOfKind 5 = .ok (.iconst 0, 1) := by decide +kernel
theorem dX5_isOfKind_6 : decode cX5_isOfKind 6 = .ok (.sipush 255, 3) := by decide +kernel
theorem dX5_isOfKind_9 : decode cX5_isOfKind 9 = .ok (.invokestatic 46, 3) := by decide +kernel
theorem dX5_isOfKind_12 : decode cX5_isOfKind 12 = .ok (.ireturn, 1) := by decide +kernel
theorem dX5_isOfKind_13 : decode cX5_isOfKind 13 = .ok (.iload_n 0, 1) := by decide +kernel
theorem dX5_isOfKind_14 : decode cX5_isOfKind 14 = .ok (.iconst 1, 1) := by decide +kernel
theorem dX5_isOfKind_15 : decode cX5_isOfKind 15 = .ok (.if_icmp .ne 12, 3) := by decide +kernel
theorem dX5_isOfKind_18 : decode cX5_isOfKind 18 = .ok (.iload_n 1, 1) := by decide +kernel
theorem dX5_isOfKind_19 : decode cX5_isOfKind 19 = .ok (.iconst 0, 1) := by decide +kernel
theorem dX5_isOfKind_20 : decode cX5_isOfKind 20 = .ok (.iconst 3, 1) := by decide +kernel
theorem dX5_isOfKind_21 : decode cX5_isOfKind 21 = .ok (.invokestatic 46, 3) := by decide +kernel
theorem dX5_isOfKind_24 : decode cX5_isOfKind 24 = .ok (.ifCond .eq 7, 3) := by decide +kernel
theorem dX5_isOfKind_27 : decode cX5_isOfKind 27 = .ok (.iconst 1, 1) := by decide +kernel
theorem dX5_isOfKind_28 : decode cX5_isOfKind 28 = .ok (.goto 4, 3) := by decide +kernel
theorem dX5_isOfKind_31 : decode cX5_isOfKind 31 = .ok (.iconst 0, 1) := by decide +kernel
theorem dX5_isOfKind_32 : decode cX5_isOfKind 32 = .ok (.ireturn, 1) := by decide +kernel
theorem dX5_isAhead_0 : decode cX5_isAhead 0 = .ok (.iload_n 1, 1) := by decide +kernel
theorem dX5_isAhead_1 : decode cX5_isAhead 1 = .ok (.aload_n 0, 1) := by decide +kernel
theorem dX5_isAhead_2 : decode cX5_isAhead 2 = .ok (.getfield 160, 3) := by decide +kernel
theorem dX5_isAhead_5 : decode cX5_isAhead 5 = .ok (.if_icmp .le 14, 3) := by decide +kernel
theorem dX5_isAhead_8 : decode cX5_isAhead 8 = .ok (.iload_n 1, 1) := by decide +kernel
theorem dX5_isAhead_9 : decode cX5_isAhead 9 = .ok (.sipush 199, 3) := by decide +kernel
theorem dX5_isAhead_12 : decode cX5_isAhead 12 = .ok (.if_icmp .gt 7, 3) := by decide +kernel
theorem dX5_isAhead_15 : decode cX5_isAhead 15 = .ok (.iconst 1, 1) := by decide +kernel
theorem dX5_isAhead_16 : decode cX5_isAhead 16 = .ok (.goto 4, 3) := by decide +kernel
theorem dX5_isAhead_19 : decode cX5_isAhead 19 = .ok (.iconst 0, 1) := by decide +kernel
theorem dX5_isAhead_20 : decode cX5_isAhead 20 = .ok (.ireturn, 1) := by decide +kernel
theorem dX5_joinerAt_0 : decode cX5_joinerAt 0 = .ok (.iload_n 1, 1) := by decide +kernel
theorem dX5_joinerAt_1 : decode cX5_joinerAt 1 = .ok (.ifCond .lt 17, 3) := by decide +kernel
theorem dX5_joinerAt_4 : decode cX5_joinerAt 4 = .ok (.iload_n 1, 1) := by decide +kernel
theorem dX5_joinerAt_5 : decode cX5_joinerAt 5 = .ok (.aload_n 0, 1) := by decide +kernel
theorem dX5_joinerAt_6 : decode cX5_joinerAt 6 = .ok (.getfield 174, 3) := by decide +kernel
theorem dX5_joinerAt_9 : decode cX5_joinerAt 9 = .ok (.if_icmp .ge 9, 3) := by decide +kernel
theorem dX5_joinerAt_12 : decode cX5_joinerAt 12 = .ok (.iload_n 1, 1) := by decide +kernel
theorem dX5_joinerAt_13 : decode cX5_joinerAt 13 = .ok (.bipush 8, 2) := by decide +kernel
theorem dX5_joinerAt_15 : decode cX5_joinerAt 15 = .ok (.if_icmp .lt 14, 3) := by decide +kernel
theorem dX5_joinerAt_18 : decode cX5_joinerAt 18 = .ok (.new 74, 3) := by decide +kernel
theorem dX5_joinerAt_21 : decode cX5_joinerAt 21 = .ok (.dup, 1) := by decide +kernel
theorem dX5_joinerAt_22 : decode cX5_joinerAt 22 = .ok (.ldc_w 312, 3) := by decide +kernel
theorem dX5_joinerAt_25 : decode cX5_joinerAt 25 = .ok (.invokespecial 78, 3) := by decide +kernel
theorem dX5_joinerAt_28 : decode cX5_joinerAt 28 = .ok (.athrow, 1) := by decide +kernel
theorem dX5_joinerAt_29 : decode cX5_joinerAt 29 = .ok (.aload_n 0, 1) := by decide +kernel
theorem dX5_joinerAt_30 : decode cX5_joinerAt 30 = .ok (.getfield 41, 3) := by decide +kernel
theorem dX5_joinerAt_33 : decode cX5_joinerAt 33 = .ok (.iload_n 1, 1) := by decide +kernel
theorem dX5_joinerAt_34 : decode cX5_joinerAt 34 = .ok (.aaload, 1) := by decide +kernel
theorem dX5_joinerAt_35 : decode cX5_joinerAt 35 = .ok (.astore_n 2, 1) := by decide +kernel
theorem dX5_joinerAt_36 : decode cX5_joinerAt 36 = .ok (.aload_n 2, 1) := by decide +kernel
theorem dX5_joinerAt_37 : decode cX5_joinerAt 37 = .ok (.ifnonnull 14, 3) := by decide +kernel
theorem dX5_joinerAt_40 : decode cX5_joinerAt 40 = .ok (.new 74, 3) := by decide +kernel
theorem dX5_joinerAt_43 : decode cX5_joinerAt 43 = .ok (.dup, 1) := by decide +kernel
theorem dX5_joinerAt_44 : decode cX5_joinerAt 44 = .ok (.ldc_w 312, 3) := by decide +kernel
theorem dX5_joinerAt_47 : decode cX5_joinerAt 47 = .ok (.invokespecial 78, 3) := by decide +kernel
theorem dX5_joinerAt_50 : decode cX5_joinerAt 50 = .ok (.athrow, 1) := by decide +kernel
theorem dX5_joinerAt_51 : decode cX5_joinerAt 51 = .ok (.aload_n 2, 1) := by decide +kernel
theorem dX5_joinerAt_52 : decode cX5_joinerAt 52 = .ok (.areturn, 1) := by decide +kernel
theorem dX5_beginSteps_0 : decode cX5_beginSteps 0 = .ok (.iconst 0, 1) := by decide +kernel
theorem dX5_beginSteps_1 : decode cX5_beginSteps 1 = .ok (.istore_n 2, 1) := by decide +kernel
theorem dX5_beginSteps_2 : decode cX5_beginSteps 2 = .ok (.iload_n 2, 1) := by decide +kernel
theorem dX5_beginSteps_3 : decode cX5_beginSteps 3 = .ok (.bipush 12, 2) := by decide +kernel
theorem dX5_beginSteps_5 : decode cX5_beginSteps 5 = .ok (.if_icmp .ge 88, 3) := by decide +kernel
theorem dX5_beginSteps_8 : decode cX5_beginSteps 8 = .ok (.aload_n 0, 1) := by decide +kernel
theorem dX5_beginSteps_9 : decode cX5_beginSteps 9 = .ok (.aload_n 1, 1) := by decide +kernel
theorem dX5_beginSteps_10 : decode cX5_beginSteps 10 = .ok (.iload_n 2, 1) := by decide +kernel
theorem dX5_beginSteps_11 : decode cX5_beginSteps 11 = .ok (.invokevirtual 314, 3) := by decide +kernel
theorem dX5_beginSteps_14 : decode cX5_beginSteps 14 = .ok (.ifCond .eq 73, 3) := by decide +kernel
theorem dX5_beginSteps_17 : decode cX5_beginSteps 17 = .ok (.aload_n 0, 1) := by decide +kernel
theorem dX5_beginSteps_18 : decode cX5_beginSteps 18 = .ok (.aload_n 1, 1) := by decide +kernel
theorem dX5_beginSteps_19 : decode cX5_beginSteps 19 = .ok (.iload_n 2, 1) := by decide +kernel
theorem dX5_beginSteps_20 : decode cX5_beginSteps 20 = .ok (.invokevirtual 318, 3) := by decide +kernel
theorem dX5_beginSteps_23 : decode cX5_beginSteps 23 = .ok (.ifCond .eq 64, 3) := by decide +kernel
theorem dX5_beginSteps_26 : decode cX5_beginSteps 26 = .ok (.aload_n 0, 1) := by decide +kernel
theorem dX5_beginSteps_27 : decode cX5_beginSteps 27 = .ok (.getfield 10, 3) := by decide +kernel
theorem dX5_beginSteps_30 : decode cX5_beginSteps 30 = .ok (.getfield 126, 3) := by decide +kernel
theorem dX5_beginSteps_33 : decode cX5_beginSteps 33 = .ok (.iload_n 2, 1) := by decide +kernel
theorem dX5_beginSteps_34 : decode cX5_beginSteps 34 = .ok (.iaload, 1) := by decide +kernel
theorem dX5_beginSteps_35 : decode cX5_beginSteps 35 = .ok (.iconst 1, 1) := by decide +kernel
theorem dX5_beginSteps_36 : decode cX5_beginSteps 36 = .ok (.if_icmp .ne 19, 3) := by decide +kernel
theorem dX5_beginSteps_39 : decode cX5_beginSteps 39 = .ok (.aload_n 0, 1) := by decide +kernel
theorem dX5_beginSteps_40 : decode cX5_beginSteps 40 = .ok (.getfield 19, 3) := by decide +kernel
theorem dX5_beginSteps_43 : decode cX5_beginSteps 43 = .ok (.aload_n 0, 1) := by decide +kernel
theorem dX5_beginSteps_44 : decode cX5_beginSteps 44 = .ok (.getfield 10, 3) := by decide +kernel
theorem dX5_beginSteps_47 : decode cX5_beginSteps 47 = .ok (.getfield 321, 3) := by decide +kernel
theorem dX5_beginSteps_50 : decode cX5_beginSteps 50 = .ok (.iload_n 2, 1) := by decide +kernel
theorem dX5_beginSteps_51 : decode cX5_beginSteps 51 = .ok (.iaload, 1) := by decide +kernel
theorem dX5_beginSteps_52 : decode cX5_beginSteps 52 = .ok (.invokevirtual 324, 3) := by decide +kernel
theorem dX5_beginSteps_55 : decode cX5_beginSteps 55 = .ok (.aload_n 1, 1) := by decide +kernel
theorem dX5_beginSteps_56 : decode cX5_beginSteps 56 = .ok (.getfield 327, 3) := by decide +kernel
theorem dX5_beginSteps_59 : decode cX5_beginSteps 59 = .ok (.iload_n 2, 1) := by decide +kernel
theorem dX5_beginSteps_60 : decode cX5_beginSteps 60 = .ok (.aload_n 0, 1) := by decide +kernel
theorem dX5_beginSteps_61 : decode cX5_beginSteps 61 = .ok (.getfield 10, 3) := by decide +kernel
theorem dX5_beginSteps_64 : decode cX5_beginSteps 64 = .ok (.aload_n 1, 1) := by decide +kernel
theorem dX5_beginSteps_65 : decode cX5_beginSteps 65 = .ok (.iload_n 2, 1) := by decide +kernel
theorem dX5_beginSteps_66 : decode cX5_beginSteps 66 = .ok (.invokevirtual 330, 3) := by decide +kernel
theorem dX5_beginSteps_69 : decode cX5_beginSteps 69 = .ok (.iastore, 1) := by decide +kernel
theorem dX5_beginSteps_70 : decode cX5_beginSteps 70 = .ok (.aload_n 1, 1) := by decide +kernel
theorem dX5_beginSteps_71 : decode cX5_beginSteps 71 = .ok (.getfield 333, 3) := by decide +kernel
theorem dX5_beginSteps_74 : decode cX5_beginSteps 74 = .ok (.iload_n 2, 1) := by decide +kernel
theorem dX5_beginSteps_75 : decode cX5_beginSteps 75 = .ok (.aload_n 0, 1) := by decide +kernel
theorem dX5_beginSteps_76 : decode cX5_beginSteps 76 = .ok (.getfield 160, 3) := by decide +kernel
theorem dX5_beginSteps_79 : decode cX5_beginSteps 79 = .ok (.iastore, 1) := by decide +kernel
theorem dX5_beginSteps_80 : decode cX5_beginSteps 80 = .ok (.aload_n 1, 1) := by decide +kernel
theorem dX5_beginSteps_81 : decode cX5_beginSteps 81 = .ok (.getfield 195, 3) := by decide +kernel
theorem dX5_beginSteps_84 : decode cX5_beginSteps 84 = .ok (.iload_n 2, 1) := by decide +kernel
theorem dX5_beginSteps_85 : decode cX5_beginSteps 85 = .ok (.iconst 1, 1) := by decide +kernel
theorem dX5_beginSteps_86 : decode cX5_beginSteps 86 = .ok (.iastore, 1) := by decide +kernel
theorem dX5_beginSteps_87 : decode cX5_beginSteps 87 = .ok (.iinc 2 1, 3) := by decide +kernel
theorem dX5_beginSteps_90 : decode cX5_beginSteps 90 = .ok (.goto (-88), 3) := by decide +kernel
theorem dX5_beginSteps_93 : decode cX5_beginSteps 93 = .ok (.return_, 1) := by decide +kernel
theorem dX5_isReady_0 : decode cX5_isReady 0 = .ok (.aload_n 1, 1) := by decide +kernel
theorem dX5_isReady_1 : decode cX5_isReady 1 = .ok (.getfield 189, 3) := by decide +kernel
theorem dX5_isReady_4 : decode cX5_isReady 4 = .ok (.ifCond .ne 39, 3) := by decide +kernel
theorem dX5_isReady_7 : decode cX5_isReady 7 = .ok (.aload_n 1, 1) := by decide +kernel
theorem dX5_isReady_8 : decode cX5_isReady 8 = .ok (.getfield 186, 3) := by decide +kernel
theorem dX5_isReady_11 : decode cX5_isReady 11 = .ok (.aload_n 0, 1) := by decide +kernel
theorem dX5_isReady_12 : decode cX5_isReady 12 = .ok (.getfield 160, 3) := by decide +kernel
theorem dX5_isReady_15 : decode cX5_isReady 15 = .ok (.if_icmp .gt 28, 3) := by decide +kernel
theorem dX5_isReady_18 : decode cX5_isReady 18 = .ok (.aload_n 1, 1) := by decide +kernel
theorem dX5_isReady_19 : decode cX5_isReady 19 = .ok (.iload_n 2, 1) := by decide +kernel
theorem dX5_isReady_20 : decode cX5_isReady 20 = .ok (.iconst 0, 1) := by decide +kernel
theorem dX5_isReady_21 : decode cX5_isReady 21 = .ok (.invokevirtual 336, 3) := by decide +kernel
theorem dX5_isReady_24 : decode cX5_isReady 24 = .ok (.ifCond .eq 19, 3) := by decide +kernel
theorem dX5_isReady_27 : decode cX5_isReady 27 = .ok (.aload_n 0, 1) := by decide +kernel
theorem dX5_isReady_28 : decode cX5_isReady 28 = .ok (.getfield 10, 3) := by decide +kernel
theorem dX5_isReady_31 : decode cX5_isReady 31 = .ok (.aload_n 1, 1) := by decide +kernel
theorem dX5_isReady_32 : decode cX5_isReady 32 = .ok (.iload_n 2, 1) := by decide +kernel
theorem dX5_isReady_33 : decode cX5_isReady 33 = .ok (.invokevirtual 339, 3) := by decide +kernel
theorem dX5_isReady_36 : decode cX5_isReady 36 = .ok (.ifCond .eq 7, 3) := by decide +kernel
theorem dX5_isReady_39 : decode cX5_isReady 39 = .ok (.iconst 1, 1) := by decide +kernel
theorem dX5_isReady_40 : decode cX5_isReady 40 = .ok (.goto 4, 3) := by decide +kernel
theorem dX5_isReady_43 : decode cX5_isReady 43 = .ok (.iconst 0, 1) := by decide +kernel
theorem dX5_isReady_44 : decode cX5_isReady 44 = .ok (.ireturn, 1) := by decide +kernel
theorem dX5_canBegin_0 : decode cX5_canBegin 0 = .ok (.iload_n 2, 1) := by decide +kernel
theorem dX5_canBegin_1 : decode cX5_canBegin 1 = .ok (.ifCond .lt 9, 3) := by decide +kernel
theorem dX5_canBegin_4 : decode cX5_canBegin 4 = .ok (.iload_n 2, 1) := by decide +kernel
theorem dX5_canBegin_5 : decode cX5_canBegin 5 = .ok (.bipush 12, 2) := by decide +kernel
theorem dX5_canBegin_7 : decode cX5_canBegin 7 = .ok (.if_icmp .lt 5, 3) := by decide +kernel
theorem dX5_canBegin_10 : decode cX5_canBegin 10 = .ok (.iconst 0, 1) := by decide +kernel
theorem dX5_canBegin_11 : decode cX5_canBegin 11 = .ok (.ireturn, 1) := by decide +kernel
theorem dX5_canBegin_12 : decode cX5_canBegin 12 = .ok (.aload_n 0, 1) := by decide +kernel
theorem dX5_canBegin_13 : decode cX5_canBegin 13 = .ok (.getfield 10, 3) := by decide +kernel
theorem dX5_canBegin_16 : decode cX5_canBegin 16 = .ok (.getfield 126, 3) := by decide +kernel
theorem dX5_canBegin_19 : decode cX5_canBegin 19 = .ok (.iload_n 2, 1) := by decide +kernel
theorem dX5_canBegin_20 : decode cX5_canBegin 20 = .ok (.iaload, 1) := by decide +kernel
theorem dX5_canBegin_21 : decode cX5_canBegin 21 = .ok (.iconst 1, 1) := by decide +kernel
theorem dX5_canBegin_22 : decode cX5_canBegin 22 = .ok (.if_icmp .ne 20, 3) := by decide +kernel
theorem dX5_canBegin_25 : decode cX5_canBegin 25 = .ok (.aload_n 0, 1) := by decide +kernel
theorem dX5_canBegin_26 : decode cX5_canBegin 26 = .ok (.getfield 19, 3) := by decide +kernel
theorem dX5_canBegin_29 : decode cX5_canBegin 29 = .ok (.aload_n 0, 1) := by decide +kernel
theorem dX5_canBegin_30 : decode cX5_canBegin 30 = .ok (.getfield 10, 3) := by decide +kernel
theorem dX5_canBegin_33 : decode cX5_canBegin 33 = .ok (.getfield 321, 3) := by decide +kernel
theorem dX5_canBegin_36 : decode cX5_canBegin 36 = .ok (.iload_n 2, 1) := by decide +kernel
theorem dX5_canBegin_37 : decode cX5_canBegin 37 = .ok (.iaload, 1) := by decide +kernel
theorem dX5_canBegin_38 : decode cX5_canBegin 38 = .ok (.invokevirtual 342, 3) := by decide +kernel
theorem dX5_canBegin_41 : decode cX5_canBegin 41 = .ok (.ireturn, 1) := by decide +kernel
theorem dX5_canBegin_42 : decode cX5_canBegin 42 = .ok (.aload_n 0, 1) := by decide +kernel
theorem dX5_canBegin_43 : decode cX5_canBegin 43 = .ok (.getfield 10, 3) := by decide +kernel
theorem dX5_canBegin_46 : decode cX5_canBegin 46 = .ok (.getfield 126, 3) := by decide +kernel
theorem dX5_canBegin_49 : decode cX5_canBegin 49 = .ok (.iload_n 2, 1) := by decide +kernel
theorem dX5_canBegin_50 : decode cX5_canBegin 50 = .ok (.iaload, 1) := by decide +kernel
theorem dX5_canBegin_51 : decode cX5_canBegin 51 = .ok (.iconst 2, 1) := by decide +kernel
theorem dX5_canBegin_52 : decode cX5_canBegin 52 = .ok (.if_icmp .ne 23, 3) := by decide +kernel
theorem dX5_canBegin_55 : decode cX5_canBegin 55 = .ok (.aload_n 0, 1) := by decide +kernel
theorem dX5_canBegin_56 : decode cX5_canBegin 56 = .ok (.getfield 26, 3) := by decide +kernel
theorem dX5_canBegin_59 : decode cX5_canBegin 59 = .ok (.aload_n 1, 1) := by decide +kernel
theorem dX5_canBegin_60 : decode cX5_canBegin 60 = .ok (.getfield 198, 3) := by decide +kernel
theorem dX5_canBegin_63 : decode cX5_canBegin 63 = .ok (.iload_n 2, 1) := by decide +kernel
theorem dX5_canBegin_64 : decode cX5_canBegin 64 = .ok (.iaload, 1) := by decide +kernel
theorem dX5_canBegin_65 : decode cX5_canBegin 65 = .ok (.invokevirtual 345, 3) := by decide +kernel
theorem dX5_canBegin_68 : decode cX5_canBegin 68 = .ok (.aload_n 0, 1) := by decide +kernel
theorem dX5_canBegin_69 : decode cX5_canBegin 69 = .ok (.getfield 160, 3) := by decide +kernel
theorem dX5_canBegin_72 : decode cX5_canBegin 72 = .ok (.if_icmp .ne 7, 3) := by decide +kernel
theorem dX5_canBegin_75 : decode cX5_canBegin 75 = .ok (.iconst 1, 1) := by decide +kernel
theorem dX5_canBegin_76 : decode cX5_canBegin 76 = .ok (.goto 4, 3) := by decide +kernel
theorem dX5_canBegin_79 : decode cX5_canBegin 79 = .ok (.iconst 0, 1) := by decide +kernel
theorem dX5_canBegin_80 : decode cX5_canBegin 80 = .ok (.ireturn, 1) := by decide +kernel
theorem dX5_loseSessions_0 : decode cX5_loseSessions 0 = .ok (.iconst 0, 1) := by decide +kernel
theorem dX5_loseSessions_1 : decode cX5_loseSessions 1 = .ok (.istore_n 2, 1) := by decide +kernel
theorem dX5_loseSessions_2 : decode cX5_loseSessions 2 = .ok (.iload_n 2, 1) := by decide +kernel
theorem dX5_loseSessions_3 : decode cX5_loseSessions 3 = .ok (.bipush 12, 2) := by decide +kernel
theorem dX5_loseSessions_5 : decode cX5_loseSessions 5 = .ok (.if_icmp .ge 68, 3) := by decide +kernel
theorem dX5_loseSessions_8 : decode cX5_loseSessions 8 = .ok (.aload_n 1, 1) := by decide +kernel
theorem dX5_loseSessions_9 : decode cX5_loseSessions 9 = .ok (.getfield 195, 3) := by decide +kernel
theorem dX5_loseSessions_12 : decode cX5_loseSessions 12 = .ok (.iload_n 2, 1) := by decide +kernel
theorem dX5_loseSessions_13 : decode cX5_loseSessions 13 = .ok (.iaload, 1) := by decide +kernel
theorem dX5_loseSessions_14 : decode cX5_loseSessions 14 = .ok (.ifCond .ne 53, 3) := by decide +kernel
theorem dX5_loseSessions_17 : decode cX5_loseSessions 17 = .ok (.aload_n 0, 1) := by decide +kernel
theorem dX5_loseSessions_18 : decode cX5_loseSessions 18 = .ok (.getfield 26, 3) := by decide +kernel
theorem dX5_loseSessions_21 : decode cX5_loseSessions 21 = .ok (.aload_n 1, 1) := by decide +kernel
theorem dX5_loseSessions_22 : decode cX5_loseSessions 22 = .ok (.getfield 198, 3) := by decide +kernel
theorem dX5_loseSessions_25 : decode cX5_loseSessions 25 = .ok (.iload_n 2, 1) := by decide +kernel
theorem dX5_loseSessions_26 : decode cX5_loseSessions 26 = .ok (.iaload, 1) := by decide +kernel
theorem dX5_loseSessions_27 : decode cX5_loseSessions 27 = .ok (.invokevirtual 345, 3) := by decide +kernel
theorem dX5_loseSessions_30 : decode cX5_loseSessions 30 = .ok (.aload_n 0, 1) := by decide +kernel
theorem dX5_loseSessions_31 : decode cX5_loseSessions 31 = .ok (.getfield 160, 3) := by decide +kernel
theorem dX5_loseSessions_34 : decode cX5_loseSessions 34 = .ok (.if_icmp .ne 33, 3) := by decide +kernel
theorem dX5_loseSessions_37 : decode cX5_loseSessions 37 = .ok (.aload_n 0, 1) := by decide +kernel
theorem dX5_loseSessions_38 : decode cX5_loseSessions 38 = .ok (.getfield 26, 3) := by decide +kernel
theorem dX5_loseSessions_41 : decode cX5_loseSessions 41 = .ok (.aload_n 1, 1) := by decide +kernel
theorem dX5_loseSessions_42 : decode cX5_loseSessions 42 = .ok (.getfield 198, 3) := by decide +kernel
theorem dX5_loseSessions_45 : decode cX5_loseSessions 45 = .ok (.iload_n 2, 1) := by decide +kernel
theorem dX5_loseSessions_46 : decode cX5_loseSessions 46 = .ok (.iaload, 1) := by decide +kernel
theorem dX5_loseSessions_47 : decode cX5_loseSessions 47 = .ok (.invokevirtual 201, 3) := by decide +kernel
theorem dX5_loseSessions_50 : decode cX5_loseSessions 50 = .ok (.aload_n 1, 1) := by decide +kernel
theorem dX5_loseSessions_51 : decode cX5_loseSessions 51 = .ok (.getfield 198, 3) := by decide +kernel
theorem dX5_loseSessions_54 : decode cX5_loseSessions 54 = .ok (.iload_n 2, 1) := by decide +kernel
theorem dX5_loseSessions_55 : decode cX5_loseSessions 55 = .ok (.iconst (-1), 1) := by decide +kernel
theorem dX5_loseSessions_56 : decode cX5_loseSessions 56 = .ok (.iastore, 1) := by decide +kernel
theorem dX5_loseSessions_57 : decode cX5_loseSessions 57 = .ok (.aload_n 1, 1) := by decide +kernel
theorem dX5_loseSessions_58 : decode cX5_loseSessions 58 = .ok (.getfield 348, 3) := by decide +kernel
theorem dX5_loseSessions_61 : decode cX5_loseSessions 61 = .ok (.iload_n 2, 1) := by decide +kernel
theorem dX5_loseSessions_62 : decode cX5_loseSessions 62 = .ok (.dup2, 1) := by decide +kernel
theorem dX5_loseSessions_63 : decode cX5_loseSessions 63 = .ok (.iaload, 1) := by decide +kernel
theorem dX5_loseSessions_64 : decode cX5_loseSessions 64 = .ok (.iconst 1, 1) := by decide +kernel
theorem dX5_loseSessions_65 : decode cX5_loseSessions 65 = .ok (.iadd, 1) := by decide +kernel
theorem dX5_loseSessions_66 : decode cX5_loseSessions 66 = .ok (.iastore, 1) := by decide +kernel
theorem dX5_loseSessions_67 : decode cX5_loseSessions 67 = .ok (.iinc 2 1, 3) := by decide +kernel
theorem dX5_loseSessions_70 : decode cX5_loseSessions 70 = .ok (.goto (-68), 3) := by decide +kernel
theorem dX5_loseSessions_73 : decode cX5_loseSessions 73 = .ok (.return_, 1) := by decide +kernel
theorem dX5_bookAll_0 : decode cX5_bookAll 0 = .ok (.aload_n 0, 1) := by decide +kernel
theorem dX5_bookAll_1 : decode cX5_bookAll 1 = .ok (.getfield 35, 3) := by decide +kernel
theorem dX5_bookAll_4 : decode cX5_bookAll 4 = .ok (.aload_n 0, 1) := by decide +kernel
theorem dX5_bookAll_5 : decode cX5_bookAll 5 = .ok (.getfield 160, 3) := by decide +kernel
theorem dX5_bookAll_8 : decode cX5_bookAll 8 = .ok (.iconst (-1), 1) := by decide +kernel
theorem dX5_bookAll_9 : decode cX5_bookAll 9 = .ok (.iconst 0, 1) := by decide +kernel
theorem dX5_bookAll_10 : decode cX5_bookAll 10 = .ok (.invokevirtual 351, 3) := by decide +kernel
theorem dX5_bookAll_13 : decode cX5_bookAll 13 = .ok (.iconst 0, 1) := by decide +kernel
theorem dX5_bookAll_14 : decode cX5_bookAll 14 = .ok (.istore_n 1, 1) := by decide +kernel
theorem dX5_bookAll_15 : decode cX5_bookAll 15 = .ok (.iload_n 1, 1) := by decide +kernel
theorem dX5_bookAll_16 : decode cX5_bookAll 16 = .ok (.aload_n 0, 1) := by decide +kernel
theorem dX5_bookAll_17 : decode cX5_bookAll 17 = .ok (.getfield 174, 3) := by decide +kernel
theorem dX5_bookAll_20 : decode cX5_bookAll 20 = .ok (.if_icmp .ge 27, 3) := by decide +kernel
theorem dX5_bookAll_23 : decode cX5_bookAll 23 = .ok (.aload_n 0, 1) := by decide +kernel
theorem dX5_bookAll_24 : decode cX5_bookAll 24 = .ok (.iload_n 1, 1) := by decide +kernel
theorem dX5_bookAll_25 : decode cX5_bookAll 25 = .ok (.invokevirtual 179, 3) := by decide +kernel
theorem dX5_bookAll_28 : decode cX5_bookAll 28 = .ok (.astore_n 2, 1) := by decide +kernel
theorem dX5_bookAll_29 : decode cX5_bookAll 29 = .ok (.aload_n 2, 1) := by decide +kernel
theorem dX5_bookAll_30 : decode cX5_bookAll 30 = .ok (.getfield 189, 3) := by decide +kernel
theorem dX5_bookAll_33 : decode cX5_bookAll 33 = .ok (.ifCond .ne 8, 3) := by decide +kernel
theorem dX5_bookAll_36 : decode cX5_bookAll 36 = .ok (.aload_n 0, 1) := by decide +kernel
theorem dX5_bookAll_37 : decode cX5_bookAll 37 = .ok (.aload_n 2, 1) := by decide +kernel
theorem dX5_bookAll_38 : decode cX5_bookAll 38 = .ok (.invokevirtual 355, 3) := by decide +kernel
theorem dX5_bookAll_41 : decode cX5_bookAll 41 = .ok (.iinc 1 1, 3) := by decide +kernel
theorem dX5_bookAll_44 : decode cX5_bookAll 44 = .ok (.goto (-29), 3) := by decide +kernel
theorem dX5_bookAll_47 : decode cX5_bookAll 47 = .ok (.return_, 1) := by decide +kernel
theorem dX5_bookFor_0 : decode cX5_bookFor 0 = .ok (.iconst 0, 1) := by decide +kernel
theorem dX5_bookFor_1 : decode cX5_bookFor 1 = .ok (.istore_n 2, 1) := by decide +kernel
theorem dX5_bookFor_2 : decode cX5_bookFor 2 = .ok (.iload_n 2, 1) := by decide +kernel
theorem dX5_bookFor_3 : decode cX5_bookFor 3 = .ok (.bipush 12, 2) := by decide +kernel
theorem dX5_bookFor_5 : decode cX5_bookFor 5 = .ok (.if_icmp .ge 82, 3) := by decide +kernel
theorem dX5_bookFor_8 : decode cX5_bookFor 8 = .ok (.aload_n 0, 1) := by decide +kernel
theorem dX5_bookFor_9 : decode cX5_bookFor 9 = .ok (.getfield 35, 3) := by decide +kernel
theorem dX5_bookFor_12 : decode cX5_bookFor 12 = .ok (.aload_n 1, 1) := by decide +kernel
theorem dX5_bookFor_13 : decode cX5_bookFor 13 = .ok (.iload_n 2, 1) := by decide +kernel
theorem dX5_bookFor_14 : decode cX5_bookFor 14 = .ok (.invokevirtual 358, 3) := by decide +kernel
theorem dX5_bookFor_17 : decode cX5_bookFor 17 = .ok (.aload_n 0, 1) := by decide +kernel
theorem dX5_bookFor_18 : decode cX5_bookFor 18 = .ok (.getfield 10, 3) := by decide +kernel
theorem dX5_bookFor_21 : decode cX5_bookFor 21 = .ok (.getfield 126, 3) := by decide +kernel
theorem dX5_bookFor_24 : decode cX5_bookFor 24 = .ok (.iload_n 2, 1) := by decide +kernel
theorem dX5_bookFor_25 : decode cX5_bookFor 25 = .ok (.iaload, 1) := by decide +kernel
theorem dX5_bookFor_26 : decode cX5_bookFor 26 = .ok (.iconst 2, 1) := by decide +kernel
theorem dX5_bookFor_27 : decode cX5_bookFor 27 = .ok (.if_icmp .ne 54, 3) := by decide +kernel
theorem dX5_bookFor_30 : decode cX5_bookFor 30 = .ok (.aload_n 1, 1) := by decide +kernel
theorem dX5_bookFor_31 : decode cX5_bookFor 31 = .ok (.iload_n 2, 1) := by decide +kernel
theorem dX5_bookFor_32 : decode cX5_bookFor 32 = .ok (.iconst 0, 1) := by decide +kernel
theorem dX5_bookFor_33 : decode cX5_bookFor 33 = .ok (.invokevirtual 336, 3) := by decide +kernel
theorem dX5_bookFor_36 : decode cX5_bookFor 36 = .ok (.ifCond .eq 45, 3) := by decide +kernel
theorem dX5_bookFor_39 : decode cX5_bookFor 39 = .ok (.aload_n 1, 1) := by decide +kernel
theorem dX5_bookFor_40 : decode cX5_bookFor 40 = .ok (.getfield 198, 3) := by decide +kernel
theorem dX5_bookFor_43 : decode cX5_bookFor 43 = .ok (.iload_n 2, 1) := by decide +kernel
theorem dX5_bookFor_44 : decode cX5_bookFor 44 = .ok (.iaload, 1) := by decide +kernel
theorem dX5_bookFor_45 : decode cX5_bookFor 45 = .ok (.iconst (-1), 1) := by decide +kernel
theorem dX5_bookFor_46 : decode cX5_bookFor 46 = .ok (.if_icmp .ne 35, 3) := by decide +kernel
theorem dX5_bookFor_49 : decode cX5_bookFor 49 = .ok (.aload_n 1, 1) := by decide +kernel
theorem dX5_bookFor_50 : decode cX5_bookFor 50 = .ok (.getfield 198, 3) := by decide +kernel
theorem dX5_bookFor_53 : decode cX5_bookFor 53 = .ok (.iload_n 2, 1) := by decide +kernel
theorem dX5_bookFor_54 : decode cX5_bookFor 54 = .ok (.aload_n 0, 1) := by decide +kernel
theorem dX5_bookFor_55 : decode cX5_bookFor 55 = .ok (.getfield 26, 3) := by decide +kernel
theorem dX5_bookFor_58 : decode cX5_bookFor 58 = .ok (.iload_n 2, 1) := by decide +kernel
theorem dX5_bookFor_59 : decode cX5_bookFor 59 = .ok (.aload_n 0, 1) := by decide +kernel
theorem dX5_bookFor_60 : decode cX5_bookFor 60 = .ok (.getfield 35, 3) := by decide +kernel
theorem dX5_bookFor_63 : decode cX5_bookFor 63 = .ok (.getfield 362, 3) := by decide +kernel
theorem dX5_bookFor_66 : decode cX5_bookFor 66 = .ok (.iload_n 2, 1) := by decide +kernel
theorem dX5_bookFor_67 : decode cX5_bookFor 67 = .ok (.iaload, 1) := by decide +kernel
theorem dX5_bookFor_68 : decode cX5_bookFor 68 = .ok (.invokevirtual 363, 3) := by decide +kernel
theorem dX5_bookFor_71 : decode cX5_bookFor 71 = .ok (.iastore, 1) := by decide +kernel
theorem dX5_bookFor_72 : decode cX5_bookFor 72 = .ok (.aload_n 0, 1) := by decide +kernel
theorem dX5_bookFor_73 : decode cX5_bookFor 73 = .ok (.getfield 35, 3) := by decide +kernel
theorem dX5_bookFor_76 : decode cX5_bookFor 76 = .ok (.aload_n 1, 1) := by decide +kernel
theorem dX5_bookFor_77 : decode cX5_bookFor 77 = .ok (.iload_n 2, 1) := by decide +kernel
theorem dX5_bookFor_78 : decode cX5_bookFor 78 = .ok (.invokevirtual 358, 3) := by decide +kernel
theorem dX5_bookFor_81 : decode cX5_bookFor 81 = .ok (.iinc 2 1, 3) := by decide +kernel
theorem dX5_bookFor_84 : decode cX5_bookFor 84 = .ok (.goto (-82), 3) := by decide +kernel
theorem dX5_bookFor_87 : decode cX5_bookFor 87 = .ok (.return_, 1) := by decide +kernel
theorem dX5_takeBackStep_0 : decode cX5_takeBackStep 0 = .ok (.aload_n 1, 1) := by decide +kernel
theorem dX5_takeBackStep_1 : decode cX5_takeBackStep 1 = .ok (.getfield 189, 3) := by decide +kernel
theorem dX5_takeBackStep_4 : decode cX5_takeBackStep 4 = .ok (.ifCond .ne 4, 3) := by decide +kernel
theorem dX5_takeBackStep_7 : decode cX5_takeBackStep 7 = .ok (.return_, 1) := by decide +kernel
theorem dX5_takeBackStep_8 : decode cX5_takeBackStep 8 = .ok (.aload_n 1, 1) := by decide +kernel
theorem dX5_takeBackStep_9 : decode cX5_takeBackStep 9 = .ok (.invokevirtual 366, 3) := by decide +kernel
theorem dX5_takeBackStep_12 : decode cX5_takeBackStep 12 = .ok (.istore_n 2, 1) := by decide +kernel
theorem dX5_takeBackStep_13 : decode cX5_takeBackStep 13 = .ok (.iload_n 2, 1) := by decide +kernel
theorem dX5_takeBackStep_14 : decode cX5_takeBackStep 14 = .ok (.ifCond .lt 9, 3) := by decide +kernel
theorem dX5_takeBackStep_17 : decode cX5_takeBackStep 17 = .ok (.iload_n 2, 1) := by decide +kernel
theorem dX5_takeBackStep_18 : decode cX5_takeBackStep 18 = .ok (.bipush 12, 2) := by decide +kernel
theorem dX5_takeBackStep_20 : decode cX5_takeBackStep 20 = .ok (.if_icmp .lt 4, 3) := by decide +kernel
theorem dX5_takeBackStep_23 : decode cX5_takeBackStep 23 = .ok (.return_, 1) := by decide +kernel
theorem dX5_takeBackStep_24 : decode cX5_takeBackStep 24 = .ok (.aload_n 1, 1) := by decide +kernel
theorem dX5_takeBackStep_25 : decode cX5_takeBackStep 25 = .ok (.getfield 195, 3) := by decide +kernel
theorem dX5_takeBackStep_28 : decode cX5_takeBackStep 28 = .ok (.iload_n 2, 1) := by decide +kernel
theorem dX5_takeBackStep_29 : decode cX5_takeBackStep 29 = .ok (.iconst 3, 1) := by decide +kernel
theorem dX5_takeBackStep_30 : decode cX5_takeBackStep 30 = .ok (.iastore, 1) := by decide +kernel
theorem dX5_takeBackStep_31 : decode cX5_takeBackStep 31 = .ok (.aload_n 0, 1) := by decide +kernel
theorem dX5_takeBackStep_32 : decode cX5_takeBackStep 32 = .ok (.getfield 10, 3) := by decide +kernel
theorem dX5_takeBackStep_35 : decode cX5_takeBackStep 35 = .ok (.getfield 126, 3) := by decide +kernel
theorem dX5_takeBackStep_38 : decode cX5_takeBackStep 38 = .ok (.iload_n 2, 1) := by decide +kernel
theorem dX5_takeBackStep_39 : decode cX5_takeBackStep 39 = .ok (.iaload, 1) := by decide +kernel
theorem dX5_takeBackStep_40 : decode cX5_takeBackStep 40 = .ok (.iconst 1, 1) := by decide +kernel
theorem dX5_takeBackStep_41 : decode cX5_takeBackStep 41 = .ok (.if_icmp .ne 20, 3) := by decide +kernel
theorem dX5_takeBackStep_44 : decode cX5_takeBackStep 44 = .ok (.aload_n 0, 1) := by decide +kernel
theorem dX5_takeBackStep_45 : decode cX5_takeBackStep 45 = .ok (.getfield 19, 3) := by decide +kernel
theorem dX5_takeBackStep_48 : decode cX5_takeBackStep 48 = .ok (.aload_n 0, 1) := by decide +kernel
theorem dX5_takeBackStep_49 : decode cX5_takeBackStep 49 = .ok (.getfield 10, 3) := by decide +kernel
theorem dX5_takeBackStep_52 : decode cX5_takeBackStep 52 = .ok (.getfield 321, 3) := by decide +kernel
theorem dX5_takeBackStep_55 : decode cX5_takeBackStep 55 = .ok (.iload_n 2, 1) := by decide +kernel
theorem dX5_takeBackStep_56 : decode cX5_takeBackStep 56 = .ok (.iaload, 1) := by decide +kernel
theorem dX5_takeBackStep_57 : decode cX5_takeBackStep 57 = .ok (.iconst 1, 1) := by decide +kernel
theorem dX5_takeBackStep_58 : decode cX5_takeBackStep 58 = .ok (.invokevirtual 95, 3) := by decide +kernel
theorem dX5_takeBackStep_61 : decode cX5_takeBackStep 61 = .ok (.return_, 1) := by decide +kernel
theorem dX5_foreseenOfStep_0 : decode cX5_foreseenOfStep 0 = .ok (.iload_n 2, 1) := by decide +kernel
theorem dX5_foreseenOfStep_1 : decode cX5_foreseenOfStep 1 = .ok (.ifCond .lt 9, 3) := by decide +kernel
theorem dX5_foreseenOfStep_4 : decode cX5_foreseenOfStep 4 = .ok (.iload_n 2, 1) := by decide +kernel
theorem dX5_foreseenOfStep_5 : decode cX5_foreseenOfStep 5 = .ok (.bipush 12, 2) := by decide +kernel
theorem dX5_foreseenOfStep_7 : decode cX5_foreseenOfStep 7 = .ok (.if_icmp .lt 5, 3) := by decide +kernel
theorem dX5_foreseenOfStep_10 : decode cX5_foreseenOfStep 10 = .ok (.iconst (-1), 1) := by decide +kernel
theorem dX5_foreseenOfStep_11 : decode cX5_foreseenOfStep 11 = .ok (.ireturn, 1) := by decide +kernel
theorem dX5_foreseenOfStep_12 : decode cX5_foreseenOfStep 12 = .ok (.iload_n 3, 1) := by decide +kernel
theorem dX5_foreseenOfStep_13 : decode cX5_foreseenOfStep 13 = .ok (.tableswitch 79 0 4 #[35, 42, 52, 62, 69], 35) := by decide +kernel
theorem dX5_foreseenOfStep_48 : decode cX5_foreseenOfStep 48 = .ok (.aload_n 1, 1) := by decide +kernel
theorem dX5_foreseenOfStep_49 : decode cX5_foreseenOfStep 49 = .ok (.getfield 195, 3) := by decide +kernel
theorem dX5_foreseenOfStep_52 : decode cX5_foreseenOfStep 52 = .ok (.iload_n 2, 1) := by decide +kernel
theorem dX5_foreseenOfStep_53 : decode cX5_foreseenOfStep 53 = .ok (.iaload, 1) := by decide +kernel
theorem dX5_foreseenOfStep_54 : decode cX5_foreseenOfStep 54 = .ok (.ireturn, 1) := by decide +kernel
theorem dX5_foreseenOfStep_55 : decode cX5_foreseenOfStep 55 = .ok (.aload_n 0, 1) := by decide +kernel
theorem dX5_foreseenOfStep_56 : decode cX5_foreseenOfStep 56 = .ok (.getfield 35, 3) := by decide +kernel
theorem dX5_foreseenOfStep_59 : decode cX5_foreseenOfStep 59 = .ok (.getfield 362, 3) := by decide +kernel
theorem dX5_foreseenOfStep_62 : decode cX5_foreseenOfStep 62 = .ok (.iload_n 2, 1) := by decide +kernel
theorem dX5_foreseenOfStep_63 : decode cX5_foreseenOfStep 63 = .ok (.iaload, 1) := by decide +kernel
theorem dX5_foreseenOfStep_64 : decode cX5_foreseenOfStep 64 = .ok (.ireturn, 1) := by decide +kernel
theorem dX5_foreseenOfStep_65 : decode cX5_foreseenOfStep 65 = .ok (.aload_n 0, 1) := by decide +kernel
theorem dX5_foreseenOfStep_66 : decode cX5_foreseenOfStep 66 = .ok (.getfield 35, 3) := by decide +kernel
theorem dX5_foreseenOfStep_69 : decode cX5_foreseenOfStep 69 = .ok (.getfield 369, 3) := by decide +kernel
theorem dX5_foreseenOfStep_72 : decode cX5_foreseenOfStep 72 = .ok (.iload_n 2, 1) := by decide +kernel
theorem dX5_foreseenOfStep_73 : decode cX5_foreseenOfStep 73 = .ok (.iaload, 1) := by decide +kernel
theorem dX5_foreseenOfStep_74 : decode cX5_foreseenOfStep 74 = .ok (.ireturn, 1) := by decide +kernel
theorem dX5_foreseenOfStep_75 : decode cX5_foreseenOfStep 75 = .ok (.aload_n 1, 1) := by decide +kernel
theorem dX5_foreseenOfStep_76 : decode cX5_foreseenOfStep 76 = .ok (.getfield 198, 3) := by decide +kernel
theorem dX5_foreseenOfStep_79 : decode cX5_foreseenOfStep 79 = .ok (.iload_n 2, 1) := by decide +kernel
theorem dX5_foreseenOfStep_80 : decode cX5_foreseenOfStep 80 = .ok (.iaload, 1) := by decide +kernel
theorem dX5_foreseenOfStep_81 : decode cX5_foreseenOfStep 81 = .ok (.ireturn, 1) := by decide +kernel
theorem dX5_foreseenOfStep_82 : decode cX5_foreseenOfStep 82 = .ok (.aload_n 0, 1) := by decide +kernel
theorem dX5_foreseenOfStep_83 : decode cX5_foreseenOfStep 83 = .ok (.getfield 10, 3) := by decide +kernel
theorem dX5_foreseenOfStep_86 : decode cX5_foreseenOfStep 86 = .ok (.aload_n 1, 1) := by decide +kernel
theorem dX5_foreseenOfStep_87 : decode cX5_foreseenOfStep 87 = .ok (.iload_n 2, 1) := by decide +kernel
theorem dX5_foreseenOfStep_88 : decode cX5_foreseenOfStep 88 = .ok (.invokevirtual 330, 3) := by decide +kernel
theorem dX5_foreseenOfStep_91 : decode cX5_foreseenOfStep 91 = .ok (.ireturn, 1) := by decide +kernel
theorem dX5_foreseenOfStep_92 : decode cX5_foreseenOfStep 92 = .ok (.aload_n 1, 1) := by decide +kernel
theorem dX5_foreseenOfStep_93 : decode cX5_foreseenOfStep 93 = .ok (.getfield 348, 3) := by decide +kernel
theorem dX5_foreseenOfStep_96 : decode cX5_foreseenOfStep 96 = .ok (.iload_n 2, 1) := by decide +kernel
theorem dX5_foreseenOfStep_97 : decode cX5_foreseenOfStep 97 = .ok (.iaload, 1) := by decide +kernel
theorem dX5_foreseenOfStep_98 : decode cX5_foreseenOfStep 98 = .ok (.ireturn, 1) := by decide +kernel
theorem dX5_foreseenOfJoiner_0 : decode cX5_foreseenOfJoiner 0 = .ok (.iload_n 2, 1) := by decide +kernel
theorem dX5_foreseenOfJoiner_1 : decode cX5_foreseenOfJoiner 1 = .ok (.tableswitch 83 0 5 #[39, 44, 49, 55, 61, 70], 39) := by decide +kernel
theorem dX5_foreseenOfJoiner_40 : decode cX5_foreseenOfJoiner 40 = .ok (.aload_n 1, 1) := by decide +kernel
theorem dX5_foreseenOfJoiner_41 : decode cX5_foreseenOfJoiner 41 = .ok (.getfield 183, 3) := by decide +kernel
theorem dX5_foreseenOfJoiner_44 : decode cX5_foreseenOfJoiner 44 = .ok (.ireturn, 1) := by decide +kernel
theorem dX5_foreseenOfJoiner_45 : decode cX5_foreseenOfJoiner 45 = .ok (.aload_n 1, 1) := by decide +kernel
theorem dX5_foreseenOfJoiner_46 : decode cX5_foreseenOfJoiner 46 = .ok (.getfield 186, 3) := by decide +kernel
theorem dX5_foreseenOfJoiner_49 : decode cX5_foreseenOfJoiner 49 = .ok (.ireturn, 1) := by decide +kernel
theorem dX5_foreseenOfJoiner_50 : decode cX5_foreseenOfJoiner 50 = .ok (.aload_n 1, 1) := by decide +kernel
theorem dX5_foreseenOfJoiner_51 : decode cX5_foreseenOfJoiner 51 = .ok (.iconst 2, 1) := by decide +kernel
theorem dX5_foreseenOfJoiner_52 : decode cX5_foreseenOfJoiner 52 = .ok (.invokevirtual 205, 3) := by decide +kernel
theorem dX5_foreseenOfJoiner_55 : decode cX5_foreseenOfJoiner 55 = .ok (.ireturn, 1) := by decide +kernel
theorem dX5_foreseenOfJoiner_56 : decode cX5_foreseenOfJoiner 56 = .ok (.aload_n 1, 1) := by decide +kernel
theorem dX5_foreseenOfJoiner_57 : decode cX5_foreseenOfJoiner 57 = .ok (.iconst 1, 1) := by decide +kernel
theorem dX5_foreseenOfJoiner_58 : decode cX5_foreseenOfJoiner 58 = .ok (.invokevirtual 205, 3) := by decide +kernel
theorem dX5_foreseenOfJoiner_61 : decode cX5_foreseenOfJoiner 61 = .ok (.ireturn, 1) := by decide +kernel
theorem dX5_foreseenOfJoiner_62 : decode cX5_foreseenOfJoiner 62 = .ok (.aload_n 0, 1) := by decide +kernel
theorem dX5_foreseenOfJoiner_63 : decode cX5_foreseenOfJoiner 63 = .ok (.getfield 10, 3) := by decide +kernel
theorem dX5_foreseenOfJoiner_66 : decode cX5_foreseenOfJoiner 66 = .ok (.aload_n 1, 1) := by decide +kernel
theorem dX5_foreseenOfJoiner_67 : decode cX5_foreseenOfJoiner 67 = .ok (.invokevirtual 372, 3) := by decide +kernel
theorem dX5_foreseenOfJoiner_70 : decode cX5_foreseenOfJoiner 70 = .ok (.ireturn, 1) := by decide +kernel
theorem dX5_foreseenOfJoiner_71 : decode cX5_foreseenOfJoiner 71 = .ok (.aload_n 1, 1) := by decide +kernel
theorem dX5_foreseenOfJoiner_72 : decode cX5_foreseenOfJoiner 72 = .ok (.getfield 189, 3) := by decide +kernel
theorem dX5_foreseenOfJoiner_75 : decode cX5_foreseenOfJoiner 75 = .ok (.ifCond .eq 7, 3) := by decide +kernel
theorem dX5_foreseenOfJoiner_78 : decode cX5_foreseenOfJoiner 78 = .ok (.iconst 1, 1) := by decide +kernel
theorem dX5_foreseenOfJoiner_79 : decode cX5_foreseenOfJoiner 79 = .ok (.goto 4, 3) := by decide +kernel
theorem dX5_foreseenOfJoiner_82 : decode cX5_foreseenOfJoiner 82 = .ok (.iconst 0, 1) := by decide +kernel
theorem dX5_foreseenOfJoiner_83 : decode cX5_foreseenOfJoiner 83 = .ok (.ireturn, 1) := by decide +kernel
theorem dX5_foreseenOfJoiner_84 : decode cX5_foreseenOfJoiner 84 = .ok (.aload_n 0, 1) := by decide +kernel
theorem dX5_foreseenOfJoiner_85 : decode cX5_foreseenOfJoiner 85 = .ok (.getfield 35, 3) := by decide +kernel
theorem dX5_foreseenOfJoiner_88 : decode cX5_foreseenOfJoiner 88 = .ok (.aload_n 1, 1) := by decide +kernel
theorem dX5_foreseenOfJoiner_89 : decode cX5_foreseenOfJoiner 89 = .ok (.getfield 183, 3) := by decide +kernel
theorem dX5_foreseenOfJoiner_92 : decode cX5_foreseenOfJoiner 92 = .ok (.invokevirtual 268, 3) := by decide +kernel
theorem dX5_foreseenOfJoiner_95 : decode cX5_foreseenOfJoiner 95 = .ok (.ireturn, 1) := by decide +kernel
theorem dX5_nextStep_0 : decode cX5_nextStep 0 = .ok (.aload_n 1, 1) := by decide +kernel
theorem dX5_nextStep_1 : decode cX5_nextStep 1 = .ok (.getfield 189, 3) := by decide +kernel
theorem dX5_nextStep_4 : decode cX5_nextStep 4 = .ok (.ifCond .eq 5, 3) := by decide +kernel
theorem dX5_nextStep_7 : decode cX5_nextStep 7 = .ok (.iconst (-1), 1) := by decide +kernel
theorem dX5_nextStep_8 : decode cX5_nextStep 8 = .ok (.ireturn, 1) := by decide +kernel
theorem dX5_nextStep_9 : decode cX5_nextStep 9 = .ok (.iconst 0, 1) := by decide +kernel
theorem dX5_nextStep_10 : decode cX5_nextStep 10 = .ok (.istore_n 2, 1) := by decide +kernel
theorem dX5_nextStep_11 : decode cX5_nextStep 11 = .ok (.iload_n 2, 1) := by decide +kernel
theorem dX5_nextStep_12 : decode cX5_nextStep 12 = .ok (.bipush 12, 2) := by decide +kernel
theorem dX5_nextStep_14 : decode cX5_nextStep 14 = .ok (.if_icmp .ge 51, 3) := by decide +kernel
theorem dX5_nextStep_17 : decode cX5_nextStep 17 = .ok (.aload_n 1, 1) := by decide +kernel
theorem dX5_nextStep_18 : decode cX5_nextStep 18 = .ok (.iload_n 2, 1) := by decide +kernel
theorem dX5_nextStep_19 : decode cX5_nextStep 19 = .ok (.iconst 0, 1) := by decide +kernel
theorem dX5_nextStep_20 : decode cX5_nextStep 20 = .ok (.invokevirtual 336, 3) := by decide +kernel
theorem dX5_nextStep_23 : decode cX5_nextStep 23 = .ok (.ifCond .ne 12, 3) := by decide +kernel
theorem dX5_nextStep_26 : decode cX5_nextStep 26 = .ok (.aload_n 1, 1) := by decide +kernel
theorem dX5_nextStep_27 : decode cX5_nextStep 27 = .ok (.iload_n 2, 1) := by decide +kernel
theorem dX5_nextStep_28 : decode cX5_nextStep 28 = .ok (.iconst 1, 1) := by decide +kernel
theorem dX5_nextStep_29 : decode cX5_nextStep 29 = .ok (.invokevirtual 336, 3) := by decide +kernel
theorem dX5_nextStep_32 : decode cX5_nextStep 32 = .ok (.ifCond .eq 7, 3) := by decide +kernel
theorem dX5_nextStep_35 : decode cX5_nextStep 35 = .ok (.iconst 1, 1) := by decide +kernel
theorem dX5_nextStep_36 : decode cX5_nextStep 36 = .ok (.goto 4, 3) := by decide +kernel
theorem dX5_nextStep_39 : decode cX5_nextStep 39 = .ok (.iconst 0, 1) := by decide +kernel
theorem dX5_nextStep_40 : decode cX5_nextStep 40 = .ok (.istore_n 3, 1) := by decide +kernel
theorem dX5_nextStep_41 : decode cX5_nextStep 41 = .ok (.iload_n 3, 1) := by decide +kernel
theorem dX5_nextStep_42 : decode cX5_nextStep 42 = .ok (.ifCond .eq 17, 3) := by decide +kernel
theorem dX5_nextStep_45 : decode cX5_nextStep 45 = .ok (.aload_n 0, 1) := by decide +kernel
theorem dX5_nextStep_46 : decode cX5_nextStep 46 = .ok (.getfield 10, 3) := by decide +kernel
theorem dX5_nextStep_49 : decode cX5_nextStep 49 = .ok (.aload_n 1, 1) := by decide +kernel
theorem dX5_nextStep_50 : decode cX5_nextStep 50 = .ok (.iload_n 2, 1) := by decide +kernel
theorem dX5_nextStep_51 : decode cX5_nextStep 51 = .ok (.invokevirtual 339, 3) := by decide +kernel
theorem dX5_nextStep_54 : decode cX5_nextStep 54 = .ok (.ifCond .eq 5, 3) := by decide +kernel
theorem dX5_nextStep_57 : decode cX5_nextStep 57 = .ok (.iload_n 2, 1) := by decide +kernel
theorem dX5_nextStep_58 : decode cX5_nextStep 58 = .ok (.ireturn, 1) := by decide +kernel
theorem dX5_nextStep_59 : decode cX5_nextStep 59 = .ok (.iinc 2 1, 3) := by decide +kernel
theorem dX5_nextStep_62 : decode cX5_nextStep 62 = .ok (.goto (-51), 3) := by decide +kernel
theorem dX5_nextStep_65 : decode cX5_nextStep 65 = .ok (.iconst (-1), 1) := by decide +kernel
theorem dX5_nextStep_66 : decode cX5_nextStep 66 = .ok (.ireturn, 1) := by decide +kernel
theorem dX5_countWaitingOn_0 : decode cX5_countWaitingOn 0 = .ok (.iconst 1, 1) := by decide +kernel
theorem dX5_countWaitingOn_1 : decode cX5_countWaitingOn 1 = .ok (.iload_n 2, 1) := by decide +kernel
theorem dX5_countWaitingOn_2 : decode cX5_countWaitingOn 2 = .ok (.ishl, 1) := by decide +kernel
theorem dX5_countWaitingOn_3 : decode cX5_countWaitingOn 3 = .ok (.istore_n 3, 1) := by decide +kernel
theorem dX5_countWaitingOn_4 : decode cX5_countWaitingOn 4 = .ok (.iload_n 3, 1) := by decide +kernel
theorem dX5_countWaitingOn_5 : decode cX5_countWaitingOn 5 = .ok (.istore 4, 2) := by decide +kernel
theorem dX5_countWaitingOn_7 : decode cX5_countWaitingOn 7 = .ok (.iconst 0, 1) := by decide +kernel
theorem dX5_countWaitingOn_8 : decode cX5_countWaitingOn 8 = .ok (.istore 5, 2) := by decide +kernel
theorem dX5_countWaitingOn_10 : decode cX5_countWaitingOn 10 = .ok (.iload 5, 2) := by decide +kernel
theorem dX5_countWaitingOn_12 : decode cX5_countWaitingOn 12 = .ok (.bipush 12, 2) := by decide +kernel
theorem dX5_countWaitingOn_14 : decode cX5_countWaitingOn 14 = .ok (.if_icmp .ge 46, 3) := by decide +kernel
theorem dX5_countWaitingOn_17 : decode cX5_countWaitingOn 17 = .ok (.aload_n 1, 1) := by decide +kernel
theorem dX5_countWaitingOn_18 : decode cX5_countWaitingOn 18 = .ok (.getfield 183, 3) := by decide +kernel
theorem dX5_countWaitingOn_21 : decode cX5_countWaitingOn 21 = .ok (.iload 5, 2) := by decide +kernel
theorem dX5_countWaitingOn_23 : decode cX5_countWaitingOn 23 = .ok (.invokestatic 226, 3) := by decide +kernel
theorem dX5_countWaitingOn_26 : decode cX5_countWaitingOn 26 = .ok (.ifCond .eq 28, 3) := by decide +kernel
theorem dX5_countWaitingOn_29 : decode cX5_countWaitingOn 29 = .ok (.aload_n 0, 1) := by decide +kernel
theorem dX5_countWaitingOn_30 : decode cX5_countWaitingOn 30 = .ok (.getfield 10, 3) := by decide +kernel
theorem dX5_countWaitingOn_33 : decode cX5_countWaitingOn 33 = .ok (.getfield 375, 3) := by decide +kernel
theorem dX5_countWaitingOn_36 : decode cX5_countWaitingOn 36 = .ok (.iload 5, 2) := by decide +kernel
theorem dX5_countWaitingOn_38 : decode cX5_countWaitingOn 38 = .ok (.iaload, 1) := by decide +kernel
theorem dX5_countWaitingOn_39 : decode cX5_countWaitingOn 39 = .ok (.iload 4, 2) := by decide +kernel
theorem dX5_countWaitingOn_41 : decode cX5_countWaitingOn 41 = .ok (.iand, 1) := by decide +kernel
theorem dX5_countWaitingOn_42 : decode cX5_countWaitingOn 42 = .ok (.ifCond .eq 12, 3) := by decide +kernel
theorem dX5_countWaitingOn_45 : decode cX5_countWaitingOn 45 = .ok (.iload 4, 2) := by decide +kernel
theorem dX5_countWaitingOn_47 : decode cX5_countWaitingOn 47 = .ok (.iconst 1, 1) := by decide +kernel
theorem dX5_countWaitingOn_48 : decode cX5_countWaitingOn 48 = .ok (.iload 5, 2) := by decide +kernel
theorem dX5_countWaitingOn_50 : decode cX5_countWaitingOn 50 = .ok (.ishl, 1) := by decide +kernel
theorem dX5_countWaitingOn_51 : decode cX5_countWaitingOn 51 = .ok (.ior, 1) := by decide +kernel
theorem dX5_countWaitingOn_52 : decode cX5_countWaitingOn 52 = .ok (.istore 4, 2) := by decide +kernel
theorem dX5_countWaitingOn_54 : decode cX5_countWaitingOn 54 = .ok (.iinc 5 1, 3) := by decide +kernel
theorem dX5_countWaitingOn_57 : decode cX5_countWaitingOn 57 = .ok (.goto (-47), 3) := by decide +kernel
theorem dX5_countWaitingOn_60 : decode cX5_countWaitingOn 60 = .ok (.iload 4, 2) := by decide +kernel
theorem dX5_countWaitingOn_62 : decode cX5_countWaitingOn 62 = .ok (.iload_n 3, 1) := by decide +kernel
theorem dX5_countWaitingOn_63 : decode cX5_countWaitingOn 63 = .ok (.iconst (-1), 1) := by decide +kernel
theorem dX5_countWaitingOn_64 : decode cX5_countWaitingOn 64 = .ok (.ixor, 1) := by decide +kernel
theorem dX5_countWaitingOn_65 : decode cX5_countWaitingOn 65 = .ok (.iand, 1) := by decide +kernel
theorem dX5_countWaitingOn_66 : decode cX5_countWaitingOn 66 = .ok (.aload_n 1, 1) := by decide +kernel
theorem dX5_countWaitingOn_67 : decode cX5_countWaitingOn 67 = .ok (.iconst 2, 1) := by decide +kernel
theorem dX5_countWaitingOn_68 : decode cX5_countWaitingOn 68 = .ok (.invokevirtual 378, 3) := by decide +kernel
theorem dX5_countWaitingOn_71 : decode cX5_countWaitingOn 71 = .ok (.iconst (-1), 1) := by decide +kernel
theorem dX5_countWaitingOn_72 : decode cX5_countWaitingOn 72 = .ok (.ixor, 1) := by decide +kernel
theorem dX5_countWaitingOn_73 : decode cX5_countWaitingOn 73 = .ok (.iand, 1) := by decide +kernel
theorem dX5_countWaitingOn_74 : decode cX5_countWaitingOn 74 = .ok (.invokestatic 381, 3) := by decide +kernel
theorem dX5_countWaitingOn_77 : decode cX5_countWaitingOn 77 = .ok (.ireturn, 1) := by decide +kernel
theorem dX5_countWaitingFor_0 : decode cX5_countWaitingFor 0 = .ok (.iconst 0, 1) := by decide +kernel
theorem dX5_countWaitingFor_1 : decode cX5_countWaitingFor 1 = .ok (.istore_n 2, 1) := by decide +kernel
theorem dX5_countWaitingFor_2 : decode cX5_countWaitingFor 2 = .ok (.iconst 0, 1) := by decide +kernel
theorem dX5_countWaitingFor_3 : decode cX5_countWaitingFor 3 = .ok (.istore_n 3, 1) := by decide +kernel
theorem dX5_countWaitingFor_4 : decode cX5_countWaitingFor 4 = .ok (.iload_n 3, 1) := by decide +kernel
theorem dX5_countWaitingFor_5 : decode cX5_countWaitingFor 5 = .ok (.aload_n 0, 1) := by decide +kernel
theorem dX5_countWaitingFor_6 : decode cX5_countWaitingFor 6 = .ok (.getfield 174, 3) := by decide +kernel
theorem dX5_countWaitingFor_9 : decode cX5_countWaitingFor 9 = .ok (.if_icmp .ge 74, 3) := by decide +kernel
theorem dX5_countWaitingFor_12 : decode cX5_countWaitingFor 12 = .ok (.aload_n 0, 1) := by decide +kernel
theorem dX5_countWaitingFor_13 : decode cX5_countWaitingFor 13 = .ok (.iload_n 3, 1) := by decide +kernel
theorem dX5_countWaitingFor_14 : decode cX5_countWaitingFor 14 = .ok (.invokevirtual 179, 3) := by decide +kernel
theorem dX5_countWaitingFor_17 : decode cX5_countWaitingFor 17 = .ok (.astore 4, 2) := by decide +kernel
theorem dX5_countWaitingFor_19 : decode cX5_countWaitingFor 19 = .ok (.iconst 0, 1) := by decide +kernel
theorem dX5_countWaitingFor_20 : decode cX5_countWaitingFor 20 = .ok (.istore 5, 2) := by decide +kernel
theorem dX5_countWaitingFor_22 : decode cX5_countWaitingFor 22 = .ok (.iload 5, 2) := by decide +kernel
theorem dX5_countWaitingFor_24 : decode cX5_countWaitingFor 24 = .ok (.bipush 12, 2) := by decide +kernel
theorem dX5_countWaitingFor_26 : decode cX5_countWaitingFor 26 = .ok (.if_icmp .ge 51, 3) := by decide +kernel
theorem dX5_countWaitingFor_29 : decode cX5_countWaitingFor 29 = .ok (.aload_n 0, 1) := by decide +kernel
theorem dX5_countWaitingFor_30 : decode cX5_countWaitingFor 30 = .ok (.getfield 10, 3) := by decide +kernel
theorem dX5_countWaitingFor_33 : decode cX5_countWaitingFor 33 = .ok (.getfield 126, 3) := by decide +kernel
theorem dX5_countWaitingFor_36 : decode cX5_countWaitingFor 36 = .ok (.iload 5, 2) := by decide +kernel
theorem dX5_countWaitingFor_38 : decode cX5_countWaitingFor 38 = .ok (.iaload, 1) := by decide +kernel
theorem dX5_countWaitingFor_39 : decode cX5_countWaitingFor 39 = .ok (.iconst 1, 1) := by decide +kernel
theorem dX5_countWaitingFor_40 : decode cX5_countWaitingFor 40 = .ok (.if_icmp .ne 31, 3) := by decide +kernel
theorem dX5_countWaitingFor_43 : decode cX5_countWaitingFor 43 = .ok (.aload_n 0, 1) := by decide +kernel
theorem dX5_countWaitingFor_44 : decode cX5_countWaitingFor 44 = .ok (.getfield 10, 3) := by decide +kernel
theorem dX5_countWaitingFor_47 : decode cX5_countWaitingFor 47 = .ok (.getfield 321, 3) := by decide +kernel
theorem dX5_countWaitingFor_50 : decode cX5_countWaitingFor 50 = .ok (.iload 5, 2) := by decide +kernel
theorem dX5_countWaitingFor_52 : decode cX5_countWaitingFor 52 = .ok (.iaload, 1) := by decide +kernel
theorem dX5_countWaitingFor_53 : decode cX5_countWaitingFor 53 = .ok (.iload_n 1, 1) := by decide +kernel
theorem dX5_countWaitingFor_54 : decode cX5_countWaitingFor 54 = .ok (.if_icmp .ne 17, 3) := by decide +kernel
theorem dX5_countWaitingFor_57 : decode cX5_countWaitingFor 57 = .ok (.aload_n 0, 1) := by decide +kernel
theorem dX5_countWaitingFor_58 : decode cX5_countWaitingFor 58 = .ok (.aload 4, 2) := by decide +kernel
theorem dX5_countWaitingFor_60 : decode cX5_countWaitingFor 60 = .ok (.iload 5, 2) := by decide +kernel
theorem dX5_countWaitingFor_62 : decode cX5_countWaitingFor 62 = .ok (.invokevirtual 314, 3) := by decide +kernel
theorem dX5_countWaitingFor_65 : decode cX5_countWaitingFor 65 = .ok (.ifCond .eq 6, 3) := by decide +kernel
theorem dX5_countWaitingFor_68 : decode cX5_countWaitingFor 68 = .ok (.iinc 2 1, 3) := by decide +kernel
theorem dX5_countWaitingFor_71 : decode cX5_countWaitingFor 71 = .ok (.iinc 5 1, 3) := by decide +kernel
theorem dX5_countWaitingFor_74 : decode cX5_countWaitingFor 74 = .ok (.goto (-52), 3) := by decide +kernel
theorem dX5_countWaitingFor_77 : decode cX5_countWaitingFor 77 = .ok (.iinc 3 1, 3) := by decide +kernel
theorem dX5_countWaitingFor_80 : decode cX5_countWaitingFor 80 = .ok (.goto (-76), 3) := by decide +kernel
theorem dX5_countWaitingFor_83 : decode cX5_countWaitingFor 83 = .ok (.iload_n 2, 1) := by decide +kernel
theorem dX5_countWaitingFor_84 : decode cX5_countWaitingFor 84 = .ok (.ireturn, 1) := by decide +kernel
theorem dX5_countLeft_0 : decode cX5_countLeft 0 = .ok (.iconst 0, 1) := by decide +kernel
theorem dX5_countLeft_1 : decode cX5_countLeft 1 = .ok (.istore_n 1, 1) := by decide +kernel
theorem dX5_countLeft_2 : decode cX5_countLeft 2 = .ok (.iconst 0, 1) := by decide +kernel
theorem dX5_countLeft_3 : decode cX5_countLeft 3 = .ok (.istore_n 2, 1) := by decide +kernel
theorem dX5_countLeft_4 : decode cX5_countLeft 4 = .ok (.iload_n 2, 1) := by decide +kernel
theorem dX5_countLeft_5 : decode cX5_countLeft 5 = .ok (.aload_n 0, 1) := by decide +kernel
theorem dX5_countLeft_6 : decode cX5_countLeft 6 = .ok (.getfield 174, 3) := by decide +kernel
theorem dX5_countLeft_9 : decode cX5_countLeft 9 = .ok (.if_icmp .ge 23, 3) := by decide +kernel
theorem dX5_countLeft_12 : decode cX5_countLeft 12 = .ok (.aload_n 0, 1) := by decide +kernel
theorem dX5_countLeft_13 : decode cX5_countLeft 13 = .ok (.iload_n 2, 1) := by decide +kernel
theorem dX5_countLeft_14 : decode cX5_countLeft 14 = .ok (.invokevirtual 179, 3) := by decide +kernel
theorem dX5_countLeft_17 : decode cX5_countLeft 17 = .ok (.getfield 189, 3) := by decide +kernel
theorem dX5_countLeft_20 : decode cX5_countLeft 20 = .ok (.ifCond .eq 6, 3) := by decide +kernel
theorem dX5_countLeft_23 : decode cX5_countLeft 23 = .ok (.iinc 1 1, 3) := by decide +kernel
theorem dX5_countLeft_26 : decode cX5_countLeft 26 = .ok (.iinc 2 1, 3) := by decide +kernel
theorem dX5_countLeft_29 : decode cX5_countLeft 29 = .ok (.goto (-25), 3) := by decide +kernel
theorem dX5_countLeft_32 : decode cX5_countLeft 32 = .ok (.iload_n 1, 1) := by decide +kernel
theorem dX5_countLeft_33 : decode cX5_countLeft 33 = .ok (.ireturn, 1) := by decide +kernel
theorem dX5_countStepsIn_0 : decode cX5_countStepsIn 0 = .ok (.iconst 0, 1) := by decide +kernel
theorem dX5_countStepsIn_1 : decode cX5_countStepsIn 1 = .ok (.istore_n 2, 1) := by decide +kernel
theorem dX5_countStepsIn_2 : decode cX5_countStepsIn 2 = .ok (.iconst 0, 1) := by decide +kernel
theorem dX5_countStepsIn_3 : decode cX5_countStepsIn 3 = .ok (.istore_n 3, 1) := by decide +kernel
theorem dX5_countStepsIn_4 : decode cX5_countStepsIn 4 = .ok (.iload_n 3, 1) := by decide +kernel
theorem dX5_countStepsIn_5 : decode cX5_countStepsIn 5 = .ok (.aload_n 0, 1) := by decide +kernel
theorem dX5_countStepsIn_6 : decode cX5_countStepsIn 6 = .ok (.getfield 174, 3) := by decide +kernel
theorem dX5_countStepsIn_9 : decode cX5_countStepsIn 9 = .ok (.if_icmp .ge 21, 3) := by decide +kernel
theorem dX5_countStepsIn_12 : decode cX5_countStepsIn 12 = .ok (.iload_n 2, 1) := by decide +kernel
theorem dX5_countStepsIn_13 : decode cX5_countStepsIn 13 = .ok (.aload_n 0, 1) := by decide +kernel
theorem dX5_countStepsIn_14 : decode cX5_countStepsIn 14 = .ok (.iload_n 3, 1) := by decide +kernel
theorem dX5_countStepsIn_15 : decode cX5_countStepsIn 15 = .ok (.invokevirtual 179, 3) := by decide +kernel
theorem dX5_countStepsIn_18 : decode cX5_countStepsIn 18 = .ok (.iload_n 1, 1) := by decide +kernel
theorem dX5_countStepsIn_19 : decode cX5_countStepsIn 19 = .ok (.invokevirtual 205, 3) := by decide +kernel
theorem dX5_countStepsIn_22 : decode cX5_countStepsIn 22 = .ok (.iadd, 1) := by decide +kernel
theorem dX5_countStepsIn_23 : decode cX5_countStepsIn 23 = .ok (.istore_n 2, 1) := by decide +kernel
theorem dX5_countStepsIn_24 : decode cX5_countStepsIn 24 = .ok (.iinc 3 1, 3) := by decide +kernel
theorem dX5_countStepsIn_27 : decode cX5_countStepsIn 27 = .ok (.goto (-23), 3) := by decide +kernel
theorem dX5_countStepsIn_30 : decode cX5_countStepsIn 30 = .ok (.iload_n 2, 1) := by decide +kernel
theorem dX5_countStepsIn_31 : decode cX5_countStepsIn 31 = .ok (.ireturn, 1) := by decide +kernel
theorem dX5_countRights_0 : decode cX5_countRights 0 = .ok (.iconst 0, 1) := by decide +kernel
theorem dX5_countRights_1 : decode cX5_countRights 1 = .ok (.istore_n 1, 1) := by decide +kernel
theorem dX5_countRights_2 : decode cX5_countRights 2 = .ok (.iconst 0, 1) := by decide +kernel
theorem dX5_countRights_3 : decode cX5_countRights 3 = .ok (.istore_n 2, 1) := by decide +kernel
theorem dX5_countRights_4 : decode cX5_countRights 4 = .ok (.iload_n 2, 1) := by decide +kernel
theorem dX5_countRights_5 : decode cX5_countRights 5 = .ok (.aload_n 0, 1) := by decide +kernel
theorem dX5_countRights_6 : decode cX5_countRights 6 = .ok (.getfield 174, 3) := by decide +kernel
theorem dX5_countRights_9 : decode cX5_countRights 9 = .ok (.if_icmp .ge 27, 3) := by decide +kernel
theorem dX5_countRights_12 : decode cX5_countRights 12 = .ok (.iload_n 1, 1) := by decide +kernel
theorem dX5_countRights_13 : decode cX5_countRights 13 = .ok (.aload_n 0, 1) := by decide +kernel
theorem dX5_countRights_14 : decode cX5_countRights 14 = .ok (.getfield 10, 3) := by decide +kernel
theorem dX5_countRights_17 : decode cX5_countRights 17 = .ok (.aload_n 0, 1) := by decide +kernel
theorem dX5_countRights_18 : decode cX5_countRights 18 = .ok (.iload_n 2, 1) := by decide +kernel
theorem dX5_countRights_19 : decode cX5_countRights 19 = .ok (.invokevirtual 179, 3) := by decide +kernel
theorem dX5_countRights_22 : decode cX5_countRights 22 = .ok (.invokevirtual 372, 3) := by decide +kernel
theorem dX5_countRights_25 : decode cX5_countRights 25 = .ok (.invokestatic 381, 3) := by decide +kernel
theorem dX5_countRights_28 : decode cX5_countRights 28 = .ok (.iadd, 1) := by decide +kernel
theorem dX5_countRights_29 : decode cX5_countRights 29 = .ok (.istore_n 1, 1) := by decide +kernel
theorem dX5_countRights_30 : decode cX5_countRights 30 = .ok (.iinc 2 1, 3) := by decide +kernel
theorem dX5_countRights_33 : decode cX5_countRights 33 = .ok (.goto (-29), 3) := by decide +kernel
theorem dX5_countRights_36 : decode cX5_countRights 36 = .ok (.iload_n 1, 1) := by decide +kernel
theorem dX5_countRights_37 : decode cX5_countRights 37 = .ok (.ireturn, 1) := by decide +kernel
theorem dX5_digestWith_0 : decode cX5_digestWith 0 = .ok (.lload_n 1, 1) := by decide +kernel
theorem dX5_digestWith_1 : decode cX5_digestWith 1 = .ok (.lstore 4, 2) := by decide +kernel
theorem dX5_digestWith_3 : decode cX5_digestWith 3 = .ok (.aload_n 0, 1) := by decide +kernel
theorem dX5_digestWith_4 : decode cX5_digestWith 4 = .ok (.getfield 35, 3) := by decide +kernel
theorem dX5_digestWith_7 : decode cX5_digestWith 7 = .ok (.aload_n 3, 1) := by decide +kernel
theorem dX5_digestWith_8 : decode cX5_digestWith 8 = .ok (.aload_n 0, 1) := by decide +kernel
theorem dX5_digestWith_9 : decode cX5_digestWith 9 = .ok (.getfield 160, 3) := by decide +kernel
theorem dX5_digestWith_12 : decode cX5_digestWith 12 = .ok (.iconst (-1), 1) := by decide +kernel
theorem dX5_digestWith_13 : decode cX5_digestWith 13 = .ok (.iconst 0, 1) := by decide +kernel
theorem dX5_digestWith_14 : decode cX5_digestWith 14 = .ok (.invokevirtual 233, 3) := by decide +kernel
theorem dX5_digestWith_17 : decode cX5_digestWith 17 = .ok (.iconst 0, 1) := by decide +kernel
theorem dX5_digestWith_18 : decode cX5_digestWith 18 = .ok (.istore 6, 2) := by decide +kernel
theorem dX5_digestWith_20 : decode cX5_digestWith 20 = .ok (.iload 6, 2) := by decide +kernel
theorem dX5_digestWith_22 : decode cX5_digestWith 22 = .ok (.bipush 6, 2) := by decide +kernel
theorem dX5_digestWith_24 : decode cX5_digestWith 24 = .ok (.if_icmp .gt 26, 3) := by decide +kernel
theorem dX5_digestWith_27 : decode cX5_digestWith 27 = .ok (.lload 4, 2) := by decide +kernel
theorem dX5_digestWith_29 : decode cX5_digestWith 29 = .ok (.ldc2_w 288, 3) := by decide +kernel
theorem dX5_digestWith_32 : decode cX5_digestWith 32 = .ok (.lmul, 1) := by decide +kernel
theorem dX5_digestWith_33 : decode cX5_digestWith 33 = .ok (.aload_n 0, 1) := by decide +kernel
theorem dX5_digestWith_34 : decode cX5_digestWith 34 = .ok (.aload_n 3, 1) := by decide +kernel
theorem dX5_digestWith_35 : decode cX5_digestWith 35 = .ok (.iload 6, 2) := by decide +kernel
theorem dX5_digestWith_37 : decode cX5_digestWith 37 = .ok (.invokevirtual 243, 3) := by decide +kernel
theorem dX5_digestWith_40 : decode cX5_digestWith 40 = .ok (.i2l, 1) := by decide +kernel
theorem dX5_digestWith_41 : decode cX5_digestWith 41 = .ok (.ladd, 1) := by decide +kernel
theorem dX5_digestWith_42 : decode cX5_digestWith 42 = .ok (.lstore 4, 2) := by decide +kernel
theorem dX5_digestWith_44 : decode cX5_digestWith 44 = .ok (.iinc 6 1, 3) := by decide +kernel
theorem dX5_digestWith_47 : decode cX5_digestWith 47 = .ok (.goto (-27), 3) := by decide +kernel
theorem dX5_digestWith_50 : decode cX5_digestWith 50 = .ok (.lload 4, 2) := by decide +kernel
theorem dX5_digestWith_52 : decode cX5_digestWith 52 = .ok (.ldc2_w 288, 3) := by decide +kernel
theorem dX5_digestWith_55 : decode cX5_digestWith 55 = .ok (.lmul, 1) := by decide +kernel
theorem dX5_digestWith_56 : decode cX5_digestWith 56 = .ok (.aload_n 0, 1) := by decide +kernel
theorem dX5_digestWith_57 : decode cX5_digestWith 57 = .ok (.aload_n 3, 1) := by decide +kernel
theorem dX5_digestWith_58 : decode cX5_digestWith 58 = .ok (.invokevirtual 279, 3) := by decide +kernel
theorem dX5_digestWith_61 : decode cX5_digestWith 61 = .ok (.i2l, 1) := by decide +kernel
theorem dX5_digestWith_62 : decode cX5_digestWith 62 = .ok (.ladd, 1) := by decide +kernel
theorem dX5_digestWith_63 : decode cX5_digestWith 63 = .ok (.lstore 4, 2) := by decide +kernel
theorem dX5_digestWith_65 : decode cX5_digestWith 65 = .ok (.iconst 0, 1) := by decide +kernel
theorem dX5_digestWith_66 : decode cX5_digestWith 66 = .ok (.istore 6, 2) := by decide +kernel
theorem dX5_digestWith_68 : decode cX5_digestWith 68 = .ok (.iload 6, 2) := by decide +kernel
theorem dX5_digestWith_70 : decode cX5_digestWith 70 = .ok (.aload_n 0, 1) := by decide +kernel
theorem dX5_digestWith_71 : decode cX5_digestWith 71 = .ok (.getfield 10, 3) := by decide +kernel
theorem dX5_digestWith_74 : decode cX5_digestWith 74 = .ok (.getfield 249, 3) := by decide +kernel
theorem dX5_digestWith_77 : decode cX5_digestWith 77 = .ok (.if_icmp .ge 36, 3) := by decide +kernel
theorem dX5_digestWith_80 : decode cX5_digestWith 80 = .ok (.lload 4, 2) := by decide +kernel
theorem dX5_digestWith_82 : decode cX5_digestWith 82 = .ok (.ldc2_w 288, 3) := by decide +kernel
theorem dX5_digestWith_85 : decode cX5_digestWith 85 = .ok (.lmul, 1) := by decide +kernel
theorem dX5_digestWith_86 : decode cX5_digestWith 86 = .ok (.aload_n 0, 1) := by decide +kernel
theorem dX5_digestWith_87 : decode cX5_digestWith 87 = .ok (.getfield 35, 3) := by decide +kernel
theorem dX5_digestWith_90 : decode cX5_digestWith 90 = .ok (.aload_n 0, 1) := by decide +kernel
theorem dX5_digestWith_91 : decode cX5_digestWith 91 = .ok (.getfield 10, 3) := by decide +kernel
theorem dX5_digestWith_94 : decode cX5_digestWith 94 = .ok (.getfield 273, 3) := by decide +kernel
theorem dX5_digestWith_97 : decode cX5_digestWith 97 = .ok (.iload 6, 2) := by decide +kernel
theorem dX5_digestWith_99 : decode cX5_digestWith 99 = .ok (.iaload, 1) := by decide +kernel
theorem dX5_digestWith_100 : decode cX5_digestWith 100 = .ok (.invokevirtual 276, 3) := by decide +kernel
theorem dX5_digestWith_103 : decode cX5_digestWith 103 = .ok (.i2l, 1) := by decide +kernel
theorem dX5_digestWith_104 : decode cX5_digestWith 104 = .ok (.ladd, 1) := by decide +kernel
theorem dX5_digestWith_105 : decode cX5_digestWith 105 = .ok (.lstore 4, 2) := by decide +kernel
theorem dX5_digestWith_107 : decode cX5_digestWith 107 = .ok (.iinc 6 1, 3) := by decide +kernel
theorem dX5_digestWith_110 : decode cX5_digestWith 110 = .ok (.goto (-42), 3) := by decide +kernel
theorem dX5_digestWith_113 : decode cX5_digestWith 113 = .ok (.iconst 0, 1) := by decide +kernel
theorem dX5_digestWith_114 : decode cX5_digestWith 114 = .ok (.istore 6, 2) := by decide +kernel
theorem dX5_digestWith_116 : decode cX5_digestWith 116 = .ok (.iload 6, 2) := by decide +kernel
theorem dX5_digestWith_118 : decode cX5_digestWith 118 = .ok (.bipush 12, 2) := by decide +kernel
theorem dX5_digestWith_120 : decode cX5_digestWith 120 = .ok (.if_icmp .ge 72, 3) := by decide +kernel
theorem dX5_digestWith_123 : decode cX5_digestWith 123 = .ok (.aload_n 3, 1) := by decide +kernel
theorem dX5_digestWith_124 : decode cX5_digestWith 124 = .ok (.getfield 183, 3) := by decide +kernel
theorem dX5_digestWith_127 : decode cX5_digestWith 127 = .ok (.iload 6, 2) := by decide +kernel
theorem dX5_digestWith_129 : decode cX5_digestWith 129 = .ok (.invokestatic 226, 3) := by decide +kernel
theorem dX5_digestWith_132 : decode cX5_digestWith 132 = .ok (.ifCond .eq 54, 3) := by decide +kernel
theorem dX5_digestWith_135 : decode cX5_digestWith 135 = .ok (.iconst 0, 1) := by decide +kernel
theorem dX5_digestWith_136 : decode cX5_digestWith 136 = .ok (.istore 7, 2) := by decide +kernel
theorem dX5_digestWith_138 : decode cX5_digestWith 138 = .ok (.iload 7, 2) := by decide +kernel
theorem dX5_digestWith_140 : decode cX5_digestWith 140 = .ok (.iconst 5, 1) := by decide +kernel
theorem dX5_digestWith_141 : decode cX5_digestWith 141 = .ok (.if_icmp .gt 28, 3) := by decide +kernel
theorem dX5_digestWith_144 : decode cX5_digestWith 144 = .ok (.lload 4, 2) := by decide +kernel
theorem dX5_digestWith_146 : decode cX5_digestWith 146 = .ok (.ldc2_w 288, 3) := by decide +kernel
theorem dX5_digestWith_149 : decode cX5_digestWith 149 = .ok (.lmul, 1) := by decide +kernel
theorem dX5_digestWith_150 : decode cX5_digestWith 150 = .ok (.aload_n 0, 1) := by decide +kernel
theorem dX5_digestWith_151 : decode cX5_digestWith 151 = .ok (.aload_n 3, 1) := by decide +kernel
theorem dX5_digestWith_152 : decode cX5_digestWith 152 = .ok (.iload 6, 2) := by decide +kernel
theorem dX5_digestWith_154 : decode cX5_digestWith 154 = .ok (.iload 7, 2) := by decide +kernel
theorem dX5_digestWith_156 : decode cX5_digestWith 156 = .ok (.invokevirtual 237, 3) := by decide +kernel
theorem dX5_digestWith_159 : decode cX5_digestWith 159 = .ok (.i2l, 1) := by decide +kernel
theorem dX5_digestWith_160 : decode cX5_digestWith 160 = .ok (.ladd, 1) := by decide +kernel
theorem dX5_digestWith_161 : decode cX5_digestWith 161 = .ok (.lstore 4, 2) := by decide +kernel
theorem dX5_digestWith_163 : decode cX5_digestWith 163 = .ok (.iinc 7 1, 3) := by decide +kernel
theorem dX5_digestWith_166 : decode cX5_digestWith 166 = .ok (.goto (-28), 3) := by decide +kernel
theorem dX5_digestWith_169 : decode cX5_digestWith 169 = .ok (.lload 4, 2) := by decide +kernel
theorem dX5_digestWith_171 : decode cX5_digestWith 171 = .ok (.ldc2_w 288, 3) := by decide +kernel
theorem dX5_digestWith_174 : decode cX5_digestWith 174 = .ok (.lmul, 1) := by decide +kernel
theorem dX5_digestWith_175 : decode cX5_digestWith 175 = .ok (.aload_n 0, 1) := by decide +kernel
theorem dX5_digestWith_176 : decode cX5_digestWith 176 = .ok (.aload_n 3, 1) := by decide +kernel
theorem dX5_digestWith_177 : decode cX5_digestWith 177 = .ok (.iload 6, 2) := by decide +kernel
theorem dX5_digestWith_179 : decode cX5_digestWith 179 = .ok (.invokevirtual 283, 3) := by decide +kernel
theorem dX5_digestWith_182 : decode cX5_digestWith 182 = .ok (.i2l, 1) := by decide +kernel
theorem dX5_digestWith_183 : decode cX5_digestWith 183 = .ok (.ladd, 1) := by decide +kernel
theorem dX5_digestWith_184 : decode cX5_digestWith 184 = .ok (.lstore 4, 2) := by decide +kernel
theorem dX5_digestWith_186 : decode cX5_digestWith 186 = .ok (.iinc 6 1, 3) := by decide +kernel
theorem dX5_digestWith_189 : decode cX5_digestWith 189 = .ok (.goto (-73), 3) := by decide +kernel
theorem dX5_digestWith_192 : decode cX5_digestWith 192 = .ok (.lload 4, 2) := by decide +kernel
theorem dX5_digestWith_194 : decode cX5_digestWith 194 = .ok (.lreturn, 1) := by decide +kernel
theorem dJ6_bitCount_0f7a4_0 : decode cJ6_bitCount_0f7a4 0 = .ok (.iload_n 0, 1) := by decide +kernel
theorem dJ6_bitCount_0f7a4_1 : decode cJ6_bitCount_0f7a4 1 = .ok (.iload_n 0, 1) := by decide +kernel
theorem dJ6_bitCount_0f7a4_2 : decode cJ6_bitCount_0f7a4 2 = .ok (.iconst 1, 1) := by decide +kernel
theorem dJ6_bitCount_0f7a4_3 : decode cJ6_bitCount_0f7a4 3 = .ok (.iushr, 1) := by decide +kernel
theorem dJ6_bitCount_0f7a4_4 : decode cJ6_bitCount_0f7a4 4 = .ok (.ldc_w 265, 3) := by decide +kernel
theorem dJ6_bitCount_0f7a4_7 : decode cJ6_bitCount_0f7a4 7 = .ok (.iand, 1) := by decide +kernel
theorem dJ6_bitCount_0f7a4_8 : decode cJ6_bitCount_0f7a4 8 = .ok (.isub, 1) := by decide +kernel
theorem dJ6_bitCount_0f7a4_9 : decode cJ6_bitCount_0f7a4 9 = .ok (.istore_n 0, 1) := by decide +kernel
theorem dJ6_bitCount_0f7a4_10 : decode cJ6_bitCount_0f7a4 10 = .ok (.iload_n 0, 1) := by decide +kernel
theorem dJ6_bitCount_0f7a4_11 : decode cJ6_bitCount_0f7a4 11 = .ok (.ldc_w 266, 3) := by decide +kernel
theorem dJ6_bitCount_0f7a4_14 : decode cJ6_bitCount_0f7a4 14 = .ok (.iand, 1) := by decide +kernel
theorem dJ6_bitCount_0f7a4_15 : decode cJ6_bitCount_0f7a4 15 = .ok (.iload_n 0, 1) := by decide +kernel
theorem dJ6_bitCount_0f7a4_16 : decode cJ6_bitCount_0f7a4 16 = .ok (.iconst 2, 1) := by decide +kernel
theorem dJ6_bitCount_0f7a4_17 : decode cJ6_bitCount_0f7a4 17 = .ok (.iushr, 1) := by decide +kernel
theorem dJ6_bitCount_0f7a4_18 : decode cJ6_bitCount_0f7a4 18 = .ok (.ldc_w 266, 3) := by decide +kernel
theorem dJ6_bitCount_0f7a4_21 : decode cJ6_bitCount_0f7a4 21 = .ok (.iand, 1) := by decide +kernel
theorem dJ6_bitCount_0f7a4_22 : decode cJ6_bitCount_0f7a4 22 = .ok (.iadd, 1) := by decide +kernel
theorem dJ6_bitCount_0f7a4_23 : decode cJ6_bitCount_0f7a4 23 = .ok (.istore_n 0, 1) := by decide +kernel
theorem dJ6_bitCount_0f7a4_24 : decode cJ6_bitCount_0f7a4 24 = .ok (.iload_n 0, 1) := by decide +kernel
theorem dJ6_bitCount_0f7a4_25 : decode cJ6_bitCount_0f7a4 25 = .ok (.iload_n 0, 1) := by decide +kernel
theorem dJ6_bitCount_0f7a4_26 : decode cJ6_bitCount_0f7a4 26 = .ok (.iconst 4, 1) := by decide +kernel
theorem dJ6_bitCount_0f7a4_27 : decode cJ6_bitCount_0f7a4 27 = .ok (.iushr, 1) := by decide +kernel
theorem dJ6_bitCount_0f7a4_28 : decode cJ6_bitCount_0f7a4 28 = .ok (.iadd, 1) := by decide +kernel
theorem dJ6_bitCount_0f7a4_29 : decode cJ6_bitCount_0f7a4 29 = .ok (.ldc_w 267, 3) := by decide +kernel
theorem dJ6_bitCount_0f7a4_32 : decode cJ6_bitCount_0f7a4 32 = .ok (.iand, 1) := by decide +kernel
theorem dJ6_bitCount_0f7a4_33 : decode cJ6_bitCount_0f7a4 33 = .ok (.istore_n 0, 1) := by decide +kernel
theorem dJ6_bitCount_0f7a4_34 : decode cJ6_bitCount_0f7a4 34 = .ok (.iload_n 0, 1) := by decide +kernel
theorem dJ6_bitCount_0f7a4_35 : decode cJ6_bitCount_0f7a4 35 = .ok (.iload_n 0, 1) := by decide +kernel
theorem dJ6_bitCount_0f7a4_36 : decode cJ6_bitCount_0f7a4 36 = .ok (.bipush 8, 2) := by decide +kernel
theorem dJ6_bitCount_0f7a4_38 : decode cJ6_bitCount_0f7a4 38 = .ok (.iushr, 1) := by decide +kernel
theorem dJ6_bitCount_0f7a4_39 : decode cJ6_bitCount_0f7a4 39 = .ok (.iadd, 1) := by decide +kernel
theorem dJ6_bitCount_0f7a4_40 : decode cJ6_bitCount_0f7a4 40 = .ok (.istore_n 0, 1) := by decide +kernel
theorem dJ6_bitCount_0f7a4_41 : decode cJ6_bitCount_0f7a4 41 = .ok (.iload_n 0, 1) := by decide +kernel
theorem dJ6_bitCount_0f7a4_42 : decode cJ6_bitCount_0f7a4 42 = .ok (.iload_n 0, 1) := by decide +kernel
theorem dJ6_bitCount_0f7a4_43 : decode cJ6_bitCount_0f7a4 43 = .ok (.bipush 16, 2) := by decide +kernel
theorem dJ6_bitCount_0f7a4_45 : decode cJ6_bitCount_0f7a4 45 = .ok (.iushr, 1) := by decide +kernel
theorem dJ6_bitCount_0f7a4_46 : decode cJ6_bitCount_0f7a4 46 = .ok (.iadd, 1) := by decide +kernel
theorem dJ6_bitCount_0f7a4_47 : decode cJ6_bitCount_0f7a4 47 = .ok (.istore_n 0, 1) := by decide +kernel
theorem dJ6_bitCount_0f7a4_48 : decode cJ6_bitCount_0f7a4 48 = .ok (.iload_n 0, 1) := by decide +kernel
theorem dJ6_bitCount_0f7a4_49 : decode cJ6_bitCount_0f7a4 49 = .ok (.bipush 63, 2) := by decide +kernel
theorem dJ6_bitCount_0f7a4_51 : decode cJ6_bitCount_0f7a4 51 = .ok (.iand, 1) := by decide +kernel
theorem dJ6_bitCount_0f7a4_52 : decode cJ6_bitCount_0f7a4 52 = .ok (.ireturn, 1) := by decide +kernel
theorem dJ9_max_7cf53_0 : decode cJ9_max_7cf53 0 = .ok (.iload_n 0, 1) := by decide +kernel
theorem dJ9_max_7cf53_1 : decode cJ9_max_7cf53 1 = .ok (.iload_n 1, 1) := by decide +kernel
theorem dJ9_max_7cf53_2 : decode cJ9_max_7cf53 2 = .ok (.if_icmp .lt 7, 3) := by decide +kernel
theorem dJ9_max_7cf53_5 : decode cJ9_max_7cf53 5 = .ok (.iload_n 0, 1) := by decide +kernel
theorem dJ9_max_7cf53_6 : decode cJ9_max_7cf53 6 = .ok (.goto 4, 3) := by decide +kernel
theorem dJ9_max_7cf53_9 : decode cJ9_max_7cf53 9 = .ok (.iload_n 1, 1) := by decide +kernel
theorem dJ9_max_7cf53_10 : decode cJ9_max_7cf53 10 = .ok (.ireturn, 1) := by decide +kernel
theorem dJ9_min_7cf53_0 : decode cJ9_min_7cf53 0 = .ok (.iload_n 0, 1) := by decide +kernel
theorem dJ9_min_7cf53_1 : decode cJ9_min_7cf53 1 = .ok (.iload_n 1, 1) := by decide +kernel
theorem dJ9_min_7cf53_2 : decode cJ9_min_7cf53 2 = .ok (.if_icmp .gt 7, 3) := by decide +kernel
theorem dJ9_min_7cf53_5 : decode cJ9_min_7cf53 5 = .ok (.iload_n 0, 1) := by decide +kernel
theorem dJ9_min_7cf53_6 : decode cJ9_min_7cf53 6 = .ok (.goto 4, 3) := by decide +kernel
theorem dJ9_min_7cf53_9 : decode cJ9_min_7cf53 9 = .ok (.iload_n 1, 1) := by decide +kernel
theorem dJ9_min_7cf53_10 : decode cJ9_min_7cf53 10 = .ok (.ireturn, 1) := by decide +kernel
theorem dL_below_0 : decode cL_below 0 = .ok (.iload_n 0, 1) := by decide +kernel
theorem dL_below_1 : decode cL_below 1 = .ok (.ldc 7, 2) := by decide +kernel
theorem dL_below_3 : decode cL_below 3 = .ok (.iand, 1) := by decide +kernel
theorem dL_below_4 : decode cL_below 4 = .ok (.iload_n 1, 1) := by decide +kernel
theorem dL_below_5 : decode cL_below 5 = .ok (.irem, 1) := by decide +kernel
theorem dL_below_6 : decode cL_below 6 = .ok (.ireturn, 1) := by decide +kernel
theorem dL_cell_0 : decode cL_cell 0 = .ok (.iload_n 1, 1) := by decide +kernel
theorem dL_cell_1 : decode cL_cell 1 = .ok (.aload_n 0, 1) := by decide +kernel
theorem dL_cell_2 : decode cL_cell 2 = .ok (.arraylength, 1) := by decide +kernel
theorem dL_cell_3 : decode cL_cell 3 = .ok (.if_icmp .ge 9, 3) := by decide +kernel
theorem dL_cell_6 : decode cL_cell 6 = .ok (.aload_n 0, 1) := by decide +kernel
theorem dL_cell_7 : decode cL_cell 7 = .ok (.iload_n 1, 1) := by decide +kernel
theorem dL_cell_8 : decode cL_cell 8 = .ok (.iaload, 1) := by decide +kernel
theorem dL_cell_9 : decode cL_cell 9 = .ok (.goto 9, 3) := by decide +kernel
theorem dL_cell_12 : decode cL_cell 12 = .ok (.ldc 8, 2) := by decide +kernel
theorem dL_cell_14 : decode cL_cell 14 = .ok (.iload_n 1, 1) := by decide +kernel
theorem dL_cell_15 : decode cL_cell 15 = .ok (.iconst 3, 1) := by decide +kernel
theorem dL_cell_16 : decode cL_cell 16 = .ok (.iadd, 1) := by decide +kernel
theorem dL_cell_17 : decode cL_cell 17 = .ok (.imul, 1) := by decide +kernel
theorem dL_cell_18 : decode cL_cell 18 = .ok (.ireturn, 1) := by decide +kernel
theorem dL_law_0 : decode cL_law 0 = .ok (.new 9, 3) := by decide +kernel
theorem dL_law_3 : decode cL_law 3 = .ok (.dup, 1) := by decide +kernel
theorem dL_law_4 : decode cL_law 4 = .ok (.invokespecial 11, 3) := by decide +kernel
theorem dL_law_7 : decode cL_law 7 = .ok (.astore_n 1, 1) := by decide +kernel
theorem dL_law_8 : decode cL_law 8 = .ok (.iconst 4, 1) := by decide +kernel
theorem dL_law_9 : decode cL_law 9 = .ok (.aload_n 0, 1) := by decide +kernel
theorem dL_law_10 : decode cL_law 10 = .ok (.iconst 0, 1) := by decide +kernel
theorem dL_law_11 : decode cL_law 11 = .ok (.invokestatic 12, 3) := by decide +kernel
theorem dL_law_14 : decode cL_law 14 = .ok (.bipush 7, 2) := by decide +kernel
theorem dL_law_16 : decode cL_law 16 = .ok (.invokestatic 18, 3) := by decide +kernel
theorem dL_law_19 : decode cL_law 19 = .ok (.iadd, 1) := by decide +kernel
theorem dL_law_20 : decode cL_law 20 = .ok (.istore_n 2, 1) := by decide +kernel
theorem dL_law_21 : decode cL_law 21 = .ok (.iload_n 2, 1) := by decide +kernel
theorem dL_law_22 : decode cL_law 22 = .ok (.newarray .int, 2) := by decide +kernel
theorem dL_law_24 : decode cL_law 24 = .ok (.astore_n 3, 1) := by decide +kernel
theorem dL_law_25 : decode cL_law 25 = .ok (.iload_n 2, 1) := by decide +kernel
theorem dL_law_26 : decode cL_law 26 = .ok (.newarray .int, 2) := by decide +kernel
