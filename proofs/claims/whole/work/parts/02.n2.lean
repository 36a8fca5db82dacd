theorem dX5_meanDays_73 : decode cX5_meanDays 73 = .ok (.goto (-67), 3) := by decide +kernel
theorem dX5_meanDays_76 : decode cX5_meanDays 76 = .ok (.iload_n 2, 1) := by decide +kernel
theorem dX5_meanDays_77 : decode cX5_meanDays 77 = .ok (.ifCond .ne 7, 3) := by decide +kernel
theorem dX5_meanDays_80 : decode cX5_meanDays 80 = .ok (.dconst 0, 1) := by decide +kernel
theorem dX5_meanDays_81 : decode cX5_meanDays 81 = .ok (.goto 8, 3) := by decide +kernel
theorem dX5_meanDays_84 : decode cX5_meanDays 84 = .ok (.iload_n 1, 1) := by decide +kernel
theorem dX5_meanDays_85 : decode cX5_meanDays 85 = .ok (.i2d, 1) := by decide +kernel
theorem dX5_meanDays_86 : decode cX5_meanDays 86 = .ok (.iload_n 2, 1) := by decide +kernel
theorem dX5_meanDays_87 : decode cX5_meanDays 87 = .ok (.i2d, 1) := by decide +kernel
theorem dX5_meanDays_88 : decode cX5_meanDays 88 = .ok (.ddiv, 1) := by decide +kernel
theorem dX5_meanDays_89 : decode cX5_meanDays 89 = .ok (.dreturn, 1) := by decide +kernel
theorem dX5_rightOn_0 : decode cX5_rightOn 0 = .ok (.aload_n 0, 1) := by decide +kernel
theorem dX5_rightOn_1 : decode cX5_rightOn 1 = .ok (.iload_n 1, 1) := by decide +kernel
theorem dX5_rightOn_2 : decode cX5_rightOn 2 = .ok (.invokevirtual 179, 3) := by decide +kernel
theorem dX5_rightOn_5 : decode cX5_rightOn 5 = .ok (.astore_n 3, 1) := by decide +kernel
theorem dX5_rightOn_6 : decode cX5_rightOn 6 = .ok (.iload_n 2, 1) := by decide +kernel
theorem dX5_rightOn_7 : decode cX5_rightOn 7 = .ok (.ifCond .lt 14, 3) := by decide +kernel
theorem dX5_rightOn_10 : decode cX5_rightOn 10 = .ok (.iload_n 2, 1) := by decide +kernel
theorem dX5_rightOn_11 : decode cX5_rightOn 11 = .ok (.aload_n 0, 1) := by decide +kernel
theorem dX5_rightOn_12 : decode cX5_rightOn 12 = .ok (.getfield 10, 3) := by decide +kernel
theorem dX5_rightOn_15 : decode cX5_rightOn 15 = .ok (.getfield 249, 3) := by decide +kernel
theorem dX5_rightOn_18 : decode cX5_rightOn 18 = .ok (.if_icmp .lt 14, 3) := by decide +kernel
theorem dX5_rightOn_21 : decode cX5_rightOn 21 = .ok (.new 74, 3) := by decide +kernel
theorem dX5_rightOn_24 : decode cX5_rightOn 24 = .ok (.dup, 1) := by decide +kernel
theorem dX5_rightOn_25 : decode cX5_rightOn 25 = .ok (.ldc_w 271, 3) := by decide +kernel
theorem dX5_rightOn_28 : decode cX5_rightOn 28 = .ok (.invokespecial 78, 3) := by decide +kernel
theorem dX5_rightOn_31 : decode cX5_rightOn 31 = .ok (.athrow, 1) := by decide +kernel
theorem dX5_rightOn_32 : decode cX5_rightOn 32 = .ok (.aload_n 0, 1) := by decide +kernel
theorem dX5_rightOn_33 : decode cX5_rightOn 33 = .ok (.getfield 35, 3) := by decide +kernel
theorem dX5_rightOn_36 : decode cX5_rightOn 36 = .ok (.aload_n 3, 1) := by decide +kernel
theorem dX5_rightOn_37 : decode cX5_rightOn 37 = .ok (.aload_n 0, 1) := by decide +kernel
theorem dX5_rightOn_38 : decode cX5_rightOn 38 = .ok (.getfield 160, 3) := by decide +kernel
theorem dX5_rightOn_41 : decode cX5_rightOn 41 = .ok (.iconst (-1), 1) := by decide +kernel
theorem dX5_rightOn_42 : decode cX5_rightOn 42 = .ok (.iconst 0, 1) := by decide +kernel
theorem dX5_rightOn_43 : decode cX5_rightOn 43 = .ok (.invokevirtual 233, 3) := by decide +kernel
theorem dX5_rightOn_46 : decode cX5_rightOn 46 = .ok (.aload_n 0, 1) := by decide +kernel
theorem dX5_rightOn_47 : decode cX5_rightOn 47 = .ok (.getfield 35, 3) := by decide +kernel
theorem dX5_rightOn_50 : decode cX5_rightOn 50 = .ok (.aload_n 0, 1) := by decide +kernel
theorem dX5_rightOn_51 : decode cX5_rightOn 51 = .ok (.getfield 10, 3) := by decide +kernel
theorem dX5_rightOn_54 : decode cX5_rightOn 54 = .ok (.getfield 273, 3) := by decide +kernel
theorem dX5_rightOn_57 : decode cX5_rightOn 57 = .ok (.iload_n 2, 1) := by decide +kernel
theorem dX5_rightOn_58 : decode cX5_rightOn 58 = .ok (.iaload, 1) := by decide +kernel
theorem dX5_rightOn_59 : decode cX5_rightOn 59 = .ok (.invokevirtual 276, 3) := by decide +kernel
theorem dX5_rightOn_62 : decode cX5_rightOn 62 = .ok (.ireturn, 1) := by decide +kernel
theorem dX5_shiftBy_0 : decode cX5_shiftBy 0 = .ok (.aload_n 0, 1) := by decide +kernel
theorem dX5_shiftBy_1 : decode cX5_shiftBy 1 = .ok (.iload_n 1, 1) := by decide +kernel
theorem dX5_shiftBy_2 : decode cX5_shiftBy 2 = .ok (.iload_n 2, 1) := by decide +kernel
theorem dX5_shiftBy_3 : decode cX5_shiftBy 3 = .ok (.invokevirtual 113, 3) := by decide +kernel
theorem dX5_shiftBy_6 : decode cX5_shiftBy 6 = .ok (.iconst 0, 1) := by decide +kernel
theorem dX5_shiftBy_7 : decode cX5_shiftBy 7 = .ok (.istore_n 3, 1) := by decide +kernel
theorem dX5_shiftBy_8 : decode cX5_shiftBy 8 = .ok (.iconst 0, 1) := by decide +kernel
theorem dX5_shiftBy_9 : decode cX5_shiftBy 9 = .ok (.istore 4, 2) := by decide +kernel
theorem dX5_shiftBy_11 : decode cX5_shiftBy 11 = .ok (.iload 4, 2) := by decide +kernel
theorem dX5_shiftBy_13 : decode cX5_shiftBy 13 = .ok (.aload_n 0, 1) := by decide +kernel
theorem dX5_shiftBy_14 : decode cX5_shiftBy 14 = .ok (.getfield 174, 3) := by decide +kernel
theorem dX5_shiftBy_17 : decode cX5_shiftBy 17 = .ok (.if_icmp .ge 95, 3) := by decide +kernel
theorem dX5_shiftBy_20 : decode cX5_shiftBy 20 = .ok (.aload_n 0, 1) := by decide +kernel
theorem dX5_shiftBy_21 : decode cX5_shiftBy 21 = .ok (.iload 4, 2) := by decide +kernel
theorem dX5_shiftBy_23 : decode cX5_shiftBy 23 = .ok (.invokevirtual 179, 3) := by decide +kernel
theorem dX5_shiftBy_26 : decode cX5_shiftBy 26 = .ok (.astore 5, 2) := by decide +kernel
theorem dX5_shiftBy_28 : decode cX5_shiftBy 28 = .ok (.aload_n 0, 1) := by decide +kernel
theorem dX5_shiftBy_29 : decode cX5_shiftBy 29 = .ok (.getfield 35, 3) := by decide +kernel
theorem dX5_shiftBy_32 : decode cX5_shiftBy 32 = .ok (.aload 5, 2) := by decide +kernel
theorem dX5_shiftBy_34 : decode cX5_shiftBy 34 = .ok (.aload_n 0, 1) := by decide +kernel
theorem dX5_shiftBy_35 : decode cX5_shiftBy 35 = .ok (.getfield 160, 3) := by decide +kernel
theorem dX5_shiftBy_38 : decode cX5_shiftBy 38 = .ok (.iconst (-1), 1) := by decide +kernel
theorem dX5_shiftBy_39 : decode cX5_shiftBy 39 = .ok (.iconst 0, 1) := by decide +kernel
theorem dX5_shiftBy_40 : decode cX5_shiftBy 40 = .ok (.invokevirtual 233, 3) := by decide +kernel
theorem dX5_shiftBy_43 : decode cX5_shiftBy 43 = .ok (.aload_n 0, 1) := by decide +kernel
theorem dX5_shiftBy_44 : decode cX5_shiftBy 44 = .ok (.getfield 35, 3) := by decide +kernel
theorem dX5_shiftBy_47 : decode cX5_shiftBy 47 = .ok (.aload 5, 2) := by decide +kernel
theorem dX5_shiftBy_49 : decode cX5_shiftBy 49 = .ok (.getfield 183, 3) := by decide +kernel
theorem dX5_shiftBy_52 : decode cX5_shiftBy 52 = .ok (.invokevirtual 268, 3) := by decide +kernel
theorem dX5_shiftBy_55 : decode cX5_shiftBy 55 = .ok (.istore 6, 2) := by decide +kernel
theorem dX5_shiftBy_57 : decode cX5_shiftBy 57 = .ok (.aload_n 0, 1) := by decide +kernel
theorem dX5_shiftBy_58 : decode cX5_shiftBy 58 = .ok (.getfield 35, 3) := by decide +kernel
theorem dX5_shiftBy_61 : decode cX5_shiftBy 61 = .ok (.aload 5, 2) := by decide +kernel
theorem dX5_shiftBy_63 : decode cX5_shiftBy 63 = .ok (.aload_n 0, 1) := by decide +kernel
theorem dX5_shiftBy_64 : decode cX5_shiftBy 64 = .ok (.getfield 160, 3) := by decide +kernel
theorem dX5_shiftBy_67 : decode cX5_shiftBy 67 = .ok (.iload_n 1, 1) := by decide +kernel
theorem dX5_shiftBy_68 : decode cX5_shiftBy 68 = .ok (.iload_n 2, 1) := by decide +kernel
theorem dX5_shiftBy_69 : decode cX5_shiftBy 69 = .ok (.invokevirtual 233, 3) := by decide +kernel
theorem dX5_shiftBy_72 : decode cX5_shiftBy 72 = .ok (.aload_n 0, 1) := by decide +kernel
theorem dX5_shiftBy_73 : decode cX5_shiftBy 73 = .ok (.getfield 35, 3) := by decide +kernel
theorem dX5_shiftBy_76 : decode cX5_shiftBy 76 = .ok (.aload 5, 2) := by decide +kernel
theorem dX5_shiftBy_78 : decode cX5_shiftBy 78 = .ok (.getfield 183, 3) := by decide +kernel
theorem dX5_shiftBy_81 : decode cX5_shiftBy 81 = .ok (.invokevirtual 268, 3) := by decide +kernel
theorem dX5_shiftBy_84 : decode cX5_shiftBy 84 = .ok (.istore 7, 2) := by decide +kernel
theorem dX5_shiftBy_86 : decode cX5_shiftBy 86 = .ok (.iload 6, 2) := by decide +kernel
theorem dX5_shiftBy_88 : decode cX5_shiftBy 88 = .ok (.iconst (-1), 1) := by decide +kernel
theorem dX5_shiftBy_89 : decode cX5_shiftBy 89 = .ok (.if_icmp .eq 17, 3) := by decide +kernel
theorem dX5_shiftBy_92 : decode cX5_shiftBy 92 = .ok (.iload 7, 2) := by decide +kernel
theorem dX5_shiftBy_94 : decode cX5_shiftBy 94 = .ok (.iconst (-1), 1) := by decide +kernel
theorem dX5_shiftBy_95 : decode cX5_shiftBy 95 = .ok (.if_icmp .eq 11, 3) := by decide +kernel
theorem dX5_shiftBy_98 : decode cX5_shiftBy 98 = .ok (.iload_n 3, 1) := by decide +kernel
theorem dX5_shiftBy_99 : decode cX5_shiftBy 99 = .ok (.iload 7, 2) := by decide +kernel
theorem dX5_shiftBy_101 : decode cX5_shiftBy 101 = .ok (.iload 6, 2) := by decide +kernel
theorem dX5_shiftBy_103 : decode cX5_shiftBy 103 = .ok (.isub, 1) := by decide +kernel
theorem dX5_shiftBy_104 : decode cX5_shiftBy 104 = .ok (.iadd, 1) := by decide +kernel
theorem dX5_shiftBy_105 : decode cX5_shiftBy 105 = .ok (.istore_n 3, 1) := by decide +kernel
theorem dX5_shiftBy_106 : decode cX5_shiftBy 106 = .ok (.iinc 4 1, 3) := by decide +kernel
theorem dX5_shiftBy_109 : decode cX5_shiftBy 109 = .ok (.goto (-98), 3) := by decide +kernel
theorem dX5_shiftBy_112 : decode cX5_shiftBy 112 = .ok (.iload_n 3, 1) := by decide +kernel
theorem dX5_shiftBy_113 : decode cX5_shiftBy 113 = .ok (.ireturn, 1) := by decide +kernel
theorem dX5_next_0 : decode cX5_next 0 = .ok (.aload_n 0, 1) := by decide +kernel
theorem dX5_next_1 : decode cX5_next 1 = .ok (.aload_n 0, 1) := by decide +kernel
theorem dX5_next_2 : decode cX5_next 2 = .ok (.iload_n 1, 1) := by decide +kernel
theorem dX5_next_3 : decode cX5_next 3 = .ok (.invokevirtual 179, 3) := by decide +kernel
theorem dX5_next_6 : decode cX5_next 6 = .ok (.invokevirtual 279, 3) := by decide +kernel
theorem dX5_next_9 : decode cX5_next 9 = .ok (.ireturn, 1) := by decide +kernel
theorem dX5_waitFor_0 : decode cX5_waitFor 0 = .ok (.aload_n 0, 1) := by decide +kernel
theorem dX5_waitFor_1 : decode cX5_waitFor 1 = .ok (.iload_n 1, 1) := by decide +kernel
theorem dX5_waitFor_2 : decode cX5_waitFor 2 = .ok (.invokevirtual 179, 3) := by decide +kernel
theorem dX5_waitFor_5 : decode cX5_waitFor 5 = .ok (.astore_n 3, 1) := by decide +kernel
theorem dX5_waitFor_6 : decode cX5_waitFor 6 = .ok (.iload_n 2, 1) := by decide +kernel
theorem dX5_waitFor_7 : decode cX5_waitFor 7 = .ok (.ifCond .lt 20, 3) := by decide +kernel
theorem dX5_waitFor_10 : decode cX5_waitFor 10 = .ok (.iload_n 2, 1) := by decide +kernel
theorem dX5_waitFor_11 : decode cX5_waitFor 11 = .ok (.bipush 12, 2) := by decide +kernel
theorem dX5_waitFor_13 : decode cX5_waitFor 13 = .ok (.if_icmp .ge 14, 3) := by decide +kernel
theorem dX5_waitFor_16 : decode cX5_waitFor 16 = .ok (.aload_n 3, 1) := by decide +kernel
theorem dX5_waitFor_17 : decode cX5_waitFor 17 = .ok (.getfield 183, 3) := by decide +kernel
theorem dX5_waitFor_20 : decode cX5_waitFor 20 = .ok (.iload_n 2, 1) := by decide +kernel
theorem dX5_waitFor_21 : decode cX5_waitFor 21 = .ok (.invokestatic 226, 3) := by decide +kernel
theorem dX5_waitFor_24 : decode cX5_waitFor 24 = .ok (.ifCond .ne 13, 3) := by decide +kernel
theorem dX5_waitFor_27 : decode cX5_waitFor 27 = .ok (.new 74, 3) := by decide +kernel
theorem dX5_waitFor_30 : decode cX5_waitFor 30 = .ok (.dup, 1) := by decide +kernel
theorem dX5_waitFor_31 : decode cX5_waitFor 31 = .ok (.ldc 229, 2) := by decide +kernel
theorem dX5_waitFor_33 : decode cX5_waitFor 33 = .ok (.invokespecial 78, 3) := by decide +kernel
theorem dX5_waitFor_36 : decode cX5_waitFor 36 = .ok (.athrow, 1) := by decide +kernel
theorem dX5_waitFor_37 : decode cX5_waitFor 37 = .ok (.aload_n 0, 1) := by decide +kernel
theorem dX5_waitFor_38 : decode cX5_waitFor 38 = .ok (.aload_n 3, 1) := by decide +kernel
theorem dX5_waitFor_39 : decode cX5_waitFor 39 = .ok (.iload_n 2, 1) := by decide +kernel
theorem dX5_waitFor_40 : decode cX5_waitFor 40 = .ok (.invokevirtual 283, 3) := by decide +kernel
theorem dX5_waitFor_43 : decode cX5_waitFor 43 = .ok (.ireturn, 1) := by decide +kernel
theorem dX5_digest_0 : decode cX5_digest 0 = .ok (.ldc2_w 286, 3) := by decide +kernel
theorem dX5_digest_3 : decode cX5_digest 3 = .ok (.lstore_n 1, 1) := by decide +kernel
theorem dX5_digest_4 : decode cX5_digest 4 = .ok (.iconst 0, 1) := by decide +kernel
theorem dX5_digest_5 : decode cX5_digest 5 = .ok (.istore_n 3, 1) := by decide +kernel
theorem dX5_digest_6 : decode cX5_digest 6 = .ok (.iload_n 3, 1) := by decide +kernel
theorem dX5_digest_7 : decode cX5_digest 7 = .ok (.bipush 10, 2) := by decide +kernel
theorem dX5_digest_9 : decode cX5_digest 9 = .ok (.if_icmp .gt 22, 3) := by decide +kernel
theorem dX5_digest_12 : decode cX5_digest 12 = .ok (.lload_n 1, 1) := by decide +kernel
theorem dX5_digest_13 : decode cX5_digest 13 = .ok (.ldc2_w 288, 3) := by decide +kernel
theorem dX5_digest_16 : decode cX5_digest 16 = .ok (.lmul, 1) := by decide +kernel
theorem dX5_digest_17 : decode cX5_digest 17 = .ok (.aload_n 0, 1) := by decide +kernel
theorem dX5_digest_18 : decode cX5_digest 18 = .ok (.iload_n 3, 1) := by decide +kernel
theorem dX5_digest_19 : decode cX5_digest 19 = .ok (.invokevirtual 290, 3) := by decide +kernel
theorem dX5_digest_22 : decode cX5_digest 22 = .ok (.i2l, 1) := by decide +kernel
theorem dX5_digest_23 : decode cX5_digest 23 = .ok (.ladd, 1) := by decide +kernel
theorem dX5_digest_24 : decode cX5_digest 24 = .ok (.lstore_n 1, 1) := by decide +kernel
theorem dX5_digest_25 : decode cX5_digest 25 = .ok (.iinc 3 1, 3) := by decide +kernel
theorem dX5_digest_28 : decode cX5_digest 28 = .ok (.goto (-22), 3) := by decide +kernel
theorem dX5_digest_31 : decode cX5_digest 31 = .ok (.iconst 0, 1) := by decide +kernel
theorem dX5_digest_32 : decode cX5_digest 32 = .ok (.istore_n 3, 1) := by decide +kernel
theorem dX5_digest_33 : decode cX5_digest 33 = .ok (.iload_n 3, 1) := by decide +kernel
theorem dX5_digest_34 : decode cX5_digest 34 = .ok (.iconst 4, 1) := by decide +kernel
theorem dX5_digest_35 : decode cX5_digest 35 = .ok (.if_icmp .ge 39, 3) := by decide +kernel
theorem dX5_digest_38 : decode cX5_digest 38 = .ok (.iconst 0, 1) := by decide +kernel
theorem dX5_digest_39 : decode cX5_digest 39 = .ok (.istore 4, 2) := by decide +kernel
theorem dX5_digest_41 : decode cX5_digest 41 = .ok (.iload 4, 2) := by decide +kernel
theorem dX5_digest_43 : decode cX5_digest 43 = .ok (.iconst 3, 1) := by decide +kernel
theorem dX5_digest_44 : decode cX5_digest 44 = .ok (.if_icmp .gt 24, 3) := by decide +kernel
theorem dX5_digest_47 : decode cX5_digest 47 = .ok (.lload_n 1, 1) := by decide +kernel
theorem dX5_digest_48 : decode cX5_digest 48 = .ok (.ldc2_w 288, 3) := by decide +kernel
theorem dX5_digest_51 : decode cX5_digest 51 = .ok (.lmul, 1) := by decide +kernel
theorem dX5_digest_52 : decode cX5_digest 52 = .ok (.aload_n 0, 1) := by decide +kernel
theorem dX5_digest_53 : decode cX5_digest 53 = .ok (.iload_n 3, 1) := by decide +kernel
theorem dX5_digest_54 : decode cX5_digest 54 = .ok (.iload 4, 2) := by decide +kernel
theorem dX5_digest_56 : decode cX5_digest 56 = .ok (.invokevirtual 293, 3) := by decide +kernel
theorem dX5_digest_59 : decode cX5_digest 59 = .ok (.i2l, 1) := by decide +kernel
theorem dX5_digest_60 : decode cX5_digest 60 = .ok (.ladd, 1) := by decide +kernel
theorem dX5_digest_61 : decode cX5_digest 61 = .ok (.lstore_n 1, 1) := by decide +kernel
theorem dX5_digest_62 : decode cX5_digest 62 = .ok (.iinc 4 1, 3) := by decide +kernel
theorem dX5_digest_65 : decode cX5_digest 65 = .ok (.goto (-24), 3) := by decide +kernel
theorem dX5_digest_68 : decode cX5_digest 68 = .ok (.iinc 3 1, 3) := by decide +kernel
theorem dX5_digest_71 : decode cX5_digest 71 = .ok (.goto (-38), 3) := by decide +kernel
theorem dX5_digest_74 : decode cX5_digest 74 = .ok (.iconst 0, 1) := by decide +kernel
theorem dX5_digest_75 : decode cX5_digest 75 = .ok (.istore_n 3, 1) := by decide +kernel
theorem dX5_digest_76 : decode cX5_digest 76 = .ok (.iload_n 3, 1) := by decide +kernel
theorem dX5_digest_77 : decode cX5_digest 77 = .ok (.aload_n 0, 1) := by decide +kernel
theorem dX5_digest_78 : decode cX5_digest 78 = .ok (.getfield 26, 3) := by decide +kernel
theorem dX5_digest_81 : decode cX5_digest 81 = .ok (.getfield 139, 3) := by decide +kernel
theorem dX5_digest_84 : decode cX5_digest 84 = .ok (.if_icmp .ge 39, 3) := by decide +kernel
theorem dX5_digest_87 : decode cX5_digest 87 = .ok (.iconst 0, 1) := by decide +kernel
theorem dX5_digest_88 : decode cX5_digest 88 = .ok (.istore 4, 2) := by decide +kernel
theorem dX5_digest_90 : decode cX5_digest 90 = .ok (.iload 4, 2) := by decide +kernel
theorem dX5_digest_92 : decode cX5_digest 92 = .ok (.iconst 3, 1) := by decide +kernel
theorem dX5_digest_93 : decode cX5_digest 93 = .ok (.if_icmp .gt 24, 3) := by decide +kernel
theorem dX5_digest_96 : decode cX5_digest 96 = .ok (.lload_n 1, 1) := by decide +kernel
theorem dX5_digest_97 : decode cX5_digest 97 = .ok (.ldc2_w 288, 3) := by decide +kernel
theorem dX5_digest_100 : decode cX5_digest 100 = .ok (.lmul, 1) := by decide +kernel
theorem dX5_digest_101 : decode cX5_digest 101 = .ok (.aload_n 0, 1) := by decide +kernel
theorem dX5_digest_102 : decode cX5_digest 102 = .ok (.iload_n 3, 1) := by decide +kernel
theorem dX5_digest_103 : decode cX5_digest 103 = .ok (.iload 4, 2) := by decide +kernel
theorem dX5_digest_105 : decode cX5_digest 105 = .ok (.invokevirtual 296, 3) := by decide +kernel
theorem dX5_digest_108 : decode cX5_digest 108 = .ok (.i2l, 1) := by decide +kernel
theorem dX5_digest_109 : decode cX5_digest 109 = .ok (.ladd, 1) := by decide +kernel
theorem dX5_digest_110 : decode cX5_digest 110 = .ok (.lstore_n 1, 1) := by decide +kernel
theorem dX5_digest_111 : decode cX5_digest 111 = .ok (.iinc 4 1, 3) := by decide +kernel
theorem dX5_digest_114 : decode cX5_digest 114 = .ok (.goto (-24), 3) := by decide +kernel
theorem dX5_digest_117 : decode cX5_digest 117 = .ok (.iinc 3 1, 3) := by decide +kernel
theorem dX5_digest_120 : decode cX5_digest 120 = .ok (.goto (-44), 3) := by decide +kernel
theorem dX5_digest_123 : decode cX5_digest 123 = .ok (.iconst 0, 1) := by decide +kernel
theorem dX5_digest_124 : decode cX5_digest 124 = .ok (.istore_n 3, 1) := by decide +kernel
theorem dX5_digest_125 : decode cX5_digest 125 = .ok (.iload_n 3, 1) := by decide +kernel
theorem dX5_digest_126 : decode cX5_digest 126 = .ok (.aload_n 0, 1) := by decide +kernel
theorem dX5_digest_127 : decode cX5_digest 127 = .ok (.getfield 174, 3) := by decide +kernel
theorem dX5_digest_130 : decode cX5_digest 130 = .ok (.if_icmp .ge 20, 3) := by decide +kernel
theorem dX5_digest_133 : decode cX5_digest 133 = .ok (.aload_n 0, 1) := by decide +kernel
theorem dX5_digest_134 : decode cX5_digest 134 = .ok (.lload_n 1, 1) := by decide +kernel
theorem dX5_digest_135 : decode cX5_digest 135 = .ok (.aload_n 0, 1) := by decide +kernel
theorem dX5_digest_136 : decode cX5_digest 136 = .ok (.iload_n 3, 1) := by decide +kernel
theorem dX5_digest_137 : decode cX5_digest 137 = .ok (.invokevirtual 179, 3) := by decide +kernel
theorem dX5_digest_140 : decode cX5_digest 140 = .ok (.invokevirtual 299, 3) := by decide +kernel
theorem dX5_digest_143 : decode cX5_digest 143 = .ok (.lstore_n 1, 1) := by decide +kernel
theorem dX5_digest_144 : decode cX5_digest 144 = .ok (.iinc 3 1, 3) := by decide +kernel
theorem dX5_digest_147 : decode cX5_digest 147 = .ok (.goto (-22), 3) := by decide +kernel
theorem dX5_digest_150 : decode cX5_digest 150 = .ok (.lload_n 1, 1) := by decide +kernel
theorem dX5_digest_151 : decode cX5_digest 151 = .ok (.lreturn, 1) := by decide +kernel
theorem dX5_has_0 : decode cX5_has 0 = .ok (.iload_n 0, 1) := by decide +kernel
theorem dX5_has_1 : decode cX5_has 1 = .ok (.iload_n 1, 1) := by decide +kernel
theorem dX5_has_2 : decode cX5_has 2 = .ok (.ishr, 1) := by decide +kernel
theorem dX5_has_3 : decode cX5_has 3 = .ok (.iconst 1, 1) := by decide +kernel
theorem dX5_has_4 : decode cX5_has 4 = .ok (.iand, 1) := by decide +kernel
theorem dX5_has_5 : decode cX5_has 5 = .ok (.iconst 1, 1) := by decide +kernel
theorem dX5_has_6 : decode cX5_has 6 = .ok (.if_icmp .ne 7, 3) := by decide +kernel
theorem dX5_has_9 : decode cX5_has 9 = .ok (.iconst 1, 1) := by decide +kernel
theorem dX5_has_10 : decode cX5_has 10 = .ok (.goto 4, 3) := by decide +kernel
theorem dX5_has_13 : decode cX5_has 13 = .ok (.iconst 0, 1) := by decide +kernel
theorem dX5_has_14 : decode cX5_has 14 = .ok (.ireturn, 1) := by decide +kernel
theorem dX5_isWithin_0 : decode cX5_isWithin 0 = .ok (.iload_n 0, 1) := by decide +kernel
theorem dX5_isWithin_1 : decode cX5_isWithin 1 = .ok (.iload_n 1, 1) := by decide +kernel
theorem dX5_isWithin_2 : decode cX5_isWithin 2 = .ok (.if_icmp .lt 12, 3) := by decide +kernel
theorem dX5_isWithin_5 : decode cX5_isWithin 5 = .ok (.iload_n 0, 1) := by decide +kernel
theorem dX5_isWithin_6 : decode cX5_isWithin 6 = .ok (.iload_n 2, 1) := by decide +kernel
theorem dX5_isWithin_7 : decode cX5_isWithin 7 = .ok (.if_icmp .gt 7, 3) := by decide +kernel
theorem dX5_isWithin_10 : decode cX5_isWithin 10 = .ok (.iconst 1, 1) := by decide +kernel
theorem dX5_isWithin_11 : decode cX5_isWithin 11 = .ok (.goto 4, 3) := by decide +kernel
theorem dX5_isWithin_14 : decode cX5_isWithin 14 = .ok (.iconst 0, 1) := by decide +kernel
theorem dX5_isWithin_15 : decode cX5_isWithin 15 = .ok (.ireturn, 1) := by decide +kernel
theorem dX5_isOfKind_0 : decode cX5_isOfKind 0 = .ok (.iload_n 0, 1) := by decide +kernel
theorem dX5_isOfKind_1 : decode cX5_isOfKind 1 = .ok (.ifCond .ne 12, 3) := by decide +kernel
theorem dX5_isOfKind_4 : decode cX5_isOfKind 4 = .ok (.iload_n 1, 1) := by decide +kernel
theorem dX5_isOfKind_5 : decode cX5_isOfKind 5 = .ok (.iconst 0, 1) := by decide +kernel
theorem dX5_isOfKind_6 : decode cX5_isOfKind 6 = .ok (.sipush 255, 3) := by decide +kernel
theorem dX5_isOfKind_9 : decode cX5_isOfKind 9 = .ok (.invokestatic 46, 3) := by decide +kernel
theorem dX5_isOfKind_12 : decode cX5_isOfKind 12 = .ok (.ireturn, 1) := by decide +kernel
theorem dX5_isOfKind_13 : decode cX5_isOfKind 13 = .ok (.iload_n 0, 1) := by decide +kernel
theorem dX5_isOfKind_14 : decode cX5_isOfKind 14 = .ok (.iconst 1, 1) := by decide +kernel
theorem dX5_isOfKind_15 : decode cX5_isOfKind 15 = .ok (.if_icmp .ne 12, 3) := by decide +kernel
theorem dX5_isOfKind_18 : decode cX5_isOfKind 18 = .ok (.iload_n 1, 1) := by decide +kernel
theorem dX5_isOfKind_19 : decode cX5_isOfKind 19 = .ok (.iconst 0, 1) := by decide +kernel
theorem dX5_isOfKind_20 : decode cX5_isOfKind 20 = .ok (.iconst 3, 1) := by decide +kernel
theorem dX5_isOfKind_21 : decode cX5_isOfKind 21 = .ok (.invokestatic 46, 3) := by decide +kernel
theorem dX5_isOfKind_24 : decode cX5_isOfKind 24 = .ok (.ifCond .eq 7, 3) := by decide +kernel
theorem dX5_isOfKind_27 : decode cX5_isOfKind 27 = .ok (.iconst 1, 1) := by decide +kernel
theorem dX5_isOfKind_28 : decode cX5_isOfKind 28 = .ok (.goto 4, 3) := by decide +kernel
theorem dX5_isOfKind_31 : decode cX5_isOfKind 31 = .ok (.iconst 0, 1) := by decide +kernel
theorem dX5_isOfKind_32 : decode cX5_isOfKind 32 = .ok (.ireturn, 1) := by decide +kernel
theorem dX5_isAhead_0 : decode cX5_isAhead 0 = .ok (.iload_n 1, 1) := by decide +kernel
theorem dX5_isAhead_1 : decode cX5_isAhead 1 = .ok (.aload_n 0, 1) := by decide +kernel
theorem dX5_isAhead_2 : decode cX5_isAhead 2 = .ok (.getfield 160, 3) := by decide +kernel
theorem dX5_isAhead_5 : decode cX5_isAhead 5 = .ok (.if_icmp .le 14, 3) := by decide +kernel
theorem dX5_isAhead_8 : decode cX5_isAhead 8 = .ok (.iload_n 1, 1) := by decide +kernel
theorem dX5_isAhead_9 : decode cX5_isAhead 9 = .ok (.sipush 199, 3) := by decide +kernel
theorem dX5_isAhead_12 : decode cX5_isAhead 12 = .ok (.if_icmp .gt 7, 3) := by decide +kernel
theorem dX5_isAhead_15 : decode cX5_isAhead 15 = .ok (.iconst 1, 1) := by decide +kernel
theorem dX5_isAhead_16 : decode cX5_isAhead 16 = .ok (.goto 4, 3) := by decide +kernel
theorem dX5_isAhead_19 : decode cX5_isAhead 19 = .ok (.iconst 0, 1) := by decide +kernel
theorem dX5_isAhead_20 : decode cX5_isAhead 20 = .ok (.ireturn, 1) := by decide +kernel
theorem dX5_checkDelay_0 : decode cX5_checkDelay 0 = .ok (.iload_n 1, 1) := by decide +kernel
theorem dX5_checkDelay_1 : decode cX5_checkDelay 1 = .ok (.ifCond .lt 14, 3) := by decide +kernel
theorem dX5_checkDelay_4 : decode cX5_checkDelay 4 = .ok (.iload_n 1, 1) := by decide +kernel
theorem dX5_checkDelay_5 : decode cX5_checkDelay 5 = .ok (.aload_n 0, 1) := by decide +kernel
theorem dX5_checkDelay_6 : decode cX5_checkDelay 6 = .ok (.getfield 19, 3) := by decide +kernel
theorem dX5_checkDelay_9 : decode cX5_checkDelay 9 = .ok (.getfield 252, 3) := by decide +kernel
theorem dX5_checkDelay_12 : decode cX5_checkDelay 12 = .ok (.if_icmp .lt 14, 3) := by decide +kernel
theorem dX5_checkDelay_15 : decode cX5_checkDelay 15 = .ok (.new 74, 3) := by decide +kernel
theorem dX5_checkDelay_18 : decode cX5_checkDelay 18 = .ok (.dup, 1) := by decide +kernel
theorem dX5_checkDelay_19 : decode cX5_checkDelay 19 = .ok (.ldc_w 303, 3) := by decide +kernel
theorem dX5_checkDelay_22 : decode cX5_checkDelay 22 = .ok (.invokespecial 78, 3) := by decide +kernel
theorem dX5_checkDelay_25 : decode cX5_checkDelay 25 = .ok (.athrow, 1) := by decide +kernel
theorem dX5_checkDelay_26 : decode cX5_checkDelay 26 = .ok (.iload_n 2, 1) := by decide +kernel
theorem dX5_checkDelay_27 : decode cX5_checkDelay 27 = .ok (.iconst 1, 1) := by decide +kernel
theorem dX5_checkDelay_28 : decode cX5_checkDelay 28 = .ok (.bipush 30, 2) := by decide +kernel
theorem dX5_checkDelay_30 : decode cX5_checkDelay 30 = .ok (.invokestatic 46, 3) := by decide +kernel
theorem dX5_checkDelay_33 : decode cX5_checkDelay 33 = .ok (.ifCond .ne 14, 3) := by decide +kernel
theorem dX5_checkDelay_36 : decode cX5_checkDelay 36 = .ok (.new 58, 3) := by decide +kernel
theorem dX5_checkDelay_39 : decode cX5_checkDelay 39 = .ok (.dup, 1) := by decide +kernel
theorem dX5_checkDelay_40 : decode cX5_checkDelay 40 = .ok (.ldc_w 305, 3) := by decide +kernel
theorem dX5_checkDelay_43 : decode cX5_checkDelay 43 = .ok (.invokespecial 62, 3) := by decide +kernel
theorem dX5_checkDelay_46 : decode cX5_checkDelay 46 = .ok (.athrow, 1) := by decide +kernel
theorem dX5_checkDelay_47 : decode cX5_checkDelay 47 = .ok (.aload_n 0, 1) := by decide +kernel
theorem dX5_checkDelay_48 : decode cX5_checkDelay 48 = .ok (.getfield 19, 3) := by decide +kernel
theorem dX5_checkDelay_51 : decode cX5_checkDelay 51 = .ok (.getfield 307, 3) := by decide +kernel
theorem dX5_checkDelay_54 : decode cX5_checkDelay 54 = .ok (.iload_n 1, 1) := by decide +kernel
theorem dX5_checkDelay_55 : decode cX5_checkDelay 55 = .ok (.iaload, 1) := by decide +kernel
theorem dX5_checkDelay_56 : decode cX5_checkDelay 56 = .ok (.aload_n 0, 1) := by decide +kernel
theorem dX5_checkDelay_57 : decode cX5_checkDelay 57 = .ok (.getfield 160, 3) := by decide +kernel
theorem dX5_checkDelay_60 : decode cX5_checkDelay 60 = .ok (.if_icmp .gt 14, 3) := by decide +kernel
theorem dX5_checkDelay_63 : decode cX5_checkDelay 63 = .ok (.new 69, 3) := by decide +kernel
theorem dX5_checkDelay_66 : decode cX5_checkDelay 66 = .ok (.dup, 1) := by decide +kernel
theorem dX5_checkDelay_67 : decode cX5_checkDelay 67 = .ok (.ldc_w 310, 3) := by decide +kernel
theorem dX5_checkDelay_70 : decode cX5_checkDelay 70 = .ok (.invokespecial 73, 3) := by decide +kernel
theorem dX5_checkDelay_73 : decode cX5_checkDelay 73 = .ok (.athrow, 1) := by decide +kernel
theorem dX5_checkDelay_74 : decode cX5_checkDelay 74 = .ok (.return_, 1) := by decide +kernel
theorem dX5_joinerAt_0 : decode cX5_joinerAt 0 = .ok (.iload_n 1, 1) := by decide +kernel
theorem dX5_joinerAt_1 : decode cX5_joinerAt 1 = .ok (.ifCond .lt 17, 3) := by decide +kernel
theorem dX5_joinerAt_4 : decode cX5_joinerAt 4 = .ok (.iload_n 1, 1) := by decide +kernel
theorem dX5_joinerAt_5 : decode cX5_joinerAt 5 = .ok (.aload_n 0, 1) := by decide +kernel
theorem dX5_joinerAt_6 : decode cX5_joinerAt 6 = .ok (.getfield 174, 3) := by decide +kernel
theorem dX5_joinerAt_9 : decode cX5_joinerAt 9 = .ok (.if_icmp .ge 9, 3) := by decide +kernel
theorem dX5_joinerAt_12 : decode cX5_joinerAt 12 = .ok (.iload_n 1, 1) := by decide +kernel
theorem dX5_joinerAt_13 : decode cX5_joinerAt 13 = .ok (.bipush 8, 2) := by decide +kernel
theorem dX5_joinerAt_15 : decode cX5_joinerAt 15 = .ok (.if_icmp .lt 14, 3) := by decide +kernel
theorem dX5_joinerAt_18 : decode cX5_joinerAt 18 = .ok (.new 74, 3) := by decide +kernel
theorem dX5_joinerAt_21 : decode cX5_joinerAt 21 = .ok (.dup, 1) := by decide +kernel
theorem dX5_joinerAt_22 : decode cX5_joinerAt 22 = .ok (.ldc_w 312, 3) := by decide +kernel
theorem dX5_joinerAt_25 : decode cX5_joinerAt 25 = .ok (.invokespecial 78, 3) := by decide +kernel
theorem dX5_joinerAt_28 : decode cX5_joinerAt 28 = .ok (.athrow, 1) := by decide +kernel
theorem dX5_joinerAt_29 : decode cX5_joinerAt 29 = .ok (.aload_n 0, 1) := by decide +kernel
theorem dX5_joinerAt_30 : decode cX5_joinerAt 30 = .ok (.getfield 41, 3) := by decide +kernel
theorem dX5_joinerAt_33 : decode cX5_joinerAt 33 = .ok (.iload_n 1, 1) := by decide +kernel
theorem dX5_joinerAt_34 : decode cX5_joinerAt 34 = .ok (.aaload, 1) := by decide +kernel
theorem dX5_joinerAt_35 : decode cX5_joinerAt 35 = .ok (.astore_n 2, 1) := by decide +kernel
theorem dX5_joinerAt_36 : decode cX5_joinerAt 36 = .ok (.aload_n 2, 1) := by decide +kernel
theorem dX5_joinerAt_37 : decode cX5_joinerAt 37 = .ok (.ifnonnull 14, 3) := by decide +kernel
theorem dX5_joinerAt_40 : decode cX5_joinerAt 40 = .ok (.new 74, 3) := by decide +kernel
theorem dX5_joinerAt_43 : decode cX5_joinerAt 43 = .ok (.dup, 1) := by decide +kernel
theorem dX5_joinerAt_44 : decode cX5_joinerAt 44 = .ok (.ldc_w 312, 3) := by decide +kernel
theorem dX5_joinerAt_47 : decode cX5_joinerAt 47 = .ok (.invokespecial 78, 3) := by decide +kernel
theorem dX5_joinerAt_50 : decode cX5_joinerAt 50 = .ok (.athrow, 1) := by decide +kernel
theorem dX5_joinerAt_51 : decode cX5_joinerAt 51 = .ok (.aload_n 2, 1) := by decide +kernel
theorem dX5_joinerAt_52 : decode cX5_joinerAt 52 = .ok (.areturn, 1) := by decide +kernel
theorem dX5_beginSteps_0 : decode cX5_beginSteps 0 = .ok (.iconst 0, 1) := by decide +kernel
theorem dX5_beginSteps_1 : decode cX5_beginSteps 1 = .ok (.istore_n 2, 1) := by decide +kernel
theorem dX5_beginSteps_2 : decode cX5_beginSteps 2 = .ok (.iload_n 2, 1) := by decide +kernel
theorem dX5_beginSteps_3 : decode cX5_beginSteps 3 = .ok (.bipush 12, 2) := by decide +kernel
theorem dX5_beginSteps_5 : decode cX5_beginSteps 5 = .ok (.if_icmp .ge 88, 3) := by decide +kernel
theorem dX5_beginSteps_8 : decode cX5_beginSteps 8 = .ok (.aload_n 0, 1) := by decide +kernel
theorem dX5_beginSteps_9 : decode cX5_beginSteps 9 = .ok (.aload_n 1, 1) := by decide +kernel
theorem dX5_beginSteps_10 : decode cX5_beginSteps 10 = .ok (.iload_n 2, 1) := by decide +kernel
theorem dX5_beginSteps_11 : decode cX5_beginSteps 11 = .ok (.invokevirtual 314, 3) := by decide +kernel
theorem dX5_beginSteps_14 : decode cX5_beginSteps 14 = .ok (.ifCond .eq 73, 3) := by decide +kernel
theorem dX5_beginSteps_17 : decode cX5_beginSteps 17 = .ok (.aload_n 0, 1) := by decide +kernel
theorem dX5_beginSteps_18 : decode cX5_beginSteps 18 = .ok (.aload_n 1, 1) := by decide +kernel
theorem dX5_beginSteps_19 : decode cX5_beginSteps 19 = .ok (.iload_n 2, 1) := by decide +kernel
theorem dX5_beginSteps_20 : decode cX5_beginSteps 20 = .ok (.invokevirtual 318, 3) := by decide +kernel
theorem dX5_beginSteps_23 : decode cX5_beginSteps 23 = .ok (.ifCond .eq 64, 3) := by decide +kernel
theorem dX5_beginSteps_26 : decode cX5_beginSteps 26 = .ok (.aload_n 0, 1) := by decide +kernel
theorem dX5_beginSteps_27 : decode cX5_beginSteps 27 = .ok (.getfield 10, 3) := by decide +kernel
theorem dX5_beginSteps_30 : decode cX5_beginSteps 30 = .ok (.getfield 126, 3) := by decide +kernel
theorem dX5_beginSteps_33 : decode cX5_beginSteps 33 = .ok (.iload_n 2, 1) := by decide +kernel
theorem dX5_beginSteps_34 : decode cX5_beginSteps 34 = .ok (.iaload, 1) := by decide +kernel
theorem dX5_beginSteps_35 : decode cX5_beginSteps 35 = .ok (.iconst 1, 1) := by decide +kernel
theorem dX5_beginSteps_36 : decode cX5_beginSteps 36 = .ok (.if_icmp .ne 19, 3) := by decide +kernel
theorem dX5_beginSteps_39 : decode cX5_beginSteps 39 = .ok (.aload_n 0, 1) := by decide +kernel
theorem dX5_beginSteps_40 : decode cX5_beginSteps 40 = .ok (.getfield 19, 3) := by decide +kernel
theorem dX5_beginSteps_43 : decode cX5_beginSteps 43 = .ok (.aload_n 0, 1) := by decide +kernel
theorem dX5_beginSteps_44 : decode cX5_beginSteps 44 = .ok (.getfield 10, 3) := by decide +kernel
theorem dX5_beginSteps_47 : decode cX5_beginSteps 47 = .ok (.getfield 321, 3) := by decide +kernel
theorem dX5_beginSteps_50 : decode cX5_beginSteps 50 = .ok (.iload_n 2, 1) := by decide +kernel
theorem dX5_beginSteps_51 : decode cX5_beginSteps 51 = .ok (.iaload, 1) := by decide +kernel
theorem dX5_beginSteps_52 : decode cX5_beginSteps 52 = .ok (.invokevirtual 324, 3) := by decide +kernel
theorem dX5_beginSteps_55 : decode cX5_beginSteps 55 = .ok (.aload_n 1, 1) := by decide +kernel
theorem dX5_beginSteps_56 : decode cX5_beginSteps 56 = .ok (.getfield 327, 3) := by decide +kernel
theorem dX5_beginSteps_59 : decode cX5_beginSteps 59 = .ok (.iload_n 2, 1) := by decide +kernel
theorem dX5_beginSteps_60 : decode cX5_beginSteps 60 = .ok (.aload_n 0, 1) := by decide +kernel
theorem dX5_beginSteps_61 : decode cX5_beginSteps 61 = .ok (.getfield 10, 3) := by decide +kernel
theorem dX5_beginSteps_64 : decode cX5_beginSteps 64 = .ok (.aload_n 1, 1) := by decide +kernel
theorem dX5_beginSteps_65 : decode cX5_beginSteps 65 = .ok (.iload_n 2, 1) := by decide +kernel
theorem dX5_beginSteps_66 : decode cX5_beginSteps 66 = .ok (.invokevirtual 330, 3) := by decide +kernel
theorem dX5_beginSteps_69 : decode cX5_beginSteps 69 = .ok (.iastore, 1) := by decide +kernel
theorem dX5_beginSteps_70 : decode cX5_beginSteps 70 = .ok (.aload_n 1, 1) := by decide +kernel
theorem dX5_beginSteps_71 : decode cX5_beginSteps 71 = .ok (.getfield 333, 3) := by decide +kernel
theorem dX5_beginSteps_74 : decode cX5_beginSteps 74 = .ok (.iload_n 2, 1) := by decide +kernel
theorem dX5_beginSteps_75 : decode cX5_beginSteps 75 = .ok (.aload_n 0, 1) := by decide +kernel
theorem dX5_beginSteps_76 : decode cX5_beginSteps 76 = .ok (.getfield 160, 3) := by decide +kernel
theorem dX5_beginSteps_79 : decode cX5_beginSteps 79 = .ok (.iastore, 1) := by decide +kernel
theorem dX5_beginSteps_80 : decode cX5_beginSteps 80 = .ok (.aload_n 1, 1) := by decide +kernel
theorem dX5_beginSteps_81 : decode cX5_beginSteps 81 = .ok (.getfield 195, 3) := by decide +kernel
theorem dX5_beginSteps_84 : decode cX5_beginSteps 84 = .ok (.iload_n 2, 1) := by decide +kernel
theorem dX5_beginSteps_85 : decode cX5_beginSteps 85 = .ok (.iconst 1, 1) := by decide +kernel
theorem dX5_beginSteps_86 : decode cX5_beginSteps 86 = .ok (.iastore, 1) := by decide +kernel
theorem dX5_beginSteps_87 : decode cX5_beginSteps 87 = .ok (.iinc 2 1, 3) := by decide +kernel
theorem dX5_beginSteps_90 : decode cX5_beginSteps 90 = .ok (.goto (-88), 3) := by decide +kernel
theorem dX5_beginSteps_93 : decode cX5_beginSteps 93 = .ok (.return_, 1) := by decide +kernel
theorem dX5_isReady_0 : decode cX5_isReady 0 = .ok (.aload_n 1, 1) := by decide +kernel
theorem dX5_isReady_1 : decode cX5_isReady 1 = .ok (.getfield 189, 3) := by decide +kernel
theorem dX5_isReady_4 : decode cX5_isReady 4 = .ok (.ifCond .ne 39, 3) := by decide +kernel
theorem dX5_isReady_7 : decode cX5_isReady 7 = .ok (.aload_n 1, 1) := by decide +kernel
theorem dX5_isReady_8 : decode cX5_isReady 8 = .ok (.getfield 186, 3) := by decide +kernel
theorem dX5_isReady_11 : decode cX5_isReady 11 = .ok (.aload_n 0, 1) := by decide +kernel
theorem dX5_isReady_12 : decode cX5_isReady 12 = .ok (.getfield 160, 3) := by decide +kernel
theorem dX5_isReady_15 : decode cX5_isReady 15 = .ok (.if_icmp .gt 28, 3) := by decide +kernel
theorem dX5_isReady_18 : decode cX5_isReady 18 = .ok (.aload_n 1, 1) := by decide +kernel
theorem dX5_isReady_19 : decode cX5_isReady 19 = .ok (.iload_n 2, 1) := by decide +kernel
theorem dX5_isReady_20 : decode cX5_isReady 20 = .ok (.iconst 0, 1) := by decide +kernel
theorem dX5_isReady_21 : decode cX5_isReady 21 = .ok (.invokevirtual 336, 3) := by decide +kernel
theorem dX5_isReady_24 : decode cX5_isReady 24 = .ok (.ifCond .eq 19, 3) := by decide +kernel
theorem dX5_isReady_27 : decode cX5_isReady 27 = .ok (.aload_n 0, 1) := by decide +kernel
theorem dX5_isReady_28 : decode cX5_isReady 28 = .ok (.getfield 10, 3) := by decide +kernel
theorem dX5_isReady_31 : decode cX5_isReady 31 = .ok (.aload_n 1, 1) := by decide +kernel
theorem dX5_isReady_32 : decode cX5_isReady 32 = .ok (.iload_n 2, 1) := by decide +kernel
theorem dX5_isReady_33 : decode cX5_isReady 33 = .ok (.invokevirtual 339, 3) := by decide +kernel
theorem dX5_isReady_36 : decode cX5_isReady 36 = .ok (.ifCond .eq 7, 3) := by decide +kernel
theorem dX5_isReady_39 : decode cX5_isReady 39 = .ok (.iconst 1, 1) := by decide +kernel
theorem dX5_isReady_40 : decode cX5_isReady 40 = .ok (.goto 4, 3) := by decide +kernel
theorem dX5_isReady_43 : decode cX5_isReady 43 = .ok (.iconst 0, 1) := by decide +kernel
theorem dX5_isReady_44 : decode cX5_isReady 44 = .ok (.ireturn, 1) := by decide +kernel
theorem dX5_canBegin_0 : decode cX5_canBegin 0 = .ok (.iload_n 2, 1) := by decide +kernel
theorem dX5_canBegin_1 : decode cX5_canBegin 1 = .ok (.ifCond .lt 9, 3) := by decide +kernel
theorem dX5_canBegin_4 : decode cX5_canBegin 4 = .ok (.iload_n 2, 1) := by decide +kernel
theorem dX5_canBegin_5 : decode cX5_canBegin 5 = .ok (.bipush 12, 2) := by decide +kernel
theorem dX5_canBegin_7 : decode cX5_canBegin 7 = .ok (.if_icmp .lt 5, 3) := by decide +kernel
theorem dX5_canBegin_10 : decode cX5_canBegin 10 = .ok (.iconst 0, 1) := by decide +kernel
theorem dX5_canBegin_11 : decode cX5_canBegin 11 = .ok (.ireturn, 1) := by decide +kernel
theorem dX5_canBegin_12 : decode cX5_canBegin 12 = .ok (.aload_n 0, 1) := by decide +kernel
theorem dX5_canBegin_13 : decode cX5_canBegin 13 = .ok (.getfield 10, 3) := by decide +kernel
theorem dX5_canBegin_16 : decode cX5_canBegin 16 = .ok (.getfield 126, 3) := by decide +kernel
theorem dX5_canBegin_19 : decode cX5_canBegin 19 = .ok (.iload_n 2, 1) := by decide +kernel
theorem dX5_canBegin_20 : decode cX5_canBegin 20 = .ok (.iaload, 1) := by decide +kernel
theorem dX5_canBegin_21 : decode cX5_canBegin 21 = .ok (.iconst 1, 1) := by decide +kernel
theorem dX5_canBegin_22 : decode cX5_canBegin 22 = .ok (.if_icmp .ne 20, 3) := by decide +kernel
theorem dX5_canBegin_25 : decode cX5_canBegin 25 = .ok (.aload_n 0, 1) := by decide +kernel
theorem dX5_canBegin_26 : decode cX5_canBegin 26 = .ok (.getfield 19, 3) := by decide +kernel
theorem dX5_canBegin_29 : decode cX5_canBegin 29 = .ok (.aload_n 0, 1) := by decide +kernel
theorem dX5_canBegin_30 : decode cX5_canBegin 30 = .ok (.getfield 10, 3) := by decide +kernel
theorem dX5_canBegin_33 : decode cX5_canBegin 33 = .ok (.getfield 321, 3) := by decide +kernel
theorem dX5_canBegin_36 : decode cX5_canBegin 36 = .ok (.iload_n 2, 1) := by decide +kernel
theorem dX5_canBegin_37 : decode cX5_canBegin 37 = .ok (.iaload, 1) := by decide +kernel
theorem dX5_canBegin_38 : decode cX5_canBegin 38 = .ok (.invokevirtual 342, 3) := by decide +kernel
theorem dX5_canBegin_41 : decode cX5_canBegin 41 = .ok (.ireturn, 1) := by decide +kernel
theorem dX5_canBegin_42 : decode cX5_canBegin 42 = .ok (.aload_n 0, 1) := by decide +kernel
theorem dX5_canBegin_43 : decode cX5_canBegin 43 = .ok (.getfield 10, 3) := by decide +kernel
theorem dX5_canBegin_46 : decode cX5_canBegin 46 = .ok (.getfield 126, 3) := by decide +kernel
theorem dX5_canBegin_49 : decode cX5_canBegin 49 = .ok (.iload_n 2, 1) := by decide +kernel
theorem dX5_canBegin_50 : decode cX5_canBegin 50 = .ok (.iaload, 1) := by decide +kernel
theorem dX5_canBegin_51 : decode cX5_canBegin 51 = .ok (.iconst 2, 1) := by decide +kernel
theorem dX5_canBegin_52 : decode cX5_canBegin 52 = .ok (.if_icmp .ne 23, 3) := by decide +kernel
theorem dX5_canBegin_55 : decode cX5_canBegin 55 = .ok (.aload_n 0, 1) := by decide +kernel
theorem dX5_canBegin_56 : decode cX5_canBegin 56 = .ok (.getfield 26, 3) := by decide +kernel
theorem dX5_canBegin_59 : decode cX5_canBegin 59 = .ok (.aload_n 1, 1) := by decide +kernel
theorem dX5_canBegin_60 : decode cX5_canBegin 60 = .ok (.getfield 198, 3) := by decide +kernel
theorem dX5_canBegin_63 : decode cX5_canBegin 63 = .ok (.iload_n 2, 1) := by decide +kernel
theorem dX5_canBegin_64 : decode cX5_canBegin 64 = .ok (.iaload, 1) := by decide +kernel
theorem dX5_canBegin_65 : decode cX5_canBegin 65 = .ok (.invokevirtual 345, 3) := by decide +kernel
theorem dX5_canBegin_68 : decode cX5_canBegin 68 = .ok (.aload_n 0, 1) := by decide +kernel
theorem dX5_canBegin_69 : decode cX5_canBegin 69 = .ok (.getfield 160, 3) := by decide +kernel
theorem dX5_canBegin_72 : decode cX5_canBegin 72 = .ok (.if_icmp .ne 7, 3) := by decide +kernel
theorem dX5_canBegin_75 : decode cX5_canBegin 75 = .ok (.iconst 1, 1) := by decide +kernel
theorem dX5_canBegin_76 : decode cX5_canBegin 76 = .ok (.goto 4, 3) := by decide +kernel
theorem dX5_canBegin_79 : decode cX5_canBegin 79 = .ok (.iconst 0, 1) := by decide +kernel
theorem dX5_canBegin_80 : decode cX5_canBegin 80 = .ok (.ireturn, 1) := by decide +kernel
theorem dX5_loseSessions_0 : decode cX5_loseSessions 0 = .ok (.iconst 0, 1) := by decide +kernel
theorem dX5_loseSessions_1 : decode cX5_loseSessions 1 = .ok (.istore_n 2, 1) := by decide +kernel
theorem dX5_loseSessions_2 : decode cX5_loseSessions 2 = .ok (.iload_n 2, 1) := by decide +kernel
theorem dX5_loseSessions_3 : decode cX5_loseSessions 3 = .ok (.bipush 12, 2) := by decide +kernel
theorem dX5_loseSessions_5 : decode cX5_loseSessions 5 = .ok (.if_icmp .ge 68, 3) := by decide +kernel
theorem dX5_loseSessions_8 : decode cX5_loseSessions 8 = .ok (.aload_n 1, 1) := by decide +kernel
theorem dX5_loseSessions_9 : decode cX5_loseSessions 9 = .ok (.getfield 195, 3) := by decide +kernel
theorem dX5_loseSessions_12 : decode cX5_loseSessions 12 = .ok (.iload_n 2, 1) := by decide +kernel
theorem dX5_loseSessions_13 : decode cX5_loseSessions 13 = .ok (.iaload, 1) := by decide +kernel
theorem dX5_loseSessions_14 : decode cX5_loseSessions 14 = .ok (.ifCond .ne 53, 3) := by decide +kernel
theorem dX5_loseSessions_17 : decode cX5_loseSessions 17 = .ok (.aload_n 0, 1) := by decide +kernel
theorem dX5_loseSessions_18 : decode cX5_loseSessions 18 = .ok (.getfield 26, 3) := by decide +kernel
theorem dX5_loseSessions_21 : decode cX5_loseSessions 21 = .ok (.aload_n 1, 1) := by decide +kernel
theorem dX5_loseSessions_22 : decode cX5_loseSessions 22 = .ok (.getfield 198, 3) := by decide +kernel
theorem dX5_loseSessions_25 : decode cX5_loseSessions 25 = .ok (.iload_n 2, 1) := by decide +kernel
theorem dX5_loseSessions_26 : decode cX5_loseSessions 26 = .ok (.iaload, 1) := by decide +kernel
theorem dX5_loseSessions_27 : decode cX5_loseSessions 27 = .ok (.invokevirtual 345, 3) := by decide +kernel
theorem dX5_loseSessions_30 : decode cX5_loseSessions 30 = .ok (.aload_n 0, 1) := by decide +kernel
theorem dX5_loseSessions_31 : decode cX5_loseSessions 31 = .ok (.getfield 160, 3) := by decide +kernel
theorem dX5_loseSessions_34 : decode cX5_loseSessions 34 = .ok (.if_icmp .ne 33, 3) := by decide +kernel
theorem dX5_loseSessions_37 : decode cX5_loseSessions 37 = .ok (.aload_n 0, 1) := by decide +kernel
theorem dX5_loseSessions_38 : decode cX5_loseSessions 38 = .ok (.getfield 26, 3) := by decide +kernel
theorem dX5_loseSessions_41 : decode cX5_loseSessions 41 = .ok (.aload_n 1, 1) := by decide +kernel
theorem dX5_loseSessions_42 : decode cX5_loseSessions 42 = .ok (.getfield 198, 3) := by decide +kernel
theorem dX5_loseSessions_45 : decode cX5_loseSessions 45 = .ok (.iload_n 2, 1) := by decide +kernel
theorem dX5_loseSessions_46 : decode cX5_loseSessions 46 = .ok (.iaload, 1) := by decide +kernel
theorem dX5_loseSessions_47 : decode cX5_loseSessions 47 = .ok (.invokevirtual 201, 3) := by decide +kernel
theorem dX5_loseSessions_50 : decode cX5_loseSessions 50 = .ok (.aload_n 1, 1) := by decide +kernel
theorem dX5_loseSessions_51 : decode cX5_loseSessions 51 = .ok (.getfield 198, 3) := by decide +kernel
theorem dX5_loseSessions_54 : decode cX5_loseSessions 54 = .ok (.iload_n 2, 1) := by decide +kernel
theorem dX5_loseSessions_55 : decode cX5_loseSessions 55 = .ok (.iconst (-1), 1) := by decide +kernel
theorem dX5_loseSessions_56 : decode cX5_loseSessions 56 = .ok (.iastore, 1) := by decide +kernel
theorem dX5_loseSessions_57 : decode cX5_loseSessions 57 = .ok (.aload_n 1, 1) := by decide +kernel
theorem dX5_loseSessions_58 : decode cX5_loseSessions 58 = .ok (.getfield 348, 3) := by decide +kernel
theorem dX5_loseSessions_61 : decode cX5_loseSessions 61 = .ok (.iload_n 2, 1) := by decide +kernel
theorem dX5_loseSessions_62 : decode cX5_loseSessions 62 = .ok (.dup2, 1) := by decide +kernel
theorem dX5_loseSessions_63 : decode cX5_loseSessions 63 = .ok (.iaload, 1) := by decide +kernel
theorem dX5_loseSessions_64 : decode cX5_loseSessions 64 = .ok (.iconst 1, 1) := by decide +kernel
theorem dX5_loseSessions_65 : decode cX5_loseSessions 65 = .ok (.iadd, 1) := by decide +kernel
theorem dX5_loseSessions_66 : decode cX5_loseSessions 66 = .ok (.iastore, 1) := by decide +kernel
theorem dX5_loseSessions_67 : decode cX5_loseSessions 67 = .ok (.iinc 2 1, 3) := by decide +kernel
theorem dX5_loseSessions_70 : decode cX5_loseSessions 70 = .ok (.goto (-68), 3) := by decide +kernel
theorem dX5_loseSessions_73 : decode cX5_loseSessions 73 = .ok (.return_, 1) := by decide +kernel
theorem dX5_bookAll_0 : decode cX5_bookAll 0 = .ok (.aload_n 0, 1) := by decide +kernel
theorem dX5_bookAll_1 : decode cX5_bookAll 1 = .ok (.getfield 35, 3) := by decide +kernel
theorem dX5_bookAll_4 : decode cX5_bookAll 4 = .ok (.aload_n 0, 1) := by decide +kernel
theorem dX5_bookAll_5 : decode cX5_bookAll 5 = .ok (.getfield 160, 3) := by decide +kernel
theorem dX5_bookAll_8 : decode cX5_bookAll 8 = .ok (.iconst (-1), 1) := by decide +kernel
theorem dX5_bookAll_9 : decode cX5_bookAll 9 = .ok (.iconst 0, 1) := by decide +kernel
theorem dX5_bookAll_10 : decode cX5_bookAll 10 = .ok (.invokevirtual 351, 3) := by decide +kernel
theorem dX5_bookAll_13 : decode cX5_bookAll 13 = .ok (.iconst 0, 1) := by decide +kernel
theorem dX5_bookAll_14 : decode cX5_bookAll 14 = .ok (.istore_n 1, 1) := by decide +kernel
theorem dX5_bookAll_15 : decode cX5_bookAll 15 = .ok (.iload_n 1, 1) := by decide +kernel
theorem dX5_bookAll_16 : decode cX5_bookAll 16 = .ok (.aload_n 0, 1) := by decide +kernel
theorem dX5_bookAll_17 : decode cX5_bookAll 17 = .ok (.getfield 174, 3) := by decide +kernel
theorem dX5_bookAll_20 : decode cX5_bookAll 20 = .ok (.if_icmp .ge 27, 3) := by decide +kernel
theorem dX5_bookAll_23 : decode cX5_bookAll 23 = .ok (.aload_n 0, 1) := by decide +kernel
theorem dX5_bookAll_24 : decode cX5_bookAll 24 = .ok (.iload_n 1, 1) := by decide +kernel
theorem dX5_bookAll_25 : decode cX5_bookAll 25 = .ok (.invokevirtual 179, 3) := by decide +kernel
theorem dX5_bookAll_28 : decode cX5_bookAll 28 = .ok (.astore_n 2, 1) := by decide +kernel
theorem dX5_bookAll_29 : decode cX5_bookAll 29 = .ok (.aload_n 2, 1) := by decide +kernel
theorem dX5_bookAll_30 : decode cX5_bookAll 30 = .ok (.getfield 189, 3) := by decide +kernel
theorem dX5_bookAll_33 : decode cX5_bookAll 33 = .ok (.ifCond .ne 8, 3) := by decide +kernel
theorem dX5_bookAll_36 : decode cX5_bookAll 36 = .ok (.aload_n 0, 1) := by decide +kernel
theorem dX5_bookAll_37 : decode cX5_bookAll 37 = .ok (.aload_n 2, 1) := by decide +kernel
theorem dX5_bookAll_38 : decode cX5_bookAll 38 = .ok (.invokevirtual 355, 3) := by decide +kernel
theorem dX5_bookAll_41 : decode cX5_bookAll 41 = .ok (.iinc 1 1, 3) := by decide +kernel
theorem dX5_bookAll_44 : decode cX5_bookAll 44 = .ok (.goto (-29), 3) := by decide +kernel
theorem dX5_bookAll_47 : decode cX5_bookAll 47 = .ok (.return_, 1) := by decide +kernel
theorem dX5_bookFor_0 : decode cX5_bookFor 0 = .ok (.iconst 0, 1) := by decide +kernel
theorem dX5_bookFor_1 : decode cX5_bookFor 1 = .ok (.istore_n 2, 1) := by decide +kernel
theorem dX5_bookFor_2 : decode cX5_bookFor 2 = .ok (.iload_n 2, 1) := by decide +kernel
theorem dX5_bookFor_3 : decode cX5_bookFor 3 = .ok (.bipush 12, 2) := by decide +kernel
theorem dX5_bookFor_5 : decode cX5_bookFor 5 = .ok (.if_icmp .ge 82, 3) := by decide +kernel
theorem dX5_bookFor_8 : decode cX5_bookFor 8 = .ok (.aload_n 0, 1) := by decide +kernel
theorem dX5_bookFor_9 : decode cX5_bookFor 9 = .ok (.getfield 35, 3) := by decide +kernel
theorem dX5_bookFor_12 : decode cX5_bookFor 12 = .ok (.aload_n 1, 1) := by decide +kernel
theorem dX5_bookFor_13 : decode cX5_bookFor 13 = .ok (.iload_n 2, 1) := by decide +kernel
theorem dX5_bookFor_14 : decode cX5_bookFor 14 = .ok (.invokevirtual 358, 3) := by decide +kernel
theorem dX5_bookFor_17 : decode cX5_bookFor 17 = .ok (.aload_n 0, 1) := by decide +kernel
theorem dX5_bookFor_18 : decode cX5_bookFor 18 = .ok (.getfield 10, 3) := by decide +kernel
theorem dX5_bookFor_21 : decode cX5_bookFor 21 = .ok (.getfield 126, 3) := by decide +kernel
theorem dX5_bookFor_24 : decode cX5_bookFor 24 = .ok (.iload_n 2, 1) := by decide +kernel
theorem dX5_bookFor_25 : decode cX5_bookFor 25 = .ok (.iaload, 1) := by decide +kernel
theorem dX5_bookFor_26 : decode cX5_bookFor 26 = .ok (.iconst 2, 1) := by decide +kernel
theorem dX5_bookFor_27 : decode cX5_bookFor 27 = .ok (.if_icmp .ne 54, 3) := by decide +kernel
theorem dX5_bookFor_30 : decode cX5_bookFor 30 = .ok (.aload_n 1, 1) := by decide +kernel
theorem dX5_bookFor_31 : decode cX5_bookFor 31 = .ok (.iload_n 2, 1) := by decide +kernel
theorem dX5_bookFor_32 : decode cX5_bookFor 32 = .ok (.iconst 0, 1) := by decide +kernel
theorem dX5_bookFor_33 : decode cX5_bookFor 33 = .ok (.invokevirtual 336, 3) := by decide +kernel
theorem dX5_bookFor_36 : decode cX5_bookFor 36 = .ok (.ifCond .eq 45, 3) := by decide +kernel
theorem dX5_bookFor_39 : decode cX5_bookFor 39 = .ok (.aload_n 1, 1) := by decide +kernel
theorem dX5_bookFor_40 : decode cX5_bookFor 40 = .ok (.getfield 198, 3) := by decide +kernel
theorem dX5_bookFor_43 : decode cX5_bookFor 43 = .ok (.iload_n 2, 1) := by decide +kernel
theorem dX5_bookFor_44 : decode cX5_bookFor 44 = .ok (.iaload, 1) := by decide +kernel
theorem dX5_bookFor_45 : decode cX5_bookFor 45 = .ok (.iconst (-1), 1) := by decide +kernel
theorem dX5_bookFor_46 : decode cX5_bookFor 46 = .ok (.if_icmp .ne 35, 3) := by decide +kernel
theorem dX5_bookFor_49 : decode cX5_bookFor 49 = .ok (.aload_n 1, 1) := by decide +kernel
theorem dX5_bookFor_50 : decode cX5_bookFor 50 = .ok (.getfield 198, 3) := by decide +kernel
theorem dX5_bookFor_53 : decode cX5_bookFor 53 = .ok (.iload_n 2, 1) := by decide +kernel
theorem dX5_bookFor_54 : decode cX5_bookFor 54 = .ok (.aload_n 0, 1) := by decide +kernel
theorem dX5_bookFor_55 : decode cX5_bookFor 55 = .ok (.getfield 26, 3) := by decide +kernel
theorem dX5_bookFor_58 : decode cX5_bookFor 58 = .ok (.iload_n 2, 1) := by decide +kernel
theorem dX5_bookFor_59 : decode cX5_bookFor 59 = .ok (.aload_n 0, 1) := by decide +kernel
theorem dX5_bookFor_60 : decode cX5_bookFor 60 = .ok (.getfield 35, 3) := by decide +kernel
theorem dX5_bookFor_63 : decode cX5_bookFor 63 = .ok (.getfield 362, 3) := by decide +kernel
theorem dX5_bookFor_66 : decode cX5_bookFor 66 = .ok (.iload_n 2, 1) := by decide +kernel
theorem dX5_bookFor_67 : decode cX5_bookFor 67 = .ok (.iaload, 1) := by decide +kernel
theorem dX5_bookFor_68 : decode cX5_bookFor 68 = .ok (.invokevirtual 363, 3) := by decide +kernel
theorem dX5_bookFor_71 : decode cX5_bookFor 71 = .ok (.iastore, 1) := by decide +kernel
theorem dX5_bookFor_72 : decode cX5_bookFor 72 = .ok (.aload_n 0, 1) := by decide +kernel
theorem dX5_bookFor_73 : decode cX5_bookFor 73 = .ok (.getfield 35, 3) := by decide +kernel
theorem dX5_bookFor_76 : decode cX5_bookFor 76 = .ok (.aload_n 1, 1) := by decide +kernel
theorem dX5_bookFor_77 : decode cX5_bookFor 77 = .ok (.iload_n 2, 1) := by decide +kernel
theorem dX5_bookFor_78 : decode cX5_bookFor 78 = .ok (.invokevirtual 358, 3) := by decide +kernel
theorem dX5_bookFor_81 : decode cX5_bookFor 81 = .ok (.iinc 2 1, 3) := by decide +kernel
theorem dX5_bookFor_84 : decode cX5_bookFor 84 = .ok (.goto (-82), 3) := by decide +kernel
theorem dX5_bookFor_87 : decode cX5_bookFor 87 = .ok (.return_, 1) := by decide +kernel
theorem dX5_takeBackStep_0 : decode cX5_takeBackStep 0 = .ok (.aload_n 1, 1) := by decide +kernel
theorem dX5_takeBackStep_1 : decode cX5_takeBackStep 1 = .ok (.getfield 189, 3) := by decide +kernel
theorem dX5_takeBackStep_4 : decode cX5_takeBackStep 4 = .ok (.ifCond .ne 4, 3) := by decide +kernel
theorem dX5_takeBackStep_7 : decode cX5_takeBackStep 7 = .ok (.return_, 1) := by decide +kernel
theorem dX5_takeBackStep_8 : decode cX5_takeBackStep 8 = .ok (.aload_n 1, 1) := by decide +kernel
theorem dX5_takeBackStep_9 : decode cX5_takeBackStep 9 = .ok (.invokevirtual 366, 3) := by decide +kernel
theorem dX5_takeBackStep_12 : decode cX5_takeBackStep 12 = .ok (.istore_n 2, 1) := by decide +kernel
theorem dX5_takeBackStep_13 : decode cX5_takeBackStep 13 = .ok (.iload_n 2, 1) := by decide +kernel
theorem dX5_takeBackStep_14 : decode cX5_takeBackStep 14 = .ok (.ifCond .lt 9, 3) := by decide +kernel
theorem dX5_takeBackStep_17 : decode cX5_takeBackStep 17 = .ok (.iload_n 2, 1) := by decide +kernel
theorem dX5_takeBackStep_18 : decode cX5_takeBackStep 18 = .ok (.bipush 12, 2) := by decide +kernel
theorem dX5_takeBackStep_20 : decode cX5_takeBackStep 20 = .ok (.if_icmp .lt 4, 3) := by decide +kernel
theorem dX5_takeBackStep_23 : decode cX5_takeBackStep 23 = .ok (.return_, 1) := by decide +kernel
theorem dX5_takeBackStep_24 : decode cX5_takeBackStep 24 = .ok (.aload_n 1, 1) := by decide +kernel
theorem dX5_takeBackStep_25 : decode cX5_takeBackStep 25 = .ok (.getfield 195, 3) := by decide +kernel
theorem dX5_takeBackStep_28 : decode cX5_takeBackStep 28 = .ok (.iload_n 2, 1) := by decide +kernel
theorem dX5_takeBackStep_29 : decode cX5_takeBackStep 29 = .ok (.iconst 3, 1) := by decide +kernel
theorem dX5_takeBackStep_30 : decode cX5_takeBackStep 30 = .ok (.iastore, 1) := by decide +kernel
theorem dX5_takeBackStep_31 : decode cX5_takeBackStep 31 = .ok (.aload_n 0, 1) := by decide +kernel
theorem dX5_takeBackStep_32 : decode cX5_takeBackStep 32 = .ok (.getfield 10, 3) := by decide +kernel
theorem dX5_takeBackStep_35 : decode cX5_takeBackStep 35 = .ok (.getfield 126, 3) := by decide +kernel
theorem dX5_takeBackStep_38 : decode cX5_takeBackStep 38 = .ok (.iload_n 2, 1) := by decide +kernel
theorem dX5_takeBackStep_39 : decode cX5_takeBackStep 39 = .ok (.iaload, 1) := by decide +kernel
theorem dX5_takeBackStep_40 : decode cX5_takeBackStep 40 = .ok (.iconst 1, 1) := by decide +kernel
theorem dX5_takeBackStep_41 : decode cX5_takeBackStep 41 = .ok (.if_icmp .ne 20, 3) := by decide +kernel
theorem dX5_takeBackStep_44 : decode cX5_takeBackStep 44 = .ok (.aload_n 0, 1) := by decide +kernel
theorem dX5_takeBackStep_45 : decode cX5_takeBackStep 45 = .ok (.getfield 19, 3) := by decide +kernel
theorem dX5_takeBackStep_48 : decode cX5_takeBackStep 48 = .ok (.aload_n 0, 1) := by decide +kernel
theorem dX5_takeBackStep_49 : decode cX5_takeBackStep 49 = .ok (.getfield 10, 3) := by decide +kernel
theorem dX5_takeBackStep_52 : decode cX5_takeBackStep 52 = .ok (.getfield 321, 3) := by decide +kernel
theorem dX5_takeBackStep_55 : decode cX5_takeBackStep 55 = .ok (.iload_n 2, 1) := by decide +kernel
theorem dX5_takeBackStep_56 : decode cX5_takeBackStep 56 = .ok (.iaload, 1) := by decide +kernel
theorem dX5_takeBackStep_57 : decode cX5_takeBackStep 57 = .ok (.iconst 1, 1) := by decide +kernel
theorem dX5_takeBackStep_58 : decode cX5_takeBackStep 58 = .ok (.invokevirtual 95, 3) := by decide +kernel
theorem dX5_takeBackStep_61 : decode cX5_takeBackStep 61 = .ok (.return_, 1) := by decide +kernel
theorem dX5_foreseenOfStep_0 : decode cX5_foreseenOfStep 0 = .ok (.iload_n 2, 1) := by decide +kernel
theorem dX5_foreseenOfStep_1 : decode cX5_foreseenOfStep 1 = .ok (.ifCond .lt 9, 3) := by decide +kernel
theorem dX5_foreseenOfStep_4 : decode cX5_foreseenOfStep 4 = .ok (.iload_n 2, 1) := by decide +kernel
theorem dX5_foreseenOfStep_5 : decode cX5_foreseenOfStep 5 = .ok (.bipush 12, 2) := by decide +kernel
theorem dX5_foreseenOfStep_7 : decode cX5_foreseenOfStep 7 = .ok (.if_icmp .lt 5, 3) := by decide +kernel
theorem dX5_foreseenOfStep_10 : decode cX5_foreseenOfStep 10 = .ok (.iconst (-1), 1) := by decide +kernel
theorem dX5_foreseenOfStep_11 : decode cX5_foreseenOfStep 11 = .ok (.ireturn, 1) := by decide +kernel
theorem dX5_foreseenOfStep_12 : decode cX5_foreseenOfStep 12 = .ok (.iload_n 3, 1) := by decide +kernel
theorem dX5_foreseenOfStep_13 : decode cX5_foreseenOfStep 13 = .ok (.tableswitch 79 0 4 #[35, 42, 52, 62, 69], 35) := by decide +kernel
theorem dX5_foreseenOfStep_48 : decode cX5_foreseenOfStep 48 = .ok (.aload_n 1, 1) := by decide +kernel
theorem dX5_foreseenOfStep_49 : decode cX5_foreseenOfStep 49 = .ok (.getfield 195, 3) := by decide +kernel
theorem dX5_foreseenOfStep_52 : decode cX5_foreseenOfStep 52 = .ok (.iload_n 2, 1) := by decide +kernel
theorem dX5_foreseenOfStep_53 : decode cX5_foreseenOfStep 53 = .ok (.iaload, 1) := by decide +kernel
theorem dX5_foreseenOfStep_54 : decode cX5_foreseenOfStep 54 = .ok (.ireturn, 1) := by decide +kernel
theorem dX5_foreseenOfStep_55 : decode cX5_foreseenOfStep 55 = .ok (.aload_n 0, 1) := by decide +kernel
theorem dX5_foreseenOfStep_56 : decode cX5_foreseenOfStep 56 = .ok (.getfield 35, 3) := by decide +kernel
theorem dX5_foreseenOfStep_59 : decode cX5_foreseenOfStep 59 = .ok (.getfield 362, 3) := by decide +kernel
theorem dX5_foreseenOfStep_62 : decode cX5_foreseenOfStep 62 = .ok (.iload_n 2, 1) := by decide +kernel
theorem dX5_foreseenOfStep_63 : decode cX5_foreseenOfStep 63 = .ok (.iaload, 1) := by decide +kernel
theorem dX5_foreseenOfStep_64 : decode cX5_foreseenOfStep 64 = .ok (.ireturn, 1) := by decide +kernel
theorem dX5_foreseenOfStep_65 : decode cX5_foreseenOfStep 65 = .ok (.aload_n 0, 1) := by decide +kernel
theorem dX5_foreseenOfStep_66 : decode cX5_foreseenOfStep 66 = .ok (.getfield 35, 3) := by decide +kernel
theorem dX5_foreseenOfStep_69 : decode cX5_foreseenOfStep 69 = .ok (.getfield 369, 3) := by decide +kernel
theorem dX5_foreseenOfStep_72 : decode cX5_foreseenOfStep 72 = .ok (.iload_n 2, 1) := by decide +kernel
theorem dX5_foreseenOfStep_73 : decode cX5_foreseenOfStep 73 = .ok (.iaload, 1) := by decide +kernel
theorem dX5_foreseenOfStep_74 : decode cX5_foreseenOfStep 74 = .ok (.ireturn, 1) := by decide +kernel
theorem dX5_foreseenOfStep_75 : decode cX5_foreseenOfStep 75 = .ok (.aload_n 1, 1) := by decide +kernel
theorem dX5_foreseenOfStep_76 : decode cX5_foreseenOfStep 76 = .ok (.getfield 198, 3) := by decide +kernel
theorem dX5_foreseenOfStep_79 : decode cX5_foreseenOfStep 79 = .ok (.iload_n 2, 1) := by decide +kernel
theorem dX5_foreseenOfStep_80 : decode cX5_foreseenOfStep 80 = .ok (.iaload, 1) := by decide +kernel
theorem dX5_foreseenOfStep_81 : decode cX5_foreseenOfStep 81 = .ok (.ireturn, 1) := by decide +kernel
theorem dX5_foreseenOfStep_82 : decode cX5_foreseenOfStep 82 = .ok (.aload_n 0, 1) := by decide +kernel
theorem dX5_foreseenOfStep_83 : decode cX5_foreseenOfStep 83 = .ok (.getfield 10, 3) := by decide +kernel
theorem dX5_foreseenOfStep_86 : decode cX5_foreseenOfStep 86 = .ok (.aload_n 1, 1) := by decide +kernel
theorem dX5_foreseenOfStep_87 : decode cX5_foreseenOfStep 87 = .ok (.iload_n 2, 1) := by decide +kernel
theorem dX5_foreseenOfStep_88 : decode cX5_foreseenOfStep 88 = .ok (.invokevirtual 330, 3) := by decide +kernel
theorem dX5_foreseenOfStep_91 : decode cX5_foreseenOfStep 91 = .ok (.ireturn, 1) := by decide +kernel
theorem dX5_foreseenOfStep_92 : decode cX5_foreseenOfStep 92 = .ok (.aload_n 1, 1) := by decide +kernel
theorem dX5_foreseenOfStep_93 : decode cX5_foreseenOfStep 93 = .ok (.getfield 348, 3) := by decide +kernel
theorem dX5_foreseenOfStep_96 : decode cX5_foreseenOfStep 96 = .ok (.iload_n 2, 1) := by decide +kernel
theorem dX5_foreseenOfStep_97 : decode cX5_foreseenOfStep 97 = .ok (.iaload, 1) := by decide +kernel
theorem dX5_foreseenOfStep_98 : decode cX5_foreseenOfStep 98 = .ok (.ireturn, 1) := by decide +kernel
theorem dX5_foreseenOfJoiner_0 : decode cX5_foreseenOfJoiner 0 = .ok (.iload_n 2, 1) := by decide +kernel
theorem dX5_foreseenOfJoiner_1 : decode cX5_foreseenOfJoiner 1 = .ok (.tableswitch 83 0 5 #[39, 44, 49, 55, 61, 70], 39) := by decide +kernel
theorem dX5_foreseenOfJoiner_40 : decode cX5_foreseenOfJoiner 40 = .ok (.aload_n 1, 1) := by decide +kernel
theorem dX5_foreseenOfJoiner_41 : decode cX5_foreseenOfJoiner 41 = .ok (.getfield 183, 3) := by decide +kernel
theorem dX5_foreseenOfJoiner_44 : decode cX5_foreseenOfJoiner 44 = .ok (.ireturn, 1) := by decide +kernel
theorem dX5_foreseenOfJoiner_45 : decode cX5_foreseenOfJoiner 45 = .ok (.aload_n 1, 1) := by decide +kernel
theorem dX5_foreseenOfJoiner_46 : decode cX5_foreseenOfJoiner 46 = .ok (.getfield 186, 3) := by decide +kernel
theorem dX5_foreseenOfJoiner_49 : decode cX5_foreseenOfJoiner 49 = .ok (.ireturn, 1) := by decide +kernel
theorem dX5_foreseenOfJoiner_50 : decode cX5_foreseenOfJoiner 50 = .ok (.aload_n 1, 1) := by decide +kernel
theorem dX5_foreseenOfJoiner_51 : decode cX5_foreseenOfJoiner 51 = .ok (.iconst 2, 1) := by decide +kernel
theorem dX5_foreseenOfJoiner_52 : decode cX5_foreseenOfJoiner 52 = .ok (.invokevirtual 205, 3) := by decide +kernel
theorem dX5_foreseenOfJoiner_55 : decode cX5_foreseenOfJoiner 55 = .ok (.ireturn, 1) := by decide +kernel
theorem dX5_foreseenOfJoiner_56 : decode cX5_foreseenOfJoiner 56 = .ok (.aload_n 1, 1) := by decide +kernel
theorem dX5_foreseenOfJoiner_57 : decode cX5_foreseenOfJoiner 57 = .ok (.iconst 1, 1) := by decide +kernel
theorem dX5_foreseenOfJoiner_58 : decode cX5_foreseenOfJoiner 58 = .ok (.invokevirtual 205, 3) := by decide +kernel
theorem dX5_foreseenOfJoiner_61 : decode cX5_foreseenOfJoiner 61 = .ok (.ireturn, 1) := by decide +kernel
theorem dX5_foreseenOfJoiner_62 : decode cX5_foreseenOfJoiner 62 = .ok (.aload_n 0, 1) := by decide +kernel
theorem dX5_foreseenOfJoiner_63 : decode cX5_foreseenOfJoiner 63 = .ok (.getfield 10, 3) := by decide +kernel
theorem dX5_foreseenOfJoiner_66 : decode cX5_foreseenOfJoiner 66 = .ok (.aload_n 1, 1) := by decide +kernel
theorem dX5_foreseenOfJoiner_67 : decode cX5_foreseenOfJoiner 67 = .ok (.invokevirtual 372, 3) := by decide +kernel
theorem dX5_foreseenOfJoiner_70 : decode cX5_foreseenOfJoiner 70 = .ok (.ireturn, 1) := by decide +kernel
theorem dX5_foreseenOfJoiner_71 : decode cX5_foreseenOfJoiner 71 = .ok (.aload_n 1, 1) := by decide +kernel
theorem dX5_foreseenOfJoiner_72 : decode cX5_foreseenOfJoiner 72 = .ok (.getfield 189, 3) := by decide +kernel
theorem dX5_foreseenOfJoiner_75 : decode cX5_foreseenOfJoiner 75 = .ok (.ifCond .eq 7, 3) := by decide +kernel
theorem dX5_foreseenOfJoiner_78 : decode cX5_foreseenOfJoiner 78 = .ok (.iconst 1, 1) := by decide +kernel
theorem dX5_foreseenOfJoiner_79 : decode cX5_foreseenOfJoiner 79 = .ok (.goto 4, 3) := by decide +kernel
theorem dX5_foreseenOfJoiner_82 : decode cX5_foreseenOfJoiner 82 = .ok (.iconst 0, 1) := by decide +kernel
theorem dX5_foreseenOfJoiner_83 : decode cX5_foreseenOfJoiner 83 = .ok (.ireturn, 1) := by decide +kernel
theorem dX5_foreseenOfJoiner_84 : decode cX5_foreseenOfJoiner 84 = .ok (.aload_n 0, 1) := by decide +kernel
theorem dX5_foreseenOfJoiner_85 : decode cX5_foreseenOfJoiner 85 = .ok (.getfield 35, 3) := by decide +kernel
theorem dX5_foreseenOfJoiner_88 : decode cX5_foreseenOfJoiner 88 = .ok (.aload_n 1, 1) := by decide +kernel
theorem dX5_foreseenOfJoiner_89 : decode cX5_foreseenOfJoiner 89 = .ok (.getfield 183, 3) := by decide +kernel
theorem dX5_foreseenOfJoiner_92 : decode cX5_foreseenOfJoiner 92 = .ok (.invokevirtual 268, 3) := by decide +kernel
theorem dX5_foreseenOfJoiner_95 : decode cX5_foreseenOfJoiner 95 = .ok (.ireturn, 1) := by decide +kernel
theorem dX5_nextStep_0 : decode cX5_nextStep 0 = .ok (.aload_n 1, 1) := by decide +kernel
theorem dX5_nextStep_1 : decode cX5_nextStep 1 = .ok (.getfield 189, 3) := by decide +kernel
theorem dX5_nextStep_4 : decode cX5_nextStep 4 = .ok (.ifCond .eq 5, 3) := by decide +kernel
theorem dX5_nextStep_7 : decode cX5_nextStep 7 = .ok (.iconst (-1), 1) := by decide +kernel
theorem dX5_nextStep_8 : decode cX5_nextStep 8 = .ok (.ireturn, 1) := by decide +kernel
theorem dX5_nextStep_9 : decode cX5_nextStep 9 = .ok (.iconst 0, 1) := by decide +kernel
theorem dX5_nextStep_10 : decode cX5_nextStep 10 = .ok (.istore_n 2, 1) := by decide +kernel
theorem dX5_nextStep_11 : decode cX5_nextStep 11 = .ok (.iload_n 2, 1) := by decide +kernel
theorem dX5_nextStep_12 : decode cX5_nextStep 12 = .ok (.bipush 12, 2) := by decide +kernel
theorem dX5_nextStep_14 : decode cX5_nextStep 14 = .ok (.if_icmp .ge 51, 3) := by decide +kernel
theorem dX5_nextStep_17 : decode cX5_nextStep 17 = .ok (.aload_n 1, 1) := by decide +kernel
theorem dX5_nextStep_18 : decode cX5_nextStep 18 = .ok (.iload_n 2, 1) := by decide +kernel
theorem dX5_nextStep_19 : decode cX5_nextStep 19 = .ok (.iconst 0, 1) := by decide +kernel
theorem dX5_nextStep_20 : decode cX5_nextStep 20 = .ok (.invokevirtual 336, 3) := by decide +kernel
theorem dX5_nextStep_23 : decode cX5_nextStep 23 = .ok (.ifCond .ne 12, 3) := by decide +kernel
theorem dX5_nextStep_26 : decode cX5_nextStep 26 = .ok (.aload_n 1, 1) := by decide +kernel
theorem dX5_nextStep_27 : decode cX5_nextStep 27 = .ok (.iload_n 2, 1) := by decide +kernel
theorem dX5_nextStep_28 : decode cX5_nextStep 28 = .ok (.iconst 1, 1) := by decide +kernel
theorem dX5_nextStep_29 : decode cX5_nextStep 29 = .ok (.invokevirtual 336, 3) := by decide +kernel
theorem dX5_nextStep_32 : decode cX5_nextStep 32 = .ok (.ifCond .eq 7, 3) := by decide +kernel
theorem dX5_nextStep_35 : decode cX5_nextStep 35 = .ok (.iconst 1, 1) := by decide +kernel
theorem dX5_nextStep_36 : decode cX5_nextStep 36 = .ok (.goto 4, 3) := by decide +kernel
theorem dX5_nextStep_39 : decode cX5_nextStep 39 = .ok (.iconst 0, 1) := by decide +kernel
theorem dX5_nextStep_40 : decode cX5_nextStep 40 = .ok (.istore_n 3, 1) := by decide +kernel
theorem dX5_nextStep_41 : decode cX5_nextStep 41 = .ok (.iload_n 3, 1) := by decide +kernel
theorem dX5_nextStep_42 : decode cX5_nextStep 42 = .ok (.ifCond .eq 17, 3) := by decide +kernel
theorem dX5_nextStep_45 : decode cX5_nextStep 45 = .ok (.aload_n 0, 1) := by decide +kernel
theorem dX5_nextStep_46 : decode cX5_nextStep 46 = .ok (.getfield 10, 3) := by decide +kernel
theorem dX5_nextStep_49 : decode cX5_nextStep 49 = .ok (.aload_n 1, 1) := by decide +kernel
theorem dX5_nextStep_50 : decode cX5_nextStep 50 = .ok (.iload_n 2, 1) := by decide +kernel
theorem dX5_nextStep_51 : decode cX5_nextStep 51 = .ok (.invokevirtual 339, 3) := by decide +kernel
theorem dX5_nextStep_54 : decode cX5_nextStep 54 = .ok (.ifCond .eq 5, 3) := by decide +kernel
theorem dX5_nextStep_57 : decode cX5_nextStep 57 = .ok (.iload_n 2, 1) := by decide +kernel
theorem dX5_nextStep_58 : decode cX5_nextStep 58 = .ok (.ireturn, 1) := by decide +kernel
theorem dX5_nextStep_59 : decode cX5_nextStep 59 = .ok (.iinc 2 1, 3) := by decide +kernel
theorem dX5_nextStep_62 : decode cX5_nextStep 62 = .ok (.goto (-51), 3) := by decide +kernel
theorem dX5_nextStep_65 : decode cX5_nextStep 65 = .ok (.iconst (-1), 1) := by decide +kernel
theorem dX5_nextStep_66 : decode cX5_nextStep 66 = .ok (.ireturn, 1) := by decide +kernel
theorem dX5_countWaitingOn_0 : decode cX5_countWaitingOn 0 = .ok (.iconst 1, 1) := by decide +kernel
theorem dX5_countWaitingOn_1 : decode cX5_countWaitingOn 1 = .ok (.iload_n 2, 1) := by decide +kernel
theorem dX5_countWaitingOn_2 : decode cX5_countWaitingOn 2 = .ok (.ishl, 1) := by decide +kernel
theorem dX5_countWaitingOn_3 : decode cX5_countWaitingOn 3 = .ok (.istore_n 3, 1) := by decide +kernel
theorem dX5_countWaitingOn_4 : decode cX5_countWaitingOn 4 = .ok (.iload_n 3, 1) := by decide +kernel
theorem dX5_countWaitingOn_5 : decode cX5_countWaitingOn 5 = .ok (.istore 4, 2) := by decide +kernel
theorem dX5_countWaitingOn_7 : decode cX5_countWaitingOn 7 = .ok (.iconst 0, 1) := by decide +kernel
theorem dX5_countWaitingOn_8 : decode cX5_countWaitingOn 8 = .ok (.istore 5, 2) := by decide +kernel
theorem dX5_countWaitingOn_10 : decode cX5_countWaitingOn 10 = .ok (.iload 5, 2) := by decide +kernel
theorem dX5_countWaitingOn_12 : decode cX5_countWaitingOn 12 = .ok (.bipush 12, 2) := by decide +kernel
theorem dX5_countWaitingOn_14 : decode cX5_countWaitingOn 14 = .ok (.if_icmp .ge 46, 3) := by decide +kernel
theorem dX5_countWaitingOn_17 : decode cX5_countWaitingOn 17 = .ok (.aload_n 1, 1) := by decide +kernel
theorem dX5_countWaitingOn_18 : decode cX5_countWaitingOn 18 = .ok (.getfield 183, 3) := by decide +kernel
theorem dX5_countWaitingOn_21 : decode cX5_countWaitingOn 21 = .ok (.iload 5, 2) := by decide +kernel
theorem dX5_countWaitingOn_23 : decode cX5_countWaitingOn 23 = .ok (.invokestatic 226, 3) := by decide +kernel
theorem dX5_countWaitingOn_26 : decode cX5_countWaitingOn 26 = .ok (.ifCond .eq 28, 3) := by decide +kernel
theorem dX5_countWaitingOn_29 : decode cX5_countWaitingOn 29 = .ok (.aload_n 0, 1) := by decide +kernel
theorem dX5_countWaitingOn_30 : decode cX5_countWaitingOn 30 = .ok (.getfield 10, 3) := by decide +kernel
theorem dX5_countWaitingOn_33 : decode cX5_countWaitingOn 33 = .ok (.getfield 375, 3) := by decide +kernel
theorem dX5_countWaitingOn_36 : decode cX5_countWaitingOn 36 = .ok (.iload 5, 2) := by decide +kernel
theorem dX5_countWaitingOn_38 : decode cX5_countWaitingOn 38 = .ok (.iaload, 1) := by decide +kernel
theorem dX5_countWaitingOn_39 : decode cX5_countWaitingOn 39 = .ok (.iload 4, 2) := by decide +kernel
theorem dX5_countWaitingOn_41 : decode cX5_countWaitingOn 41 = .ok (.iand, 1) := by decide +kernel
theorem dX5_countWaitingOn_42 : decode cX5_countWaitingOn 42 = .ok (.ifCond .eq 12, 3) := by decide +kernel
theorem dX5_countWaitingOn_45 : decode cX5_countWaitingOn 45 = .ok (.iload 4, 2) := by decide +kernel
theorem dX5_countWaitingOn_47 : decode cX5_countWaitingOn 47 = .ok (.iconst 1, 1) := by decide +kernel
theorem dX5_countWaitingOn_48 : decode cX5_countWaitingOn 48 = .ok (.iload 5, 2) := by decide +kernel
theorem dX5_countWaitingOn_50 : decode cX5_countWaitingOn 50 = .ok (.ishl, 1) := by decide +kernel
theorem dX5_countWaitingOn_51 : decode cX5_countWaitingOn 51 = .ok (.ior, 1) := by decide +kernel
theorem dX5_countWaitingOn_52 : decode cX5_countWaitingOn 52 = .ok (.istore 4, 2) := by decide +kernel
theorem dX5_countWaitingOn_54 : decode cX5_countWaitingOn 54 = .ok (.iinc 5 1, 3) := by decide +kernel
theorem dX5_countWaitingOn_57 : decode cX5_countWaitingOn 57 = .ok (.goto (-47), 3) := by decide +kernel
theorem dX5_countWaitingOn_60 : decode cX5_countWaitingOn 60 = .ok (.iload 4, 2) := by decide +kernel
theorem dX5_countWaitingOn_62 : decode cX5_countWaitingOn 62 = .ok (.iload_n 3, 1) := by decide +kernel
theorem dX5_countWaitingOn_63 : decode cX5_countWaitingOn 63 = .ok (.iconst (-1), 1) := by decide +kernel
theorem dX5_countWaitingOn_64 : decode cX5_countWaitingOn 64 = .ok (.ixor, 1) := by decide +kernel
theorem dX5_countWaitingOn_65 : decode cX5_countWaitingOn 65 = .ok (.iand, 1) := by decide +kernel
theorem dX5_countWaitingOn_66 : decode cX5_countWaitingOn 66 = .ok (.aload_n 1, 1) := by decide +kernel
theorem dX5_countWaitingOn_67 : decode cX5_countWaitingOn 67 = .ok (.iconst 2, 1) := by decide +kernel
theorem dX5_countWaitingOn_68 : decode cX5_countWaitingOn 68 = .ok (.invokevirtual 378, 3) := by decide +kernel
theorem dX5_countWaitingOn_71 : decode cX5_countWaitingOn 71 = .ok (.iconst (-1), 1) := by decide +kernel
theorem dX5_countWaitingOn_72 : decode cX5_countWaitingOn 72 = .ok (.ixor, 1) := by decide +kernel
theorem dX5_countWaitingOn_73 : decode cX5_countWaitingOn 73 = .ok (.iand, 1) := by decide +kernel
theorem dX5_countWaitingOn_74 : decode cX5_countWaitingOn 74 = .ok (.invokestatic 381, 3) := by decide +kernel
theorem dX5_countWaitingOn_77 : decode cX5_countWaitingOn 77 = .ok (.ireturn, 1) := by decide +kernel
theorem dX5_countWaitingFor_0 : decode cX5_countWaitingFor 0 = .ok (.iconst 0, 1) := by decide +kernel
theorem dX5_countWaitingFor_1 : decode cX5_countWaitingFor 1 = .ok (.istore_n 2, 1) := by decide +kernel
theorem dX5_countWaitingFor_2 : decode cX5_countWaitingFor 2 = .ok (.iconst 0, 1) := by decide +kernel
theorem dX5_countWaitingFor_3 : decode cX5_countWaitingFor 3 = .ok (.istore_n 3, 1) := by decide +kernel
theorem dX5_countWaitingFor_4 : decode cX5_countWaitingFor 4 = .ok (.iload_n 3, 1) := by decide +kernel
theorem dX5_countWaitingFor_5 : decode cX5_countWaitingFor 5 = .ok (.aload_n 0, 1) := by decide +kernel
theorem dX5_countWaitingFor_6 : decode cX5_countWaitingFor 6 = .ok (.getfield 174, 3) := by decide +kernel
theorem dX5_countWaitingFor_9 : decode cX5_countWaitingFor 9 = .ok (.if_icmp .ge 74, 3) := by decide +kernel
theorem dX5_countWaitingFor_12 : decode cX5_countWaitingFor 12 = .ok (.aload_n 0, 1) := by decide +kernel
theorem dX5_countWaitingFor_13 : decode cX5_countWaitingFor 13 = .ok (.iload_n 3, 1) := by decide +kernel
theorem dX5_countWaitingFor_14 : decode cX5_countWaitingFor 14 = .ok (.invokevirtual 179, 3) := by decide +kernel
theorem dX5_countWaitingFor_17 : decode cX5_countWaitingFor 17 = .ok (.astore 4, 2) := by decide +kernel
theorem dX5_countWaitingFor_19 : decode cX5_countWaitingFor 19 = .ok (.iconst 0, 1) := by decide +kernel
theorem dX5_countWaitingFor_20 : decode cX5_countWaitingFor 20 = .ok (.istore 5, 2) := by decide +kernel
theorem dX5_countWaitingFor_22 : decode cX5_countWaitingFor 22 = .ok (.iload 5, 2) := by decide +kernel
theorem dX5_countWaitingFor_24 : decode cX5_countWaitingFor 24 = .ok (.bipush 12, 2) := by decide +kernel
theorem dX5_countWaitingFor_26 : decode cX5_countWaitingFor 26 = .ok (.if_icmp .ge 51, 3) := by decide +kernel
theorem dX5_countWaitingFor_29 : decode cX5_countWaitingFor 29 = .ok (.aload_n 0, 1) := by decide +kernel
theorem dX5_countWaitingFor_30 : decode cX5_countWaitingFor 30 = .ok (.getfield 10, 3) := by decide +kernel
theorem dX5_countWaitingFor_33 : decode cX5_countWaitingFor 33 = .ok (.getfield 126, 3) := by decide +kernel
theorem dX5_countWaitingFor_36 : decode cX5_countWaitingFor 36 = .ok (.iload 5, 2) := by decide +kernel
theorem dX5_countWaitingFor_38 : decode cX5_countWaitingFor 38 = .ok (.iaload, 1) := by decide +kernel
theorem dX5_countWaitingFor_39 : decode cX5_countWaitingFor 39 = .ok (.iconst 1, 1) := by decide +kernel
theorem dX5_countWaitingFor_40 : decode cX5_countWaitingFor 40 = .ok (.if_icmp .ne 31, 3) := by decide +kernel
theorem dX5_countWaitingFor_43 : decode cX5_countWaitingFor 43 = .ok (.aload_n 0, 1) := by decide +kernel
theorem dX5_countWaitingFor_44 : decode cX5_countWaitingFor 44 = .ok (.getfield 10, 3) := by decide +kernel
theorem dX5_countWaitingFor_47 : decode cX5_countWaitingFor 47 = .ok (.getfield 321, 3) := by decide +kernel
theorem dX5_countWaitingFor_50 : decode cX5_countWaitingFor 50 = .ok (.iload 5, 2) := by decide +kernel
theorem dX5_countWaitingFor_52 : decode cX5_countWaitingFor 52 = .ok (.iaload, 1) := by decide +kernel
theorem dX5_countWaitingFor_53 : decode cX5_countWaitingFor 53 = .ok (.iload_n 1, 1) := by decide +kernel
theorem dX5_countWaitingFor_54 : decode cX5_countWaitingFor 54 = .ok (.if_icmp .ne 17, 3) := by decide +kernel
theorem dX5_countWaitingFor_57 : decode cX5_countWaitingFor 57 = .ok (.aload_n 0, 1) := by decide +kernel
theorem dX5_countWaitingFor_58 : decode cX5_countWaitingFor 58 = .ok (.aload 4, 2) := by decide +kernel
theorem dX5_countWaitingFor_60 : decode cX5_countWaitingFor 60 = .ok (.iload 5, 2) := by decide +kernel
theorem dX5_countWaitingFor_62 : decode cX5_countWaitingFor 62 = .ok (.invokevirtual 314, 3) := by decide +kernel
theorem dX5_countWaitingFor_65 : decode cX5_countWaitingFor 65 = .ok (.ifCond .eq 6, 3) := by decide +kernel
theorem dX5_countWaitingFor_68 : decode cX5_countWaitingFor 68 = .ok (.iinc 2 1, 3) := by decide +kernel
theorem dX5_countWaitingFor_71 : decode cX5_countWaitingFor 71 = .ok (.iinc 5 1, 3) := by decide +kernel
theorem dX5_countWaitingFor_74 : decode cX5_countWaitingFor 74 = .ok (.goto (-52), 3) := by decide +kernel
theorem dX5_countWaitingFor_77 : decode cX5_countWaitingFor 77 = .ok (.iinc 3 1, 3) := by decide +kernel
theorem dX5_countWaitingFor_80 : decode cX5_countWaitingFor 80 = .ok (.goto (-76), 3) := by decide +kernel
theorem dX5_countWaitingFor_83 : decode cX5_countWaitingFor 83 = .ok (.iload_n 2, 1) := by decide +kernel
theorem dX5_countWaitingFor_84 : decode cX5_countWaitingFor 84 = .ok (.ireturn, 1) := by decide +kernel
theorem dX5_countLeft_0 : decode cX5_countLeft 0 = .ok (.iconst 0, 1) := by decide +kernel
theorem dX5_countLeft_1 : decode cX5_countLeft 1 = .ok (.istore_n 1, 1) := by decide +kernel
theorem dX5_countLeft_2 : decode cX5_countLeft 2 = .ok (.iconst 0, 1) := by decide +kernel
theorem dX5_countLeft_3 : decode cX5_countLeft 3 = .ok (.istore_n 2, 1) := by decide +kernel
theorem dX5_countLeft_4 : decode cX5_countLeft 4 = .ok (.iload_n 2, 1) := by decide +kernel
theorem dX5_countLeft_5 : decode cX5_countLeft 5 = .ok (.aload_n 0, 1) := by decide +kernel
theorem dX5_countLeft_6 : decode cX5_countLeft 6 = .ok (.getfield 174, 3) := by decide +kernel
theorem dX5_countLeft_9 : decode cX5_countLeft 9 = .ok (.if_icmp .ge 23, 3) := by decide +kernel
theorem dX5_countLeft_12 : decode cX5_countLeft 12 = .ok (.aload_n 0, 1) := by decide +kernel
theorem dX5_countLeft_13 : decode cX5_countLeft 13 = .ok (.iload_n 2, 1) := by decide +kernel
theorem dX5_countLeft_14 : decode cX5_countLeft 14 = .ok (.invokevirtual 179, 3) := by decide +kernel
theorem dX5_countLeft_17 : decode cX5_countLeft 17 = .ok (.getfield 189, 3) := by decide +kernel
theorem dX5_countLeft_20 : decode cX5_countLeft 20 = .ok (.ifCond .eq 6, 3) := by decide +kernel
theorem dX5_countLeft_23 : decode cX5_countLeft 23 = .ok (.iinc 1 1, 3) := by decide +kernel
theorem dX5_countLeft_26 : decode cX5_countLeft 26 = .ok (.iinc 2 1, 3) := by decide +kernel
theorem dX5_countLeft_29 : decode cX5_countLeft 29 = .ok (.goto (-25), 3) := by decide +kernel
theorem dX5_countLeft_32 : decode cX5_countLeft 32 = .ok (.iload_n 1, 1) := by decide +kernel
theorem dX5_countLeft_33 : decode cX5_countLeft 33 = .ok (.ireturn, 1) := by decide +kernel
theorem dX5_countStepsIn_0 : decode cX5_countStepsIn 0 = .ok (.iconst 0, 1) := by decide +kernel
theorem dX5_countStepsIn_1 : decode cX5_countStepsIn 1 = .ok (.istore_n 2, 1) := by decide +kernel
theorem dX5_countStepsIn_2 : decode cX5_countStepsIn 2 = .ok (.iconst 0, 1) := by decide +kernel
theorem dX5_countStepsIn_3 : decode cX5_countStepsIn 3 = .ok (.istore_n 3, 1) := by decide +kernel
theorem dX5_countStepsIn_4 : decode cX5_countStepsIn 4 = .ok (.iload_n 3, 1) := by decide +kernel
theorem dX5_countStepsIn_5 : decode cX5_countStepsIn 5 = .ok (.aload_n 0, 1) := by decide +kernel
theorem dX5_countStepsIn_6 : decode cX5_countStepsIn 6 = .ok (.getfield 174, 3) := by decide +kernel
theorem dX5_countStepsIn_9 : decode cX5_countStepsIn 9 = .ok (.if_icmp .ge 21, 3) := by decide +kernel
theorem dX5_countStepsIn_12 : decode cX5_countStepsIn 12 = .ok (.iload_n 2, 1) := by decide +kernel
theorem dX5_countStepsIn_13 : decode cX5_countStepsIn 13 = .ok (.aload_n 0, 1) := by decide +kernel
theorem dX5_countStepsIn_14 : decode cX5_countStepsIn 14 = .ok (.iload_n 3, 1) := by decide +kernel
theorem dX5_countStepsIn_15 : decode cX5_countStepsIn 15 = .ok (.invokevirtual 179, 3) := by decide +kernel
theorem dX5_countStepsIn_18 : decode cX5_countStepsIn 18 = .ok (.iload_n 1, 1) := by decide +kernel
theorem dX5_countStepsIn_19 : decode cX5_countStepsIn 19 = .ok (.invokevirtual 205, 3) := by decide +kernel
theorem dX5_countStepsIn_22 : decode cX5_countStepsIn 22 = .ok (.iadd, 1) := by decide +kernel
theorem dX5_countStepsIn_23 : decode cX5_countStepsIn 23 = .ok (.istore_n 2, 1) := by decide +kernel
theorem dX5_countStepsIn_24 : decode cX5_countStepsIn 24 = .ok (.iinc 3 1, 3) := by decide +kernel
theorem dX5_countStepsIn_27 : decode cX5_countStepsIn 27 = .ok (.goto (-23), 3) := by decide +kernel
theorem dX5_countStepsIn_30 : decode cX5_countStepsIn 30 = .ok (.iload_n 2, 1) := by decide +kernel
theorem dX5_countStepsIn_31 : decode cX5_countStepsIn 31 = .ok (.ireturn, 1) := by decide +kernel
theorem dX5_countRights_0 : decode cX5_countRights 0 = .ok (.iconst 0, 1) := by decide +kernel
theorem dX5_countRights_1 : decode cX5_countRights 1 = .ok (.istore_n 1, 1) := by decide +kernel
theorem dX5_countRights_2 : decode cX5_countRights 2 = .ok (.iconst 0, 1) := by decide +kernel
theorem dX5_countRights_3 : decode cX5_countRights 3 = .ok (.istore_n 2, 1) := by decide +kernel
theorem dX5_countRights_4 : decode cX5_countRights 4 = .ok (.iload_n 2, 1) := by decide +kernel
theorem dX5_countRights_5 : decode cX5_countRights 5 = .ok (.aload_n 0, 1) := by decide +kernel
theorem dX5_countRights_6 : decode cX5_countRights 6 = .ok (.getfield 174, 3) := by decide +kernel
theorem dX5_countRights_9 : decode cX5_countRights 9 = .ok (.if_icmp .ge 27, 3) := by decide +kernel
theorem dX5_countRights_12 : decode cX5_countRights 12 = .ok (.iload_n 1, 1) := by decide +kernel
theorem dX5_countRights_13 : decode cX5_countRights 13 = .ok (.aload_n 0, 1) := by decide +kernel
theorem dX5_countRights_14 : decode cX5_countRights 14 = .ok (.getfield 10, 3) := by decide +kernel
theorem dX5_countRights_17 : decode cX5_countRights 17 = .ok (.aload_n 0, 1) := by decide +kernel
theorem dX5_countRights_18 : decode cX5_countRights 18 = .ok (.iload_n 2, 1) := by decide +kernel
theorem dX5_countRights_19 : decode cX5_countRights 19 = .ok (.invokevirtual 179, 3) := by decide +kernel
theorem dX5_countRights_22 : decode cX5_countRights 22 = .ok (.invokevirtual 372, 3) := by decide +kernel
theorem dX5_countRights_25 : decode cX5_countRights 25 = .ok (.invokestatic 381, 3) := by decide +kernel
theorem dX5_countRights_28 : decode cX5_countRights 28 = .ok (.iadd, 1) := by decide +kernel
theorem dX5_countRights_29 : decode cX5_countRights 29 = .ok (.istore_n 1, 1) := by decide +kernel
theorem dX5_countRights_30 : decode cX5_countRights 30 = .ok (.iinc 2 1, 3) := by decide +kernel
theorem dX5_countRights_33 : decode cX5_countRights 33 = .ok (.goto (-29), 3) := by decide +kernel
theorem dX5_countRights_36 : decode cX5_countRights 36 = .ok (.iload_n 1, 1) := by decide +kernel
theorem dX5_countRights_37 : decode cX5_countRights 37 = .ok (.ireturn, 1) := by decide +kernel
theorem dX5_digestWith_0 : decode cX5_digestWith 0 = .ok (.lload_n 1, 1) := by decide +kernel
theorem dX5_digestWith_1 : decode cX5_digestWith 1 = .ok (.lstore 4, 2) := by decide +kernel
theorem dX5_digestWith_3 : decode cX5_digestWith 3 = .ok (.aload_n 0, 1) := by decide +kernel
theorem dX5_digestWith_4 : decode cX5_digestWith 4 = .ok (.getfield 35, 3) := by decide +kernel
theorem dX5_digestWith_7 : decode cX5_digestWith 7 = .ok (.aload_n 3, 1) := by decide +kernel
theorem dX5_digestWith_8 : decode cX5_digestWith 8 = .ok (.aload_n 0, 1) := by decide +kernel
theorem dX5_digestWith_9 : decode cX5_digestWith 9 = .ok (.getfield 160, 3) := by decide +kernel
theorem dX5_digestWith_12 : decode cX5_digestWith 12 = .ok (.iconst (-1), 1) := by decide +kernel
theorem dX5_digestWith_13 : decode cX5_digestWith 13 = .ok (.iconst 0, 1) := by decide +kernel
theorem dX5_digestWith_14 : decode cX5_digestWith 14 = .ok (.invokevirtual 233, 3) := by decide +kernel
theorem dX5_digestWith_17 : decode cX5_digestWith 17 = .ok (.iconst 0, 1) := by decide +kernel
theorem dX5_digestWith_18 : decode cX5_digestWith 18 = .ok (.istore 6, 2) := by decide +kernel
theorem dX5_digestWith_20 : decode cX5_digestWith 20 = .ok (.iload 6, 2) := by decide +kernel
theorem dX5_digestWith_22 : decode cX5_digestWith 22 = .ok (.bipush 6, 2) := by decide +kernel
theorem dX5_digestWith_24 : decode cX5_digestWith 24 = .ok (.if_icmp .gt 26, 3) := by decide +kernel
theorem dX5_digestWith_27 : decode cX5_digestWith 27 = .ok (.lload 4, 2) := by decide +kernel
theorem dX5_digestWith_29 : decode cX5_digestWith 29 = .ok (.ldc2_w 288, 3) := by decide +kernel
theorem dX5_digestWith_32 : decode cX5_digestWith 32 = .ok (.lmul, 1) := by decide +kernel
theorem dX5_digestWith_33 : decode cX5_digestWith 33 = .ok (.aload_n 0, 1) := by decide +kernel
theorem dX5_digestWith_34 : decode cX5_digestWith 34 = .ok (.aload_n 3, 1) := by decide +kernel
theorem dX5_digestWith_35 : decode cX5_digestWith 35 = .ok (.iload 6, 2) := by decide +kernel
theorem dX5_digestWith_37 : decode cX5_digestWith 37 = .ok (.invokevirtual 243, 3) := by decide +kernel
theorem dX5_digestWith_40 : decode cX5_digestWith 40 = .ok (.i2l, 1) := by decide +kernel
theorem dX5_digestWith_41 : decode cX5_digestWith 41 = .ok (.ladd, 1) := by decide +kernel
theorem dX5_digestWith_42 : decode cX5_digestWith 42 = .ok (.lstore 4, 2) := by decide +kernel
theorem dX5_digestWith_44 : decode cX5_digestWith 44 = .ok (.iinc 6 1, 3) := by decide +kernel
theorem dX5_digestWith_47 : decode cX5_digestWith 47 = .ok (.goto (-27), 3) := by decide +kernel
theorem dX5_digestWith_50 : decode cX5_digestWith 50 = .ok (.lload 4, 2) := by decide +kernel
theorem dX5_digestWith_52 : decode cX5_digestWith 52 = .ok (.ldc2_w 288, 3) := by decide +kernel
theorem dX5_digestWith_55 : decode cX5_digestWith 55 = .ok (.lmul, 1) := by decide +kernel
theorem dX5_digestWith_56 : decode cX5_digestWith 56 = .ok (.aload_n 0, 1) := by decide +kernel
theorem dX5_digestWith_57 : decode cX5_digestWith 57 = .ok (.aload_n 3, 1) := by decide +kernel
theorem dX5_digestWith_58 : decode cX5_digestWith 58 = .ok (.invokevirtual 279, 3) := by decide +kernel
theorem dX5_digestWith_61 : decode cX5_digestWith 61 = .ok (.i2l, 1) := by decide +kernel
theorem dX5_digestWith_62 : decode cX5_digestWith 62 = .ok (.ladd, 1) := by decide +kernel
theorem dX5_digestWith_63 : decode cX5_digestWith 63 = .ok (.lstore 4, 2) := by decide +kernel
theorem dX5_digestWith_65 : decode cX5_digestWith 65 = .ok (.iconst 0, 1) := by decide +kernel
theorem dX5_digestWith_66 : decode cX5_digestWith 66 = .ok (.istore 6, 2) := by decide +kernel
theorem dX5_digestWith_68 : decode cX5_digestWith 68 = .ok (.iload 6, 2) := by decide +kernel
theorem dX5_digestWith_70 : decode cX5_digestWith 70 = .ok (.aload_n 0, 1) := by decide +kernel
theorem dX5_digestWith_71 : decode cX5_digestWith 71 = .ok (.getfield 10, 3) := by decide +kernel
theorem dX5_digestWith_74 : decode cX5_digestWith 74 = .ok (.getfield 249, 3) := by decide +kernel
theorem dX5_digestWith_77 : decode cX5_digestWith 77 = .ok (.if_icmp .ge 36, 3) := by decide +kernel
theorem dX5_digestWith_80 : decode cX5_digestWith 80 = .ok (.lload 4, 2) := by decide +kernel
theorem dX5_digestWith_82 : decode cX5_digestWith 82 = .ok (.ldc2_w 288, 3) := by decide +kernel
theorem dX5_digestWith_85 : decode cX5_digestWith 85 = .ok (.lmul, 1) := by decide +kernel
theorem dX5_digestWith_86 : decode cX5_digestWith 86 = .ok (.aload_n 0, 1) := by decide +kernel
theorem dX5_digestWith_87 : decode cX5_digestWith 87 = .ok (.getfield 35, 3) := by decide +kernel
theorem dX5_digestWith_90 : decode cX5_digestWith 90 = .ok (.aload_n 0, 1) := by decide +kernel
theorem dX5_digestWith_91 : decode cX5_digestWith 91 = .ok (.getfield 10, 3) := by decide +kernel
theorem dX5_digestWith_94 : decode cX5_digestWith 94 = .ok (.getfield 273, 3) := by decide +kernel
theorem dX5_digestWith_97 : decode cX5_digestWith 97 = .ok (.iload 6, 2) := by decide +kernel
theorem dX5_digestWith_99 : decode cX5_digestWith 99 = .ok (.iaload, 1) := by decide +kernel
theorem dX5_digestWith_100 : decode cX5_digestWith 100 = .ok (.invokevirtual 276, 3) := by decide +kernel
theorem dX5_digestWith_103 : decode cX5_digestWith 103 = .ok (.i2l, 1) := by decide +kernel
theorem dX5_digestWith_104 : decode cX5_digestWith 104 = .ok (.ladd, 1) := by decide +kernel
theorem dX5_digestWith_105 : decode cX5_digestWith 105 = .ok (.lstore 4, 2) := by decide +kernel
theorem dX5_digestWith_107 : decode cX5_digestWith 107 = .ok (.iinc 6 1, 3) := by decide +kernel
theorem dX5_digestWith_110 : decode cX5_digestWith 110 = .ok (.goto (-42), 3) := by decide +kernel
theorem dX5_digestWith_113 : decode cX5_digestWith 113 = .ok (.iconst 0, 1) := by decide +kernel
theorem dX5_digestWith_114 : decode cX5_digestWith 114 = .ok (.istore 6, 2) := by decide +kernel
theorem dX5_digestWith_116 : decode cX5_digestWith 116 = .ok (.iload 6, 2) := by decide +kernel
theorem dX5_digestWith_118 : decode cX5_digestWith 118 = .ok (.bipush 12, 2) := by decide +kernel
theorem dX5_digestWith_120 : decode cX5_digestWith 120 = .ok (.if_icmp .ge 72, 3) := by decide +kernel
theorem dX5_digestWith_123 : decode cX5_digestWith 123 = .ok (.aload_n 3, 1) := by decide +kernel
theorem dX5_digestWith_124 : decode cX5_digestWith 124 = .ok (.getfield 183, 3) := by decide +kernel
theorem dX5_digestWith_127 : decode cX5_digestWith 127 = .ok (.iload 6, 2) := by decide +kernel
theorem dX5_digestWith_129 : decode cX5_digestWith 129 = .ok (.invokestatic 226, 3) := by decide +kernel
theorem dX5_digestWith_132 : decode cX5_digestWith 132 = .ok (.ifCond .eq 54, 3) := by decide +kernel
theorem dX5_digestWith_135 : decode cX5_digestWith 135 = .ok (.iconst 0, 1) := by decide +kernel
theorem dX5_digestWith_136 : decode cX5_digestWith 136 = .ok (.istore 7, 2) := by decide +kernel
theorem dX5_digestWith_138 : decode cX5_digestWith 138 = .ok (.iload 7, 2) := by decide +kernel
theorem dX5_digestWith_140 : decode cX5_digestWith 140 = .ok (.iconst 5, 1) := by decide +kernel
theorem dX5_digestWith_141 : decode cX5_digestWith 141 = .ok (.if_icmp .gt 28, 3) := by decide +kernel
theorem dX5_digestWith_144 : decode cX5_digestWith 144 = .ok (.lload 4, 2) := by decide +kernel
theorem dX5_digestWith_146 : decode cX5_digestWith 146 = .ok (.ldc2_w 288, 3) := by decide +kernel
theorem dX5_digestWith_149 : decode cX5_digestWith 149 = .ok (.lmul, 1) := by decide +kernel
theorem dX5_digestWith_150 : decode cX5_digestWith 150 = .ok (.aload_n 0, 1) := by decide +kernel
theorem dX5_digestWith_151 : decode cX5_digestWith 151 = .ok (.aload_n 3, 1) := by decide +kernel
theorem dX5_digestWith_152 : decode cX5_digestWith 152 = .ok (.iload 6, 2) := by decide +kernel
theorem dX5_digestWith_154 : decode cX5_digestWith 154 = .ok (.iload 7, 2) := by decide +kernel
theorem dX5_digestWith_156 : decode cX5_digestWith 156 = .ok (.invokevirtual 237, 3) := by decide +kernel
theorem dX5_digestWith_159 : decode cX5_digestWith 159 = .ok (.i2l, 1) := by decide +kernel
theorem dX5_digestWith_160 : decode cX5_digestWith 160 = .ok (.ladd, 1) := by decide +kernel
theorem dX5_digestWith_161 : decode cX5_digestWith 161 = .ok (.lstore 4, 2) := by decide +kernel
theorem dX5_digestWith_163 : decode cX5_digestWith 163 = .ok (.iinc 7 1, 3) := by decide +kernel
theorem dX5_digestWith_166 : decode cX5_digestWith 166 = .ok (.goto (-28), 3) := by decide +kernel
theorem dX5_digestWith_169 : decode cX5_digestWith 169 = .ok (.lload 4, 2) := by decide +kernel
theorem dX5_digestWith_171 : decode cX5_digestWith 171 = .ok (.ldc2_w 288, 3) := by decide +kernel
theorem dX5_digestWith_174 : decode cX5_digestWith 174 = .ok (.lmul, 1) := by decide +kernel
theorem dX5_digestWith_175 : decode cX5_digestWith 175 = .ok (.aload_n 0, 1) := by decide +kernel
theorem dX5_digestWith_176 : decode cX5_digestWith 176 = .ok (.aload_n 3, 1) := by decide +kernel
theorem dX5_digestWith_177 : decode cX5_digestWith 177 = .ok (.iload 6, 2) := by decide +kernel
theorem dX5_digestWith_179 : decode cX5_digestWith 179 = .ok (.invokevirtual 283, 3) := by decide +kernel
theorem dX5_digestWith_182 : decode cX5_digestWith 182 = .ok (.i2l, 1) := by decide +kernel
theorem dX5_digestWith_183 : decode cX5_digestWith 183 = .ok (.ladd, 1) := by decide +kernel
theorem dX5_digestWith_184 : decode cX5_digestWith 184 = .ok (.lstore 4, 2) := by decide +kernel
theorem dX5_digestWith_186 : decode cX5_digestWith 186 = .ok (.iinc 6 1, 3) := by decide +kernel
theorem dX5_digestWith_189 : decode cX5_digestWith 189 = .ok (.goto (-73), 3) := by decide +kernel
theorem dX5_digestWith_192 : decode cX5_digestWith 192 = .ok (.lload 4, 2) := by decide +kernel
theorem dX5_digestWith_194 : decode cX5_digestWith 194 = .ok (.lreturn, 1) := by decide +kernel
theorem dX6_init_0 : decode cX6_init 0 = .ok (.aload_n 0, 1) := by decide +kernel
theorem dX6_init_1 : decode cX6_init 1 = .ok (.invokespecial 3, 3) := by decide +kernel
theorem dX6_init_4 : decode cX6_init 4 = .ok (.aload_n 0, 1) := by decide +kernel
theorem dX6_init_5 : decode cX6_init 5 = .ok (.bipush 12, 2) := by decide +kernel
theorem dX6_init_7 : decode cX6_init 7 = .ok (.newarray .int, 2) := by decide +kernel
theorem dX6_init_9 : decode cX6_init 9 = .ok (.putfield 9, 3) := by decide +kernel
theorem dX6_init_12 : decode cX6_init 12 = .ok (.aload_n 0, 1) := by decide +kernel
theorem dX6_init_13 : decode cX6_init 13 = .ok (.bipush 12, 2) := by decide +kernel
theorem dX6_init_15 : decode cX6_init 15 = .ok (.newarray .int, 2) := by decide +kernel
theorem dX6_init_17 : decode cX6_init 17 = .ok (.putfield 15, 3) := by decide +kernel
theorem dX6_init_20 : decode cX6_init 20 = .ok (.aload_n 0, 1) := by decide +kernel
theorem dX6_init_21 : decode cX6_init 21 = .ok (.bipush 12, 2) := by decide +kernel
theorem dX6_init_23 : decode cX6_init 23 = .ok (.newarray .int, 2) := by decide +kernel
theorem dX6_init_25 : decode cX6_init 25 = .ok (.putfield 18, 3) := by decide +kernel
theorem dX6_init_28 : decode cX6_init 28 = .ok (.aload_n 0, 1) := by decide +kernel
theorem dX6_init_29 : decode cX6_init 29 = .ok (.bipush 12, 2) := by decide +kernel
theorem dX6_init_31 : decode cX6_init 31 = .ok (.newarray .int, 2) := by decide +kernel
theorem dX6_init_33 : decode cX6_init 33 = .ok (.putfield 21, 3) := by decide +kernel
theorem dX6_init_36 : decode cX6_init 36 = .ok (.aload_n 0, 1) := by decide +kernel
theorem dX6_init_37 : decode cX6_init 37 = .ok (.bipush 12, 2) := by decide +kernel
theorem dX6_init_39 : decode cX6_init 39 = .ok (.newarray .int, 2) := by decide +kernel
theorem dX6_init_41 : decode cX6_init 41 = .ok (.putfield 24, 3) := by decide +kernel
theorem dX6_init_44 : decode cX6_init 44 = .ok (.aload_n 0, 1) := by decide +kernel
theorem dX6_init_45 : decode cX6_init 45 = .ok (.iload_n 1, 1) := by decide +kernel
theorem dX6_init_46 : decode cX6_init 46 = .ok (.putfield 27, 3) := by decide +kernel
theorem dX6_init_49 : decode cX6_init 49 = .ok (.aload_n 0, 1) := by decide +kernel
theorem dX6_init_50 : decode cX6_init 50 = .ok (.iload_n 2, 1) := by decide +kernel
theorem dX6_init_51 : decode cX6_init 51 = .ok (.putfield 31, 3) := by decide +kernel
theorem dX6_init_54 : decode cX6_init 54 = .ok (.iconst 0, 1) := by decide +kernel
theorem dX6_init_55 : decode cX6_init 55 = .ok (.istore_n 3, 1) := by decide +kernel
theorem dX6_init_56 : decode cX6_init 56 = .ok (.iload_n 3, 1) := by decide +kernel
theorem dX6_init_57 : decode cX6_init 57 = .ok (.bipush 12, 2) := by decide +kernel
theorem dX6_init_59 : decode cX6_init 59 = .ok (.if_icmp .ge 16, 3) := by decide +kernel
theorem dX6_init_62 : decode cX6_init 62 = .ok (.aload_n 0, 1) := by decide +kernel
theorem dX6_init_63 : decode cX6_init 63 = .ok (.getfield 21, 3) := by decide +kernel
theorem dX6_init_66 : decode cX6_init 66 = .ok (.iload_n 3, 1) := by decide +kernel
theorem dX6_init_67 : decode cX6_init 67 = .ok (.iconst (-1), 1) := by decide +kernel
theorem dX6_init_68 : decode cX6_init 68 = .ok (.iastore, 1) := by decide +kernel
theorem dX6_init_69 : decode cX6_init 69 = .ok (.iinc 3 1, 3) := by decide +kernel
theorem dX6_init_72 : decode cX6_init 72 = .ok (.goto (-16), 3) := by decide +kernel
theorem dX6_init_75 : decode cX6_init 75 = .ok (.return_, 1) := by decide +kernel
theorem dX6_has_0 : decode cX6_has 0 = .ok (.aload_n 0, 1) := by decide +kernel
theorem dX6_has_1 : decode cX6_has 1 = .ok (.getfield 27, 3) := by decide +kernel
theorem dX6_has_4 : decode cX6_has 4 = .ok (.iload_n 1, 1) := by decide +kernel
theorem dX6_has_5 : decode cX6_has 5 = .ok (.invokestatic 34, 3) := by decide +kernel
theorem dX6_has_8 : decode cX6_has 8 = .ok (.ireturn, 1) := by decide +kernel
theorem dX6_is_0 : decode cX6_is 0 = .ok (.aload_n 0, 1) := by decide +kernel
theorem dX6_is_1 : decode cX6_is 1 = .ok (.iload_n 1, 1) := by decide +kernel
theorem dX6_is_2 : decode cX6_is 2 = .ok (.invokevirtual 38, 3) := by decide +kernel
theorem dX6_is_5 : decode cX6_is 5 = .ok (.ifCond .eq 17, 3) := by decide +kernel
theorem dX6_is_8 : decode cX6_is 8 = .ok (.aload_n 0, 1) := by decide +kernel
theorem dX6_is_9 : decode cX6_is 9 = .ok (.getfield 9, 3) := by decide +kernel
theorem dX6_is_12 : decode cX6_is 12 = .ok (.iload_n 1, 1) := by decide +kernel
theorem dX6_is_13 : decode cX6_is 13 = .ok (.iaload, 1) := by decide +kernel
theorem dX6_is_14 : decode cX6_is 14 = .ok (.iload_n 2, 1) := by decide +kernel
theorem dX6_is_15 : decode cX6_is 15 = .ok (.if_icmp .ne 7, 3) := by decide +kernel
theorem dX6_is_18 : decode cX6_is 18 = .ok (.iconst 1, 1) := by decide +kernel
theorem dX6_is_19 : decode cX6_is 19 = .ok (.goto 4, 3) := by decide +kernel
theorem dX6_is_22 : decode cX6_is 22 = .ok (.iconst 0, 1) := by decide +kernel
theorem dX6_is_23 : decode cX6_is 23 = .ok (.ireturn, 1) := by decide +kernel
theorem dX6_in_0 : decode cX6_in 0 = .ok (.iconst 0, 1) := by decide +kernel
theorem dX6_in_1 : decode cX6_in 1 = .ok (.istore_n 2, 1) := by decide +kernel
theorem dX6_in_2 : decode cX6_in 2 = .ok (.iconst 0, 1) := by decide +kernel
theorem dX6_in_3 : decode cX6_in 3 = .ok (.istore_n 3, 1) := by decide +kernel
theorem dX6_in_4 : decode cX6_in 4 = .ok (.iload_n 3, 1) := by decide +kernel
theorem dX6_in_5 : decode cX6_in 5 = .ok (.bipush 12, 2) := by decide +kernel
theorem dX6_in_7 : decode cX6_in 7 = .ok (.if_icmp .ge 26, 3) := by decide +kernel
theorem dX6_in_10 : decode cX6_in 10 = .ok (.iload_n 2, 1) := by decide +kernel
theorem dX6_in_11 : decode cX6_in 11 = .ok (.aload_n 0, 1) := by decide +kernel
theorem dX6_in_12 : decode cX6_in 12 = .ok (.iload_n 3, 1) := by decide +kernel
theorem dX6_in_13 : decode cX6_in 13 = .ok (.iload_n 1, 1) := by decide +kernel
theorem dX6_in_14 : decode cX6_in 14 = .ok (.invokevirtual 42, 3) := by decide +kernel
theorem dX6_in_17 : decode cX6_in 17 = .ok (.ifCond .eq 7, 3) := by decide +kernel
theorem dX6_in_20 : decode cX6_in 20 = .ok (.iconst 1, 1) := by decide +kernel
theorem dX6_in_21 : decode cX6_in 21 = .ok (.goto 4, 3) := by decide +kernel
theorem dX6_in_24 : decode cX6_in 24 = .ok (.iconst 0, 1) := by decide +kernel
theorem dX6_in_25 : decode cX6_in 25 = .ok (.iadd, 1) := by decide +kernel
theorem dX6_in_26 : decode cX6_in 26 = .ok (.istore_n 2, 1) := by decide +kernel
theorem dX6_in_27 : decode cX6_in 27 = .ok (.iinc 3 1, 3) := by decide +kernel
theorem dX6_in_30 : decode cX6_in 30 = .ok (.goto (-26), 3) := by decide +kernel
theorem dX6_in_33 : decode cX6_in 33 = .ok (.iload_n 2, 1) := by decide +kernel
theorem dX6_in_34 : decode cX6_in 34 = .ok (.ireturn, 1) := by decide +kernel
theorem dX6_hasAll_0 : decode cX6_hasAll 0 = .ok (.iconst 0, 1) := by decide +kernel
theorem dX6_hasAll_1 : decode cX6_hasAll 1 = .ok (.istore_n 2, 1) := by decide +kernel
theorem dX6_hasAll_2 : decode cX6_hasAll 2 = .ok (.iload_n 2, 1) := by decide +kernel
theorem dX6_hasAll_3 : decode cX6_hasAll 3 = .ok (.bipush 12, 2) := by decide +kernel
theorem dX6_hasAll_5 : decode cX6_hasAll 5 = .ok (.if_icmp .ge 28, 3) := by decide +kernel
theorem dX6_hasAll_8 : decode cX6_hasAll 8 = .ok (.iload_n 1, 1) := by decide +kernel
theorem dX6_hasAll_9 : decode cX6_hasAll 9 = .ok (.iload_n 2, 1) := by decide +kernel
theorem dX6_hasAll_10 : decode cX6_hasAll 10 = .ok (.invokestatic 34, 3) := by decide +kernel
theorem dX6_hasAll_13 : decode cX6_hasAll 13 = .ok (.ifCond .eq 14, 3) := by decide +kernel
theorem dX6_hasAll_16 : decode cX6_hasAll 16 = .ok (.aload_n 0, 1) := by decide +kernel
theorem dX6_hasAll_17 : decode cX6_hasAll 17 = .ok (.iload_n 2, 1) := by decide +kernel
theorem dX6_hasAll_18 : decode cX6_hasAll 18 = .ok (.iconst 2, 1) := by decide +kernel
theorem dX6_hasAll_19 : decode cX6_hasAll 19 = .ok (.invokevirtual 42, 3) := by decide +kernel
theorem dX6_hasAll_22 : decode cX6_hasAll 22 = .ok (.ifCond .ne 5, 3) := by decide +kernel
theorem dX6_hasAll_25 : decode cX6_hasAll 25 = .ok (.iconst 0, 1) := by decide +kernel
theorem dX6_hasAll_26 : decode cX6_hasAll 26 = .ok (.ireturn, 1) := by decide +kernel
theorem dX6_hasAll_27 : decode cX6_hasAll 27 = .ok (.iinc 2 1, 3) := by decide +kernel
theorem dX6_hasAll_30 : decode cX6_hasAll 30 = .ok (.goto (-28), 3) := by decide +kernel
theorem dX6_hasAll_33 : decode cX6_hasAll 33 = .ok (.iconst 1, 1) := by decide +kernel
theorem dX6_hasAll_34 : decode cX6_hasAll 34 = .ok (.ireturn, 1) := by decide +kernel
theorem dX6_hasNeeds_0 : decode cX6_hasNeeds 0 = .ok (.aload_n 0, 1) := by decide +kernel
theorem dX6_hasNeeds_1 : decode cX6_hasNeeds 1 = .ok (.iload_n 1, 1) := by decide +kernel
theorem dX6_hasNeeds_2 : decode cX6_hasNeeds 2 = .ok (.aload_n 0, 1) := by decide +kernel
theorem dX6_hasNeeds_3 : decode cX6_hasNeeds 3 = .ok (.getfield 27, 3) := by decide +kernel
theorem dX6_hasNeeds_6 : decode cX6_hasNeeds 6 = .ok (.iand, 1) := by decide +kernel
theorem dX6_hasNeeds_7 : decode cX6_hasNeeds 7 = .ok (.invokevirtual 45, 3) := by decide +kernel
theorem dX6_hasNeeds_10 : decode cX6_hasNeeds 10 = .ok (.ireturn, 1) := by decide +kernel
theorem dX6_last_0 : decode cX6_last 0 = .ok (.iconst (-1), 1) := by decide +kernel
theorem dX6_last_1 : decode cX6_last 1 = .ok (.istore_n 1, 1) := by decide +kernel
theorem dX6_last_2 : decode cX6_last 2 = .ok (.iconst 0, 1) := by decide +kernel
theorem dX6_last_3 : decode cX6_last 3 = .ok (.istore_n 2, 1) := by decide +kernel
theorem dX6_last_4 : decode cX6_last 4 = .ok (.iload_n 2, 1) := by decide +kernel
theorem dX6_last_5 : decode cX6_last 5 = .ok (.bipush 12, 2) := by decide +kernel
theorem dX6_last_7 : decode cX6_last 7 = .ok (.if_icmp .ge 49, 3) := by decide +kernel
theorem dX6_last_10 : decode cX6_last 10 = .ok (.aload_n 0, 1) := by decide +kernel
theorem dX6_last_11 : decode cX6_last 11 = .ok (.iload_n 2, 1) := by decide +kernel
theorem dX6_last_12 : decode cX6_last 12 = .ok (.iconst 1, 1) := by decide +kernel
theorem dX6_last_13 : decode cX6_last 13 = .ok (.invokevirtual 42, 3) := by decide +kernel
theorem dX6_last_16 : decode cX6_last 16 = .ok (.ifCond .ne 12, 3) := by decide +kernel
theorem dX6_last_19 : decode cX6_last 19 = .ok (.aload_n 0, 1) := by decide +kernel
theorem dX6_last_20 : decode cX6_last 20 = .ok (.iload_n 2, 1) := by decide +kernel
theorem dX6_last_21 : decode cX6_last 21 = .ok (.iconst 2, 1) := by decide +kernel
theorem dX6_last_22 : decode cX6_last 22 = .ok (.invokevirtual 42, 3) := by decide +kernel
theorem dX6_last_25 : decode cX6_last 25 = .ok (.ifCond .eq 25, 3) := by decide +kernel
theorem dX6_last_28 : decode cX6_last 28 = .ok (.iload_n 1, 1) := by decide +kernel
theorem dX6_last_29 : decode cX6_last 29 = .ok (.iconst (-1), 1) := by decide +kernel
theorem dX6_last_30 : decode cX6_last 30 = .ok (.if_icmp .eq 18, 3) := by decide +kernel
theorem dX6_last_33 : decode cX6_last 33 = .ok (.aload_n 0, 1) := by decide +kernel
theorem dX6_last_34 : decode cX6_last 34 = .ok (.getfield 15, 3) := by decide +kernel
theorem dX6_last_37 : decode cX6_last 37 = .ok (.iload_n 2, 1) := by decide +kernel
theorem dX6_last_38 : decode cX6_last 38 = .ok (.iaload, 1) := by decide +kernel
theorem dX6_last_39 : decode cX6_last 39 = .ok (.aload_n 0, 1) := by decide +kernel
theorem dX6_last_40 : decode cX6_last 40 = .ok (.getfield 15, 3) := by decide +kernel
theorem dX6_last_43 : decode cX6_last 43 = .ok (.iload_n 1, 1) := by decide +kernel
theorem dX6_last_44 : decode cX6_last 44 = .ok (.iaload, 1) := by decide +kernel
theorem dX6_last_45 : decode cX6_last 45 = .ok (.if_icmp .lt 5, 3) := by decide +kernel
theorem dX6_last_48 : decode cX6_last 48 = .ok (.iload_n 2, 1) := by decide +kernel
theorem dX6_last_49 : decode cX6_last 49 = .ok (.istore_n 1, 1) := by decide +kernel
theorem dX6_last_50 : decode cX6_last 50 = .ok (.iinc 2 1, 3) := by decide +kernel
theorem dX6_last_53 : decode cX6_last 53 = .ok (.goto (-49), 3) := by decide +kernel
theorem dX6_last_56 : decode cX6_last 56 = .ok (.iload_n 1, 1) := by decide +kernel
theorem dX6_last_57 : decode cX6_last 57 = .ok (.ireturn, 1) := by decide +kernel
theorem dX7_init_0 : decode cX7_init 0 = .ok (.aload_n 0, 1) := by decide +kernel
theorem dX7_init_1 : decode cX7_init 1 = .ok (.invokespecial 1, 3) := by decide +kernel
theorem dX7_init_4 : decode cX7_init 4 = .ok (.aload_n 0, 1) := by decide +kernel
theorem dX7_init_5 : decode cX7_init 5 = .ok (.iload_n 1, 1) := by decide +kernel
theorem dX7_init_6 : decode cX7_init 6 = .ok (.putfield 7, 3) := by decide +kernel
theorem dX7_init_9 : decode cX7_init 9 = .ok (.aload_n 0, 1) := by decide +kernel
theorem dX7_init_10 : decode cX7_init 10 = .ok (.iload_n 2, 1) := by decide +kernel
theorem dX7_init_11 : decode cX7_init 11 = .ok (.putfield 13, 3) := by decide +kernel
theorem dX7_init_14 : decode cX7_init 14 = .ok (.aload_n 0, 1) := by decide +kernel
theorem dX7_init_15 : decode cX7_init 15 = .ok (.iload_n 3, 1) := by decide +kernel
theorem dX7_init_16 : decode cX7_init 16 = .ok (.putfield 16, 3) := by decide +kernel
theorem dX7_init_19 : decode cX7_init 19 = .ok (.return_, 1) := by decide +kernel
theorem dX8_init_0 : decode cX8_init 0 = .ok (.aload_n 0, 1) := by decide +kernel
theorem dX8_init_1 : decode cX8_init 1 = .ok (.invokespecial 1, 3) := by decide +kernel
theorem dX8_init_4 : decode cX8_init 4 = .ok (.aload_n 0, 1) := by decide +kernel
theorem dX8_init_5 : decode cX8_init 5 = .ok (.iload_n 1, 1) := by decide +kernel
theorem dX8_init_6 : decode cX8_init 6 = .ok (.putfield 7, 3) := by decide +kernel
theorem dX8_init_9 : decode cX8_init 9 = .ok (.aload_n 0, 1) := by decide +kernel
theorem dX8_init_10 : decode cX8_init 10 = .ok (.iload_n 2, 1) := by decide +kernel
theorem dX8_init_11 : decode cX8_init 11 = .ok (.putfield 13, 3) := by decide +kernel
theorem dX8_init_14 : decode cX8_init 14 = .ok (.aload_n 0, 1) := by decide +kernel
theorem dX8_init_15 : decode cX8_init 15 = .ok (.iload_n 3, 1) := by decide +kernel
theorem dX8_init_16 : decode cX8_init 16 = .ok (.putfield 16, 3) := by decide +kernel
theorem dX8_init_19 : decode cX8_init 19 = .ok (.return_, 1) := by decide +kernel
theorem dX9_init_0 : decode cX9_init 0 = .ok (.aload_n 0, 1) := by decide +kernel
theorem dX9_init_1 : decode cX9_init 1 = .ok (.invokespecial 1, 3) := by decide +kernel
theorem dX9_init_4 : decode cX9_init 4 = .ok (.aload_n 0, 1) := by decide +kernel
theorem dX9_init_5 : decode cX9_init 5 = .ok (.iload_n 1, 1) := by decide +kernel
theorem dX9_init_6 : decode cX9_init 6 = .ok (.putfield 7, 3) := by decide +kernel
theorem dX9_init_9 : decode cX9_init 9 = .ok (.aload_n 0, 1) := by decide +kernel
theorem dX9_init_10 : decode cX9_init 10 = .ok (.iload_n 2, 1) := by decide +kernel
theorem dX9_init_11 : decode cX9_init 11 = .ok (.putfield 13, 3) := by decide +kernel
theorem dX9_init_14 : decode cX9_init 14 = .ok (.aload_n 0, 1) := by decide +kernel
theorem dX9_init_15 : decode cX9_init 15 = .ok (.iload_n 3, 1) := by decide +kernel
theorem dX9_init_16 : decode cX9_init 16 = .ok (.putfield 16, 3) := by decide +kernel
theorem dX9_init_19 : decode cX9_init 19 = .ok (.aload_n 0, 1) := by decide +kernel
theorem dX9_init_20 : decode cX9_init 20 = .ok (.iload 4, 2) := by decide +kernel
theorem dX9_init_22 : decode cX9_init 22 = .ok (.putfield 19, 3) := by decide +kernel
theorem dX9_init_25 : decode cX9_init 25 = .ok (.return_, 1) := by decide +kernel
theorem dX10_init_0 : decode cX10_init 0 = .ok (.aload_n 0, 1) := by decide +kernel
theorem dX10_init_1 : decode cX10_init 1 = .ok (.invokespecial 1, 3) := by decide +kernel
theorem dX10_init_4 : decode cX10_init 4 = .ok (.aload_n 0, 1) := by decide +kernel
theorem dX10_init_5 : decode cX10_init 5 = .ok (.new 7, 3) := by decide +kernel
theorem dX10_init_8 : decode cX10_init 8 = .ok (.dup, 1) := by decide +kernel
theorem dX10_init_9 : decode cX10_init 9 = .ok (.invokespecial 9, 3) := by decide +kernel
theorem dX10_init_12 : decode cX10_init 12 = .ok (.putfield 10, 3) := by decide +kernel
theorem dX10_init_15 : decode cX10_init 15 = .ok (.aload_n 0, 1) := by decide +kernel
theorem dX10_init_16 : decode cX10_init 16 = .ok (.iconst 4, 1) := by decide +kernel
theorem dX10_init_17 : decode cX10_init 17 = .ok (.newarray .int, 2) := by decide +kernel
theorem dX10_init_19 : decode cX10_init 19 = .ok (.putfield 16, 3) := by decide +kernel
theorem dX10_init_22 : decode cX10_init 22 = .ok (.aload_n 0, 1) := by decide +kernel
theorem dX10_init_23 : decode cX10_init 23 = .ok (.new 7, 3) := by decide +kernel
theorem dX10_init_26 : decode cX10_init 26 = .ok (.dup, 1) := by decide +kernel
theorem dX10_init_27 : decode cX10_init 27 = .ok (.invokespecial 9, 3) := by decide +kernel
theorem dX10_init_30 : decode cX10_init 30 = .ok (.putfield 20, 3) := by decide +kernel
theorem dX10_init_33 : decode cX10_init 33 = .ok (.aload_n 0, 1) := by decide +kernel
theorem dX10_init_34 : decode cX10_init 34 = .ok (.iconst 4, 1) := by decide +kernel
theorem dX10_init_35 : decode cX10_init 35 = .ok (.newarray .int, 2) := by decide +kernel
theorem dX10_init_37 : decode cX10_init 37 = .ok (.putfield 23, 3) := by decide +kernel
theorem dX10_init_40 : decode cX10_init 40 = .ok (.aload_n 0, 1) := by decide +kernel
theorem dX10_init_41 : decode cX10_init 41 = .ok (.new 7, 3) := by decide +kernel
theorem dX10_init_44 : decode cX10_init 44 = .ok (.dup, 1) := by decide +kernel
theorem dX10_init_45 : decode cX10_init 45 = .ok (.invokespecial 9, 3) := by decide +kernel
theorem dX10_init_48 : decode cX10_init 48 = .ok (.putfield 26, 3) := by decide +kernel
theorem dX10_init_51 : decode cX10_init 51 = .ok (.aload_n 0, 1) := by decide +kernel
theorem dX10_init_52 : decode cX10_init 52 = .ok (.new 7, 3) := by decide +kernel
theorem dX10_init_55 : decode cX10_init 55 = .ok (.dup, 1) := by decide +kernel
theorem dX10_init_56 : decode cX10_init 56 = .ok (.invokespecial 9, 3) := by decide +kernel
theorem dX10_init_59 : decode cX10_init 59 = .ok (.putfield 29, 3) := by decide +kernel
theorem dX10_init_62 : decode cX10_init 62 = .ok (.aload_n 0, 1) := by decide +kernel
theorem dX10_init_63 : decode cX10_init 63 = .ok (.new 7, 3) := by decide +kernel
theorem dX10_init_66 : decode cX10_init 66 = .ok (.dup, 1) := by decide +kernel
theorem dX10_init_67 : decode cX10_init 67 = .ok (.invokespecial 9, 3) := by decide +kernel
theorem dX10_init_70 : decode cX10_init 70 = .ok (.putfield 32, 3) := by decide +kernel
theorem dX10_init_73 : decode cX10_init 73 = .ok (.return_, 1) := by decide +kernel
theorem dX10_thrown_0 : decode cX10_thrown 0 = .ok (.aload_n 0, 1) := by decide +kernel
theorem dX10_thrown_1 : decode cX10_thrown 1 = .ok (.getfield 35, 3) := by decide +kernel
theorem dX10_thrown_4 : decode cX10_thrown 4 = .ok (.ireturn, 1) := by decide +kernel
theorem dX10_isIn_0 : decode cX10_isIn 0 = .ok (.iload_n 0, 1) := by decide +kernel
theorem dX10_isIn_1 : decode cX10_isIn 1 = .ok (.iload_n 1, 1) := by decide +kernel
theorem dX10_isIn_2 : decode cX10_isIn 2 = .ok (.ishr, 1) := by decide +kernel
theorem dX10_isIn_3 : decode cX10_isIn 3 = .ok (.iconst 1, 1) := by decide +kernel
theorem dX10_isIn_4 : decode cX10_isIn 4 = .ok (.iand, 1) := by decide +kernel
theorem dX10_isIn_5 : decode cX10_isIn 5 = .ok (.iconst 1, 1) := by decide +kernel
theorem dX10_isIn_6 : decode cX10_isIn 6 = .ok (.if_icmp .ne 7, 3) := by decide +kernel
theorem dX10_isIn_9 : decode cX10_isIn 9 = .ok (.iconst 1, 1) := by decide +kernel
theorem dX10_isIn_10 : decode cX10_isIn 10 = .ok (.goto 4, 3) := by decide +kernel
theorem dX10_isIn_13 : decode cX10_isIn 13 = .ok (.iconst 0, 1) := by decide +kernel
theorem dX10_isIn_14 : decode cX10_isIn 14 = .ok (.ireturn, 1) := by decide +kernel
theorem dX10_isFrom_0 : decode cX10_isFrom 0 = .ok (.iload_n 0, 1) := by decide +kernel
theorem dX10_isFrom_1 : decode cX10_isFrom 1 = .ok (.iload_n 1, 1) := by decide +kernel
theorem dX10_isFrom_2 : decode cX10_isFrom 2 = .ok (.if_icmp .lt 12, 3) := by decide +kernel
theorem dX10_isFrom_5 : decode cX10_isFrom 5 = .ok (.iload_n 0, 1) := by decide +kernel
theorem dX10_isFrom_6 : decode cX10_isFrom 6 = .ok (.iload_n 2, 1) := by decide +kernel
theorem dX10_isFrom_7 : decode cX10_isFrom 7 = .ok (.if_icmp .gt 7, 3) := by decide +kernel
theorem dX10_isFrom_10 : decode cX10_isFrom 10 = .ok (.iconst 1, 1) := by decide +kernel
theorem dX10_isFrom_11 : decode cX10_isFrom 11 = .ok (.goto 4, 3) := by decide +kernel
theorem dX10_isFrom_14 : decode cX10_isFrom 14 = .ok (.iconst 0, 1) := by decide +kernel
theorem dX10_isFrom_15 : decode cX10_isFrom 15 = .ok (.ireturn, 1) := by decide +kernel
theorem dX10_refuse_0 : decode cX10_refuse 0 = .ok (.iload_n 1, 1) := by decide +kernel
theorem dX10_refuse_1 : decode cX10_refuse 1 = .ok (.ifCond .eq 15, 3) := by decide +kernel
theorem dX10_refuse_4 : decode cX10_refuse 4 = .ok (.aload_n 0, 1) := by decide +kernel
theorem dX10_refuse_5 : decode cX10_refuse 5 = .ok (.getfield 35, 3) := by decide +kernel
theorem dX10_refuse_8 : decode cX10_refuse 8 = .ok (.ifCond .ne 8, 3) := by decide +kernel
theorem dX10_refuse_11 : decode cX10_refuse 11 = .ok (.aload_n 0, 1) := by decide +kernel
theorem dX10_refuse_12 : decode cX10_refuse 12 = .ok (.iload_n 2, 1) := by decide +kernel
theorem dX10_refuse_13 : decode cX10_refuse 13 = .ok (.putfield 35, 3) := by decide +kernel
theorem dX10_refuse_16 : decode cX10_refuse 16 = .ok (.aload_n 0, 1) := by decide +kernel
theorem dX10_refuse_17 : decode cX10_refuse 17 = .ok (.getfield 35, 3) := by decide +kernel
theorem dX10_refuse_20 : decode cX10_refuse 20 = .ok (.ifCond .le 7, 3) := by decide +kernel
theorem dX10_refuse_23 : decode cX10_refuse 23 = .ok (.iconst 1, 1) := by decide +kernel
theorem dX10_refuse_24 : decode cX10_refuse 24 = .ok (.goto 4, 3) := by decide +kernel
theorem dX10_refuse_27 : decode cX10_refuse 27 = .ok (.iconst 0, 1) := by decide +kernel
theorem dX10_refuse_28 : decode cX10_refuse 28 = .ok (.ireturn, 1) := by decide +kernel
theorem dX10_start_0 : decode cX10_start 0 = .ok (.aload_n 0, 1) := by decide +kernel
theorem dX10_start_1 : decode cX10_start 1 = .ok (.iconst 0, 1) := by decide +kernel
theorem dX10_start_2 : decode cX10_start 2 = .ok (.putfield 35, 3) := by decide +kernel
theorem dX10_start_5 : decode cX10_start 5 = .ok (.aload_n 0, 1) := by decide +kernel
theorem dX10_start_6 : decode cX10_start 6 = .ok (.iload_n 1, 1) := by decide +kernel
theorem dX10_start_7 : decode cX10_start 7 = .ok (.iload_n 2, 1) := by decide +kernel
theorem dX10_start_8 : decode cX10_start 8 = .ok (.invokevirtual 39, 3) := by decide +kernel
theorem dX10_start_11 : decode cX10_start 11 = .ok (.ireturn, 1) := by decide +kernel
theorem dX10_isNoSet_0 : decode cX10_isNoSet 0 = .ok (.iload_n 1, 1) := by decide +kernel
theorem dX10_isNoSet_1 : decode cX10_isNoSet 1 = .ok (.iconst 0, 1) := by decide +kernel
theorem dX10_isNoSet_2 : decode cX10_isNoSet 2 = .ok (.iconst 1, 1) := by decide +kernel
theorem dX10_isNoSet_3 : decode cX10_isNoSet 3 = .ok (.aload_n 0, 1) := by decide +kernel
theorem dX10_isNoSet_4 : decode cX10_isNoSet 4 = .ok (.getfield 10, 3) := by decide +kernel
theorem dX10_isNoSet_7 : decode cX10_isNoSet 7 = .ok (.invokevirtual 43, 3) := by decide +kernel
theorem dX10_isNoSet_10 : decode cX10_isNoSet 10 = .ok (.ishl, 1) := by decide +kernel
theorem dX10_isNoSet_11 : decode cX10_isNoSet 11 = .ok (.iconst 1, 1) := by decide +kernel
theorem dX10_isNoSet_12 : decode cX10_isNoSet 12 = .ok (.isub, 1) := by decide +kernel
theorem dX10_isNoSet_13 : decode cX10_isNoSet 13 = .ok (.invokestatic 47, 3) := by decide +kernel
theorem dX10_isNoSet_16 : decode cX10_isNoSet 16 = .ok (.ifCond .ne 7, 3) := by decide +kernel
theorem dX10_isNoSet_19 : decode cX10_isNoSet 19 = .ok (.iconst 1, 1) := by decide +kernel
theorem dX10_isNoSet_20 : decode cX10_isNoSet 20 = .ok (.goto 4, 3) := by decide +kernel
theorem dX10_isNoSet_23 : decode cX10_isNoSet 23 = .ok (.iconst 0, 1) := by decide +kernel
theorem dX10_isNoSet_24 : decode cX10_isNoSet 24 = .ok (.ireturn, 1) := by decide +kernel
theorem dX10_fresh_0 : decode cX10_fresh 0 = .ok (.aload_n 0, 1) := by decide +kernel
theorem dX10_fresh_1 : decode cX10_fresh 1 = .ok (.getfield 10, 3) := by decide +kernel
theorem dX10_fresh_4 : decode cX10_fresh 4 = .ok (.iload_n 2, 1) := by decide +kernel
theorem dX10_fresh_5 : decode cX10_fresh 5 = .ok (.invokevirtual 51, 3) := by decide +kernel
theorem dX10_fresh_8 : decode cX10_fresh 8 = .ok (.checkcast 55, 3) := by decide +kernel
theorem dX10_fresh_11 : decode cX10_fresh 11 = .ok (.getfield 57, 3) := by decide +kernel
theorem dX10_fresh_14 : decode cX10_fresh 14 = .ok (.istore_n 3, 1) := by decide +kernel
theorem dX10_fresh_15 : decode cX10_fresh 15 = .ok (.iconst 0, 1) := by decide +kernel
theorem dX10_fresh_16 : decode cX10_fresh 16 = .ok (.istore 4, 2) := by decide +kernel
theorem dX10_fresh_18 : decode cX10_fresh 18 = .ok (.iload 4, 2) := by decide +kernel
theorem dX10_fresh_20 : decode cX10_fresh 20 = .ok (.aload_n 0, 1) := by decide +kernel
theorem dX10_fresh_21 : decode cX10_fresh 21 = .ok (.getfield 10, 3) := by decide +kernel
theorem dX10_fresh_24 : decode cX10_fresh 24 = .ok (.invokevirtual 43, 3) := by decide +kernel
theorem dX10_fresh_27 : decode cX10_fresh 27 = .ok (.if_icmp .ge 63, 3) := by decide +kernel
theorem dX10_fresh_30 : decode cX10_fresh 30 = .ok (.iload 4, 2) := by decide +kernel
theorem dX10_fresh_32 : decode cX10_fresh 32 = .ok (.iload_n 2, 1) := by decide +kernel
theorem dX10_fresh_33 : decode cX10_fresh 33 = .ok (.if_icmp .eq 51, 3) := by decide +kernel
theorem dX10_fresh_36 : decode cX10_fresh 36 = .ok (.aload_n 0, 1) := by decide +kernel
theorem dX10_fresh_37 : decode cX10_fresh 37 = .ok (.getfield 10, 3) := by decide +kernel
theorem dX10_fresh_40 : decode cX10_fresh 40 = .ok (.iload 4, 2) := by decide +kernel
theorem dX10_fresh_42 : decode cX10_fresh 42 = .ok (.invokevirtual 51, 3) := by decide +kernel
theorem dX10_fresh_45 : decode cX10_fresh 45 = .ok (.checkcast 55, 3) := by decide +kernel
theorem dX10_fresh_48 : decode cX10_fresh 48 = .ok (.getfield 60, 3) := by decide +kernel
theorem dX10_fresh_51 : decode cX10_fresh 51 = .ok (.ifCond .ne 33, 3) := by decide +kernel
theorem dX10_fresh_54 : decode cX10_fresh 54 = .ok (.aload_n 1, 1) := by decide +kernel
theorem dX10_fresh_55 : decode cX10_fresh 55 = .ok (.iload 4, 2) := by decide +kernel
theorem dX10_fresh_57 : decode cX10_fresh 57 = .ok (.iconst 2, 1) := by decide +kernel
theorem dX10_fresh_58 : decode cX10_fresh 58 = .ok (.invokevirtual 63, 3) := by decide +kernel
theorem dX10_fresh_61 : decode cX10_fresh 61 = .ok (.ifCond .eq 23, 3) := by decide +kernel
theorem dX10_fresh_64 : decode cX10_fresh 64 = .ok (.iload_n 3, 1) := by decide +kernel
theorem dX10_fresh_65 : decode cX10_fresh 65 = .ok (.aload_n 0, 1) := by decide +kernel
theorem dX10_fresh_66 : decode cX10_fresh 66 = .ok (.getfield 10, 3) := by decide +kernel
theorem dX10_fresh_69 : decode cX10_fresh 69 = .ok (.iload 4, 2) := by decide +kernel
theorem dX10_fresh_71 : decode cX10_fresh 71 = .ok (.invokevirtual 51, 3) := by decide +kernel
theorem dX10_fresh_74 : decode cX10_fresh 74 = .ok (.checkcast 55, 3) := by decide +kernel
theorem dX10_fresh_77 : decode cX10_fresh 77 = .ok (.getfield 57, 3) := by decide +kernel
theorem dX10_fresh_80 : decode cX10_fresh 80 = .ok (.iconst (-1), 1) := by decide +kernel
theorem dX10_fresh_81 : decode cX10_fresh 81 = .ok (.ixor, 1) := by decide +kernel
theorem dX10_fresh_82 : decode cX10_fresh 82 = .ok (.iand, 1) := by decide +kernel
theorem dX10_fresh_83 : decode cX10_fresh 83 = .ok (.istore_n 3, 1) := by decide +kernel
theorem dX10_fresh_84 : decode cX10_fresh 84 = .ok (.iinc 4 1, 3) := by decide +kernel
theorem dX10_fresh_87 : decode cX10_fresh 87 = .ok (.goto (-69), 3) := by decide +kernel
theorem dX10_fresh_90 : decode cX10_fresh 90 = .ok (.iload_n 3, 1) := by decide +kernel
theorem dX10_fresh_91 : decode cX10_fresh 91 = .ok (.invokestatic 69, 3) := by decide +kernel
theorem dX10_fresh_94 : decode cX10_fresh 94 = .ok (.ireturn, 1) := by decide +kernel
theorem dX10_length_0 : decode cX10_length 0 = .ok (.aload_n 1, 1) := by decide +kernel
theorem dX10_length_1 : decode cX10_length 1 = .ok (.getfield 75, 3) := by decide +kernel
theorem dX10_length_4 : decode cX10_length 4 = .ok (.iload_n 2, 1) := by decide +kernel
theorem dX10_length_5 : decode cX10_length 5 = .ok (.iaload, 1) := by decide +kernel
theorem dX10_length_6 : decode cX10_length 6 = .ok (.ifCond .eq 10, 3) := by decide +kernel
theorem dX10_length_9 : decode cX10_length 9 = .ok (.aload_n 1, 1) := by decide +kernel
theorem dX10_length_10 : decode cX10_length 10 = .ok (.getfield 78, 3) := by decide +kernel
theorem dX10_length_13 : decode cX10_length 13 = .ok (.iload_n 2, 1) := by decide +kernel
theorem dX10_length_14 : decode cX10_length 14 = .ok (.iaload, 1) := by decide +kernel
theorem dX10_length_15 : decode cX10_length 15 = .ok (.ireturn, 1) := by decide +kernel
theorem dX10_length_16 : decode cX10_length 16 = .ok (.aload_n 0, 1) := by decide +kernel
theorem dX10_length_17 : decode cX10_length 17 = .ok (.getfield 10, 3) := by decide +kernel
theorem dX10_length_20 : decode cX10_length 20 = .ok (.iload_n 2, 1) := by decide +kernel
theorem dX10_length_21 : decode cX10_length 21 = .ok (.invokevirtual 51, 3) := by decide +kernel
theorem dX10_length_24 : decode cX10_length 24 = .ok (.checkcast 55, 3) := by decide +kernel
theorem dX10_length_27 : decode cX10_length 27 = .ok (.getfield 60, 3) := by decide +kernel
theorem dX10_length_30 : decode cX10_length 30 = .ok (.ifCond .ne 16, 3) := by decide +kernel
theorem dX10_length_33 : decode cX10_length 33 = .ok (.aload_n 0, 1) := by decide +kernel
theorem dX10_length_34 : decode cX10_length 34 = .ok (.aload_n 1, 1) := by decide +kernel
theorem dX10_length_35 : decode cX10_length 35 = .ok (.iload_n 2, 1) := by decide +kernel
theorem dX10_length_36 : decode cX10_length 36 = .ok (.invokevirtual 81, 3) := by decide +kernel
theorem dX10_length_39 : decode cX10_length 39 = .ok (.iconst 1, 1) := by decide +kernel
theorem dX10_length_40 : decode cX10_length 40 = .ok (.iadd, 1) := by decide +kernel
theorem dX10_length_41 : decode cX10_length 41 = .ok (.iconst 2, 1) := by decide +kernel
theorem dX10_length_42 : decode cX10_length 42 = .ok (.idiv, 1) := by decide +kernel
theorem dX10_length_43 : decode cX10_length 43 = .ok (.goto 4, 3) := by decide +kernel
theorem dX10_length_46 : decode cX10_length 46 = .ok (.iconst 0, 1) := by decide +kernel
theorem dX10_length_47 : decode cX10_length 47 = .ok (.istore_n 3, 1) := by decide +kernel
theorem dX10_length_48 : decode cX10_length 48 = .ok (.aload_n 0, 1) := by decide +kernel
theorem dX10_length_49 : decode cX10_length 49 = .ok (.getfield 10, 3) := by decide +kernel
theorem dX10_length_52 : decode cX10_length 52 = .ok (.iload_n 2, 1) := by decide +kernel
theorem dX10_length_53 : decode cX10_length 53 = .ok (.invokevirtual 51, 3) := by decide +kernel
theorem dX10_length_56 : decode cX10_length 56 = .ok (.checkcast 55, 3) := by decide +kernel
theorem dX10_length_59 : decode cX10_length 59 = .ok (.getfield 85, 3) := by decide +kernel
theorem dX10_length_62 : decode cX10_length 62 = .ok (.iload_n 3, 1) := by decide +kernel
theorem dX10_length_63 : decode cX10_length 63 = .ok (.iadd, 1) := by decide +kernel
theorem dX10_length_64 : decode cX10_length 64 = .ok (.ireturn, 1) := by decide +kernel
theorem dX10_comes_0 : decode cX10_comes 0 = .ok (.iconst (-1), 1) := by decide +kernel
theorem dX10_comes_1 : decode cX10_comes 1 = .ok (.istore_n 2, 1) := by decide +kernel
theorem dX10_comes_2 : decode cX10_comes 2 = .ok (.iconst 0, 1) := by decide +kernel
theorem dX10_comes_3 : decode cX10_comes 3 = .ok (.istore_n 3, 1) := by decide +kernel
theorem dX10_comes_4 : decode cX10_comes 4 = .ok (.iload_n 3, 1) := by decide +kernel
theorem dX10_comes_5 : decode cX10_comes 5 = .ok (.aload_n 0, 1) := by decide +kernel
theorem dX10_comes_6 : decode cX10_comes 6 = .ok (.getfield 26, 3) := by decide +kernel
theorem dX10_comes_9 : decode cX10_comes 9 = .ok (.invokevirtual 43, 3) := by decide +kernel
theorem dX10_comes_12 : decode cX10_comes 12 = .ok (.if_icmp .ge 59, 3) := by decide +kernel
theorem dX10_comes_15 : decode cX10_comes 15 = .ok (.aload_n 0, 1) := by decide +kernel
theorem dX10_comes_16 : decode cX10_comes 16 = .ok (.getfield 26, 3) := by decide +kernel
theorem dX10_comes_19 : decode cX10_comes 19 = .ok (.iload_n 3, 1) := by decide +kernel
theorem dX10_comes_20 : decode cX10_comes 20 = .ok (.invokevirtual 51, 3) := by decide +kernel
theorem dX10_comes_23 : decode cX10_comes 23 = .ok (.checkcast 88, 3) := by decide +kernel
theorem dX10_comes_26 : decode cX10_comes 26 = .ok (.astore 4, 2) := by decide +kernel
theorem dX10_comes_28 : decode cX10_comes 28 = .ok (.aload 4, 2) := by decide +kernel
theorem dX10_comes_30 : decode cX10_comes 30 = .ok (.getfield 90, 3) := by decide +kernel
theorem dX10_comes_33 : decode cX10_comes 33 = .ok (.iload_n 1, 1) := by decide +kernel
theorem dX10_comes_34 : decode cX10_comes 34 = .ok (.if_icmp .ne 31, 3) := by decide +kernel
theorem dX10_comes_37 : decode cX10_comes 37 = .ok (.aload 4, 2) := by decide +kernel
theorem dX10_comes_39 : decode cX10_comes 39 = .ok (.getfield 93, 3) := by decide +kernel
theorem dX10_comes_42 : decode cX10_comes 42 = .ok (.ifCond .ne 23, 3) := by decide +kernel
theorem dX10_comes_45 : decode cX10_comes 45 = .ok (.iload_n 2, 1) := by decide +kernel
theorem dX10_comes_46 : decode cX10_comes 46 = .ok (.iconst (-1), 1) := by decide +kernel
theorem dX10_comes_47 : decode cX10_comes 47 = .ok (.if_icmp .eq 12, 3) := by decide +kernel
theorem dX10_comes_50 : decode cX10_comes 50 = .ok (.aload 4, 2) := by decide +kernel
theorem dX10_comes_52 : decode cX10_comes 52 = .ok (.getfield 97, 3) := by decide +kernel
theorem dX10_comes_55 : decode cX10_comes 55 = .ok (.iload_n 2, 1) := by decide +kernel
theorem dX10_comes_56 : decode cX10_comes 56 = .ok (.if_icmp .ge 9, 3) := by decide +kernel
theorem dX10_comes_59 : decode cX10_comes 59 = .ok (.aload 4, 2) := by decide +kernel
theorem dX10_comes_61 : decode cX10_comes 61 = .ok (.getfield 97, 3) := by decide +kernel
theorem dX10_comes_64 : decode cX10_comes 64 = .ok (.istore_n 2, 1) := by decide +kernel
theorem dX10_comes_65 : decode cX10_comes 65 = .ok (.iinc 3 1, 3) := by decide +kernel
theorem dX10_comes_68 : decode cX10_comes 68 = .ok (.goto (-64), 3) := by decide +kernel
theorem dX10_comes_71 : decode cX10_comes 71 = .ok (.iload_n 2, 1) := by decide +kernel
theorem dX10_comes_72 : decode cX10_comes 72 = .ok (.ireturn, 1) := by decide +kernel
theorem dX10_expected_0 : decode cX10_expected 0 = .ok (.aload_n 1, 1) := by decide +kernel
theorem dX10_expected_1 : decode cX10_expected 1 = .ok (.getfield 75, 3) := by decide +kernel
theorem dX10_expected_4 : decode cX10_expected 4 = .ok (.iload_n 2, 1) := by decide +kernel
theorem dX10_expected_5 : decode cX10_expected 5 = .ok (.iaload, 1) := by decide +kernel
theorem dX10_expected_6 : decode cX10_expected 6 = .ok (.ifCond .eq 10, 3) := by decide +kernel
theorem dX10_expected_9 : decode cX10_expected 9 = .ok (.aload_n 1, 1) := by decide +kernel
theorem dX10_expected_10 : decode cX10_expected 10 = .ok (.getfield 100, 3) := by decide +kernel
theorem dX10_expected_13 : decode cX10_expected 13 = .ok (.iload_n 2, 1) := by decide +kernel
theorem dX10_expected_14 : decode cX10_expected 14 = .ok (.iaload, 1) := by decide +kernel
theorem dX10_expected_15 : decode cX10_expected 15 = .ok (.ireturn, 1) := by decide +kernel
theorem dX10_expected_16 : decode cX10_expected 16 = .ok (.aload_n 0, 1) := by decide +kernel
theorem dX10_expected_17 : decode cX10_expected 17 = .ok (.getfield 10, 3) := by decide +kernel
theorem dX10_expected_20 : decode cX10_expected 20 = .ok (.iload_n 2, 1) := by decide +kernel
theorem dX10_expected_21 : decode cX10_expected 21 = .ok (.invokevirtual 51, 3) := by decide +kernel
theorem dX10_expected_24 : decode cX10_expected 24 = .ok (.checkcast 55, 3) := by decide +kernel
theorem dX10_expected_27 : decode cX10_expected 27 = .ok (.astore_n 3, 1) := by decide +kernel
theorem dX10_expected_28 : decode cX10_expected 28 = .ok (.aload_n 0, 1) := by decide +kernel
theorem dX10_expected_29 : decode cX10_expected 29 = .ok (.getfield 103, 3) := by decide +kernel
theorem dX10_expected_32 : decode cX10_expected 32 = .ok (.iconst 1, 1) := by decide +kernel
theorem dX10_expected_33 : decode cX10_expected 33 = .ok (.iadd, 1) := by decide +kernel
theorem dX10_expected_34 : decode cX10_expected 34 = .ok (.aload_n 1, 1) := by decide +kernel
theorem dX10_expected_35 : decode cX10_expected 35 = .ok (.getfield 106, 3) := by decide +kernel
theorem dX10_expected_38 : decode cX10_expected 38 = .ok (.invokestatic 109, 3) := by decide +kernel
theorem dX10_expected_41 : decode cX10_expected 41 = .ok (.istore 4, 2) := by decide +kernel
theorem dX10_expected_43 : decode cX10_expected 43 = .ok (.iconst 0, 1) := by decide +kernel
theorem dX10_expected_44 : decode cX10_expected 44 = .ok (.istore 5, 2) := by decide +kernel
theorem dX10_expected_46 : decode cX10_expected 46 = .ok (.iload 5, 2) := by decide +kernel
theorem dX10_expected_48 : decode cX10_expected 48 = .ok (.iload_n 2, 1) := by decide +kernel
theorem dX10_expected_49 : decode cX10_expected 49 = .ok (.if_icmp .ge 57, 3) := by decide +kernel
theorem dX10_expected_52 : decode cX10_expected 52 = .ok (.aload_n 3, 1) := by decide +kernel
theorem dX10_expected_53 : decode cX10_expected 53 = .ok (.getfield 115, 3) := by decide +kernel
theorem dX10_expected_56 : decode cX10_expected 56 = .ok (.aload_n 1, 1) := by decide +kernel
theorem dX10_expected_57 : decode cX10_expected 57 = .ok (.getfield 118, 3) := by decide +kernel
theorem dX10_expected_60 : decode cX10_expected 60 = .ok (.iand, 1) := by decide +kernel
theorem dX10_expected_61 : decode cX10_expected 61 = .ok (.iload 5, 2) := by decide +kernel
theorem dX10_expected_63 : decode cX10_expected 63 = .ok (.invokestatic 120, 3) := by decide +kernel
theorem dX10_expected_66 : decode cX10_expected 66 = .ok (.ifCond .ne 6, 3) := by decide +kernel
theorem dX10_expected_69 : decode cX10_expected 69 = .ok (.goto 31, 3) := by decide +kernel
theorem dX10_expected_72 : decode cX10_expected 72 = .ok (.aload_n 0, 1) := by decide +kernel
theorem dX10_expected_73 : decode cX10_expected 73 = .ok (.aload_n 1, 1) := by decide +kernel
theorem dX10_expected_74 : decode cX10_expected 74 = .ok (.iload 5, 2) := by decide +kernel
theorem dX10_expected_76 : decode cX10_expected 76 = .ok (.invokevirtual 123, 3) := by decide +kernel
theorem dX10_expected_79 : decode cX10_expected 79 = .ok (.istore 6, 2) := by decide +kernel
theorem dX10_expected_81 : decode cX10_expected 81 = .ok (.iload 6, 2) := by decide +kernel
theorem dX10_expected_83 : decode cX10_expected 83 = .ok (.iconst (-1), 1) := by decide +kernel
theorem dX10_expected_84 : decode cX10_expected 84 = .ok (.if_icmp .ne 5, 3) := by decide +kernel
theorem dX10_expected_87 : decode cX10_expected 87 = .ok (.iconst (-1), 1) := by decide +kernel
theorem dX10_expected_88 : decode cX10_expected 88 = .ok (.ireturn, 1) := by decide +kernel
theorem dX10_expected_89 : decode cX10_expected 89 = .ok (.iload 4, 2) := by decide +kernel
theorem dX10_expected_91 : decode cX10_expected 91 = .ok (.iload 6, 2) := by decide +kernel
theorem dX10_expected_93 : decode cX10_expected 93 = .ok (.iconst 1, 1) := by decide +kernel
theorem dX10_expected_94 : decode cX10_expected 94 = .ok (.iadd, 1) := by decide +kernel
theorem dX10_expected_95 : decode cX10_expected 95 = .ok (.invokestatic 109, 3) := by decide +kernel
theorem dX10_expected_98 : decode cX10_expected 98 = .ok (.istore 4, 2) := by decide +kernel
theorem dX10_expected_100 : decode cX10_expected 100 = .ok (.iinc 5 1, 3) := by decide +kernel
theorem dX10_expected_103 : decode cX10_expected 103 = .ok (.goto (-57), 3) := by decide +kernel
theorem dX10_expected_106 : decode cX10_expected 106 = .ok (.aload_n 3, 1) := by decide +kernel
theorem dX10_expected_107 : decode cX10_expected 107 = .ok (.getfield 60, 3) := by decide +kernel
theorem dX10_expected_110 : decode cX10_expected 110 = .ok (.iconst 2, 1) := by decide +kernel
theorem dX10_expected_111 : decode cX10_expected 111 = .ok (.if_icmp .ne 39, 3) := by decide +kernel
theorem dX10_expected_114 : decode cX10_expected 114 = .ok (.aload_n 1, 1) := by decide +kernel
theorem dX10_expected_115 : decode cX10_expected 115 = .ok (.getfield 126, 3) := by decide +kernel
theorem dX10_expected_118 : decode cX10_expected 118 = .ok (.iload_n 2, 1) := by decide +kernel
theorem dX10_expected_119 : decode cX10_expected 119 = .ok (.iaload, 1) := by decide +kernel
theorem dX10_expected_120 : decode cX10_expected 120 = .ok (.iconst (-1), 1) := by decide +kernel
theorem dX10_expected_121 : decode cX10_expected 121 = .ok (.if_icmp .eq 29, 3) := by decide +kernel
theorem dX10_expected_124 : decode cX10_expected 124 = .ok (.iload 4, 2) := by decide +kernel
theorem dX10_expected_126 : decode cX10_expected 126 = .ok (.aload_n 0, 1) := by decide +kernel
theorem dX10_expected_127 : decode cX10_expected 127 = .ok (.getfield 29, 3) := by decide +kernel
theorem dX10_expected_130 : decode cX10_expected 130 = .ok (.aload_n 1, 1) := by decide +kernel
theorem dX10_expected_131 : decode cX10_expected 131 = .ok (.getfield 126, 3) := by decide +kernel
theorem dX10_expected_134 : decode cX10_expected 134 = .ok (.iload_n 2, 1) := by decide +kernel
theorem dX10_expected_135 : decode cX10_expected 135 = .ok (.iaload, 1) := by decide +kernel
theorem dX10_expected_136 : decode cX10_expected 136 = .ok (.invokevirtual 51, 3) := by decide +kernel
theorem dX10_expected_139 : decode cX10_expected 139 = .ok (.checkcast 129, 3) := by decide +kernel
theorem dX10_expected_142 : decode cX10_expected 142 = .ok (.getfield 131, 3) := by decide +kernel
theorem dX10_expected_145 : decode cX10_expected 145 = .ok (.invokestatic 109, 3) := by decide +kernel
theorem dX10_expected_148 : decode cX10_expected 148 = .ok (.istore 4, 2) := by decide +kernel
theorem dX10_expected_150 : decode cX10_expected 150 = .ok (.aload_n 3, 1) := by decide +kernel
theorem dX10_expected_151 : decode cX10_expected 151 = .ok (.getfield 60, 3) := by decide +kernel
theorem dX10_expected_154 : decode cX10_expected 154 = .ok (.iconst 1, 1) := by decide +kernel
theorem dX10_expected_155 : decode cX10_expected 155 = .ok (.if_icmp .ne 42, 3) := by decide +kernel
theorem dX10_expected_158 : decode cX10_expected 158 = .ok (.aload_n 0, 1) := by decide +kernel
theorem dX10_expected_159 : decode cX10_expected 159 = .ok (.getfield 23, 3) := by decide +kernel
theorem dX10_expected_162 : decode cX10_expected 162 = .ok (.aload_n 3, 1) := by decide +kernel
theorem dX10_expected_163 : decode cX10_expected 163 = .ok (.getfield 57, 3) := by decide +kernel
theorem dX10_expected_166 : decode cX10_expected 166 = .ok (.iaload, 1) := by decide +kernel
theorem dX10_expected_167 : decode cX10_expected 167 = .ok (.ifCond .ne 30, 3) := by decide +kernel
theorem dX10_expected_170 : decode cX10_expected 170 = .ok (.aload_n 0, 1) := by decide +kernel
theorem dX10_expected_171 : decode cX10_expected 171 = .ok (.aload_n 3, 1) := by decide +kernel
theorem dX10_expected_172 : decode cX10_expected 172 = .ok (.getfield 57, 3) := by decide +kernel
theorem dX10_expected_175 : decode cX10_expected 175 = .ok (.invokevirtual 132, 3) := by decide +kernel
theorem dX10_expected_178 : decode cX10_expected 178 = .ok (.istore 5, 2) := by decide +kernel
theorem dX10_expected_180 : decode cX10_expected 180 = .ok (.iload 5, 2) := by decide +kernel
theorem dX10_expected_182 : decode cX10_expected 182 = .ok (.iconst (-1), 1) := by decide +kernel
theorem dX10_expected_183 : decode cX10_expected 183 = .ok (.if_icmp .ne 5, 3) := by decide +kernel
theorem dX10_expected_186 : decode cX10_expected 186 = .ok (.iconst (-1), 1) := by decide +kernel
theorem dX10_expected_187 : decode cX10_expected 187 = .ok (.ireturn, 1) := by decide +kernel
theorem dX10_expected_188 : decode cX10_expected 188 = .ok (.iload 4, 2) := by decide +kernel
theorem dX10_expected_190 : decode cX10_expected 190 = .ok (.iload 5, 2) := by decide +kernel
theorem dX10_expected_192 : decode cX10_expected 192 = .ok (.invokestatic 109, 3) := by decide +kernel
theorem dX10_expected_195 : decode cX10_expected 195 = .ok (.istore 4, 2) := by decide +kernel
theorem dX10_expected_197 : decode cX10_expected 197 = .ok (.iload 4, 2) := by decide +kernel
theorem dX10_expected_199 : decode cX10_expected 199 = .ok (.ireturn, 1) := by decide +kernel
theorem dX10_end_0 : decode cX10_end 0 = .ok (.aload_n 0, 1) := by decide +kernel
theorem dX10_end_1 : decode cX10_end 1 = .ok (.aload_n 1, 1) := by decide +kernel
theorem dX10_end_2 : decode cX10_end 2 = .ok (.iload_n 2, 1) := by decide +kernel
theorem dX10_end_3 : decode cX10_end 3 = .ok (.invokevirtual 135, 3) := by decide +kernel
theorem dX10_end_6 : decode cX10_end 6 = .ok (.istore_n 3, 1) := by decide +kernel
theorem dX10_end_7 : decode cX10_end 7 = .ok (.iload_n 3, 1) := by decide +kernel
theorem dX10_end_8 : decode cX10_end 8 = .ok (.iconst (-1), 1) := by decide +kernel
theorem dX10_end_9 : decode cX10_end 9 = .ok (.if_icmp .ne 7, 3) := by decide +kernel
theorem dX10_end_12 : decode cX10_end 12 = .ok (.iconst (-1), 1) := by decide +kernel
theorem dX10_end_13 : decode cX10_end 13 = .ok (.goto 13, 3) := by decide +kernel
theorem dX10_end_16 : decode cX10_end 16 = .ok (.iload_n 3, 1) := by decide +kernel
theorem dX10_end_17 : decode cX10_end 17 = .ok (.aload_n 0, 1) := by decide +kernel
theorem dX10_end_18 : decode cX10_end 18 = .ok (.aload_n 1, 1) := by decide +kernel
theorem dX10_end_19 : decode cX10_end 19 = .ok (.iload_n 2, 1) := by decide +kernel
theorem dX10_end_20 : decode cX10_end 20 = .ok (.invokevirtual 138, 3) := by decide +kernel
theorem dX10_end_23 : decode cX10_end 23 = .ok (.iadd, 1) := by decide +kernel
theorem dX10_end_24 : decode cX10_end 24 = .ok (.iconst 1, 1) := by decide +kernel
theorem dX10_end_25 : decode cX10_end 25 = .ok (.isub, 1) := by decide +kernel
theorem dX10_end_26 : decode cX10_end 26 = .ok (.ireturn, 1) := by decide +kernel
theorem dX10_end__0 : decode cX10_end_ 0 = .ok (.iconst (-1), 1) := by decide +kernel
theorem dX10_end__1 : decode cX10_end_ 1 = .ok (.istore 4, 2) := by decide +kernel
theorem dX10_end__3 : decode cX10_end_ 3 = .ok (.iconst 0, 1) := by decide +kernel
theorem dX10_end__4 : decode cX10_end_ 4 = .ok (.istore 5, 2) := by decide +kernel
theorem dX10_end__6 : decode cX10_end_ 6 = .ok (.iload 5, 2) := by decide +kernel
theorem dX10_end__8 : decode cX10_end_ 8 = .ok (.aload_n 0, 1) := by decide +kernel
theorem dX10_end__9 : decode cX10_end_ 9 = .ok (.getfield 10, 3) := by decide +kernel
theorem dX10_end__12 : decode cX10_end_ 12 = .ok (.invokevirtual 43, 3) := by decide +kernel
theorem dX10_end__15 : decode cX10_end_ 15 = .ok (.if_icmp .ge 49, 3) := by decide +kernel
theorem dX10_end__18 : decode cX10_end_ 18 = .ok (.lload_n 2, 1) := by decide +kernel
theorem dX10_end__19 : decode cX10_end_ 19 = .ok (.iload 5, 2) := by decide +kernel
theorem dX10_end__21 : decode cX10_end_ 21 = .ok (.lshr, 1) := by decide +kernel
theorem dX10_end__22 : decode cX10_end_ 22 = .ok (.lconst 1, 1) := by decide +kernel
theorem dX10_end__23 : decode cX10_end_ 23 = .ok (.land, 1) := by decide +kernel
theorem dX10_end__24 : decode cX10_end_ 24 = .ok (.lconst 0, 1) := by decide +kernel
theorem dX10_end__25 : decode cX10_end_ 25 = .ok (.lcmp, 1) := by decide +kernel
theorem dX10_end__26 : decode cX10_end_ 26 = .ok (.ifCond .ne 6, 3) := by decide +kernel
theorem dX10_end__29 : decode cX10_end_ 29 = .ok (.goto 29, 3) := by decide +kernel
theorem dX10_end__32 : decode cX10_end_ 32 = .ok (.aload_n 0, 1) := by decide +kernel
theorem dX10_end__33 : decode cX10_end_ 33 = .ok (.aload_n 1, 1) := by decide +kernel
theorem dX10_end__34 : decode cX10_end_ 34 = .ok (.iload 5, 2) := by decide +kernel
theorem dX10_end__36 : decode cX10_end_ 36 = .ok (.invokevirtual 123, 3) := by decide +kernel
theorem dX10_end__39 : decode cX10_end_ 39 = .ok (.istore 6, 2) := by decide +kernel
theorem dX10_end__41 : decode cX10_end_ 41 = .ok (.iload 6, 2) := by decide +kernel
theorem dX10_end__43 : decode cX10_end_ 43 = .ok (.iconst (-1), 1) := by decide +kernel
theorem dX10_end__44 : decode cX10_end_ 44 = .ok (.if_icmp .ne 5, 3) := by decide +kernel
theorem dX10_end__47 : decode cX10_end_ 47 = .ok (.iconst (-1), 1) := by decide +kernel
theorem dX10_end__48 : decode cX10_end_ 48 = .ok (.ireturn, 1) := by decide +kernel
theorem dX10_end__49 : decode cX10_end_ 49 = .ok (.iload 4, 2) := by decide +kernel
theorem dX10_end__51 : decode cX10_end_ 51 = .ok (.iload 6, 2) := by decide +kernel
theorem dX10_end__53 : decode cX10_end_ 53 = .ok (.invokestatic 109, 3) := by decide +kernel
theorem dX10_end__56 : decode cX10_end_ 56 = .ok (.istore 4, 2) := by decide +kernel
theorem dX10_end__58 : decode cX10_end_ 58 = .ok (.iinc 5 1, 3) := by decide +kernel
theorem dX10_end__61 : decode cX10_end_ 61 = .ok (.goto (-55), 3) := by decide +kernel
theorem dX10_end__64 : decode cX10_end_ 64 = .ok (.iload 4, 2) := by decide +kernel
theorem dX10_end__66 : decode cX10_end_ 66 = .ok (.ireturn, 1) := by decide +kernel
theorem dX10_endOf_0 : decode cX10_endOf 0 = .ok (.aload_n 1, 1) := by decide +kernel
theorem dX10_endOf_1 : decode cX10_endOf 1 = .ok (.getfield 140, 3) := by decide +kernel
theorem dX10_endOf_4 : decode cX10_endOf 4 = .ok (.ifCond .eq 7, 3) := by decide +kernel
theorem dX10_endOf_7 : decode cX10_endOf 7 = .ok (.iconst (-1), 1) := by decide +kernel
theorem dX10_endOf_8 : decode cX10_endOf 8 = .ok (.goto 13, 3) := by decide +kernel
theorem dX10_endOf_11 : decode cX10_endOf 11 = .ok (.aload_n 0, 1) := by decide +kernel
theorem dX10_endOf_12 : decode cX10_endOf 12 = .ok (.aload_n 1, 1) := by decide +kernel
theorem dX10_endOf_13 : decode cX10_endOf 13 = .ok (.aload_n 1, 1) := by decide +kernel
theorem dX10_endOf_14 : decode cX10_endOf 14 = .ok (.getfield 118, 3) := by decide +kernel
theorem dX10_endOf_17 : decode cX10_endOf 17 = .ok (.i2l, 1) := by decide +kernel
theorem dX10_endOf_18 : decode cX10_endOf 18 = .ok (.invokevirtual 143, 3) := by decide +kernel
theorem dX10_endOf_21 : decode cX10_endOf 21 = .ok (.ireturn, 1) := by decide +kernel
theorem dX10_seatsTaken_0 : decode cX10_seatsTaken 0 = .ok (.iconst 0, 1) := by decide +kernel
theorem dX10_seatsTaken_1 : decode cX10_seatsTaken 1 = .ok (.istore_n 2, 1) := by decide +kernel
theorem dX10_seatsTaken_2 : decode cX10_seatsTaken 2 = .ok (.aload_n 0, 1) := by decide +kernel
theorem dX10_seatsTaken_3 : decode cX10_seatsTaken 3 = .ok (.getfield 32, 3) := by decide +kernel
theorem dX10_seatsTaken_6 : decode cX10_seatsTaken 6 = .ok (.invokevirtual 146, 3) := by decide +kernel
theorem dX10_seatsTaken_9 : decode cX10_seatsTaken 9 = .ok (.astore_n 3, 1) := by decide +kernel
theorem dX10_seatsTaken_10 : decode cX10_seatsTaken 10 = .ok (.aload_n 3, 1) := by decide +kernel
theorem dX10_seatsTaken_11 : decode cX10_seatsTaken 11 = .ok (.invokeinterface 150 1, 5) := by decide +kernel
theorem dX10_seatsTaken_16 : decode cX10_seatsTaken 16 = .ok (.ifCond .eq 53, 3) := by decide +kernel
theorem dX10_seatsTaken_19 : decode cX10_seatsTaken 19 = .ok (.aload_n 3, 1) := by decide +kernel
theorem dX10_seatsTaken_20 : decode cX10_seatsTaken 20 = .ok (.invokeinterface 156 1, 5) := by decide +kernel
theorem dX10_seatsTaken_25 : decode cX10_seatsTaken 25 = .ok (.checkcast 64, 3) := by decide +kernel
theorem dX10_seatsTaken_28 : decode cX10_seatsTaken 28 = .ok (.astore 4, 2) := by decide +kernel
theorem dX10_seatsTaken_30 : decode cX10_seatsTaken 30 = .ok (.iconst 0, 1) := by decide +kernel
theorem dX10_seatsTaken_31 : decode cX10_seatsTaken 31 = .ok (.istore 5, 2) := by decide +kernel
theorem dX10_seatsTaken_33 : decode cX10_seatsTaken 33 = .ok (.iload 5, 2) := by decide +kernel
theorem dX10_seatsTaken_35 : decode cX10_seatsTaken 35 = .ok (.bipush 12, 2) := by decide +kernel
theorem dX10_seatsTaken_37 : decode cX10_seatsTaken 37 = .ok (.if_icmp .ge 29, 3) := by decide +kernel
theorem dX10_seatsTaken_40 : decode cX10_seatsTaken 40 = .ok (.iload_n 2, 1) := by decide +kernel
theorem dX10_seatsTaken_41 : decode cX10_seatsTaken 41 = .ok (.aload 4, 2) := by decide +kernel
theorem dX10_seatsTaken_43 : decode cX10_seatsTaken 43 = .ok (.getfield 126, 3) := by decide +kernel
theorem dX10_seatsTaken_46 : decode cX10_seatsTaken 46 = .ok (.iload 5, 2) := by decide +kernel
theorem dX10_seatsTaken_48 : decode cX10_seatsTaken 48 = .ok (.iaload, 1) := by decide +kernel
theorem dX10_seatsTaken_49 : decode cX10_seatsTaken 49 = .ok (.iload_n 1, 1) := by decide +kernel
theorem dX10_seatsTaken_50 : decode cX10_seatsTaken 50 = .ok (.if_icmp .ne 7, 3) := by decide +kernel
theorem dX10_seatsTaken_53 : decode cX10_seatsTaken 53 = .ok (.iconst 1, 1) := by decide +kernel
theorem dX10_seatsTaken_54 : decode cX10_seatsTaken 54 = .ok (.goto 4, 3) := by decide +kernel
theorem dX10_seatsTaken_57 : decode cX10_seatsTaken 57 = .ok (.iconst 0, 1) := by decide +kernel
theorem dX10_seatsTaken_58 : decode cX10_seatsTaken 58 = .ok (.iadd, 1) := by decide +kernel
theorem dX10_seatsTaken_59 : decode cX10_seatsTaken 59 = .ok (.istore_n 2, 1) := by decide +kernel
theorem dX10_seatsTaken_60 : decode cX10_seatsTaken 60 = .ok (.iinc 5 1, 3) := by decide +kernel
theorem dX10_seatsTaken_63 : decode cX10_seatsTaken 63 = .ok (.goto (-30), 3) := by decide +kernel
theorem dX10_seatsTaken_66 : decode cX10_seatsTaken 66 = .ok (.goto (-56), 3) := by decide +kernel
theorem dX10_seatsTaken_69 : decode cX10_seatsTaken 69 = .ok (.iload_n 2, 1) := by decide +kernel
theorem dX10_seatsTaken_70 : decode cX10_seatsTaken 70 = .ok (.ireturn, 1) := by decide +kernel
theorem dX10_sessionFor_0 : decode cX10_sessionFor 0 = .ok (.aload_n 0, 1) := by decide +kernel
theorem dX10_sessionFor_1 : decode cX10_sessionFor 1 = .ok (.aload_n 1, 1) := by decide +kernel
theorem dX10_sessionFor_2 : decode cX10_sessionFor 2 = .ok (.iload_n 2, 1) := by decide +kernel
theorem dX10_sessionFor_3 : decode cX10_sessionFor 3 = .ok (.invokevirtual 135, 3) := by decide +kernel
theorem dX10_sessionFor_6 : decode cX10_sessionFor 6 = .ok (.istore_n 3, 1) := by decide +kernel
theorem dX10_sessionFor_7 : decode cX10_sessionFor 7 = .ok (.iconst (-1), 1) := by decide +kernel
theorem dX10_sessionFor_8 : decode cX10_sessionFor 8 = .ok (.istore 4, 2) := by decide +kernel
theorem dX10_sessionFor_10 : decode cX10_sessionFor 10 = .ok (.iconst 0, 1) := by decide +kernel
theorem dX10_sessionFor_11 : decode cX10_sessionFor 11 = .ok (.istore 5, 2) := by decide +kernel
theorem dX10_sessionFor_13 : decode cX10_sessionFor 13 = .ok (.iload 5, 2) := by decide +kernel
theorem dX10_sessionFor_15 : decode cX10_sessionFor 15 = .ok (.aload_n 0, 1) := by decide +kernel
theorem dX10_sessionFor_16 : decode cX10_sessionFor 16 = .ok (.getfield 29, 3) := by decide +kernel
theorem dX10_sessionFor_19 : decode cX10_sessionFor 19 = .ok (.invokevirtual 43, 3) := by decide +kernel
theorem dX10_sessionFor_22 : decode cX10_sessionFor 22 = .ok (.if_icmp .ge 96, 3) := by decide +kernel
theorem dX10_sessionFor_25 : decode cX10_sessionFor 25 = .ok (.iload_n 3, 1) := by decide +kernel
theorem dX10_sessionFor_26 : decode cX10_sessionFor 26 = .ok (.iconst (-1), 1) := by decide +kernel
theorem dX10_sessionFor_27 : decode cX10_sessionFor 27 = .ok (.if_icmp .eq 91, 3) := by decide +kernel
theorem dX10_sessionFor_30 : decode cX10_sessionFor 30 = .ok (.aload_n 0, 1) := by decide +kernel
theorem dX10_sessionFor_31 : decode cX10_sessionFor 31 = .ok (.getfield 29, 3) := by decide +kernel
theorem dX10_sessionFor_34 : decode cX10_sessionFor 34 = .ok (.iload 5, 2) := by decide +kernel
theorem dX10_sessionFor_36 : decode cX10_sessionFor 36 = .ok (.invokevirtual 51, 3) := by decide +kernel
theorem dX10_sessionFor_39 : decode cX10_sessionFor 39 = .ok (.checkcast 129, 3) := by decide +kernel
theorem dX10_sessionFor_42 : decode cX10_sessionFor 42 = .ok (.astore 6, 2) := by decide +kernel
theorem dX10_sessionFor_44 : decode cX10_sessionFor 44 = .ok (.aload 6, 2) := by decide +kernel
theorem dX10_sessionFor_46 : decode cX10_sessionFor 46 = .ok (.getfield 160, 3) := by decide +kernel
theorem dX10_sessionFor_49 : decode cX10_sessionFor 49 = .ok (.iload_n 2, 1) := by decide +kernel
theorem dX10_sessionFor_50 : decode cX10_sessionFor 50 = .ok (.if_icmp .ne 62, 3) := by decide +kernel
theorem dX10_sessionFor_53 : decode cX10_sessionFor 53 = .ok (.aload 6, 2) := by decide +kernel
theorem dX10_sessionFor_55 : decode cX10_sessionFor 55 = .ok (.getfield 131, 3) := by decide +kernel
theorem dX10_sessionFor_58 : decode cX10_sessionFor 58 = .ok (.iload_n 3, 1) := by decide +kernel
theorem dX10_sessionFor_59 : decode cX10_sessionFor 59 = .ok (.if_icmp .lt 53, 3) := by decide +kernel
theorem dX10_sessionFor_62 : decode cX10_sessionFor 62 = .ok (.aload_n 0, 1) := by decide +kernel
theorem dX10_sessionFor_63 : decode cX10_sessionFor 63 = .ok (.iload 5, 2) := by decide +kernel
theorem dX10_sessionFor_65 : decode cX10_sessionFor 65 = .ok (.invokevirtual 163, 3) := by decide +kernel
theorem dX10_sessionFor_68 : decode cX10_sessionFor 68 = .ok (.aload 6, 2) := by decide +kernel
theorem dX10_sessionFor_70 : decode cX10_sessionFor 70 = .ok (.getfield 166, 3) := by decide +kernel
theorem dX10_sessionFor_73 : decode cX10_sessionFor 73 = .ok (.if_icmp .lt 6, 3) := by decide +kernel
theorem dX10_sessionFor_76 : decode cX10_sessionFor 76 = .ok (.goto 36, 3) := by decide +kernel
theorem dX10_sessionFor_79 : decode cX10_sessionFor 79 = .ok (.iload 4, 2) := by decide +kernel
theorem dX10_sessionFor_81 : decode cX10_sessionFor 81 = .ok (.iconst (-1), 1) := by decide +kernel
theorem dX10_sessionFor_82 : decode cX10_sessionFor 82 = .ok (.if_icmp .eq 26, 3) := by decide +kernel
theorem dX10_sessionFor_85 : decode cX10_sessionFor 85 = .ok (.aload 6, 2) := by decide +kernel
theorem dX10_sessionFor_87 : decode cX10_sessionFor 87 = .ok (.getfield 131, 3) := by decide +kernel
theorem dX10_sessionFor_90 : decode cX10_sessionFor 90 = .ok (.aload_n 0, 1) := by decide +kernel
theorem dX10_sessionFor_91 : decode cX10_sessionFor 91 = .ok (.getfield 29, 3) := by decide +kernel
theorem dX10_sessionFor_94 : decode cX10_sessionFor 94 = .ok (.iload 4, 2) := by decide +kernel
theorem dX10_sessionFor_96 : decode cX10_sessionFor 96 = .ok (.invokevirtual 51, 3) := by decide +kernel
theorem dX10_sessionFor_99 : decode cX10_sessionFor 99 = .ok (.checkcast 129, 3) := by decide +kernel
theorem dX10_sessionFor_102 : decode cX10_sessionFor 102 = .ok (.getfield 131, 3) := by decide +kernel
theorem dX10_sessionFor_105 : decode cX10_sessionFor 105 = .ok (.if_icmp .ge 7, 3) := by decide +kernel
theorem dX10_sessionFor_108 : decode cX10_sessionFor 108 = .ok (.iload 5, 2) := by decide +kernel
theorem dX10_sessionFor_110 : decode cX10_sessionFor 110 = .ok (.istore 4, 2) := by decide +kernel
theorem dX10_sessionFor_112 : decode cX10_sessionFor 112 = .ok (.iinc 5 1, 3) := by decide +kernel
theorem dX10_sessionFor_115 : decode cX10_sessionFor 115 = .ok (.goto (-102), 3) := by decide +kernel
theorem dX10_sessionFor_118 : decode cX10_sessionFor 118 = .ok (.iload 4, 2) := by decide +kernel
theorem dX10_sessionFor_120 : decode cX10_sessionFor 120 = .ok (.ireturn, 1) := by decide +kernel
theorem dX10_bookAll_0 : decode cX10_bookAll 0 = .ok (.aload_n 0, 1) := by decide +kernel
theorem dX10_bookAll_1 : decode cX10_bookAll 1 = .ok (.getfield 32, 3) := by decide +kernel
theorem dX10_bookAll_4 : decode cX10_bookAll 4 = .ok (.invokevirtual 146, 3) := by decide +kernel
theorem dX10_bookAll_7 : decode cX10_bookAll 7 = .ok (.astore_n 1, 1) := by decide +kernel
theorem dX10_bookAll_8 : decode cX10_bookAll 8 = .ok (.aload_n 1, 1) := by decide +kernel
theorem dX10_bookAll_9 : decode cX10_bookAll 9 = .ok (.invokeinterface 150 1, 5) := by decide +kernel
theorem dX10_bookAll_14 : decode cX10_bookAll 14 = .ok (.ifCond .eq 91, 3) := by decide +kernel
theorem dX10_bookAll_17 : decode cX10_bookAll 17 = .ok (.aload_n 1, 1) := by decide +kernel
theorem dX10_bookAll_18 : decode cX10_bookAll 18 = .ok (.invokeinterface 156 1, 5) := by decide +kernel
theorem dX10_bookAll_23 : decode cX10_bookAll 23 = .ok (.checkcast 64, 3) := by decide +kernel
theorem dX10_bookAll_26 : decode cX10_bookAll 26 = .ok (.astore_n 2, 1) := by decide +kernel
theorem dX10_bookAll_27 : decode cX10_bookAll 27 = .ok (.iconst 0, 1) := by decide +kernel
theorem dX10_bookAll_28 : decode cX10_bookAll 28 = .ok (.istore_n 3, 1) := by decide +kernel
theorem dX10_bookAll_29 : decode cX10_bookAll 29 = .ok (.iload_n 3, 1) := by decide +kernel
theorem dX10_bookAll_30 : decode cX10_bookAll 30 = .ok (.aload_n 0, 1) := by decide +kernel
theorem dX10_bookAll_31 : decode cX10_bookAll 31 = .ok (.getfield 10, 3) := by decide +kernel
theorem dX10_bookAll_34 : decode cX10_bookAll 34 = .ok (.invokevirtual 43, 3) := by decide +kernel
theorem dX10_bookAll_37 : decode cX10_bookAll 37 = .ok (.if_icmp .ge 65, 3) := by decide +kernel
theorem dX10_bookAll_40 : decode cX10_bookAll 40 = .ok (.aload_n 2, 1) := by decide +kernel
theorem dX10_bookAll_41 : decode cX10_bookAll 41 = .ok (.getfield 140, 3) := by decide +kernel
theorem dX10_bookAll_44 : decode cX10_bookAll 44 = .ok (.ifCond .ne 52, 3) := by decide +kernel
theorem dX10_bookAll_47 : decode cX10_bookAll 47 = .ok (.aload_n 2, 1) := by decide +kernel
theorem dX10_bookAll_48 : decode cX10_bookAll 48 = .ok (.iload_n 3, 1) := by decide +kernel
theorem dX10_bookAll_49 : decode cX10_bookAll 49 = .ok (.iconst 0, 1) := by decide +kernel
theorem dX10_bookAll_50 : decode cX10_bookAll 50 = .ok (.invokevirtual 63, 3) := by decide +kernel
theorem dX10_bookAll_53 : decode cX10_bookAll 53 = .ok (.ifCond .eq 43, 3) := by decide +kernel
theorem dX10_bookAll_56 : decode cX10_bookAll 56 = .ok (.aload_n 0, 1) := by decide +kernel
theorem dX10_bookAll_57 : decode cX10_bookAll 57 = .ok (.getfield 10, 3) := by decide +kernel
theorem dX10_bookAll_60 : decode cX10_bookAll 60 = .ok (.iload_n 3, 1) := by decide +kernel
theorem dX10_bookAll_61 : decode cX10_bookAll 61 = .ok (.invokevirtual 51, 3) := by decide +kernel
theorem dX10_bookAll_64 : decode cX10_bookAll 64 = .ok (.checkcast 55, 3) := by decide +kernel
theorem dX10_bookAll_67 : decode cX10_bookAll 67 = .ok (.getfield 60, 3) := by decide +kernel
theorem dX10_bookAll_70 : decode cX10_bookAll 70 = .ok (.iconst 2, 1) := by decide +kernel
theorem dX10_bookAll_71 : decode cX10_bookAll 71 = .ok (.if_icmp .ne 25, 3) := by decide +kernel
theorem dX10_bookAll_74 : decode cX10_bookAll 74 = .ok (.aload_n 2, 1) := by decide +kernel
theorem dX10_bookAll_75 : decode cX10_bookAll 75 = .ok (.getfield 126, 3) := by decide +kernel
theorem dX10_bookAll_78 : decode cX10_bookAll 78 = .ok (.iload_n 3, 1) := by decide +kernel
theorem dX10_bookAll_79 : decode cX10_bookAll 79 = .ok (.iaload, 1) := by decide +kernel
theorem dX10_bookAll_80 : decode cX10_bookAll 80 = .ok (.iconst (-1), 1) := by decide +kernel
theorem dX10_bookAll_81 : decode cX10_bookAll 81 = .ok (.if_icmp .ne 15, 3) := by decide +kernel
theorem dX10_bookAll_84 : decode cX10_bookAll 84 = .ok (.aload_n 2, 1) := by decide +kernel
theorem dX10_bookAll_85 : decode cX10_bookAll 85 = .ok (.getfield 126, 3) := by decide +kernel
theorem dX10_bookAll_88 : decode cX10_bookAll 88 = .ok (.iload_n 3, 1) := by decide +kernel
theorem dX10_bookAll_89 : decode cX10_bookAll 89 = .ok (.aload_n 0, 1) := by decide +kernel
theorem dX10_bookAll_90 : decode cX10_bookAll 90 = .ok (.aload_n 2, 1) := by decide +kernel
theorem dX10_bookAll_91 : decode cX10_bookAll 91 = .ok (.iload_n 3, 1) := by decide +kernel
theorem dX10_bookAll_92 : decode cX10_bookAll 92 = .ok (.invokevirtual 169, 3) := by decide +kernel
theorem dX10_bookAll_95 : decode cX10_bookAll 95 = .ok (.iastore, 1) := by decide +kernel
theorem dX10_bookAll_96 : decode cX10_bookAll 96 = .ok (.iinc 3 1, 3) := by decide +kernel
theorem dX10_bookAll_99 : decode cX10_bookAll 99 = .ok (.goto (-70), 3) := by decide +kernel
theorem dX10_bookAll_102 : decode cX10_bookAll 102 = .ok (.goto (-94), 3) := by decide +kernel
theorem dX10_bookAll_105 : decode cX10_bookAll 105 = .ok (.return_, 1) := by decide +kernel
theorem dX10_isReady_0 : decode cX10_isReady 0 = .ok (.aload_n 1, 1) := by decide +kernel
theorem dX10_isReady_1 : decode cX10_isReady 1 = .ok (.getfield 140, 3) := by decide +kernel
theorem dX10_isReady_4 : decode cX10_isReady 4 = .ok (.ifCond .ne 48, 3) := by decide +kernel
theorem dX10_isReady_7 : decode cX10_isReady 7 = .ok (.aload_n 1, 1) := by decide +kernel
theorem dX10_isReady_8 : decode cX10_isReady 8 = .ok (.iload_n 2, 1) := by decide +kernel
theorem dX10_isReady_9 : decode cX10_isReady 9 = .ok (.iconst 0, 1) := by decide +kernel
theorem dX10_isReady_10 : decode cX10_isReady 10 = .ok (.invokevirtual 63, 3) := by decide +kernel
theorem dX10_isReady_13 : decode cX10_isReady 13 = .ok (.ifCond .eq 39, 3) := by decide +kernel
theorem dX10_isReady_16 : decode cX10_isReady 16 = .ok (.aload_n 1, 1) := by decide +kernel
theorem dX10_isReady_17 : decode cX10_isReady 17 = .ok (.getfield 106, 3) := by decide +kernel
theorem dX10_isReady_20 : decode cX10_isReady 20 = .ok (.aload_n 0, 1) := by decide +kernel
theorem dX10_isReady_21 : decode cX10_isReady 21 = .ok (.getfield 103, 3) := by decide +kernel
theorem dX10_isReady_24 : decode cX10_isReady 24 = .ok (.if_icmp .gt 28, 3) := by decide +kernel
theorem dX10_isReady_27 : decode cX10_isReady 27 = .ok (.aload_n 1, 1) := by decide +kernel
theorem dX10_isReady_28 : decode cX10_isReady 28 = .ok (.aload_n 0, 1) := by decide +kernel
theorem dX10_isReady_29 : decode cX10_isReady 29 = .ok (.getfield 10, 3) := by decide +kernel
theorem dX10_isReady_32 : decode cX10_isReady 32 = .ok (.iload_n 2, 1) := by decide +kernel
theorem dX10_isReady_33 : decode cX10_isReady 33 = .ok (.invokevirtual 51, 3) := by decide +kernel
theorem dX10_isReady_36 : decode cX10_isReady 36 = .ok (.checkcast 55, 3) := by decide +kernel
theorem dX10_isReady_39 : decode cX10_isReady 39 = .ok (.getfield 115, 3) := by decide +kernel
theorem dX10_isReady_42 : decode cX10_isReady 42 = .ok (.invokevirtual 172, 3) := by decide +kernel
theorem dX10_isReady_45 : decode cX10_isReady 45 = .ok (.ifCond .eq 7, 3) := by decide +kernel
theorem dX10_isReady_48 : decode cX10_isReady 48 = .ok (.iconst 1, 1) := by decide +kernel
theorem dX10_isReady_49 : decode cX10_isReady 49 = .ok (.goto 4, 3) := by decide +kernel
theorem dX10_isReady_52 : decode cX10_isReady 52 = .ok (.iconst 0, 1) := by decide +kernel
theorem dX10_isReady_53 : decode cX10_isReady 53 = .ok (.ireturn, 1) := by decide +kernel
theorem dX10_isToday_0 : decode cX10_isToday 0 = .ok (.aload_n 1, 1) := by decide +kernel
theorem dX10_isToday_1 : decode cX10_isToday 1 = .ok (.getfield 126, 3) := by decide +kernel
theorem dX10_isToday_4 : decode cX10_isToday 4 = .ok (.iload_n 2, 1) := by decide +kernel
theorem dX10_isToday_5 : decode cX10_isToday 5 = .ok (.iaload, 1) := by decide +kernel
theorem dX10_isToday_6 : decode cX10_isToday 6 = .ok (.iconst (-1), 1) := by decide +kernel
theorem dX10_isToday_7 : decode cX10_isToday 7 = .ok (.if_icmp .eq 33, 3) := by decide +kernel
theorem dX10_isToday_10 : decode cX10_isToday 10 = .ok (.aload_n 0, 1) := by decide +kernel
theorem dX10_isToday_11 : decode cX10_isToday 11 = .ok (.getfield 29, 3) := by decide +kernel
theorem dX10_isToday_14 : decode cX10_isToday 14 = .ok (.aload_n 1, 1) := by decide +kernel
theorem dX10_isToday_15 : decode cX10_isToday 15 = .ok (.getfield 126, 3) := by decide +kernel
theorem dX10_isToday_18 : decode cX10_isToday 18 = .ok (.iload_n 2, 1) := by decide +kernel
theorem dX10_isToday_19 : decode cX10_isToday 19 = .ok (.iaload, 1) := by decide +kernel
theorem dX10_isToday_20 : decode cX10_isToday 20 = .ok (.invokevirtual 51, 3) := by decide +kernel
theorem dX10_isToday_23 : decode cX10_isToday 23 = .ok (.checkcast 129, 3) := by decide +kernel
theorem dX10_isToday_26 : decode cX10_isToday 26 = .ok (.getfield 131, 3) := by decide +kernel
theorem dX10_isToday_29 : decode cX10_isToday 29 = .ok (.aload_n 0, 1) := by decide +kernel
theorem dX10_isToday_30 : decode cX10_isToday 30 = .ok (.getfield 103, 3) := by decide +kernel
theorem dX10_isToday_33 : decode cX10_isToday 33 = .ok (.if_icmp .ne 7, 3) := by decide +kernel
theorem dX10_isToday_36 : decode cX10_isToday 36 = .ok (.iconst 1, 1) := by decide +kernel
theorem dX10_isToday_37 : decode cX10_isToday 37 = .ok (.goto 4, 3) := by decide +kernel
theorem dX10_isToday_40 : decode cX10_isToday 40 = .ok (.iconst 0, 1) := by decide +kernel
theorem dX10_isToday_41 : decode cX10_isToday 41 = .ok (.ireturn, 1) := by decide +kernel
theorem dX10_canBegin_0 : decode cX10_canBegin 0 = .ok (.aload_n 0, 1) := by decide +kernel
theorem dX10_canBegin_1 : decode cX10_canBegin 1 = .ok (.getfield 10, 3) := by decide +kernel
theorem dX10_canBegin_4 : decode cX10_canBegin 4 = .ok (.iload_n 2, 1) := by decide +kernel
theorem dX10_canBegin_5 : decode cX10_canBegin 5 = .ok (.invokevirtual 51, 3) := by decide +kernel
theorem dX10_canBegin_8 : decode cX10_canBegin 8 = .ok (.checkcast 55, 3) := by decide +kernel
theorem dX10_canBegin_11 : decode cX10_canBegin 11 = .ok (.astore_n 3, 1) := by decide +kernel
theorem dX10_canBegin_12 : decode cX10_canBegin 12 = .ok (.aload_n 0, 1) := by decide +kernel
theorem dX10_canBegin_13 : decode cX10_canBegin 13 = .ok (.aload_n 1, 1) := by decide +kernel
theorem dX10_canBegin_14 : decode cX10_canBegin 14 = .ok (.iload_n 2, 1) := by decide +kernel
theorem dX10_canBegin_15 : decode cX10_canBegin 15 = .ok (.invokevirtual 176, 3) := by decide +kernel
theorem dX10_canBegin_18 : decode cX10_canBegin 18 = .ok (.ifCond .ne 5, 3) := by decide +kernel
theorem dX10_canBegin_21 : decode cX10_canBegin 21 = .ok (.iconst 0, 1) := by decide +kernel
theorem dX10_canBegin_22 : decode cX10_canBegin 22 = .ok (.ireturn, 1) := by decide +kernel
theorem dX10_canBegin_23 : decode cX10_canBegin 23 = .ok (.aload_n 3, 1) := by decide +kernel
theorem dX10_canBegin_24 : decode cX10_canBegin 24 = .ok (.getfield 60, 3) := by decide +kernel
theorem dX10_canBegin_27 : decode cX10_canBegin 27 = .ok (.iconst 1, 1) := by decide +kernel
theorem dX10_canBegin_28 : decode cX10_canBegin 28 = .ok (.if_icmp .ne 23, 3) := by decide +kernel
theorem dX10_canBegin_31 : decode cX10_canBegin 31 = .ok (.aload_n 0, 1) := by decide +kernel
theorem dX10_canBegin_32 : decode cX10_canBegin 32 = .ok (.getfield 23, 3) := by decide +kernel
theorem dX10_canBegin_35 : decode cX10_canBegin 35 = .ok (.aload_n 3, 1) := by decide +kernel
theorem dX10_canBegin_36 : decode cX10_canBegin 36 = .ok (.getfield 57, 3) := by decide +kernel
theorem dX10_canBegin_39 : decode cX10_canBegin 39 = .ok (.iaload, 1) := by decide +kernel
theorem dX10_canBegin_40 : decode cX10_canBegin 40 = .ok (.ifCond .le 7, 3) := by decide +kernel
theorem dX10_canBegin_43 : decode cX10_canBegin 43 = .ok (.iconst 1, 1) := by decide +kernel
theorem dX10_canBegin_44 : decode cX10_canBegin 44 = .ok (.goto 29, 3) := by decide +kernel
theorem dX10_canBegin_47 : decode cX10_canBegin 47 = .ok (.iconst 0, 1) := by decide +kernel
theorem dX10_canBegin_48 : decode cX10_canBegin 48 = .ok (.goto 25, 3) := by decide +kernel
theorem dX10_canBegin_51 : decode cX10_canBegin 51 = .ok (.aload_n 3, 1) := by decide +kernel
theorem dX10_canBegin_52 : decode cX10_canBegin 52 = .ok (.getfield 60, 3) := by decide +kernel
theorem dX10_canBegin_55 : decode cX10_canBegin 55 = .ok (.iconst 2, 1) := by decide +kernel
theorem dX10_canBegin_56 : decode cX10_canBegin 56 = .ok (.if_icmp .ne 12, 3) := by decide +kernel
theorem dX10_canBegin_59 : decode cX10_canBegin 59 = .ok (.aload_n 0, 1) := by decide +kernel
theorem dX10_canBegin_60 : decode cX10_canBegin 60 = .ok (.aload_n 1, 1) := by decide +kernel
theorem dX10_canBegin_61 : decode cX10_canBegin 61 = .ok (.iload_n 2, 1) := by decide +kernel
theorem dX10_canBegin_62 : decode cX10_canBegin 62 = .ok (.invokevirtual 180, 3) := by decide +kernel
theorem dX10_canBegin_65 : decode cX10_canBegin 65 = .ok (.ifCond .eq 7, 3) := by decide +kernel
theorem dX10_canBegin_68 : decode cX10_canBegin 68 = .ok (.iconst 1, 1) := by decide +kernel
theorem dX10_canBegin_69 : decode cX10_canBegin 69 = .ok (.goto 4, 3) := by decide +kernel
theorem dX10_canBegin_72 : decode cX10_canBegin 72 = .ok (.iconst 0, 1) := by decide +kernel
theorem dX10_canBegin_73 : decode cX10_canBegin 73 = .ok (.ireturn, 1) := by decide +kernel
theorem dX10_begin_0 : decode cX10_begin 0 = .ok (.aload_n 1, 1) := by decide +kernel
theorem dX10_begin_1 : decode cX10_begin 1 = .ok (.getfield 78, 3) := by decide +kernel
theorem dX10_begin_4 : decode cX10_begin 4 = .ok (.iload_n 2, 1) := by decide +kernel
theorem dX10_begin_5 : decode cX10_begin 5 = .ok (.aload_n 0, 1) := by decide +kernel
theorem dX10_begin_6 : decode cX10_begin 6 = .ok (.aload_n 1, 1) := by decide +kernel
theorem dX10_begin_7 : decode cX10_begin 7 = .ok (.iload_n 2, 1) := by decide +kernel
theorem dX10_begin_8 : decode cX10_begin 8 = .ok (.invokevirtual 138, 3) := by decide +kernel
theorem dX10_begin_11 : decode cX10_begin 11 = .ok (.iastore, 1) := by decide +kernel
theorem dX10_begin_12 : decode cX10_begin 12 = .ok (.aload_n 1, 1) := by decide +kernel
theorem dX10_begin_13 : decode cX10_begin 13 = .ok (.getfield 75, 3) := by decide +kernel
theorem dX10_begin_16 : decode cX10_begin 16 = .ok (.iload_n 2, 1) := by decide +kernel
theorem dX10_begin_17 : decode cX10_begin 17 = .ok (.iconst 1, 1) := by decide +kernel
theorem dX10_begin_18 : decode cX10_begin 18 = .ok (.iastore, 1) := by decide +kernel
theorem dX10_begin_19 : decode cX10_begin 19 = .ok (.aload_n 1, 1) := by decide +kernel
theorem dX10_begin_20 : decode cX10_begin 20 = .ok (.getfield 100, 3) := by decide +kernel
theorem dX10_begin_23 : decode cX10_begin 23 = .ok (.iload_n 2, 1) := by decide +kernel
theorem dX10_begin_24 : decode cX10_begin 24 = .ok (.aload_n 0, 1) := by decide +kernel
theorem dX10_begin_25 : decode cX10_begin 25 = .ok (.getfield 103, 3) := by decide +kernel
theorem dX10_begin_28 : decode cX10_begin 28 = .ok (.iastore, 1) := by decide +kernel
theorem dX10_begin_29 : decode cX10_begin 29 = .ok (.aload_n 0, 1) := by decide +kernel
theorem dX10_begin_30 : decode cX10_begin 30 = .ok (.getfield 10, 3) := by decide +kernel
theorem dX10_begin_33 : decode cX10_begin 33 = .ok (.iload_n 2, 1) := by decide +kernel
theorem dX10_begin_34 : decode cX10_begin 34 = .ok (.invokevirtual 51, 3) := by decide +kernel
theorem dX10_begin_37 : decode cX10_begin 37 = .ok (.checkcast 55, 3) := by decide +kernel
theorem dX10_begin_40 : decode cX10_begin 40 = .ok (.getfield 60, 3) := by decide +kernel
theorem dX10_begin_43 : decode cX10_begin 43 = .ok (.iconst 1, 1) := by decide +kernel
theorem dX10_begin_44 : decode cX10_begin 44 = .ok (.if_icmp .ne 26, 3) := by decide +kernel
theorem dX10_begin_47 : decode cX10_begin 47 = .ok (.aload_n 0, 1) := by decide +kernel
theorem dX10_begin_48 : decode cX10_begin 48 = .ok (.getfield 23, 3) := by decide +kernel
