theorem dX4_init_29 : decode cX4_init 29 = .ok (.bipush 20, 2) := by decide +kernel
theorem dX4_init_31 : decode cX4_init 31 = .ok (.newarray .int, 2) := by decide +kernel
theorem dX4_init_33 : decode cX4_init 33 = .ok (.putfield 21, 3) := by decide +kernel
theorem dX4_init_36 : decode cX4_init 36 = .ok (.return_, 1) := by decide +kernel
theorem dX4_addSession_0 : decode cX4_addSession 0 = .ok (.aload_n 0, 1) := by decide +kernel
theorem dX4_addSession_1 : decode cX4_addSession 1 = .ok (.getfield 24, 3) := by decide +kernel
theorem dX4_addSession_4 : decode cX4_addSession 4 = .ok (.bipush 20, 2) := by decide +kernel
theorem dX4_addSession_6 : decode cX4_addSession 6 = .ok (.if_icmp .lt 5, 3) := by decide +kernel
theorem dX4_addSession_9 : decode cX4_addSession 9 = .ok (.iconst (-1), 1) := by decide +kernel
theorem dX4_addSession_10 : decode cX4_addSession 10 = .ok (.ireturn, 1) := by decide +kernel
theorem dX4_addSession_11 : decode cX4_addSession 11 = .ok (.aload_n 0, 1) := by decide +kernel
theorem dX4_addSession_12 : decode cX4_addSession 12 = .ok (.getfield 9, 3) := by decide +kernel
theorem dX4_addSession_15 : decode cX4_addSession 15 = .ok (.aload_n 0, 1) := by decide +kernel
theorem dX4_addSession_16 : decode cX4_addSession 16 = .ok (.getfield 24, 3) := by decide +kernel
theorem dX4_addSession_19 : decode cX4_addSession 19 = .ok (.iload_n 1, 1) := by decide +kernel
theorem dX4_addSession_20 : decode cX4_addSession 20 = .ok (.iastore, 1) := by decide +kernel
theorem dX4_addSession_21 : decode cX4_addSession 21 = .ok (.aload_n 0, 1) := by decide +kernel
theorem dX4_addSession_22 : decode cX4_addSession 22 = .ok (.getfield 15, 3) := by decide +kernel
theorem dX4_addSession_25 : decode cX4_addSession 25 = .ok (.aload_n 0, 1) := by decide +kernel
theorem dX4_addSession_26 : decode cX4_addSession 26 = .ok (.getfield 24, 3) := by decide +kernel
theorem dX4_addSession_29 : decode cX4_addSession 29 = .ok (.iload_n 2, 1) := by decide +kernel
theorem dX4_addSession_30 : decode cX4_addSession 30 = .ok (.iastore, 1) := by decide +kernel
theorem dX4_addSession_31 : decode cX4_addSession 31 = .ok (.aload_n 0, 1) := by decide +kernel
theorem dX4_addSession_32 : decode cX4_addSession 32 = .ok (.getfield 18, 3) := by decide +kernel
theorem dX4_addSession_35 : decode cX4_addSession 35 = .ok (.aload_n 0, 1) := by decide +kernel
theorem dX4_addSession_36 : decode cX4_addSession 36 = .ok (.getfield 24, 3) := by decide +kernel
theorem dX4_addSession_39 : decode cX4_addSession 39 = .ok (.iload_n 3, 1) := by decide +kernel
theorem dX4_addSession_40 : decode cX4_addSession 40 = .ok (.iastore, 1) := by decide +kernel
theorem dX4_addSession_41 : decode cX4_addSession 41 = .ok (.aload_n 0, 1) := by decide +kernel
theorem dX4_addSession_42 : decode cX4_addSession 42 = .ok (.dup, 1) := by decide +kernel
theorem dX4_addSession_43 : decode cX4_addSession 43 = .ok (.getfield 24, 3) := by decide +kernel
theorem dX4_addSession_46 : decode cX4_addSession 46 = .ok (.iconst 1, 1) := by decide +kernel
theorem dX4_addSession_47 : decode cX4_addSession 47 = .ok (.iadd, 1) := by decide +kernel
theorem dX4_addSession_48 : decode cX4_addSession 48 = .ok (.putfield 24, 3) := by decide +kernel
theorem dX4_addSession_51 : decode cX4_addSession 51 = .ok (.aload_n 0, 1) := by decide +kernel
theorem dX4_addSession_52 : decode cX4_addSession 52 = .ok (.getfield 24, 3) := by decide +kernel
theorem dX4_addSession_55 : decode cX4_addSession 55 = .ok (.iconst 1, 1) := by decide +kernel
theorem dX4_addSession_56 : decode cX4_addSession 56 = .ok (.isub, 1) := by decide +kernel
theorem dX4_addSession_57 : decode cX4_addSession 57 = .ok (.ireturn, 1) := by decide +kernel
theorem dX4_dayOf_0 : decode cX4_dayOf 0 = .ok (.iload_n 1, 1) := by decide +kernel
theorem dX4_dayOf_1 : decode cX4_dayOf 1 = .ok (.ifCond .lt 11, 3) := by decide +kernel
theorem dX4_dayOf_4 : decode cX4_dayOf 4 = .ok (.iload_n 1, 1) := by decide +kernel
theorem dX4_dayOf_5 : decode cX4_dayOf 5 = .ok (.aload_n 0, 1) := by decide +kernel
theorem dX4_dayOf_6 : decode cX4_dayOf 6 = .ok (.getfield 24, 3) := by decide +kernel
theorem dX4_dayOf_9 : decode cX4_dayOf 9 = .ok (.if_icmp .lt 7, 3) := by decide +kernel
theorem dX4_dayOf_12 : decode cX4_dayOf 12 = .ok (.iconst (-1), 1) := by decide +kernel
theorem dX4_dayOf_13 : decode cX4_dayOf 13 = .ok (.goto 9, 3) := by decide +kernel
theorem dX4_dayOf_16 : decode cX4_dayOf 16 = .ok (.aload_n 0, 1) := by decide +kernel
theorem dX4_dayOf_17 : decode cX4_dayOf 17 = .ok (.getfield 15, 3) := by decide +kernel
theorem dX4_dayOf_20 : decode cX4_dayOf 20 = .ok (.iload_n 1, 1) := by decide +kernel
theorem dX4_dayOf_21 : decode cX4_dayOf 21 = .ok (.iaload, 1) := by decide +kernel
theorem dX4_dayOf_22 : decode cX4_dayOf 22 = .ok (.ireturn, 1) := by decide +kernel
theorem dX4_book_0 : decode cX4_book 0 = .ok (.iload_n 2, 1) := by decide +kernel
theorem dX4_book_1 : decode cX4_book 1 = .ok (.iconst (-1), 1) := by decide +kernel
theorem dX4_book_2 : decode cX4_book 2 = .ok (.if_icmp .ne 5, 3) := by decide +kernel
theorem dX4_book_5 : decode cX4_book 5 = .ok (.iconst (-1), 1) := by decide +kernel
theorem dX4_book_6 : decode cX4_book 6 = .ok (.ireturn, 1) := by decide +kernel
theorem dX4_book_7 : decode cX4_book 7 = .ok (.iconst (-1), 1) := by decide +kernel
theorem dX4_book_8 : decode cX4_book 8 = .ok (.istore_n 3, 1) := by decide +kernel
theorem dX4_book_9 : decode cX4_book 9 = .ok (.iconst 0, 1) := by decide +kernel
theorem dX4_book_10 : decode cX4_book 10 = .ok (.istore 4, 2) := by decide +kernel
theorem dX4_book_12 : decode cX4_book 12 = .ok (.iload 4, 2) := by decide +kernel
theorem dX4_book_14 : decode cX4_book 14 = .ok (.aload_n 0, 1) := by decide +kernel
theorem dX4_book_15 : decode cX4_book 15 = .ok (.getfield 24, 3) := by decide +kernel
theorem dX4_book_18 : decode cX4_book 18 = .ok (.if_icmp .ge 83, 3) := by decide +kernel
theorem dX4_book_21 : decode cX4_book 21 = .ok (.aload_n 0, 1) := by decide +kernel
theorem dX4_book_22 : decode cX4_book 22 = .ok (.getfield 9, 3) := by decide +kernel
theorem dX4_book_25 : decode cX4_book 25 = .ok (.iload 4, 2) := by decide +kernel
theorem dX4_book_27 : decode cX4_book 27 = .ok (.iaload, 1) := by decide +kernel
theorem dX4_book_28 : decode cX4_book 28 = .ok (.iload_n 1, 1) := by decide +kernel
theorem dX4_book_29 : decode cX4_book 29 = .ok (.if_icmp .ne 35, 3) := by decide +kernel
theorem dX4_book_32 : decode cX4_book 32 = .ok (.aload_n 0, 1) := by decide +kernel
theorem dX4_book_33 : decode cX4_book 33 = .ok (.getfield 21, 3) := by decide +kernel
theorem dX4_book_36 : decode cX4_book 36 = .ok (.iload 4, 2) := by decide +kernel
theorem dX4_book_38 : decode cX4_book 38 = .ok (.iaload, 1) := by decide +kernel
theorem dX4_book_39 : decode cX4_book 39 = .ok (.aload_n 0, 1) := by decide +kernel
theorem dX4_book_40 : decode cX4_book 40 = .ok (.getfield 18, 3) := by decide +kernel
theorem dX4_book_43 : decode cX4_book 43 = .ok (.iload 4, 2) := by decide +kernel
theorem dX4_book_45 : decode cX4_book 45 = .ok (.iaload, 1) := by decide +kernel
theorem dX4_book_46 : decode cX4_book 46 = .ok (.if_icmp .ge 18, 3) := by decide +kernel
theorem dX4_book_49 : decode cX4_book 49 = .ok (.aload_n 0, 1) := by decide +kernel
theorem dX4_book_50 : decode cX4_book 50 = .ok (.getfield 15, 3) := by decide +kernel
theorem dX4_book_53 : decode cX4_book 53 = .ok (.iload 4, 2) := by decide +kernel
theorem dX4_book_55 : decode cX4_book 55 = .ok (.iaload, 1) := by decide +kernel
theorem dX4_book_56 : decode cX4_book 56 = .ok (.iload_n 2, 1) := by decide +kernel
theorem dX4_book_57 : decode cX4_book 57 = .ok (.if_icmp .lt 7, 3) := by decide +kernel
theorem dX4_book_60 : decode cX4_book 60 = .ok (.iconst 1, 1) := by decide +kernel
theorem dX4_book_61 : decode cX4_book 61 = .ok (.goto 4, 3) := by decide +kernel
theorem dX4_book_64 : decode cX4_book 64 = .ok (.iconst 0, 1) := by decide +kernel
theorem dX4_book_65 : decode cX4_book 65 = .ok (.istore 5, 2) := by decide +kernel
theorem dX4_book_67 : decode cX4_book 67 = .ok (.iload 5, 2) := by decide +kernel
theorem dX4_book_69 : decode cX4_book 69 = .ok (.ifCond .eq 26, 3) := by decide +kernel
theorem dX4_book_72 : decode cX4_book 72 = .ok (.iload_n 3, 1) := by decide +kernel
theorem dX4_book_73 : decode cX4_book 73 = .ok (.iconst (-1), 1) := by decide +kernel
theorem dX4_book_74 : decode cX4_book 74 = .ok (.if_icmp .eq 18, 3) := by decide +kernel
theorem dX4_book_77 : decode cX4_book 77 = .ok (.aload_n 0, 1) := by decide +kernel
theorem dX4_book_78 : decode cX4_book 78 = .ok (.getfield 15, 3) := by decide +kernel
theorem dX4_book_81 : decode cX4_book 81 = .ok (.iload 4, 2) := by decide +kernel
theorem dX4_book_83 : decode cX4_book 83 = .ok (.iaload, 1) := by decide +kernel
theorem dX4_book_84 : decode cX4_book 84 = .ok (.aload_n 0, 1) := by decide +kernel
theorem dX4_book_85 : decode cX4_book 85 = .ok (.iload_n 3, 1) := by decide +kernel
theorem dX4_book_86 : decode cX4_book 86 = .ok (.invokevirtual 28, 3) := by decide +kernel
theorem dX4_book_89 : decode cX4_book 89 = .ok (.if_icmp .ge 6, 3) := by decide +kernel
theorem dX4_book_92 : decode cX4_book 92 = .ok (.iload 4, 2) := by decide +kernel
theorem dX4_book_94 : decode cX4_book 94 = .ok (.istore_n 3, 1) := by decide +kernel
theorem dX4_book_95 : decode cX4_book 95 = .ok (.iinc 4 1, 3) := by decide +kernel
theorem dX4_book_98 : decode cX4_book 98 = .ok (.goto (-86), 3) := by decide +kernel
theorem dX4_book_101 : decode cX4_book 101 = .ok (.iload_n 3, 1) := by decide +kernel
theorem dX4_book_102 : decode cX4_book 102 = .ok (.ifCond .lt 21, 3) := by decide +kernel
theorem dX4_book_105 : decode cX4_book 105 = .ok (.iload_n 3, 1) := by decide +kernel
theorem dX4_book_106 : decode cX4_book 106 = .ok (.aload_n 0, 1) := by decide +kernel
theorem dX4_book_107 : decode cX4_book 107 = .ok (.getfield 24, 3) := by decide +kernel
theorem dX4_book_110 : decode cX4_book 110 = .ok (.if_icmp .ge 13, 3) := by decide +kernel
theorem dX4_book_113 : decode cX4_book 113 = .ok (.aload_n 0, 1) := by decide +kernel
theorem dX4_book_114 : decode cX4_book 114 = .ok (.getfield 21, 3) := by decide +kernel
theorem dX4_book_117 : decode cX4_book 117 = .ok (.iload_n 3, 1) := by decide +kernel
theorem dX4_book_118 : decode cX4_book 118 = .ok (.dup2, 1) := by decide +kernel
theorem dX4_book_119 : decode cX4_book 119 = .ok (.iaload, 1) := by decide +kernel
theorem dX4_book_120 : decode cX4_book 120 = .ok (.iconst 1, 1) := by decide +kernel
theorem dX4_book_121 : decode cX4_book 121 = .ok (.iadd, 1) := by decide +kernel
theorem dX4_book_122 : decode cX4_book 122 = .ok (.iastore, 1) := by decide +kernel
theorem dX4_book_123 : decode cX4_book 123 = .ok (.iload_n 3, 1) := by decide +kernel
theorem dX4_book_124 : decode cX4_book 124 = .ok (.ireturn, 1) := by decide +kernel
theorem dX4_release_0 : decode cX4_release 0 = .ok (.iload_n 1, 1) := by decide +kernel
theorem dX4_release_1 : decode cX4_release 1 = .ok (.ifCond .lt 21, 3) := by decide +kernel
theorem dX4_release_4 : decode cX4_release 4 = .ok (.iload_n 1, 1) := by decide +kernel
theorem dX4_release_5 : decode cX4_release 5 = .ok (.aload_n 0, 1) := by decide +kernel
theorem dX4_release_6 : decode cX4_release 6 = .ok (.getfield 24, 3) := by decide +kernel
theorem dX4_release_9 : decode cX4_release 9 = .ok (.if_icmp .ge 13, 3) := by decide +kernel
theorem dX4_release_12 : decode cX4_release 12 = .ok (.aload_n 0, 1) := by decide +kernel
theorem dX4_release_13 : decode cX4_release 13 = .ok (.getfield 21, 3) := by decide +kernel
theorem dX4_release_16 : decode cX4_release 16 = .ok (.iload_n 1, 1) := by decide +kernel
theorem dX4_release_17 : decode cX4_release 17 = .ok (.dup2, 1) := by decide +kernel
theorem dX4_release_18 : decode cX4_release 18 = .ok (.iaload, 1) := by decide +kernel
theorem dX4_release_19 : decode cX4_release 19 = .ok (.iconst 1, 1) := by decide +kernel
theorem dX4_release_20 : decode cX4_release 20 = .ok (.isub, 1) := by decide +kernel
theorem dX4_release_21 : decode cX4_release 21 = .ok (.iastore, 1) := by decide +kernel
theorem dX4_release_22 : decode cX4_release 22 = .ok (.return_, 1) := by decide +kernel
theorem dX4_seatsTaken_0 : decode cX4_seatsTaken 0 = .ok (.iconst 0, 1) := by decide +kernel
theorem dX4_seatsTaken_1 : decode cX4_seatsTaken 1 = .ok (.istore_n 1, 1) := by decide +kernel
theorem dX4_seatsTaken_2 : decode cX4_seatsTaken 2 = .ok (.iconst 0, 1) := by decide +kernel
theorem dX4_seatsTaken_3 : decode cX4_seatsTaken 3 = .ok (.istore_n 2, 1) := by decide +kernel
theorem dX4_seatsTaken_4 : decode cX4_seatsTaken 4 = .ok (.iload_n 2, 1) := by decide +kernel
theorem dX4_seatsTaken_5 : decode cX4_seatsTaken 5 = .ok (.aload_n 0, 1) := by decide +kernel
theorem dX4_seatsTaken_6 : decode cX4_seatsTaken 6 = .ok (.getfield 24, 3) := by decide +kernel
theorem dX4_seatsTaken_9 : decode cX4_seatsTaken 9 = .ok (.if_icmp .ge 18, 3) := by decide +kernel
theorem dX4_seatsTaken_12 : decode cX4_seatsTaken 12 = .ok (.iload_n 1, 1) := by decide +kernel
theorem dX4_seatsTaken_13 : decode cX4_seatsTaken 13 = .ok (.aload_n 0, 1) := by decide +kernel
theorem dX4_seatsTaken_14 : decode cX4_seatsTaken 14 = .ok (.getfield 21, 3) := by decide +kernel
theorem dX4_seatsTaken_17 : decode cX4_seatsTaken 17 = .ok (.iload_n 2, 1) := by decide +kernel
theorem dX4_seatsTaken_18 : decode cX4_seatsTaken 18 = .ok (.iaload, 1) := by decide +kernel
theorem dX4_seatsTaken_19 : decode cX4_seatsTaken 19 = .ok (.iadd, 1) := by decide +kernel
theorem dX4_seatsTaken_20 : decode cX4_seatsTaken 20 = .ok (.istore_n 1, 1) := by decide +kernel
theorem dX4_seatsTaken_21 : decode cX4_seatsTaken 21 = .ok (.iinc 2 1, 3) := by decide +kernel
theorem dX4_seatsTaken_24 : decode cX4_seatsTaken 24 = .ok (.goto (-20), 3) := by decide +kernel
theorem dX4_seatsTaken_27 : decode cX4_seatsTaken 27 = .ok (.iload_n 1, 1) := by decide +kernel
theorem dX4_seatsTaken_28 : decode cX4_seatsTaken 28 = .ok (.ireturn, 1) := by decide +kernel
theorem dX5_init_0 : decode cX5_init 0 = .ok (.aload_n 0, 1) := by decide +kernel
theorem dX5_init_1 : decode cX5_init 1 = .ok (.invokespecial 1, 3) := by decide +kernel
theorem dX5_init_4 : decode cX5_init 4 = .ok (.aload_n 0, 1) := by decide +kernel
theorem dX5_init_5 : decode cX5_init 5 = .ok (.new 7, 3) := by decide +kernel
theorem dX5_init_8 : decode cX5_init 8 = .ok (.dup, 1) := by decide +kernel
theorem dX5_init_9 : decode cX5_init 9 = .ok (.invokespecial 9, 3) := by decide +kernel
theorem dX5_init_12 : decode cX5_init 12 = .ok (.putfield 10, 3) := by decide +kernel
theorem dX5_init_15 : decode cX5_init 15 = .ok (.aload_n 0, 1) := by decide +kernel
theorem dX5_init_16 : decode cX5_init 16 = .ok (.new 16, 3) := by decide +kernel
theorem dX5_init_19 : decode cX5_init 19 = .ok (.dup, 1) := by decide +kernel
theorem dX5_init_20 : decode cX5_init 20 = .ok (.invokespecial 18, 3) := by decide +kernel
theorem dX5_init_23 : decode cX5_init 23 = .ok (.putfield 19, 3) := by decide +kernel
theorem dX5_init_26 : decode cX5_init 26 = .ok (.aload_n 0, 1) := by decide +kernel
theorem dX5_init_27 : decode cX5_init 27 = .ok (.new 23, 3) := by decide +kernel
theorem dX5_init_30 : decode cX5_init 30 = .ok (.dup, 1) := by decide +kernel
theorem dX5_init_31 : decode cX5_init 31 = .ok (.invokespecial 25, 3) := by decide +kernel
theorem dX5_init_34 : decode cX5_init 34 = .ok (.putfield 26, 3) := by decide +kernel
theorem dX5_init_37 : decode cX5_init 37 = .ok (.aload_n 0, 1) := by decide +kernel
theorem dX5_init_38 : decode cX5_init 38 = .ok (.new 30, 3) := by decide +kernel
theorem dX5_init_41 : decode cX5_init 41 = .ok (.dup, 1) := by decide +kernel
theorem dX5_init_42 : decode cX5_init 42 = .ok (.aload_n 0, 1) := by decide +kernel
theorem dX5_init_43 : decode cX5_init 43 = .ok (.getfield 10, 3) := by decide +kernel
theorem dX5_init_46 : decode cX5_init 46 = .ok (.aload_n 0, 1) := by decide +kernel
theorem dX5_init_47 : decode cX5_init 47 = .ok (.getfield 19, 3) := by decide +kernel
theorem dX5_init_50 : decode cX5_init 50 = .ok (.aload_n 0, 1) := by decide +kernel
theorem dX5_init_51 : decode cX5_init 51 = .ok (.getfield 26, 3) := by decide +kernel
theorem dX5_init_54 : decode cX5_init 54 = .ok (.invokespecial 32, 3) := by decide +kernel
theorem dX5_init_57 : decode cX5_init 57 = .ok (.putfield 35, 3) := by decide +kernel
theorem dX5_init_60 : decode cX5_init 60 = .ok (.aload_n 0, 1) := by decide +kernel
theorem dX5_init_61 : decode cX5_init 61 = .ok (.bipush 8, 2) := by decide +kernel
theorem dX5_init_63 : decode cX5_init 63 = .ok (.anewarray 39, 3) := by decide +kernel
theorem dX5_init_66 : decode cX5_init 66 = .ok (.putfield 41, 3) := by decide +kernel
theorem dX5_init_69 : decode cX5_init 69 = .ok (.iconst 0, 1) := by decide +kernel
theorem dX5_init_70 : decode cX5_init 70 = .ok (.istore_n 1, 1) := by decide +kernel
theorem dX5_init_71 : decode cX5_init 71 = .ok (.iload_n 1, 1) := by decide +kernel
theorem dX5_init_72 : decode cX5_init 72 = .ok (.bipush 8, 2) := by decide +kernel
theorem dX5_init_74 : decode cX5_init 74 = .ok (.if_icmp .ge 22, 3) := by decide +kernel
theorem dX5_init_77 : decode cX5_init 77 = .ok (.aload_n 0, 1) := by decide +kernel
theorem dX5_init_78 : decode cX5_init 78 = .ok (.getfield 41, 3) := by decide +kernel
theorem dX5_init_81 : decode cX5_init 81 = .ok (.iload_n 1, 1) := by decide +kernel
theorem dX5_init_82 : decode cX5_init 82 = .ok (.new 39, 3) := by decide +kernel
theorem dX5_init_85 : decode cX5_init 85 = .ok (.dup, 1) := by decide +kernel
theorem dX5_init_86 : decode cX5_init 86 = .ok (.invokespecial 45, 3) := by decide +kernel
theorem dX5_init_89 : decode cX5_init 89 = .ok (.aastore, 1) := by decide +kernel
theorem dX5_init_90 : decode cX5_init 90 = .ok (.iinc 1 1, 3) := by decide +kernel
theorem dX5_init_93 : decode cX5_init 93 = .ok (.goto (-22), 3) := by decide +kernel
theorem dX5_init_96 : decode cX5_init 96 = .ok (.return_, 1) := by decide +kernel
theorem dX5_step_0 : decode cX5_step 0 = .ok (.iload_n 1, 1) := by decide +kernel
theorem dX5_step_1 : decode cX5_step 1 = .ok (.iconst 0, 1) := by decide +kernel
theorem dX5_step_2 : decode cX5_step 2 = .ok (.iconst 3, 1) := by decide +kernel
theorem dX5_step_3 : decode cX5_step 3 = .ok (.invokestatic 46, 3) := by decide +kernel
theorem dX5_step_6 : decode cX5_step 6 = .ok (.ifCond .eq 33, 3) := by decide +kernel
theorem dX5_step_9 : decode cX5_step 9 = .ok (.iload_n 2, 1) := by decide +kernel
theorem dX5_step_10 : decode cX5_step 10 = .ok (.iconst 1, 1) := by decide +kernel
theorem dX5_step_11 : decode cX5_step 11 = .ok (.bipush 9, 2) := by decide +kernel
theorem dX5_step_13 : decode cX5_step 13 = .ok (.invokestatic 46, 3) := by decide +kernel
theorem dX5_step_16 : decode cX5_step 16 = .ok (.ifCond .eq 23, 3) := by decide +kernel
theorem dX5_step_19 : decode cX5_step 19 = .ok (.aload_n 0, 1) := by decide +kernel
theorem dX5_step_20 : decode cX5_step 20 = .ok (.getfield 10, 3) := by decide +kernel
theorem dX5_step_23 : decode cX5_step 23 = .ok (.iload_n 3, 1) := by decide +kernel
theorem dX5_step_24 : decode cX5_step 24 = .ok (.invokevirtual 50, 3) := by decide +kernel
theorem dX5_step_27 : decode cX5_step 27 = .ok (.ifCond .eq 12, 3) := by decide +kernel
theorem dX5_step_30 : decode cX5_step 30 = .ok (.iload_n 1, 1) := by decide +kernel
theorem dX5_step_31 : decode cX5_step 31 = .ok (.iload 4, 2) := by decide +kernel
theorem dX5_step_33 : decode cX5_step 33 = .ok (.invokestatic 54, 3) := by decide +kernel
theorem dX5_step_36 : decode cX5_step 36 = .ok (.ifCond .ne 13, 3) := by decide +kernel
theorem dX5_step_39 : decode cX5_step 39 = .ok (.new 58, 3) := by decide +kernel
theorem dX5_step_42 : decode cX5_step 42 = .ok (.dup, 1) := by decide +kernel
theorem dX5_step_43 : decode cX5_step 43 = .ok (.ldc 60, 2) := by decide +kernel
theorem dX5_step_45 : decode cX5_step 45 = .ok (.invokespecial 62, 3) := by decide +kernel
theorem dX5_step_48 : decode cX5_step 48 = .ok (.athrow, 1) := by decide +kernel
theorem dX5_step_49 : decode cX5_step 49 = .ok (.aload_n 0, 1) := by decide +kernel
theorem dX5_step_50 : decode cX5_step 50 = .ok (.getfield 10, 3) := by decide +kernel
theorem dX5_step_53 : decode cX5_step 53 = .ok (.iload_n 1, 1) := by decide +kernel
theorem dX5_step_54 : decode cX5_step 54 = .ok (.iload_n 2, 1) := by decide +kernel
theorem dX5_step_55 : decode cX5_step 55 = .ok (.iload_n 3, 1) := by decide +kernel
theorem dX5_step_56 : decode cX5_step 56 = .ok (.iload 4, 2) := by decide +kernel
theorem dX5_step_58 : decode cX5_step 58 = .ok (.invokevirtual 65, 3) := by decide +kernel
theorem dX5_step_61 : decode cX5_step 61 = .ok (.istore 5, 2) := by decide +kernel
theorem dX5_step_63 : decode cX5_step 63 = .ok (.iload 5, 2) := by decide +kernel
theorem dX5_step_65 : decode cX5_step 65 = .ok (.iconst (-1), 1) := by decide +kernel
theorem dX5_step_66 : decode cX5_step 66 = .ok (.if_icmp .ne 13, 3) := by decide +kernel
theorem dX5_step_69 : decode cX5_step 69 = .ok (.new 69, 3) := by decide +kernel
theorem dX5_step_72 : decode cX5_step 72 = .ok (.dup, 1) := by decide +kernel
theorem dX5_step_73 : decode cX5_step 73 = .ok (.ldc 71, 2) := by decide +kernel
theorem dX5_step_75 : decode cX5_step 75 = .ok (.invokespecial 73, 3) := by decide +kernel
theorem dX5_step_78 : decode cX5_step 78 = .ok (.athrow, 1) := by decide +kernel
theorem dX5_step_79 : decode cX5_step 79 = .ok (.iload 5, 2) := by decide +kernel
theorem dX5_step_81 : decode cX5_step 81 = .ok (.ireturn, 1) := by decide +kernel
theorem dX5_role_0 : decode cX5_role 0 = .ok (.iload_n 1, 1) := by decide +kernel
theorem dX5_role_1 : decode cX5_role 1 = .ok (.ifCond .lt 8, 3) := by decide +kernel
theorem dX5_role_4 : decode cX5_role 4 = .ok (.iload_n 1, 1) := by decide +kernel
theorem dX5_role_5 : decode cX5_role 5 = .ok (.iconst 4, 1) := by decide +kernel
theorem dX5_role_6 : decode cX5_role 6 = .ok (.if_icmp .lt 13, 3) := by decide +kernel
theorem dX5_role_9 : decode cX5_role 9 = .ok (.new 74, 3) := by decide +kernel
theorem dX5_role_12 : decode cX5_role 12 = .ok (.dup, 1) := by decide +kernel
theorem dX5_role_13 : decode cX5_role 13 = .ok (.ldc 76, 2) := by decide +kernel
theorem dX5_role_15 : decode cX5_role 15 = .ok (.invokespecial 78, 3) := by decide +kernel
theorem dX5_role_18 : decode cX5_role 18 = .ok (.athrow, 1) := by decide +kernel
theorem dX5_role_19 : decode cX5_role 19 = .ok (.aload_n 0, 1) := by decide +kernel
theorem dX5_role_20 : decode cX5_role 20 = .ok (.getfield 10, 3) := by decide +kernel
theorem dX5_role_23 : decode cX5_role 23 = .ok (.iload_n 2, 1) := by decide +kernel
theorem dX5_role_24 : decode cX5_role 24 = .ok (.invokevirtual 50, 3) := by decide +kernel
theorem dX5_role_27 : decode cX5_role 27 = .ok (.ifCond .ne 13, 3) := by decide +kernel
theorem dX5_role_30 : decode cX5_role 30 = .ok (.new 58, 3) := by decide +kernel
theorem dX5_role_33 : decode cX5_role 33 = .ok (.dup, 1) := by decide +kernel
theorem dX5_role_34 : decode cX5_role 34 = .ok (.ldc 79, 2) := by decide +kernel
theorem dX5_role_36 : decode cX5_role 36 = .ok (.invokespecial 62, 3) := by decide +kernel
theorem dX5_role_39 : decode cX5_role 39 = .ok (.athrow, 1) := by decide +kernel
theorem dX5_role_40 : decode cX5_role 40 = .ok (.aload_n 0, 1) := by decide +kernel
theorem dX5_role_41 : decode cX5_role 41 = .ok (.getfield 10, 3) := by decide +kernel
theorem dX5_role_44 : decode cX5_role 44 = .ok (.getfield 81, 3) := by decide +kernel
theorem dX5_role_47 : decode cX5_role 47 = .ok (.iload_n 1, 1) := by decide +kernel
theorem dX5_role_48 : decode cX5_role 48 = .ok (.iaload, 1) := by decide +kernel
theorem dX5_role_49 : decode cX5_role 49 = .ok (.istore_n 3, 1) := by decide +kernel
theorem dX5_role_50 : decode cX5_role 50 = .ok (.aload_n 0, 1) := by decide +kernel
theorem dX5_role_51 : decode cX5_role 51 = .ok (.getfield 10, 3) := by decide +kernel
theorem dX5_role_54 : decode cX5_role 54 = .ok (.getfield 81, 3) := by decide +kernel
theorem dX5_role_57 : decode cX5_role 57 = .ok (.iload_n 1, 1) := by decide +kernel
theorem dX5_role_58 : decode cX5_role 58 = .ok (.iload_n 2, 1) := by decide +kernel
theorem dX5_role_59 : decode cX5_role 59 = .ok (.iastore, 1) := by decide +kernel
theorem dX5_role_60 : decode cX5_role 60 = .ok (.iload_n 3, 1) := by decide +kernel
theorem dX5_role_61 : decode cX5_role 61 = .ok (.ireturn, 1) := by decide +kernel
theorem dX5_right_0 : decode cX5_right 0 = .ok (.iload_n 1, 1) := by decide +kernel
theorem dX5_right_1 : decode cX5_right 1 = .ok (.iconst 1, 1) := by decide +kernel
theorem dX5_right_2 : decode cX5_right 2 = .ok (.if_icmp .lt 14, 3) := by decide +kernel
theorem dX5_right_5 : decode cX5_right 5 = .ok (.aload_n 0, 1) := by decide +kernel
theorem dX5_right_6 : decode cX5_right 6 = .ok (.getfield 10, 3) := by decide +kernel
theorem dX5_right_9 : decode cX5_right 9 = .ok (.iload_n 1, 1) := by decide +kernel
theorem dX5_right_10 : decode cX5_right 10 = .ok (.invokevirtual 50, 3) := by decide +kernel
theorem dX5_right_13 : decode cX5_right 13 = .ok (.ifCond .ne 13, 3) := by decide +kernel
theorem dX5_right_16 : decode cX5_right 16 = .ok (.new 58, 3) := by decide +kernel
theorem dX5_right_19 : decode cX5_right 19 = .ok (.dup, 1) := by decide +kernel
theorem dX5_right_20 : decode cX5_right 20 = .ok (.ldc 79, 2) := by decide +kernel
theorem dX5_right_22 : decode cX5_right 22 = .ok (.invokespecial 62, 3) := by decide +kernel
theorem dX5_right_25 : decode cX5_right 25 = .ok (.athrow, 1) := by decide +kernel
theorem dX5_right_26 : decode cX5_right 26 = .ok (.aload_n 0, 1) := by decide +kernel
theorem dX5_right_27 : decode cX5_right 27 = .ok (.getfield 10, 3) := by decide +kernel
theorem dX5_right_30 : decode cX5_right 30 = .ok (.iload_n 1, 1) := by decide +kernel
theorem dX5_right_31 : decode cX5_right 31 = .ok (.invokevirtual 85, 3) := by decide +kernel
theorem dX5_right_34 : decode cX5_right 34 = .ok (.istore_n 2, 1) := by decide +kernel
theorem dX5_right_35 : decode cX5_right 35 = .ok (.iload_n 2, 1) := by decide +kernel
theorem dX5_right_36 : decode cX5_right 36 = .ok (.iconst (-1), 1) := by decide +kernel
theorem dX5_right_37 : decode cX5_right 37 = .ok (.if_icmp .ne 13, 3) := by decide +kernel
theorem dX5_right_40 : decode cX5_right 40 = .ok (.new 69, 3) := by decide +kernel
theorem dX5_right_43 : decode cX5_right 43 = .ok (.dup, 1) := by decide +kernel
theorem dX5_right_44 : decode cX5_right 44 = .ok (.ldc 89, 2) := by decide +kernel
theorem dX5_right_46 : decode cX5_right 46 = .ok (.invokespecial 73, 3) := by decide +kernel
theorem dX5_right_49 : decode cX5_right 49 = .ok (.athrow, 1) := by decide +kernel
theorem dX5_right_50 : decode cX5_right 50 = .ok (.iload_n 2, 1) := by decide +kernel
theorem dX5_right_51 : decode cX5_right 51 = .ok (.ireturn, 1) := by decide +kernel
theorem dX5_stock_0 : decode cX5_stock 0 = .ok (.iload_n 1, 1) := by decide +kernel
theorem dX5_stock_1 : decode cX5_stock 1 = .ok (.ifCond .lt 8, 3) := by decide +kernel
theorem dX5_stock_4 : decode cX5_stock 4 = .ok (.iload_n 1, 1) := by decide +kernel
theorem dX5_stock_5 : decode cX5_stock 5 = .ok (.iconst 4, 1) := by decide +kernel
theorem dX5_stock_6 : decode cX5_stock 6 = .ok (.if_icmp .lt 13, 3) := by decide +kernel
theorem dX5_stock_9 : decode cX5_stock 9 = .ok (.new 74, 3) := by decide +kernel
theorem dX5_stock_12 : decode cX5_stock 12 = .ok (.dup, 1) := by decide +kernel
theorem dX5_stock_13 : decode cX5_stock 13 = .ok (.ldc 91, 2) := by decide +kernel
theorem dX5_stock_15 : decode cX5_stock 15 = .ok (.invokespecial 78, 3) := by decide +kernel
theorem dX5_stock_18 : decode cX5_stock 18 = .ok (.athrow, 1) := by decide +kernel
theorem dX5_stock_19 : decode cX5_stock 19 = .ok (.iload_n 2, 1) := by decide +kernel
theorem dX5_stock_20 : decode cX5_stock 20 = .ok (.iconst 1, 1) := by decide +kernel
theorem dX5_stock_21 : decode cX5_stock 21 = .ok (.bipush 20, 2) := by decide +kernel
theorem dX5_stock_23 : decode cX5_stock 23 = .ok (.invokestatic 46, 3) := by decide +kernel
theorem dX5_stock_26 : decode cX5_stock 26 = .ok (.ifCond .ne 13, 3) := by decide +kernel
theorem dX5_stock_29 : decode cX5_stock 29 = .ok (.new 58, 3) := by decide +kernel
theorem dX5_stock_32 : decode cX5_stock 32 = .ok (.dup, 1) := by decide +kernel
theorem dX5_stock_33 : decode cX5_stock 33 = .ok (.ldc 93, 2) := by decide +kernel
theorem dX5_stock_35 : decode cX5_stock 35 = .ok (.invokespecial 62, 3) := by decide +kernel
theorem dX5_stock_38 : decode cX5_stock 38 = .ok (.athrow, 1) := by decide +kernel
theorem dX5_stock_39 : decode cX5_stock 39 = .ok (.aload_n 0, 1) := by decide +kernel
theorem dX5_stock_40 : decode cX5_stock 40 = .ok (.getfield 19, 3) := by decide +kernel
theorem dX5_stock_43 : decode cX5_stock 43 = .ok (.iload_n 1, 1) := by decide +kernel
theorem dX5_stock_44 : decode cX5_stock 44 = .ok (.iload_n 2, 1) := by decide +kernel
theorem dX5_stock_45 : decode cX5_stock 45 = .ok (.invokevirtual 95, 3) := by decide +kernel
theorem dX5_stock_48 : decode cX5_stock 48 = .ok (.aload_n 0, 1) := by decide +kernel
theorem dX5_stock_49 : decode cX5_stock 49 = .ok (.getfield 19, 3) := by decide +kernel
theorem dX5_stock_52 : decode cX5_stock 52 = .ok (.getfield 99, 3) := by decide +kernel
theorem dX5_stock_55 : decode cX5_stock 55 = .ok (.iload_n 1, 1) := by decide +kernel
theorem dX5_stock_56 : decode cX5_stock 56 = .ok (.iaload, 1) := by decide +kernel
theorem dX5_stock_57 : decode cX5_stock 57 = .ok (.ireturn, 1) := by decide +kernel
theorem dX5_order_0 : decode cX5_order 0 = .ok (.iload_n 1, 1) := by decide +kernel
theorem dX5_order_1 : decode cX5_order 1 = .ok (.ifCond .lt 8, 3) := by decide +kernel
theorem dX5_order_4 : decode cX5_order 4 = .ok (.iload_n 1, 1) := by decide +kernel
theorem dX5_order_5 : decode cX5_order 5 = .ok (.iconst 4, 1) := by decide +kernel
theorem dX5_order_6 : decode cX5_order 6 = .ok (.if_icmp .lt 13, 3) := by decide +kernel
theorem dX5_order_9 : decode cX5_order 9 = .ok (.new 74, 3) := by decide +kernel
theorem dX5_order_12 : decode cX5_order 12 = .ok (.dup, 1) := by decide +kernel
theorem dX5_order_13 : decode cX5_order 13 = .ok (.ldc 91, 2) := by decide +kernel
theorem dX5_order_15 : decode cX5_order 15 = .ok (.invokespecial 78, 3) := by decide +kernel
theorem dX5_order_18 : decode cX5_order 18 = .ok (.athrow, 1) := by decide +kernel
theorem dX5_order_19 : decode cX5_order 19 = .ok (.iload_n 2, 1) := by decide +kernel
theorem dX5_order_20 : decode cX5_order 20 = .ok (.iconst 1, 1) := by decide +kernel
theorem dX5_order_21 : decode cX5_order 21 = .ok (.bipush 20, 2) := by decide +kernel
theorem dX5_order_23 : decode cX5_order 23 = .ok (.invokestatic 46, 3) := by decide +kernel
theorem dX5_order_26 : decode cX5_order 26 = .ok (.ifCond .eq 11, 3) := by decide +kernel
theorem dX5_order_29 : decode cX5_order 29 = .ok (.aload_n 0, 1) := by decide +kernel
theorem dX5_order_30 : decode cX5_order 30 = .ok (.iload_n 3, 1) := by decide +kernel
theorem dX5_order_31 : decode cX5_order 31 = .ok (.invokevirtual 102, 3) := by decide +kernel
theorem dX5_order_34 : decode cX5_order 34 = .ok (.ifCond .ne 13, 3) := by decide +kernel
theorem dX5_order_37 : decode cX5_order 37 = .ok (.new 58, 3) := by decide +kernel
theorem dX5_order_40 : decode cX5_order 40 = .ok (.dup, 1) := by decide +kernel
theorem dX5_order_41 : decode cX5_order 41 = .ok (.ldc 105, 2) := by decide +kernel
theorem dX5_order_43 : decode cX5_order 43 = .ok (.invokespecial 62, 3) := by decide +kernel
theorem dX5_order_46 : decode cX5_order 46 = .ok (.athrow, 1) := by decide +kernel
theorem dX5_order_47 : decode cX5_order 47 = .ok (.aload_n 0, 1) := by decide +kernel
theorem dX5_order_48 : decode cX5_order 48 = .ok (.getfield 19, 3) := by decide +kernel
theorem dX5_order_51 : decode cX5_order 51 = .ok (.iload_n 1, 1) := by decide +kernel
theorem dX5_order_52 : decode cX5_order 52 = .ok (.iload_n 2, 1) := by decide +kernel
theorem dX5_order_53 : decode cX5_order 53 = .ok (.iload_n 3, 1) := by decide +kernel
theorem dX5_order_54 : decode cX5_order 54 = .ok (.invokevirtual 107, 3) := by decide +kernel
theorem dX5_order_57 : decode cX5_order 57 = .ok (.istore 4, 2) := by decide +kernel
theorem dX5_order_59 : decode cX5_order 59 = .ok (.iload 4, 2) := by decide +kernel
theorem dX5_order_61 : decode cX5_order 61 = .ok (.iconst (-1), 1) := by decide +kernel
theorem dX5_order_62 : decode cX5_order 62 = .ok (.if_icmp .ne 13, 3) := by decide +kernel
theorem dX5_order_65 : decode cX5_order 65 = .ok (.new 69, 3) := by decide +kernel
theorem dX5_order_68 : decode cX5_order 68 = .ok (.dup, 1) := by decide +kernel
theorem dX5_order_69 : decode cX5_order 69 = .ok (.ldc 111, 2) := by decide +kernel
theorem dX5_order_71 : decode cX5_order 71 = .ok (.invokespecial 73, 3) := by decide +kernel
theorem dX5_order_74 : decode cX5_order 74 = .ok (.athrow, 1) := by decide +kernel
theorem dX5_order_75 : decode cX5_order 75 = .ok (.iload 4, 2) := by decide +kernel
theorem dX5_order_77 : decode cX5_order 77 = .ok (.ireturn, 1) := by decide +kernel
theorem dX5_session_0 : decode cX5_session 0 = .ok (.iload_n 1, 1) := by decide +kernel
theorem dX5_session_1 : decode cX5_session 1 = .ok (.ifCond .lt 14, 3) := by decide +kernel
theorem dX5_session_4 : decode cX5_session 4 = .ok (.iload_n 1, 1) := by decide +kernel
theorem dX5_session_5 : decode cX5_session 5 = .ok (.aload_n 0, 1) := by decide +kernel
theorem dX5_session_6 : decode cX5_session 6 = .ok (.getfield 10, 3) := by decide +kernel
theorem dX5_session_9 : decode cX5_session 9 = .ok (.getfield 120, 3) := by decide +kernel
theorem dX5_session_12 : decode cX5_session 12 = .ok (.if_icmp .lt 13, 3) := by decide +kernel
theorem dX5_session_15 : decode cX5_session 15 = .ok (.new 74, 3) := by decide +kernel
theorem dX5_session_18 : decode cX5_session 18 = .ok (.dup, 1) := by decide +kernel
theorem dX5_session_19 : decode cX5_session 19 = .ok (.ldc 124, 2) := by decide +kernel
theorem dX5_session_21 : decode cX5_session 21 = .ok (.invokespecial 78, 3) := by decide +kernel
theorem dX5_session_24 : decode cX5_session 24 = .ok (.athrow, 1) := by decide +kernel
theorem dX5_session_25 : decode cX5_session 25 = .ok (.aload_n 0, 1) := by decide +kernel
theorem dX5_session_26 : decode cX5_session 26 = .ok (.getfield 10, 3) := by decide +kernel
theorem dX5_session_29 : decode cX5_session 29 = .ok (.getfield 126, 3) := by decide +kernel
theorem dX5_session_32 : decode cX5_session 32 = .ok (.iload_n 1, 1) := by decide +kernel
theorem dX5_session_33 : decode cX5_session 33 = .ok (.iaload, 1) := by decide +kernel
theorem dX5_session_34 : decode cX5_session 34 = .ok (.iconst 2, 1) := by decide +kernel
theorem dX5_session_35 : decode cX5_session 35 = .ok (.if_icmp .ne 21, 3) := by decide +kernel
theorem dX5_session_38 : decode cX5_session 38 = .ok (.aload_n 0, 1) := by decide +kernel
theorem dX5_session_39 : decode cX5_session 39 = .ok (.iload_n 2, 1) := by decide +kernel
theorem dX5_session_40 : decode cX5_session 40 = .ok (.invokevirtual 102, 3) := by decide +kernel
theorem dX5_session_43 : decode cX5_session 43 = .ok (.ifCond .eq 13, 3) := by decide +kernel
theorem dX5_session_46 : decode cX5_session 46 = .ok (.iload_n 3, 1) := by decide +kernel
theorem dX5_session_47 : decode cX5_session 47 = .ok (.iconst 1, 1) := by decide +kernel
theorem dX5_session_48 : decode cX5_session 48 = .ok (.bipush 9, 2) := by decide +kernel
theorem dX5_session_50 : decode cX5_session 50 = .ok (.invokestatic 46, 3) := by decide +kernel
theorem dX5_session_53 : decode cX5_session 53 = .ok (.ifCond .ne 13, 3) := by decide +kernel
theorem dX5_session_56 : decode cX5_session 56 = .ok (.new 58, 3) := by decide +kernel
theorem dX5_session_59 : decode cX5_session 59 = .ok (.dup, 1) := by decide +kernel
theorem dX5_session_60 : decode cX5_session 60 = .ok (.ldc 129, 2) := by decide +kernel
theorem dX5_session_62 : decode cX5_session 62 = .ok (.invokespecial 62, 3) := by decide +kernel
theorem dX5_session_65 : decode cX5_session 65 = .ok (.athrow, 1) := by decide +kernel
theorem dX5_session_66 : decode cX5_session 66 = .ok (.aload_n 0, 1) := by decide +kernel
theorem dX5_session_67 : decode cX5_session 67 = .ok (.getfield 26, 3) := by decide +kernel
theorem dX5_session_70 : decode cX5_session 70 = .ok (.iload_n 1, 1) := by decide +kernel
theorem dX5_session_71 : decode cX5_session 71 = .ok (.iload_n 2, 1) := by decide +kernel
theorem dX5_session_72 : decode cX5_session 72 = .ok (.iload_n 3, 1) := by decide +kernel
theorem dX5_session_73 : decode cX5_session 73 = .ok (.invokevirtual 131, 3) := by decide +kernel
theorem dX5_session_76 : decode cX5_session 76 = .ok (.istore 4, 2) := by decide +kernel
theorem dX5_session_78 : decode cX5_session 78 = .ok (.iload 4, 2) := by decide +kernel
theorem dX5_session_80 : decode cX5_session 80 = .ok (.iconst (-1), 1) := by decide +kernel
theorem dX5_session_81 : decode cX5_session 81 = .ok (.if_icmp .ne 13, 3) := by decide +kernel
theorem dX5_session_84 : decode cX5_session 84 = .ok (.new 69, 3) := by decide +kernel
theorem dX5_session_87 : decode cX5_session 87 = .ok (.dup, 1) := by decide +kernel
theorem dX5_session_88 : decode cX5_session 88 = .ok (.ldc 134, 2) := by decide +kernel
theorem dX5_session_90 : decode cX5_session 90 = .ok (.invokespecial 73, 3) := by decide +kernel
theorem dX5_session_93 : decode cX5_session 93 = .ok (.athrow, 1) := by decide +kernel
theorem dX5_session_94 : decode cX5_session 94 = .ok (.aload_n 0, 1) := by decide +kernel
theorem dX5_session_95 : decode cX5_session 95 = .ok (.invokevirtual 136, 3) := by decide +kernel
theorem dX5_session_98 : decode cX5_session 98 = .ok (.iload 4, 2) := by decide +kernel
theorem dX5_session_100 : decode cX5_session 100 = .ok (.ireturn, 1) := by decide +kernel
theorem dX5_ofSession_0 : decode cX5_ofSession 0 = .ok (.iload_n 1, 1) := by decide +kernel
theorem dX5_ofSession_1 : decode cX5_ofSession 1 = .ok (.ifCond .lt 14, 3) := by decide +kernel
theorem dX5_ofSession_4 : decode cX5_ofSession 4 = .ok (.iload_n 1, 1) := by decide +kernel
theorem dX5_ofSession_5 : decode cX5_ofSession 5 = .ok (.aload_n 0, 1) := by decide +kernel
theorem dX5_ofSession_6 : decode cX5_ofSession 6 = .ok (.getfield 26, 3) := by decide +kernel
theorem dX5_ofSession_9 : decode cX5_ofSession 9 = .ok (.getfield 139, 3) := by decide +kernel
theorem dX5_ofSession_12 : decode cX5_ofSession 12 = .ok (.if_icmp .lt 13, 3) := by decide +kernel
theorem dX5_ofSession_15 : decode cX5_ofSession 15 = .ok (.new 74, 3) := by decide +kernel
theorem dX5_ofSession_18 : decode cX5_ofSession 18 = .ok (.dup, 1) := by decide +kernel
theorem dX5_ofSession_19 : decode cX5_ofSession 19 = .ok (.ldc 142, 2) := by decide +kernel
theorem dX5_ofSession_21 : decode cX5_ofSession 21 = .ok (.invokespecial 78, 3) := by decide +kernel
theorem dX5_ofSession_24 : decode cX5_ofSession 24 = .ok (.athrow, 1) := by decide +kernel
theorem dX5_ofSession_25 : decode cX5_ofSession 25 = .ok (.iload_n 2, 1) := by decide +kernel
theorem dX5_ofSession_26 : decode cX5_ofSession 26 = .ok (.iconst 0, 1) := by decide +kernel
theorem dX5_ofSession_27 : decode cX5_ofSession 27 = .ok (.iconst 3, 1) := by decide +kernel
theorem dX5_ofSession_28 : decode cX5_ofSession 28 = .ok (.invokestatic 46, 3) := by decide +kernel
theorem dX5_ofSession_31 : decode cX5_ofSession 31 = .ok (.ifCond .ne 13, 3) := by decide +kernel
theorem dX5_ofSession_34 : decode cX5_ofSession 34 = .ok (.new 58, 3) := by decide +kernel
theorem dX5_ofSession_37 : decode cX5_ofSession 37 = .ok (.dup, 1) := by decide +kernel
theorem dX5_ofSession_38 : decode cX5_ofSession 38 = .ok (.ldc 144, 2) := by decide +kernel
theorem dX5_ofSession_40 : decode cX5_ofSession 40 = .ok (.invokespecial 62, 3) := by decide +kernel
theorem dX5_ofSession_43 : decode cX5_ofSession 43 = .ok (.athrow, 1) := by decide +kernel
theorem dX5_ofSession_44 : decode cX5_ofSession 44 = .ok (.iload_n 2, 1) := by decide +kernel
theorem dX5_ofSession_45 : decode cX5_ofSession 45 = .ok (.tableswitch 57 0 2 #[27, 37, 47], 27) := by decide +kernel
theorem dX5_ofSession_72 : decode cX5_ofSession 72 = .ok (.aload_n 0, 1) := by decide +kernel
theorem dX5_ofSession_73 : decode cX5_ofSession 73 = .ok (.getfield 26, 3) := by decide +kernel
theorem dX5_ofSession_76 : decode cX5_ofSession 76 = .ok (.getfield 146, 3) := by decide +kernel
theorem dX5_ofSession_79 : decode cX5_ofSession 79 = .ok (.iload_n 1, 1) := by decide +kernel
theorem dX5_ofSession_80 : decode cX5_ofSession 80 = .ok (.iaload, 1) := by decide +kernel
theorem dX5_ofSession_81 : decode cX5_ofSession 81 = .ok (.ireturn, 1) := by decide +kernel
theorem dX5_ofSession_82 : decode cX5_ofSession 82 = .ok (.aload_n 0, 1) := by decide +kernel
theorem dX5_ofSession_83 : decode cX5_ofSession 83 = .ok (.getfield 26, 3) := by decide +kernel
theorem dX5_ofSession_86 : decode cX5_ofSession 86 = .ok (.getfield 149, 3) := by decide +kernel
theorem dX5_ofSession_89 : decode cX5_ofSession 89 = .ok (.iload_n 1, 1) := by decide +kernel
theorem dX5_ofSession_90 : decode cX5_ofSession 90 = .ok (.iaload, 1) := by decide +kernel
theorem dX5_ofSession_91 : decode cX5_ofSession 91 = .ok (.ireturn, 1) := by decide +kernel
theorem dX5_ofSession_92 : decode cX5_ofSession 92 = .ok (.aload_n 0, 1) := by decide +kernel
theorem dX5_ofSession_93 : decode cX5_ofSession 93 = .ok (.getfield 26, 3) := by decide +kernel
theorem dX5_ofSession_96 : decode cX5_ofSession 96 = .ok (.getfield 152, 3) := by decide +kernel
theorem dX5_ofSession_99 : decode cX5_ofSession 99 = .ok (.iload_n 1, 1) := by decide +kernel
theorem dX5_ofSession_100 : decode cX5_ofSession 100 = .ok (.iaload, 1) := by decide +kernel
theorem dX5_ofSession_101 : decode cX5_ofSession 101 = .ok (.ireturn, 1) := by decide +kernel
theorem dX5_ofSession_102 : decode cX5_ofSession 102 = .ok (.aload_n 0, 1) := by decide +kernel
theorem dX5_ofSession_103 : decode cX5_ofSession 103 = .ok (.getfield 26, 3) := by decide +kernel
theorem dX5_ofSession_106 : decode cX5_ofSession 106 = .ok (.getfield 155, 3) := by decide +kernel
theorem dX5_ofSession_109 : decode cX5_ofSession 109 = .ok (.iload_n 1, 1) := by decide +kernel
theorem dX5_ofSession_110 : decode cX5_ofSession 110 = .ok (.iaload, 1) := by decide +kernel
theorem dX5_ofSession_111 : decode cX5_ofSession 111 = .ok (.ireturn, 1) := by decide +kernel
theorem dX5_ofItem_0 : decode cX5_ofItem 0 = .ok (.iload_n 1, 1) := by decide +kernel
theorem dX5_ofItem_1 : decode cX5_ofItem 1 = .ok (.ifCond .lt 8, 3) := by decide +kernel
theorem dX5_ofItem_4 : decode cX5_ofItem 4 = .ok (.iload_n 1, 1) := by decide +kernel
theorem dX5_ofItem_5 : decode cX5_ofItem 5 = .ok (.iconst 4, 1) := by decide +kernel
theorem dX5_ofItem_6 : decode cX5_ofItem 6 = .ok (.if_icmp .lt 13, 3) := by decide +kernel
theorem dX5_ofItem_9 : decode cX5_ofItem 9 = .ok (.new 74, 3) := by decide +kernel
theorem dX5_ofItem_12 : decode cX5_ofItem 12 = .ok (.dup, 1) := by decide +kernel
theorem dX5_ofItem_13 : decode cX5_ofItem 13 = .ok (.ldc 91, 2) := by decide +kernel
theorem dX5_ofItem_15 : decode cX5_ofItem 15 = .ok (.invokespecial 78, 3) := by decide +kernel
theorem dX5_ofItem_18 : decode cX5_ofItem 18 = .ok (.athrow, 1) := by decide +kernel
theorem dX5_ofItem_19 : decode cX5_ofItem 19 = .ok (.iload_n 2, 1) := by decide +kernel
theorem dX5_ofItem_20 : decode cX5_ofItem 20 = .ok (.iconst 0, 1) := by decide +kernel
theorem dX5_ofItem_21 : decode cX5_ofItem 21 = .ok (.iconst 3, 1) := by decide +kernel
theorem dX5_ofItem_22 : decode cX5_ofItem 22 = .ok (.invokestatic 46, 3) := by decide +kernel
theorem dX5_ofItem_25 : decode cX5_ofItem 25 = .ok (.ifCond .ne 13, 3) := by decide +kernel
theorem dX5_ofItem_28 : decode cX5_ofItem 28 = .ok (.new 58, 3) := by decide +kernel
theorem dX5_ofItem_31 : decode cX5_ofItem 31 = .ok (.dup, 1) := by decide +kernel
theorem dX5_ofItem_32 : decode cX5_ofItem 32 = .ok (.ldc 158, 2) := by decide +kernel
theorem dX5_ofItem_34 : decode cX5_ofItem 34 = .ok (.invokespecial 62, 3) := by decide +kernel
theorem dX5_ofItem_37 : decode cX5_ofItem 37 = .ok (.athrow, 1) := by decide +kernel
theorem dX5_ofItem_38 : decode cX5_ofItem 38 = .ok (.iload_n 2, 1) := by decide +kernel
theorem dX5_ofItem_39 : decode cX5_ofItem 39 = .ok (.tableswitch 63 0 2 #[25, 35, 48], 25) := by decide +kernel
theorem dX5_ofItem_64 : decode cX5_ofItem 64 = .ok (.aload_n 0, 1) := by decide +kernel
theorem dX5_ofItem_65 : decode cX5_ofItem 65 = .ok (.getfield 19, 3) := by decide +kernel
theorem dX5_ofItem_68 : decode cX5_ofItem 68 = .ok (.getfield 99, 3) := by decide +kernel
theorem dX5_ofItem_71 : decode cX5_ofItem 71 = .ok (.iload_n 1, 1) := by decide +kernel
theorem dX5_ofItem_72 : decode cX5_ofItem 72 = .ok (.iaload, 1) := by decide +kernel
theorem dX5_ofItem_73 : decode cX5_ofItem 73 = .ok (.ireturn, 1) := by decide +kernel
theorem dX5_ofItem_74 : decode cX5_ofItem 74 = .ok (.aload_n 0, 1) := by decide +kernel
theorem dX5_ofItem_75 : decode cX5_ofItem 75 = .ok (.getfield 19, 3) := by decide +kernel
theorem dX5_ofItem_78 : decode cX5_ofItem 78 = .ok (.iload_n 1, 1) := by decide +kernel
theorem dX5_ofItem_79 : decode cX5_ofItem 79 = .ok (.aload_n 0, 1) := by decide +kernel
theorem dX5_ofItem_80 : decode cX5_ofItem 80 = .ok (.getfield 160, 3) := by decide +kernel
theorem dX5_ofItem_83 : decode cX5_ofItem 83 = .ok (.invokevirtual 163, 3) := by decide +kernel
theorem dX5_ofItem_86 : decode cX5_ofItem 86 = .ok (.ireturn, 1) := by decide +kernel
theorem dX5_ofItem_87 : decode cX5_ofItem 87 = .ok (.aload_n 0, 1) := by decide +kernel
theorem dX5_ofItem_88 : decode cX5_ofItem 88 = .ok (.getfield 19, 3) := by decide +kernel
theorem dX5_ofItem_91 : decode cX5_ofItem 91 = .ok (.iload_n 1, 1) := by decide +kernel
theorem dX5_ofItem_92 : decode cX5_ofItem 92 = .ok (.aload_n 0, 1) := by decide +kernel
theorem dX5_ofItem_93 : decode cX5_ofItem 93 = .ok (.getfield 160, 3) := by decide +kernel
theorem dX5_ofItem_96 : decode cX5_ofItem 96 = .ok (.iconst (-1), 1) := by decide +kernel
theorem dX5_ofItem_97 : decode cX5_ofItem 97 = .ok (.iconst 0, 1) := by decide +kernel
theorem dX5_ofItem_98 : decode cX5_ofItem 98 = .ok (.invokevirtual 166, 3) := by decide +kernel
theorem dX5_ofItem_101 : decode cX5_ofItem 101 = .ok (.ireturn, 1) := by decide +kernel
theorem dX5_ofItem_102 : decode cX5_ofItem 102 = .ok (.aload_n 0, 1) := by decide +kernel
theorem dX5_ofItem_103 : decode cX5_ofItem 103 = .ok (.iload_n 1, 1) := by decide +kernel
theorem dX5_ofItem_104 : decode cX5_ofItem 104 = .ok (.invokevirtual 169, 3) := by decide +kernel
theorem dX5_ofItem_107 : decode cX5_ofItem 107 = .ok (.ireturn, 1) := by decide +kernel
theorem dX5_join_0 : decode cX5_join 0 = .ok (.iload_n 1, 1) := by decide +kernel
theorem dX5_join_1 : decode cX5_join 1 = .ok (.ifCond .lt 8, 3) := by decide +kernel
theorem dX5_join_4 : decode cX5_join 4 = .ok (.iload_n 1, 1) := by decide +kernel
theorem dX5_join_5 : decode cX5_join 5 = .ok (.iconst 4, 1) := by decide +kernel
theorem dX5_join_6 : decode cX5_join 6 = .ok (.if_icmp .lt 13, 3) := by decide +kernel
theorem dX5_join_9 : decode cX5_join 9 = .ok (.new 74, 3) := by decide +kernel
theorem dX5_join_12 : decode cX5_join 12 = .ok (.dup, 1) := by decide +kernel
theorem dX5_join_13 : decode cX5_join 13 = .ok (.ldc 76, 2) := by decide +kernel
theorem dX5_join_15 : decode cX5_join 15 = .ok (.invokespecial 78, 3) := by decide +kernel
theorem dX5_join_18 : decode cX5_join 18 = .ok (.athrow, 1) := by decide +kernel
theorem dX5_join_19 : decode cX5_join 19 = .ok (.aload_n 0, 1) := by decide +kernel
theorem dX5_join_20 : decode cX5_join 20 = .ok (.iload_n 2, 1) := by decide +kernel
theorem dX5_join_21 : decode cX5_join 21 = .ok (.invokevirtual 102, 3) := by decide +kernel
theorem dX5_join_24 : decode cX5_join 24 = .ok (.ifCond .ne 13, 3) := by decide +kernel
theorem dX5_join_27 : decode cX5_join 27 = .ok (.new 58, 3) := by decide +kernel
theorem dX5_join_30 : decode cX5_join 30 = .ok (.dup, 1) := by decide +kernel
theorem dX5_join_31 : decode cX5_join 31 = .ok (.ldc 172, 2) := by decide +kernel
theorem dX5_join_33 : decode cX5_join 33 = .ok (.invokespecial 62, 3) := by decide +kernel
theorem dX5_join_36 : decode cX5_join 36 = .ok (.athrow, 1) := by decide +kernel
theorem dX5_join_37 : decode cX5_join 37 = .ok (.aload_n 0, 1) := by decide +kernel
theorem dX5_join_38 : decode cX5_join 38 = .ok (.getfield 174, 3) := by decide +kernel
theorem dX5_join_41 : decode cX5_join 41 = .ok (.bipush 8, 2) := by decide +kernel
theorem dX5_join_43 : decode cX5_join 43 = .ok (.if_icmp .ge 15, 3) := by decide +kernel
theorem dX5_join_46 : decode cX5_join 46 = .ok (.aload_n 0, 1) := by decide +kernel
theorem dX5_join_47 : decode cX5_join 47 = .ok (.getfield 10, 3) := by decide +kernel
theorem dX5_join_50 : decode cX5_join 50 = .ok (.getfield 81, 3) := by decide +kernel
theorem dX5_join_53 : decode cX5_join 53 = .ok (.iload_n 1, 1) := by decide +kernel
theorem dX5_join_54 : decode cX5_join 54 = .ok (.iaload, 1) := by decide +kernel
theorem dX5_join_55 : decode cX5_join 55 = .ok (.ifCond .ne 13, 3) := by decide +kernel
theorem dX5_join_58 : decode cX5_join 58 = .ok (.new 69, 3) := by decide +kernel
theorem dX5_join_61 : decode cX5_join 61 = .ok (.dup, 1) := by decide +kernel
theorem dX5_join_62 : decode cX5_join 62 = .ok (.ldc 177, 2) := by decide +kernel
theorem dX5_join_64 : decode cX5_join 64 = .ok (.invokespecial 73, 3) := by decide +kernel
theorem dX5_join_67 : decode cX5_join 67 = .ok (.athrow, 1) := by decide +kernel
theorem dX5_join_68 : decode cX5_join 68 = .ok (.aload_n 0, 1) := by decide +kernel
theorem dX5_join_69 : decode cX5_join 69 = .ok (.getfield 174, 3) := by decide +kernel
theorem dX5_join_72 : decode cX5_join 72 = .ok (.istore_n 3, 1) := by decide +kernel
theorem dX5_join_73 : decode cX5_join 73 = .ok (.aload_n 0, 1) := by decide +kernel
theorem dX5_join_74 : decode cX5_join 74 = .ok (.dup, 1) := by decide +kernel
theorem dX5_join_75 : decode cX5_join 75 = .ok (.getfield 174, 3) := by decide +kernel
theorem dX5_join_78 : decode cX5_join 78 = .ok (.iconst 1, 1) := by decide +kernel
theorem dX5_join_79 : decode cX5_join 79 = .ok (.iadd, 1) := by decide +kernel
theorem dX5_join_80 : decode cX5_join 80 = .ok (.putfield 174, 3) := by decide +kernel
theorem dX5_join_83 : decode cX5_join 83 = .ok (.aload_n 0, 1) := by decide +kernel
theorem dX5_join_84 : decode cX5_join 84 = .ok (.iload_n 3, 1) := by decide +kernel
theorem dX5_join_85 : decode cX5_join 85 = .ok (.invokevirtual 179, 3) := by decide +kernel
theorem dX5_join_88 : decode cX5_join 88 = .ok (.astore 4, 2) := by decide +kernel
theorem dX5_join_90 : decode cX5_join 90 = .ok (.aload 4, 2) := by decide +kernel
theorem dX5_join_92 : decode cX5_join 92 = .ok (.aload_n 0, 1) := by decide +kernel
theorem dX5_join_93 : decode cX5_join 93 = .ok (.getfield 10, 3) := by decide +kernel
theorem dX5_join_96 : decode cX5_join 96 = .ok (.getfield 81, 3) := by decide +kernel
theorem dX5_join_99 : decode cX5_join 99 = .ok (.iload_n 1, 1) := by decide +kernel
theorem dX5_join_100 : decode cX5_join 100 = .ok (.iaload, 1) := by decide +kernel
theorem dX5_join_101 : decode cX5_join 101 = .ok (.putfield 183, 3) := by decide +kernel
theorem dX5_join_104 : decode cX5_join 104 = .ok (.aload 4, 2) := by decide +kernel
theorem dX5_join_106 : decode cX5_join 106 = .ok (.iload_n 2, 1) := by decide +kernel
theorem dX5_join_107 : decode cX5_join 107 = .ok (.putfield 186, 3) := by decide +kernel
theorem dX5_join_110 : decode cX5_join 110 = .ok (.aload_n 0, 1) := by decide +kernel
theorem dX5_join_111 : decode cX5_join 111 = .ok (.invokevirtual 136, 3) := by decide +kernel
theorem dX5_join_114 : decode cX5_join 114 = .ok (.iload_n 3, 1) := by decide +kernel
theorem dX5_join_115 : decode cX5_join 115 = .ok (.ireturn, 1) := by decide +kernel
theorem dX5_leave_0 : decode cX5_leave 0 = .ok (.aload_n 0, 1) := by decide +kernel
theorem dX5_leave_1 : decode cX5_leave 1 = .ok (.iload_n 1, 1) := by decide +kernel
theorem dX5_leave_2 : decode cX5_leave 2 = .ok (.invokevirtual 179, 3) := by decide +kernel
theorem dX5_leave_5 : decode cX5_leave 5 = .ok (.astore_n 2, 1) := by decide +kernel
theorem dX5_leave_6 : decode cX5_leave 6 = .ok (.aload_n 2, 1) := by decide +kernel
theorem dX5_leave_7 : decode cX5_leave 7 = .ok (.getfield 189, 3) := by decide +kernel
theorem dX5_leave_10 : decode cX5_leave 10 = .ok (.ifCond .eq 13, 3) := by decide +kernel
theorem dX5_leave_13 : decode cX5_leave 13 = .ok (.new 69, 3) := by decide +kernel
theorem dX5_leave_16 : decode cX5_leave 16 = .ok (.dup, 1) := by decide +kernel
theorem dX5_leave_17 : decode cX5_leave 17 = .ok (.ldc 193, 2) := by decide +kernel
theorem dX5_leave_19 : decode cX5_leave 19 = .ok (.invokespecial 73, 3) := by decide +kernel
theorem dX5_leave_22 : decode cX5_leave 22 = .ok (.athrow, 1) := by decide +kernel
theorem dX5_leave_23 : decode cX5_leave 23 = .ok (.aload_n 2, 1) := by decide +kernel
theorem dX5_leave_24 : decode cX5_leave 24 = .ok (.iconst 1, 1) := by decide +kernel
theorem dX5_leave_25 : decode cX5_leave 25 = .ok (.putfield 189, 3) := by decide +kernel
theorem dX5_leave_28 : decode cX5_leave 28 = .ok (.iconst 0, 1) := by decide +kernel
theorem dX5_leave_29 : decode cX5_leave 29 = .ok (.istore_n 3, 1) := by decide +kernel
theorem dX5_leave_30 : decode cX5_leave 30 = .ok (.iload_n 3, 1) := by decide +kernel
theorem dX5_leave_31 : decode cX5_leave 31 = .ok (.bipush 12, 2) := by decide +kernel
theorem dX5_leave_33 : decode cX5_leave 33 = .ok (.if_icmp .ge 38, 3) := by decide +kernel
theorem dX5_leave_36 : decode cX5_leave 36 = .ok (.aload_n 2, 1) := by decide +kernel
theorem dX5_leave_37 : decode cX5_leave 37 = .ok (.getfield 195, 3) := by decide +kernel
theorem dX5_leave_40 : decode cX5_leave 40 = .ok (.iload_n 3, 1) := by decide +kernel
theorem dX5_leave_41 : decode cX5_leave 41 = .ok (.iaload, 1) := by decide +kernel
theorem dX5_leave_42 : decode cX5_leave 42 = .ok (.ifCond .ne 23, 3) := by decide +kernel
theorem dX5_leave_45 : decode cX5_leave 45 = .ok (.aload_n 0, 1) := by decide +kernel
theorem dX5_leave_46 : decode cX5_leave 46 = .ok (.getfield 26, 3) := by decide +kernel
theorem dX5_leave_49 : decode cX5_leave 49 = .ok (.aload_n 2, 1) := by decide +kernel
theorem dX5_leave_50 : decode cX5_leave 50 = .ok (.getfield 198, 3) := by decide +kernel
theorem dX5_leave_53 : decode cX5_leave 53 = .ok (.iload_n 3, 1) := by decide +kernel
theorem dX5_leave_54 : decode cX5_leave 54 = .ok (.iaload, 1) := by decide +kernel
theorem dX5_leave_55 : decode cX5_leave 55 = .ok (.invokevirtual 201, 3) := by decide +kernel
theorem dX5_leave_58 : decode cX5_leave 58 = .ok (.aload_n 2, 1) := by decide +kernel
theorem dX5_leave_59 : decode cX5_leave 59 = .ok (.getfield 198, 3) := by decide +kernel
theorem dX5_leave_62 : decode cX5_leave 62 = .ok (.iload_n 3, 1) := by decide +kernel
theorem dX5_leave_63 : decode cX5_leave 63 = .ok (.iconst (-1), 1) := by decide +kernel
theorem dX5_leave_64 : decode cX5_leave 64 = .ok (.iastore, 1) := by decide +kernel
theorem dX5_leave_65 : decode cX5_leave 65 = .ok (.iinc 3 1, 3) := by decide +kernel
theorem dX5_leave_68 : decode cX5_leave 68 = .ok (.goto (-38), 3) := by decide +kernel
theorem dX5_leave_71 : decode cX5_leave 71 = .ok (.aload_n 0, 1) := by decide +kernel
theorem dX5_leave_72 : decode cX5_leave 72 = .ok (.invokevirtual 136, 3) := by decide +kernel
theorem dX5_leave_75 : decode cX5_leave 75 = .ok (.aload_n 2, 1) := by decide +kernel
theorem dX5_leave_76 : decode cX5_leave 76 = .ok (.iconst 1, 1) := by decide +kernel
theorem dX5_leave_77 : decode cX5_leave 77 = .ok (.invokevirtual 205, 3) := by decide +kernel
theorem dX5_leave_80 : decode cX5_leave 80 = .ok (.aload_n 2, 1) := by decide +kernel
theorem dX5_leave_81 : decode cX5_leave 81 = .ok (.iconst 2, 1) := by decide +kernel
theorem dX5_leave_82 : decode cX5_leave 82 = .ok (.invokevirtual 205, 3) := by decide +kernel
theorem dX5_leave_85 : decode cX5_leave 85 = .ok (.iadd, 1) := by decide +kernel
theorem dX5_leave_86 : decode cX5_leave 86 = .ok (.ireturn, 1) := by decide +kernel
theorem dX5_day_0 : decode cX5_day 0 = .ok (.aload_n 0, 1) := by decide +kernel
theorem dX5_day_1 : decode cX5_day 1 = .ok (.getfield 160, 3) := by decide +kernel
theorem dX5_day_4 : decode cX5_day 4 = .ok (.sipush 199, 3) := by decide +kernel
theorem dX5_day_7 : decode cX5_day 7 = .ok (.if_icmp .lt 13, 3) := by decide +kernel
theorem dX5_day_10 : decode cX5_day 10 = .ok (.new 69, 3) := by decide +kernel
theorem dX5_day_13 : decode cX5_day 13 = .ok (.dup, 1) := by decide +kernel
theorem dX5_day_14 : decode cX5_day 14 = .ok (.ldc 208, 2) := by decide +kernel
theorem dX5_day_16 : decode cX5_day 16 = .ok (.invokespecial 73, 3) := by decide +kernel
theorem dX5_day_19 : decode cX5_day 19 = .ok (.athrow, 1) := by decide +kernel
theorem dX5_day_20 : decode cX5_day 20 = .ok (.aload_n 0, 1) := by decide +kernel
theorem dX5_day_21 : decode cX5_day 21 = .ok (.dup, 1) := by decide +kernel
theorem dX5_day_22 : decode cX5_day 22 = .ok (.getfield 160, 3) := by decide +kernel
theorem dX5_day_25 : decode cX5_day 25 = .ok (.iconst 1, 1) := by decide +kernel
theorem dX5_day_26 : decode cX5_day 26 = .ok (.iadd, 1) := by decide +kernel
theorem dX5_day_27 : decode cX5_day 27 = .ok (.putfield 160, 3) := by decide +kernel
theorem dX5_day_30 : decode cX5_day 30 = .ok (.aload_n 0, 1) := by decide +kernel
theorem dX5_day_31 : decode cX5_day 31 = .ok (.getfield 19, 3) := by decide +kernel
theorem dX5_day_34 : decode cX5_day 34 = .ok (.aload_n 0, 1) := by decide +kernel
theorem dX5_day_35 : decode cX5_day 35 = .ok (.getfield 160, 3) := by decide +kernel
theorem dX5_day_38 : decode cX5_day 38 = .ok (.invokevirtual 210, 3) := by decide +kernel
theorem dX5_day_41 : decode cX5_day 41 = .ok (.iconst 0, 1) := by decide +kernel
theorem dX5_day_42 : decode cX5_day 42 = .ok (.istore_n 1, 1) := by decide +kernel
theorem dX5_day_43 : decode cX5_day 43 = .ok (.iconst 0, 1) := by decide +kernel
theorem dX5_day_44 : decode cX5_day 44 = .ok (.istore_n 2, 1) := by decide +kernel
theorem dX5_day_45 : decode cX5_day 45 = .ok (.iload_n 2, 1) := by decide +kernel
theorem dX5_day_46 : decode cX5_day 46 = .ok (.aload_n 0, 1) := by decide +kernel
theorem dX5_day_47 : decode cX5_day 47 = .ok (.getfield 174, 3) := by decide +kernel
theorem dX5_day_50 : decode cX5_day 50 = .ok (.if_icmp .ge 24, 3) := by decide +kernel
theorem dX5_day_53 : decode cX5_day 53 = .ok (.iload_n 1, 1) := by decide +kernel
theorem dX5_day_54 : decode cX5_day 54 = .ok (.aload_n 0, 1) := by decide +kernel
theorem dX5_day_55 : decode cX5_day 55 = .ok (.iload_n 2, 1) := by decide +kernel
theorem dX5_day_56 : decode cX5_day 56 = .ok (.invokevirtual 179, 3) := by decide +kernel
theorem dX5_day_59 : decode cX5_day 59 = .ok (.aload_n 0, 1) := by decide +kernel
theorem dX5_day_60 : decode cX5_day 60 = .ok (.getfield 160, 3) := by decide +kernel
theorem dX5_day_63 : decode cX5_day 63 = .ok (.invokevirtual 213, 3) := by decide +kernel
theorem dX5_day_66 : decode cX5_day 66 = .ok (.iadd, 1) := by decide +kernel
theorem dX5_day_67 : decode cX5_day 67 = .ok (.istore_n 1, 1) := by decide +kernel
theorem dX5_day_68 : decode cX5_day 68 = .ok (.iinc 2 1, 3) := by decide +kernel
theorem dX5_day_71 : decode cX5_day 71 = .ok (.goto (-26), 3) := by decide +kernel
theorem dX5_day_74 : decode cX5_day 74 = .ok (.iconst 0, 1) := by decide +kernel
theorem dX5_day_75 : decode cX5_day 75 = .ok (.istore_n 2, 1) := by decide +kernel
theorem dX5_day_76 : decode cX5_day 76 = .ok (.iload_n 2, 1) := by decide +kernel
theorem dX5_day_77 : decode cX5_day 77 = .ok (.aload_n 0, 1) := by decide +kernel
theorem dX5_day_78 : decode cX5_day 78 = .ok (.getfield 174, 3) := by decide +kernel
theorem dX5_day_81 : decode cX5_day 81 = .ok (.if_icmp .ge 18, 3) := by decide +kernel
theorem dX5_day_84 : decode cX5_day 84 = .ok (.aload_n 0, 1) := by decide +kernel
theorem dX5_day_85 : decode cX5_day 85 = .ok (.aload_n 0, 1) := by decide +kernel
theorem dX5_day_86 : decode cX5_day 86 = .ok (.iload_n 2, 1) := by decide +kernel
theorem dX5_day_87 : decode cX5_day 87 = .ok (.invokevirtual 179, 3) := by decide +kernel
theorem dX5_day_90 : decode cX5_day 90 = .ok (.invokevirtual 216, 3) := by decide +kernel
theorem dX5_day_93 : decode cX5_day 93 = .ok (.iinc 2 1, 3) := by decide +kernel
theorem dX5_day_96 : decode cX5_day 96 = .ok (.goto (-20), 3) := by decide +kernel
theorem dX5_day_99 : decode cX5_day 99 = .ok (.iconst 0, 1) := by decide +kernel
theorem dX5_day_100 : decode cX5_day 100 = .ok (.istore_n 2, 1) := by decide +kernel
theorem dX5_day_101 : decode cX5_day 101 = .ok (.iload_n 2, 1) := by decide +kernel
theorem dX5_day_102 : decode cX5_day 102 = .ok (.aload_n 0, 1) := by decide +kernel
theorem dX5_day_103 : decode cX5_day 103 = .ok (.getfield 174, 3) := by decide +kernel
theorem dX5_day_106 : decode cX5_day 106 = .ok (.if_icmp .ge 18, 3) := by decide +kernel
theorem dX5_day_109 : decode cX5_day 109 = .ok (.aload_n 0, 1) := by decide +kernel
theorem dX5_day_110 : decode cX5_day 110 = .ok (.aload_n 0, 1) := by decide +kernel
theorem dX5_day_111 : decode cX5_day 111 = .ok (.iload_n 2, 1) := by decide +kernel
theorem dX5_day_112 : decode cX5_day 112 = .ok (.invokevirtual 179, 3) := by decide +kernel
theorem dX5_day_115 : decode cX5_day 115 = .ok (.invokevirtual 220, 3) := by decide +kernel
theorem dX5_day_118 : decode cX5_day 118 = .ok (.iinc 2 1, 3) := by decide +kernel
theorem dX5_day_121 : decode cX5_day 121 = .ok (.goto (-20), 3) := by decide +kernel
theorem dX5_day_124 : decode cX5_day 124 = .ok (.aload_n 0, 1) := by decide +kernel
theorem dX5_day_125 : decode cX5_day 125 = .ok (.invokevirtual 136, 3) := by decide +kernel
theorem dX5_day_128 : decode cX5_day 128 = .ok (.iconst 0, 1) := by decide +kernel
theorem dX5_day_129 : decode cX5_day 129 = .ok (.istore_n 2, 1) := by decide +kernel
theorem dX5_day_130 : decode cX5_day 130 = .ok (.iload_n 2, 1) := by decide +kernel
theorem dX5_day_131 : decode cX5_day 131 = .ok (.aload_n 0, 1) := by decide +kernel
theorem dX5_day_132 : decode cX5_day 132 = .ok (.getfield 174, 3) := by decide +kernel
theorem dX5_day_135 : decode cX5_day 135 = .ok (.if_icmp .ge 18, 3) := by decide +kernel
theorem dX5_day_138 : decode cX5_day 138 = .ok (.aload_n 0, 1) := by decide +kernel
theorem dX5_day_139 : decode cX5_day 139 = .ok (.aload_n 0, 1) := by decide +kernel
theorem dX5_day_140 : decode cX5_day 140 = .ok (.iload_n 2, 1) := by decide +kernel
theorem dX5_day_141 : decode cX5_day 141 = .ok (.invokevirtual 179, 3) := by decide +kernel
theorem dX5_day_144 : decode cX5_day 144 = .ok (.invokevirtual 223, 3) := by decide +kernel
theorem dX5_day_147 : decode cX5_day 147 = .ok (.iinc 2 1, 3) := by decide +kernel
theorem dX5_day_150 : decode cX5_day 150 = .ok (.goto (-20), 3) := by decide +kernel
theorem dX5_day_153 : decode cX5_day 153 = .ok (.iload_n 1, 1) := by decide +kernel
theorem dX5_day_154 : decode cX5_day 154 = .ok (.ireturn, 1) := by decide +kernel
theorem dX5_ofStep_0 : decode cX5_ofStep 0 = .ok (.aload_n 0, 1) := by decide +kernel
theorem dX5_ofStep_1 : decode cX5_ofStep 1 = .ok (.iload_n 1, 1) := by decide +kernel
theorem dX5_ofStep_2 : decode cX5_ofStep 2 = .ok (.invokevirtual 179, 3) := by decide +kernel
theorem dX5_ofStep_5 : decode cX5_ofStep 5 = .ok (.astore 4, 2) := by decide +kernel
theorem dX5_ofStep_7 : decode cX5_ofStep 7 = .ok (.iload_n 2, 1) := by decide +kernel
theorem dX5_ofStep_8 : decode cX5_ofStep 8 = .ok (.ifCond .lt 21, 3) := by decide +kernel
theorem dX5_ofStep_11 : decode cX5_ofStep 11 = .ok (.iload_n 2, 1) := by decide +kernel
theorem dX5_ofStep_12 : decode cX5_ofStep 12 = .ok (.bipush 12, 2) := by decide +kernel
theorem dX5_ofStep_14 : decode cX5_ofStep 14 = .ok (.if_icmp .ge 15, 3) := by decide +kernel
theorem dX5_ofStep_17 : decode cX5_ofStep 17 = .ok (.aload 4, 2) := by decide +kernel
theorem dX5_ofStep_19 : decode cX5_ofStep 19 = .ok (.getfield 183, 3) := by decide +kernel
theorem dX5_ofStep_22 : decode cX5_ofStep 22 = .ok (.iload_n 2, 1) := by decide +kernel
theorem dX5_ofStep_23 : decode cX5_ofStep 23 = .ok (.invokestatic 226, 3) := by decide +kernel
theorem dX5_ofStep_26 : decode cX5_ofStep 26 = .ok (.ifCond .ne 13, 3) := by decide +kernel
theorem dX5_ofStep_29 : decode cX5_ofStep 29 = .ok (.new 74, 3) := by decide +kernel
theorem dX5_ofStep_32 : decode cX5_ofStep 32 = .ok (.dup, 1) := by decide +kernel
theorem dX5_ofStep_33 : decode cX5_ofStep 33 = .ok (.ldc 229, 2) := by decide +kernel
theorem dX5_ofStep_35 : decode cX5_ofStep 35 = .ok (.invokespecial 78, 3) := by decide +kernel
theorem dX5_ofStep_38 : decode cX5_ofStep 38 = .ok (.athrow, 1) := by decide +kernel
theorem dX5_ofStep_39 : decode cX5_ofStep 39 = .ok (.iload_n 3, 1) := by decide +kernel
theorem dX5_ofStep_40 : decode cX5_ofStep 40 = .ok (.iconst 0, 1) := by decide +kernel
theorem dX5_ofStep_41 : decode cX5_ofStep 41 = .ok (.iconst 5, 1) := by decide +kernel
theorem dX5_ofStep_42 : decode cX5_ofStep 42 = .ok (.invokestatic 46, 3) := by decide +kernel
theorem dX5_ofStep_45 : decode cX5_ofStep 45 = .ok (.ifCond .ne 13, 3) := by decide +kernel
theorem dX5_ofStep_48 : decode cX5_ofStep 48 = .ok (.new 58, 3) := by decide +kernel
theorem dX5_ofStep_51 : decode cX5_ofStep 51 = .ok (.dup, 1) := by decide +kernel
theorem dX5_ofStep_52 : decode cX5_ofStep 52 = .ok (.ldc 231, 2) := by decide +kernel
theorem dX5_ofStep_54 : decode cX5_ofStep 54 = .ok (.invokespecial 62, 3) := by decide +kernel
theorem dX5_ofStep_57 : decode cX5_ofStep 57 = .ok (.athrow, 1) := by decide +kernel
theorem dX5_ofStep_58 : decode cX5_ofStep 58 = .ok (.aload_n 0, 1) := by decide +kernel
theorem dX5_ofStep_59 : decode cX5_ofStep 59 = .ok (.getfield 35, 3) := by decide +kernel
theorem dX5_ofStep_62 : decode cX5_ofStep 62 = .ok (.aload 4, 2) := by decide +kernel
theorem dX5_ofStep_64 : decode cX5_ofStep 64 = .ok (.aload_n 0, 1) := by decide +kernel
theorem dX5_ofStep_65 : decode cX5_ofStep 65 = .ok (.getfield 160, 3) := by decide +kernel
theorem dX5_ofStep_68 : decode cX5_ofStep 68 = .ok (.iconst (-1), 1) := by decide +kernel
theorem dX5_ofStep_69 : decode cX5_ofStep 69 = .ok (.iconst 0, 1) := by decide +kernel
theorem dX5_ofStep_70 : decode cX5_ofStep 70 = .ok (.invokevirtual 233, 3) := by decide +kernel
theorem dX5_ofStep_73 : decode cX5_ofStep 73 = .ok (.aload_n 0, 1) := by decide +kernel
theorem dX5_ofStep_74 : decode cX5_ofStep 74 = .ok (.aload 4, 2) := by decide +kernel
theorem dX5_ofStep_76 : decode cX5_ofStep 76 = .ok (.iload_n 2, 1) := by decide +kernel
theorem dX5_ofStep_77 : decode cX5_ofStep 77 = .ok (.iload_n 3, 1) := by decide +kernel
theorem dX5_ofStep_78 : decode cX5_ofStep 78 = .ok (.invokevirtual 237, 3) := by decide +kernel
theorem dX5_ofStep_81 : decode cX5_ofStep 81 = .ok (.ireturn, 1) := by decide +kernel
theorem dX5_ofJoiner_0 : decode cX5_ofJoiner 0 = .ok (.aload_n 0, 1) := by decide +kernel
theorem dX5_ofJoiner_1 : decode cX5_ofJoiner 1 = .ok (.iload_n 1, 1) := by decide +kernel
theorem dX5_ofJoiner_2 : decode cX5_ofJoiner 2 = .ok (.invokevirtual 179, 3) := by decide +kernel
theorem dX5_ofJoiner_5 : decode cX5_ofJoiner 5 = .ok (.astore_n 3, 1) := by decide +kernel
theorem dX5_ofJoiner_6 : decode cX5_ofJoiner 6 = .ok (.iload_n 2, 1) := by decide +kernel
theorem dX5_ofJoiner_7 : decode cX5_ofJoiner 7 = .ok (.iconst 0, 1) := by decide +kernel
theorem dX5_ofJoiner_8 : decode cX5_ofJoiner 8 = .ok (.bipush 6, 2) := by decide +kernel
theorem dX5_ofJoiner_10 : decode cX5_ofJoiner 10 = .ok (.invokestatic 46, 3) := by decide +kernel
theorem dX5_ofJoiner_13 : decode cX5_ofJoiner 13 = .ok (.ifCond .ne 13, 3) := by decide +kernel
theorem dX5_ofJoiner_16 : decode cX5_ofJoiner 16 = .ok (.new 58, 3) := by decide +kernel
theorem dX5_ofJoiner_19 : decode cX5_ofJoiner 19 = .ok (.dup, 1) := by decide +kernel
theorem dX5_ofJoiner_20 : decode cX5_ofJoiner 20 = .ok (.ldc 241, 2) := by decide +kernel
theorem dX5_ofJoiner_22 : decode cX5_ofJoiner 22 = .ok (.invokespecial 62, 3) := by decide +kernel
theorem dX5_ofJoiner_25 : decode cX5_ofJoiner 25 = .ok (.athrow, 1) := by decide +kernel
theorem dX5_ofJoiner_26 : decode cX5_ofJoiner 26 = .ok (.aload_n 0, 1) := by decide +kernel
theorem dX5_ofJoiner_27 : decode cX5_ofJoiner 27 = .ok (.getfield 35, 3) := by decide +kernel
theorem dX5_ofJoiner_30 : decode cX5_ofJoiner 30 = .ok (.aload_n 3, 1) := by decide +kernel
theorem dX5_ofJoiner_31 : decode cX5_ofJoiner 31 = .ok (.aload_n 0, 1) := by decide +kernel
theorem dX5_ofJoiner_32 : decode cX5_ofJoiner 32 = .ok (.getfield 160, 3) := by decide +kernel
theorem dX5_ofJoiner_35 : decode cX5_ofJoiner 35 = .ok (.iconst (-1), 1) := by decide +kernel
theorem dX5_ofJoiner_36 : decode cX5_ofJoiner 36 = .ok (.iconst 0, 1) := by decide +kernel
theorem dX5_ofJoiner_37 : decode cX5_ofJoiner 37 = .ok (.invokevirtual 233, 3) := by decide +kernel
theorem dX5_ofJoiner_40 : decode cX5_ofJoiner 40 = .ok (.aload_n 0, 1) := by decide +kernel
theorem dX5_ofJoiner_41 : decode cX5_ofJoiner 41 = .ok (.aload_n 3, 1) := by decide +kernel
theorem dX5_ofJoiner_42 : decode cX5_ofJoiner 42 = .ok (.iload_n 2, 1) := by decide +kernel
theorem dX5_ofJoiner_43 : decode cX5_ofJoiner 43 = .ok (.invokevirtual 243, 3) := by decide +kernel
theorem dX5_ofJoiner_46 : decode cX5_ofJoiner 46 = .ok (.ireturn, 1) := by decide +kernel
theorem dX5_many_0 : decode cX5_many 0 = .ok (.iload_n 1, 1) := by decide +kernel
theorem dX5_many_1 : decode cX5_many 1 = .ok (.iconst 0, 1) := by decide +kernel
theorem dX5_many_2 : decode cX5_many 2 = .ok (.bipush 10, 2) := by decide +kernel
theorem dX5_many_4 : decode cX5_many 4 = .ok (.invokestatic 46, 3) := by decide +kernel
theorem dX5_many_7 : decode cX5_many 7 = .ok (.ifCond .ne 13, 3) := by decide +kernel
theorem dX5_many_10 : decode cX5_many 10 = .ok (.new 58, 3) := by decide +kernel
theorem dX5_many_13 : decode cX5_many 13 = .ok (.dup, 1) := by decide +kernel
theorem dX5_many_14 : decode cX5_many 14 = .ok (.ldc 247, 2) := by decide +kernel
theorem dX5_many_16 : decode cX5_many 16 = .ok (.invokespecial 62, 3) := by decide +kernel
theorem dX5_many_19 : decode cX5_many 19 = .ok (.athrow, 1) := by decide +kernel
theorem dX5_many_20 : decode cX5_many 20 = .ok (.iload_n 1, 1) := by decide +kernel
theorem dX5_many_21 : decode cX5_many 21 = .ok (.tableswitch 122 0 9 #[55, 63, 71, 79, 87, 92, 97, 103, 109, 114], 55) := by decide +kernel
theorem dX5_many_76 : decode cX5_many 76 = .ok (.aload_n 0, 1) := by decide +kernel
theorem dX5_many_77 : decode cX5_many 77 = .ok (.getfield 10, 3) := by decide +kernel
theorem dX5_many_80 : decode cX5_many 80 = .ok (.getfield 120, 3) := by decide +kernel
theorem dX5_many_83 : decode cX5_many 83 = .ok (.ireturn, 1) := by decide +kernel
theorem dX5_many_84 : decode cX5_many 84 = .ok (.aload_n 0, 1) := by decide +kernel
theorem dX5_many_85 : decode cX5_many 85 = .ok (.getfield 10, 3) := by decide +kernel
theorem dX5_many_88 : decode cX5_many 88 = .ok (.getfield 249, 3) := by decide +kernel
theorem dX5_many_91 : decode cX5_many 91 = .ok (.ireturn, 1) := by decide +kernel
theorem dX5_many_92 : decode cX5_many 92 = .ok (.aload_n 0, 1) := by decide +kernel
theorem dX5_many_93 : decode cX5_many 93 = .ok (.getfield 19, 3) := by decide +kernel
theorem dX5_many_96 : decode cX5_many 96 = .ok (.getfield 252, 3) := by decide +kernel
theorem dX5_many_99 : decode cX5_many 99 = .ok (.ireturn, 1) := by decide +kernel
theorem dX5_many_100 : decode cX5_many 100 = .ok (.aload_n 0, 1) := by decide +kernel
theorem dX5_many_101 : decode cX5_many 101 = .ok (.getfield 26, 3) := by decide +kernel
theorem dX5_many_104 : decode cX5_many 104 = .ok (.getfield 139, 3) := by decide +kernel
theorem dX5_many_107 : decode cX5_many 107 = .ok (.ireturn, 1) := by decide +kernel
theorem dX5_many_108 : decode cX5_many 108 = .ok (.aload_n 0, 1) := by decide +kernel
theorem dX5_many_109 : decode cX5_many 109 = .ok (.getfield 174, 3) := by decide +kernel
theorem dX5_many_112 : decode cX5_many 112 = .ok (.ireturn, 1) := by decide +kernel
theorem dX5_many_113 : decode cX5_many 113 = .ok (.aload_n 0, 1) := by decide +kernel
theorem dX5_many_114 : decode cX5_many 114 = .ok (.invokevirtual 255, 3) := by decide +kernel
theorem dX5_many_117 : decode cX5_many 117 = .ok (.ireturn, 1) := by decide +kernel
theorem dX5_many_118 : decode cX5_many 118 = .ok (.aload_n 0, 1) := by decide +kernel
theorem dX5_many_119 : decode cX5_many 119 = .ok (.iconst 2, 1) := by decide +kernel
theorem dX5_many_120 : decode cX5_many 120 = .ok (.invokevirtual 259, 3) := by decide +kernel
theorem dX5_many_123 : decode cX5_many 123 = .ok (.ireturn, 1) := by decide +kernel
theorem dX5_many_124 : decode cX5_many 124 = .ok (.aload_n 0, 1) := by decide +kernel
theorem dX5_many_125 : decode cX5_many 125 = .ok (.iconst 1, 1) := by decide +kernel
theorem dX5_many_126 : decode cX5_many 126 = .ok (.invokevirtual 259, 3) := by decide +kernel
theorem dX5_many_129 : decode cX5_many 129 = .ok (.ireturn, 1) := by decide +kernel
theorem dX5_many_130 : decode cX5_many 130 = .ok (.aload_n 0, 1) := by decide +kernel
theorem dX5_many_131 : decode cX5_many 131 = .ok (.invokevirtual 262, 3) := by decide +kernel
theorem dX5_many_134 : decode cX5_many 134 = .ok (.ireturn, 1) := by decide +kernel
theorem dX5_many_135 : decode cX5_many 135 = .ok (.aload_n 0, 1) := by decide +kernel
theorem dX5_many_136 : decode cX5_many 136 = .ok (.getfield 26, 3) := by decide +kernel
theorem dX5_many_139 : decode cX5_many 139 = .ok (.invokevirtual 265, 3) := by decide +kernel
theorem dX5_many_142 : decode cX5_many 142 = .ok (.ireturn, 1) := by decide +kernel
theorem dX5_many_143 : decode cX5_many 143 = .ok (.aload_n 0, 1) := by decide +kernel
theorem dX5_many_144 : decode cX5_many 144 = .ok (.getfield 160, 3) := by decide +kernel
theorem dX5_many_147 : decode cX5_many 147 = .ok (.ireturn, 1) := by decide +kernel
theorem dX5_rightOn_0 : decode cX5_rightOn 0 = .ok (.aload_n 0, 1) := by decide +kernel
theorem dX5_rightOn_1 : decode cX5_rightOn 1 = .ok (.iload_n 1, 1) := by decide +kernel
theorem dX5_rightOn_2 : decode cX5_rightOn 2 = .ok (.invokevirtual 179, 3) := by decide +kernel
theorem dX5_rightOn_5 : decode cX5_rightOn 5 = .ok (.astore_n 3, 1) := by decide +kernel
theorem dX5_rightOn_6 : decode cX5_rightOn 6 = .ok (.iload_n 2, 1) := by decide +kernel
theorem dX5_rightOn_7 : decode cX5_rightOn 7 = .ok (.ifCond .lt 14, 3) := by decide +kernel
theorem dX5_rightOn_10 : decode cX5_rightOn 10 = .ok (.iload_n 2, 1) := by decide +kernel
theorem dX5_rightOn_11 : decode cX5_rightOn 11 = .ok (.aload_n 0, 1) := by decide +kernel
theorem dX5_rightOn_12 : decode cX5_rightOn 12 = .ok (.getfield 10, 3) := by decide +kernel
theorem dX5_rightOn_15 : decode cX5_rightOn 15 = .ok (.getfield 249, 3) := by decide +kernel
theorem dX5_rightOn_18 : decode cX5_rightOn 18 = .ok (.if_icmp .lt 14, 3) := by decide +kernel
theorem dX5_rightOn_21 : decode cX5_rightOn 21 = .ok (.new 74, 3) := by decide +kernel
theorem dX5_rightOn_24 : decode cX5_rightOn 24 = .ok (.dup, 1) := by decide +kernel
theorem dX5_rightOn_25 : decode cX5_rightOn 25 = .ok (.ldc_w 271, 3) := by decide +kernel
theorem dX5_rightOn_28 : decode cX5_rightOn 28 = .ok (.invokespecial 78, 3) := by decide +kernel
theorem dX5_rightOn_31 : decode cX5_rightOn 31 = .ok (.athrow, 1) := by decide +kernel
theorem dX5_rightOn_32 : decode cX5_rightOn 32 = .ok (.aload_n 0, 1) := by decide +kernel
theorem dX5_rightOn_33 : decode cX5_rightOn 33 = .ok (.getfield 35, 3) := by decide +kernel
theorem dX5_rightOn_36 : decode cX5_rightOn 36 = .ok (.aload_n 3, 1) := by decide +kernel
theorem dX5_rightOn_37 : decode cX5_rightOn 37 = .ok (.aload_n 0, 1) := by decide +kernel
theorem dX5_rightOn_38 : decode cX5_rightOn 38 = .ok (.getfield 160, 3) := by decide +kernel
theorem dX5_rightOn_41 : decode cX5_rightOn 41 = .ok (.iconst (-1), 1) := by decide +kernel
theorem dX5_rightOn_42 : decode cX5_rightOn 42 = .ok (.iconst 0, 1) := by decide +kernel
theorem dX5_rightOn_43 : decode cX5_rightOn 43 = .ok (.invokevirtual 233, 3) := by decide +kernel
theorem dX5_rightOn_46 : decode cX5_rightOn 46 = .ok (.aload_n 0, 1) := by decide +kernel
theorem dX5_rightOn_47 : decode cX5_rightOn 47 = .ok (.getfield 35, 3) := by decide +kernel
theorem dX5_rightOn_50 : decode cX5_rightOn 50 = .ok (.aload_n 0, 1) := by decide +kernel
theorem dX5_rightOn_51 : decode cX5_rightOn 51 = .ok (.getfield 10, 3) := by decide +kernel
theorem dX5_rightOn_54 : decode cX5_rightOn 54 = .ok (.getfield 273, 3) := by decide +kernel
theorem dX5_rightOn_57 : decode cX5_rightOn 57 = .ok (.iload_n 2, 1) := by decide +kernel
theorem dX5_rightOn_58 : decode cX5_rightOn 58 = .ok (.iaload, 1) := by decide +kernel
theorem dX5_rightOn_59 : decode cX5_rightOn 59 = .ok (.invokevirtual 276, 3) := by decide +kernel
theorem dX5_rightOn_62 : decode cX5_rightOn 62 = .ok (.ireturn, 1) := by decide +kernel
theorem dX5_next_0 : decode cX5_next 0 = .ok (.aload_n 0, 1) := by decide +kernel
theorem dX5_next_1 : decode cX5_next 1 = .ok (.aload_n 0, 1) := by decide +kernel
theorem dX5_next_2 : decode cX5_next 2 = .ok (.iload_n 1, 1) := by decide +kernel
theorem dX5_next_3 : decode cX5_next 3 = .ok (.invokevirtual 179, 3) := by decide +kernel
theorem dX5_next_6 : decode cX5_next 6 = .ok (.invokevirtual 279, 3) := by decide +kernel
theorem dX5_next_9 : decode cX5_next 9 = .ok (.ireturn, 1) := by decide +kernel
theorem dX5_digest_0 : decode cX5_digest 0 = .ok (.ldc2_w 286, 3) := by decide +kernel
theorem dX5_digest_3 : decode cX5_digest 3 = .ok (.lstore_n 1, 1) := by decide +kernel
theorem dX5_digest_4 : decode cX5_digest 4 = .ok (.iconst 0, 1) := by decide +kernel
theorem dX5_digest_5 : decode cX5_digest 5 = .ok (.istore_n 3, 1) := by decide +kernel
theorem dX5_digest_6 : decode cX5_digest 6 = .ok (.iload_n 3, 1) := by decide +kernel
theorem dX5_digest_7 : decode cX5_digest 7 = .ok (.bipush 10, 2) := by decide +kernel
