theorem dX8_grows_66 : decode cX8_grows 66 = .ok (.iload_n 1, 1) := by decide +kernel
theorem dX8_grows_67 : decode cX8_grows 67 = .ok (.iadd, 1) := by decide +kernel
theorem dX8_grows_68 : decode cX8_grows 68 = .ok (.dup2, 1) := by decide +kernel
theorem dX8_grows_69 : decode cX8_grows 69 = .ok (.iaload, 1) := by decide +kernel
theorem dX8_grows_70 : decode cX8_grows 70 = .ok (.iconst 1, 1) := by decide +kernel
theorem dX8_grows_71 : decode cX8_grows 71 = .ok (.iadd, 1) := by decide +kernel
theorem dX8_grows_72 : decode cX8_grows 72 = .ok (.iastore, 1) := by decide +kernel
theorem dX8_grows_73 : decode cX8_grows 73 = .ok (.return_, 1) := by decide +kernel
theorem dX8_days_0 : decode cX8_days 0 = .ok (.iload_n 1, 1) := by decide +kernel
theorem dX8_days_1 : decode cX8_days 1 = .ok (.iconst 1, 1) := by decide +kernel
theorem dX8_days_2 : decode cX8_days 2 = .ok (.bipush 9, 2) := by decide +kernel
theorem dX8_days_4 : decode cX8_days 4 = .ok (.invokestatic 60, 3) := by decide +kernel
theorem dX8_days_7 : decode cX8_days 7 = .ok (.ifCond .ne 5, 3) := by decide +kernel
theorem dX8_days_10 : decode cX8_days 10 = .ok (.iconst (-1), 1) := by decide +kernel
theorem dX8_days_11 : decode cX8_days 11 = .ok (.ireturn, 1) := by decide +kernel
theorem dX8_days_12 : decode cX8_days 12 = .ok (.aload_n 0, 1) := by decide +kernel
theorem dX8_days_13 : decode cX8_days 13 = .ok (.getfield 23, 3) := by decide +kernel
theorem dX8_days_16 : decode cX8_days 16 = .ok (.iconst 0, 1) := by decide +kernel
theorem dX8_days_17 : decode cX8_days 17 = .ok (.iaload, 1) := by decide +kernel
theorem dX8_days_18 : decode cX8_days 18 = .ok (.iload_n 1, 1) := by decide +kernel
theorem dX8_days_19 : decode cX8_days 19 = .ok (.iadd, 1) := by decide +kernel
theorem dX8_days_20 : decode cX8_days 20 = .ok (.sipush 999, 3) := by decide +kernel
theorem dX8_days_23 : decode cX8_days 23 = .ok (.if_icmp .le 6, 3) := by decide +kernel
theorem dX8_days_26 : decode cX8_days 26 = .ok (.bipush (-2), 2) := by decide +kernel
theorem dX8_days_28 : decode cX8_days 28 = .ok (.ireturn, 1) := by decide +kernel
theorem dX8_days_29 : decode cX8_days 29 = .ok (.aload_n 0, 1) := by decide +kernel
theorem dX8_days_30 : decode cX8_days 30 = .ok (.invokevirtual 153, 3) := by decide +kernel
theorem dX8_days_33 : decode cX8_days 33 = .ok (.iconst 0, 1) := by decide +kernel
theorem dX8_days_34 : decode cX8_days 34 = .ok (.istore_n 2, 1) := by decide +kernel
theorem dX8_days_35 : decode cX8_days 35 = .ok (.iload_n 2, 1) := by decide +kernel
theorem dX8_days_36 : decode cX8_days 36 = .ok (.iload_n 1, 1) := by decide +kernel
theorem dX8_days_37 : decode cX8_days 37 = .ok (.if_icmp .ge 40, 3) := by decide +kernel
theorem dX8_days_40 : decode cX8_days 40 = .ok (.iconst 0, 1) := by decide +kernel
theorem dX8_days_41 : decode cX8_days 41 = .ok (.istore_n 3, 1) := by decide +kernel
theorem dX8_days_42 : decode cX8_days 42 = .ok (.iload_n 3, 1) := by decide +kernel
theorem dX8_days_43 : decode cX8_days 43 = .ok (.aload_n 0, 1) := by decide +kernel
theorem dX8_days_44 : decode cX8_days 44 = .ok (.getfield 57, 3) := by decide +kernel
theorem dX8_days_47 : decode cX8_days 47 = .ok (.if_icmp .ge 14, 3) := by decide +kernel
theorem dX8_days_50 : decode cX8_days 50 = .ok (.aload_n 0, 1) := by decide +kernel
theorem dX8_days_51 : decode cX8_days 51 = .ok (.iload_n 3, 1) := by decide +kernel
theorem dX8_days_52 : decode cX8_days 52 = .ok (.invokevirtual 156, 3) := by decide +kernel
theorem dX8_days_55 : decode cX8_days 55 = .ok (.iinc 3 1, 3) := by decide +kernel
theorem dX8_days_58 : decode cX8_days 58 = .ok (.goto (-16), 3) := by decide +kernel
theorem dX8_days_61 : decode cX8_days 61 = .ok (.aload_n 0, 1) := by decide +kernel
theorem dX8_days_62 : decode cX8_days 62 = .ok (.getfield 23, 3) := by decide +kernel
theorem dX8_days_65 : decode cX8_days 65 = .ok (.iconst 0, 1) := by decide +kernel
theorem dX8_days_66 : decode cX8_days 66 = .ok (.dup2, 1) := by decide +kernel
theorem dX8_days_67 : decode cX8_days 67 = .ok (.iaload, 1) := by decide +kernel
theorem dX8_days_68 : decode cX8_days 68 = .ok (.iconst 1, 1) := by decide +kernel
theorem dX8_days_69 : decode cX8_days 69 = .ok (.iadd, 1) := by decide +kernel
theorem dX8_days_70 : decode cX8_days 70 = .ok (.iastore, 1) := by decide +kernel
theorem dX8_days_71 : decode cX8_days 71 = .ok (.iinc 2 1, 3) := by decide +kernel
theorem dX8_days_74 : decode cX8_days 74 = .ok (.goto (-39), 3) := by decide +kernel
theorem dX8_days_77 : decode cX8_days 77 = .ok (.aload_n 0, 1) := by decide +kernel
theorem dX8_days_78 : decode cX8_days 78 = .ok (.getfield 23, 3) := by decide +kernel
theorem dX8_days_81 : decode cX8_days 81 = .ok (.iconst 0, 1) := by decide +kernel
theorem dX8_days_82 : decode cX8_days 82 = .ok (.iaload, 1) := by decide +kernel
theorem dX8_days_83 : decode cX8_days 83 = .ok (.ireturn, 1) := by decide +kernel
theorem dX8_minds_0 : decode cX8_minds 0 = .ok (.aload_n 0, 1) := by decide +kernel
theorem dX8_minds_1 : decode cX8_minds 1 = .ok (.iload_n 1, 1) := by decide +kernel
theorem dX8_minds_2 : decode cX8_minds 2 = .ok (.invokevirtual 134, 3) := by decide +kernel
theorem dX8_minds_5 : decode cX8_minds 5 = .ok (.ifCond .eq 10, 3) := by decide +kernel
theorem dX8_minds_8 : decode cX8_minds 8 = .ok (.iload_n 2, 1) := by decide +kernel
theorem dX8_minds_9 : decode cX8_minds 9 = .ok (.invokestatic 143, 3) := by decide +kernel
theorem dX8_minds_12 : decode cX8_minds 12 = .ok (.ifCond .ne 5, 3) := by decide +kernel
theorem dX8_minds_15 : decode cX8_minds 15 = .ok (.iconst (-1), 1) := by decide +kernel
theorem dX8_minds_16 : decode cX8_minds 16 = .ok (.ireturn, 1) := by decide +kernel
theorem dX8_minds_17 : decode cX8_minds 17 = .ok (.aload_n 0, 1) := by decide +kernel
theorem dX8_minds_18 : decode cX8_minds 18 = .ok (.getfield 23, 3) := by decide +kernel
theorem dX8_minds_21 : decode cX8_minds 21 = .ok (.bipush 67, 2) := by decide +kernel
theorem dX8_minds_23 : decode cX8_minds 23 = .ok (.iload_n 1, 1) := by decide +kernel
theorem dX8_minds_24 : decode cX8_minds 24 = .ok (.iadd, 1) := by decide +kernel
theorem dX8_minds_25 : decode cX8_minds 25 = .ok (.iaload, 1) := by decide +kernel
theorem dX8_minds_26 : decode cX8_minds 26 = .ok (.istore_n 3, 1) := by decide +kernel
theorem dX8_minds_27 : decode cX8_minds 27 = .ok (.iload_n 3, 1) := by decide +kernel
theorem dX8_minds_28 : decode cX8_minds 28 = .ok (.iload_n 2, 1) := by decide +kernel
theorem dX8_minds_29 : decode cX8_minds 29 = .ok (.if_icmp .ne 6, 3) := by decide +kernel
theorem dX8_minds_32 : decode cX8_minds 32 = .ok (.bipush (-2), 2) := by decide +kernel
theorem dX8_minds_34 : decode cX8_minds 34 = .ok (.ireturn, 1) := by decide +kernel
theorem dX8_minds_35 : decode cX8_minds 35 = .ok (.aload_n 0, 1) := by decide +kernel
theorem dX8_minds_36 : decode cX8_minds 36 = .ok (.invokevirtual 153, 3) := by decide +kernel
theorem dX8_minds_39 : decode cX8_minds 39 = .ok (.aload_n 0, 1) := by decide +kernel
theorem dX8_minds_40 : decode cX8_minds 40 = .ok (.getfield 23, 3) := by decide +kernel
theorem dX8_minds_43 : decode cX8_minds 43 = .ok (.bipush 67, 2) := by decide +kernel
theorem dX8_minds_45 : decode cX8_minds 45 = .ok (.iload_n 1, 1) := by decide +kernel
theorem dX8_minds_46 : decode cX8_minds 46 = .ok (.iadd, 1) := by decide +kernel
theorem dX8_minds_47 : decode cX8_minds 47 = .ok (.iload_n 2, 1) := by decide +kernel
theorem dX8_minds_48 : decode cX8_minds 48 = .ok (.iastore, 1) := by decide +kernel
theorem dX8_minds_49 : decode cX8_minds 49 = .ok (.iload_n 3, 1) := by decide +kernel
theorem dX8_minds_50 : decode cX8_minds 50 = .ok (.ireturn, 1) := by decide +kernel
theorem dX8_cuts_0 : decode cX8_cuts 0 = .ok (.aload_n 0, 1) := by decide +kernel
theorem dX8_cuts_1 : decode cX8_cuts 1 = .ok (.iload_n 1, 1) := by decide +kernel
theorem dX8_cuts_2 : decode cX8_cuts 2 = .ok (.invokevirtual 134, 3) := by decide +kernel
theorem dX8_cuts_5 : decode cX8_cuts 5 = .ok (.ifCond .eq 13, 3) := by decide +kernel
theorem dX8_cuts_8 : decode cX8_cuts 8 = .ok (.iload_n 2, 1) := by decide +kernel
theorem dX8_cuts_9 : decode cX8_cuts 9 = .ok (.iconst 1, 1) := by decide +kernel
theorem dX8_cuts_10 : decode cX8_cuts 10 = .ok (.bipush 12, 2) := by decide +kernel
theorem dX8_cuts_12 : decode cX8_cuts 12 = .ok (.invokestatic 60, 3) := by decide +kernel
theorem dX8_cuts_15 : decode cX8_cuts 15 = .ok (.ifCond .ne 5, 3) := by decide +kernel
theorem dX8_cuts_18 : decode cX8_cuts 18 = .ok (.iconst (-1), 1) := by decide +kernel
theorem dX8_cuts_19 : decode cX8_cuts 19 = .ok (.ireturn, 1) := by decide +kernel
theorem dX8_cuts_20 : decode cX8_cuts 20 = .ok (.aload_n 0, 1) := by decide +kernel
theorem dX8_cuts_21 : decode cX8_cuts 21 = .ok (.getfield 23, 3) := by decide +kernel
theorem dX8_cuts_24 : decode cX8_cuts 24 = .ok (.iconst 2, 1) := by decide +kernel
theorem dX8_cuts_25 : decode cX8_cuts 25 = .ok (.iload_n 1, 1) := by decide +kernel
theorem dX8_cuts_26 : decode cX8_cuts 26 = .ok (.iadd, 1) := by decide +kernel
theorem dX8_cuts_27 : decode cX8_cuts 27 = .ok (.iaload, 1) := by decide +kernel
theorem dX8_cuts_28 : decode cX8_cuts 28 = .ok (.iload_n 2, 1) := by decide +kernel
theorem dX8_cuts_29 : decode cX8_cuts 29 = .ok (.if_icmp .ge 6, 3) := by decide +kernel
theorem dX8_cuts_32 : decode cX8_cuts 32 = .ok (.bipush (-2), 2) := by decide +kernel
theorem dX8_cuts_34 : decode cX8_cuts 34 = .ok (.ireturn, 1) := by decide +kernel
theorem dX8_cuts_35 : decode cX8_cuts 35 = .ok (.aload_n 0, 1) := by decide +kernel
theorem dX8_cuts_36 : decode cX8_cuts 36 = .ok (.invokevirtual 153, 3) := by decide +kernel
theorem dX8_cuts_39 : decode cX8_cuts 39 = .ok (.iconst 0, 1) := by decide +kernel
theorem dX8_cuts_40 : decode cX8_cuts 40 = .ok (.istore_n 3, 1) := by decide +kernel
theorem dX8_cuts_41 : decode cX8_cuts 41 = .ok (.iload_n 3, 1) := by decide +kernel
theorem dX8_cuts_42 : decode cX8_cuts 42 = .ok (.iload_n 2, 1) := by decide +kernel
theorem dX8_cuts_43 : decode cX8_cuts 43 = .ok (.if_icmp .ge 57, 3) := by decide +kernel
theorem dX8_cuts_46 : decode cX8_cuts 46 = .ok (.bipush 72, 2) := by decide +kernel
theorem dX8_cuts_48 : decode cX8_cuts 48 = .ok (.bipush 10, 2) := by decide +kernel
theorem dX8_cuts_50 : decode cX8_cuts 50 = .ok (.aload_n 0, 1) := by decide +kernel
theorem dX8_cuts_51 : decode cX8_cuts 51 = .ok (.getfield 23, 3) := by decide +kernel
theorem dX8_cuts_54 : decode cX8_cuts 54 = .ok (.iconst 1, 1) := by decide +kernel
theorem dX8_cuts_55 : decode cX8_cuts 55 = .ok (.iaload, 1) := by decide +kernel
theorem dX8_cuts_56 : decode cX8_cuts 56 = .ok (.imul, 1) := by decide +kernel
theorem dX8_cuts_57 : decode cX8_cuts 57 = .ok (.iadd, 1) := by decide +kernel
theorem dX8_cuts_58 : decode cX8_cuts 58 = .ok (.aload_n 0, 1) := by decide +kernel
theorem dX8_cuts_59 : decode cX8_cuts 59 = .ok (.iload_n 1, 1) := by decide +kernel
theorem dX8_cuts_60 : decode cX8_cuts 60 = .ok (.iload_n 3, 1) := by decide +kernel
theorem dX8_cuts_61 : decode cX8_cuts 61 = .ok (.invokevirtual 131, 3) := by decide +kernel
theorem dX8_cuts_64 : decode cX8_cuts 64 = .ok (.iadd, 1) := by decide +kernel
theorem dX8_cuts_65 : decode cX8_cuts 65 = .ok (.istore 4, 2) := by decide +kernel
theorem dX8_cuts_67 : decode cX8_cuts 67 = .ok (.aload_n 0, 1) := by decide +kernel
theorem dX8_cuts_68 : decode cX8_cuts 68 = .ok (.getfield 23, 3) := by decide +kernel
theorem dX8_cuts_71 : decode cX8_cuts 71 = .ok (.iload 4, 2) := by decide +kernel
theorem dX8_cuts_73 : decode cX8_cuts 73 = .ok (.dup2, 1) := by decide +kernel
theorem dX8_cuts_74 : decode cX8_cuts 74 = .ok (.iaload, 1) := by decide +kernel
theorem dX8_cuts_75 : decode cX8_cuts 75 = .ok (.aload_n 0, 1) := by decide +kernel
theorem dX8_cuts_76 : decode cX8_cuts 76 = .ok (.getfield 23, 3) := by decide +kernel
theorem dX8_cuts_79 : decode cX8_cuts 79 = .ok (.iload 4, 2) := by decide +kernel
theorem dX8_cuts_81 : decode cX8_cuts 81 = .ok (.iaload, 1) := by decide +kernel
theorem dX8_cuts_82 : decode cX8_cuts 82 = .ok (.bipush 99, 2) := by decide +kernel
theorem dX8_cuts_84 : decode cX8_cuts 84 = .ok (.if_icmp .ge 7, 3) := by decide +kernel
theorem dX8_cuts_87 : decode cX8_cuts 87 = .ok (.iconst 1, 1) := by decide +kernel
theorem dX8_cuts_88 : decode cX8_cuts 88 = .ok (.goto 4, 3) := by decide +kernel
theorem dX8_cuts_91 : decode cX8_cuts 91 = .ok (.iconst 0, 1) := by decide +kernel
theorem dX8_cuts_92 : decode cX8_cuts 92 = .ok (.iadd, 1) := by decide +kernel
theorem dX8_cuts_93 : decode cX8_cuts 93 = .ok (.iastore, 1) := by decide +kernel
theorem dX8_cuts_94 : decode cX8_cuts 94 = .ok (.iinc 3 1, 3) := by decide +kernel
theorem dX8_cuts_97 : decode cX8_cuts 97 = .ok (.goto (-56), 3) := by decide +kernel
theorem dX8_cuts_100 : decode cX8_cuts 100 = .ok (.aload_n 0, 1) := by decide +kernel
theorem dX8_cuts_101 : decode cX8_cuts 101 = .ok (.iload_n 1, 1) := by decide +kernel
theorem dX8_cuts_102 : decode cX8_cuts 102 = .ok (.iload_n 2, 1) := by decide +kernel
theorem dX8_cuts_103 : decode cX8_cuts 103 = .ok (.invokevirtual 149, 3) := by decide +kernel
theorem dX8_cuts_106 : decode cX8_cuts 106 = .ok (.aload_n 0, 1) := by decide +kernel
theorem dX8_cuts_107 : decode cX8_cuts 107 = .ok (.getfield 23, 3) := by decide +kernel
theorem dX8_cuts_110 : decode cX8_cuts 110 = .ok (.iconst 2, 1) := by decide +kernel
theorem dX8_cuts_111 : decode cX8_cuts 111 = .ok (.iload_n 1, 1) := by decide +kernel
theorem dX8_cuts_112 : decode cX8_cuts 112 = .ok (.iadd, 1) := by decide +kernel
theorem dX8_cuts_113 : decode cX8_cuts 113 = .ok (.iaload, 1) := by decide +kernel
theorem dX8_cuts_114 : decode cX8_cuts 114 = .ok (.ireturn, 1) := by decide +kernel
theorem dX8_changes_0 : decode cX8_changes 0 = .ok (.iload_n 1, 1) := by decide +kernel
theorem dX8_changes_1 : decode cX8_changes 1 = .ok (.invokestatic 140, 3) := by decide +kernel
theorem dX8_changes_4 : decode cX8_changes 4 = .ok (.ifCond .ne 5, 3) := by decide +kernel
theorem dX8_changes_7 : decode cX8_changes 7 = .ok (.iconst (-1), 1) := by decide +kernel
theorem dX8_changes_8 : decode cX8_changes 8 = .ok (.ireturn, 1) := by decide +kernel
theorem dX8_changes_9 : decode cX8_changes 9 = .ok (.aload_n 0, 1) := by decide +kernel
theorem dX8_changes_10 : decode cX8_changes 10 = .ok (.getfield 23, 3) := by decide +kernel
theorem dX8_changes_13 : decode cX8_changes 13 = .ok (.iconst 1, 1) := by decide +kernel
theorem dX8_changes_14 : decode cX8_changes 14 = .ok (.iaload, 1) := by decide +kernel
theorem dX8_changes_15 : decode cX8_changes 15 = .ok (.istore_n 2, 1) := by decide +kernel
theorem dX8_changes_16 : decode cX8_changes 16 = .ok (.iload_n 2, 1) := by decide +kernel
theorem dX8_changes_17 : decode cX8_changes 17 = .ok (.iload_n 1, 1) := by decide +kernel
theorem dX8_changes_18 : decode cX8_changes 18 = .ok (.if_icmp .ne 6, 3) := by decide +kernel
theorem dX8_changes_21 : decode cX8_changes 21 = .ok (.bipush (-2), 2) := by decide +kernel
theorem dX8_changes_23 : decode cX8_changes 23 = .ok (.ireturn, 1) := by decide +kernel
theorem dX8_changes_24 : decode cX8_changes 24 = .ok (.aload_n 0, 1) := by decide +kernel
theorem dX8_changes_25 : decode cX8_changes 25 = .ok (.invokevirtual 153, 3) := by decide +kernel
theorem dX8_changes_28 : decode cX8_changes 28 = .ok (.aload_n 0, 1) := by decide +kernel
theorem dX8_changes_29 : decode cX8_changes 29 = .ok (.getfield 23, 3) := by decide +kernel
theorem dX8_changes_32 : decode cX8_changes 32 = .ok (.iconst 1, 1) := by decide +kernel
theorem dX8_changes_33 : decode cX8_changes 33 = .ok (.iload_n 1, 1) := by decide +kernel
theorem dX8_changes_34 : decode cX8_changes 34 = .ok (.iastore, 1) := by decide +kernel
theorem dX8_changes_35 : decode cX8_changes 35 = .ok (.iload_n 2, 1) := by decide +kernel
theorem dX8_changes_36 : decode cX8_changes 36 = .ok (.ireturn, 1) := by decide +kernel
theorem dX8_empties_0 : decode cX8_empties 0 = .ok (.iload_n 1, 1) := by decide +kernel
theorem dX8_empties_1 : decode cX8_empties 1 = .ok (.invokestatic 140, 3) := by decide +kernel
theorem dX8_empties_4 : decode cX8_empties 4 = .ok (.ifCond .ne 5, 3) := by decide +kernel
theorem dX8_empties_7 : decode cX8_empties 7 = .ok (.iconst (-1), 1) := by decide +kernel
theorem dX8_empties_8 : decode cX8_empties 8 = .ok (.ireturn, 1) := by decide +kernel
theorem dX8_empties_9 : decode cX8_empties 9 = .ok (.aload_n 0, 1) := by decide +kernel
theorem dX8_empties_10 : decode cX8_empties 10 = .ok (.iload_n 1, 1) := by decide +kernel
theorem dX8_empties_11 : decode cX8_empties 11 = .ok (.invokevirtual 160, 3) := by decide +kernel
theorem dX8_empties_14 : decode cX8_empties 14 = .ok (.istore_n 2, 1) := by decide +kernel
theorem dX8_empties_15 : decode cX8_empties 15 = .ok (.iload_n 2, 1) := by decide +kernel
theorem dX8_empties_16 : decode cX8_empties 16 = .ok (.ifCond .ne 6, 3) := by decide +kernel
theorem dX8_empties_19 : decode cX8_empties 19 = .ok (.bipush (-2), 2) := by decide +kernel
theorem dX8_empties_21 : decode cX8_empties 21 = .ok (.ireturn, 1) := by decide +kernel
theorem dX8_empties_22 : decode cX8_empties 22 = .ok (.aload_n 0, 1) := by decide +kernel
theorem dX8_empties_23 : decode cX8_empties 23 = .ok (.invokevirtual 153, 3) := by decide +kernel
theorem dX8_empties_26 : decode cX8_empties 26 = .ok (.iconst 0, 1) := by decide +kernel
theorem dX8_empties_27 : decode cX8_empties 27 = .ok (.istore_n 3, 1) := by decide +kernel
theorem dX8_empties_28 : decode cX8_empties 28 = .ok (.iload_n 3, 1) := by decide +kernel
theorem dX8_empties_29 : decode cX8_empties 29 = .ok (.bipush 10, 2) := by decide +kernel
theorem dX8_empties_31 : decode cX8_empties 31 = .ok (.if_icmp .ge 24, 3) := by decide +kernel
theorem dX8_empties_34 : decode cX8_empties 34 = .ok (.aload_n 0, 1) := by decide +kernel
theorem dX8_empties_35 : decode cX8_empties 35 = .ok (.getfield 23, 3) := by decide +kernel
theorem dX8_empties_38 : decode cX8_empties 38 = .ok (.bipush 72, 2) := by decide +kernel
theorem dX8_empties_40 : decode cX8_empties 40 = .ok (.bipush 10, 2) := by decide +kernel
theorem dX8_empties_42 : decode cX8_empties 42 = .ok (.iload_n 1, 1) := by decide +kernel
theorem dX8_empties_43 : decode cX8_empties 43 = .ok (.imul, 1) := by decide +kernel
theorem dX8_empties_44 : decode cX8_empties 44 = .ok (.iadd, 1) := by decide +kernel
theorem dX8_empties_45 : decode cX8_empties 45 = .ok (.iload_n 3, 1) := by decide +kernel
theorem dX8_empties_46 : decode cX8_empties 46 = .ok (.iadd, 1) := by decide +kernel
theorem dX8_empties_47 : decode cX8_empties 47 = .ok (.iconst 0, 1) := by decide +kernel
theorem dX8_empties_48 : decode cX8_empties 48 = .ok (.iastore, 1) := by decide +kernel
theorem dX8_empties_49 : decode cX8_empties 49 = .ok (.iinc 3 1, 3) := by decide +kernel
theorem dX8_empties_52 : decode cX8_empties 52 = .ok (.goto (-24), 3) := by decide +kernel
theorem dX8_empties_55 : decode cX8_empties 55 = .ok (.iload_n 2, 1) := by decide +kernel
theorem dX8_empties_56 : decode cX8_empties 56 = .ok (.ireturn, 1) := by decide +kernel
theorem dX8_undo_0 : decode cX8_undo 0 = .ok (.aload_n 0, 1) := by decide +kernel
theorem dX8_undo_1 : decode cX8_undo 1 = .ok (.getfield 23, 3) := by decide +kernel
theorem dX8_undo_4 : decode cX8_undo 4 = .ok (.bipush 112, 2) := by decide +kernel
theorem dX8_undo_6 : decode cX8_undo 6 = .ok (.iaload, 1) := by decide +kernel
theorem dX8_undo_7 : decode cX8_undo 7 = .ok (.ifCond .ne 6, 3) := by decide +kernel
theorem dX8_undo_10 : decode cX8_undo 10 = .ok (.bipush (-2), 2) := by decide +kernel
theorem dX8_undo_12 : decode cX8_undo 12 = .ok (.ireturn, 1) := by decide +kernel
theorem dX8_undo_13 : decode cX8_undo 13 = .ok (.aload_n 0, 1) := by decide +kernel
theorem dX8_undo_14 : decode cX8_undo 14 = .ok (.getfield 23, 3) := by decide +kernel
theorem dX8_undo_17 : decode cX8_undo 17 = .ok (.bipush 112, 2) := by decide +kernel
theorem dX8_undo_19 : decode cX8_undo 19 = .ok (.dup2, 1) := by decide +kernel
theorem dX8_undo_20 : decode cX8_undo 20 = .ok (.iaload, 1) := by decide +kernel
theorem dX8_undo_21 : decode cX8_undo 21 = .ok (.iconst 1, 1) := by decide +kernel
theorem dX8_undo_22 : decode cX8_undo 22 = .ok (.isub, 1) := by decide +kernel
theorem dX8_undo_23 : decode cX8_undo 23 = .ok (.iastore, 1) := by decide +kernel
theorem dX8_undo_24 : decode cX8_undo 24 = .ok (.bipush 113, 2) := by decide +kernel
theorem dX8_undo_26 : decode cX8_undo 26 = .ok (.bipush 112, 2) := by decide +kernel
theorem dX8_undo_28 : decode cX8_undo 28 = .ok (.aload_n 0, 1) := by decide +kernel
theorem dX8_undo_29 : decode cX8_undo 29 = .ok (.getfield 23, 3) := by decide +kernel
theorem dX8_undo_32 : decode cX8_undo 32 = .ok (.bipush 112, 2) := by decide +kernel
theorem dX8_undo_34 : decode cX8_undo 34 = .ok (.iaload, 1) := by decide +kernel
theorem dX8_undo_35 : decode cX8_undo 35 = .ok (.imul, 1) := by decide +kernel
theorem dX8_undo_36 : decode cX8_undo 36 = .ok (.iadd, 1) := by decide +kernel
theorem dX8_undo_37 : decode cX8_undo 37 = .ok (.istore_n 1, 1) := by decide +kernel
theorem dX8_undo_38 : decode cX8_undo 38 = .ok (.iconst 0, 1) := by decide +kernel
theorem dX8_undo_39 : decode cX8_undo 39 = .ok (.istore_n 2, 1) := by decide +kernel
theorem dX8_undo_40 : decode cX8_undo 40 = .ok (.iload_n 2, 1) := by decide +kernel
theorem dX8_undo_41 : decode cX8_undo 41 = .ok (.bipush 112, 2) := by decide +kernel
theorem dX8_undo_43 : decode cX8_undo 43 = .ok (.if_icmp .ge 23, 3) := by decide +kernel
theorem dX8_undo_46 : decode cX8_undo 46 = .ok (.aload_n 0, 1) := by decide +kernel
theorem dX8_undo_47 : decode cX8_undo 47 = .ok (.getfield 23, 3) := by decide +kernel
theorem dX8_undo_50 : decode cX8_undo 50 = .ok (.iload_n 2, 1) := by decide +kernel
theorem dX8_undo_51 : decode cX8_undo 51 = .ok (.aload_n 0, 1) := by decide +kernel
theorem dX8_undo_52 : decode cX8_undo 52 = .ok (.getfield 23, 3) := by decide +kernel
theorem dX8_undo_55 : decode cX8_undo 55 = .ok (.iload_n 1, 1) := by decide +kernel
theorem dX8_undo_56 : decode cX8_undo 56 = .ok (.iload_n 2, 1) := by decide +kernel
theorem dX8_undo_57 : decode cX8_undo 57 = .ok (.iadd, 1) := by decide +kernel
theorem dX8_undo_58 : decode cX8_undo 58 = .ok (.iaload, 1) := by decide +kernel
theorem dX8_undo_59 : decode cX8_undo 59 = .ok (.iastore, 1) := by decide +kernel
theorem dX8_undo_60 : decode cX8_undo 60 = .ok (.iinc 2 1, 3) := by decide +kernel
theorem dX8_undo_63 : decode cX8_undo 63 = .ok (.goto (-23), 3) := by decide +kernel
theorem dX8_undo_66 : decode cX8_undo 66 = .ok (.aload_n 0, 1) := by decide +kernel
theorem dX8_undo_67 : decode cX8_undo 67 = .ok (.getfield 23, 3) := by decide +kernel
theorem dX8_undo_70 : decode cX8_undo 70 = .ok (.bipush 112, 2) := by decide +kernel
theorem dX8_undo_72 : decode cX8_undo 72 = .ok (.iaload, 1) := by decide +kernel
theorem dX8_undo_73 : decode cX8_undo 73 = .ok (.ireturn, 1) := by decide +kernel
theorem dX8_now_0 : decode cX8_now 0 = .ok (.iconst 0, 1) := by decide +kernel
theorem dX8_now_1 : decode cX8_now 1 = .ok (.istore_n 2, 1) := by decide +kernel
theorem dX8_now_2 : decode cX8_now 2 = .ok (.iconst 0, 1) := by decide +kernel
theorem dX8_now_3 : decode cX8_now 3 = .ok (.istore_n 3, 1) := by decide +kernel
theorem dX8_now_4 : decode cX8_now 4 = .ok (.iconst 0, 1) := by decide +kernel
theorem dX8_now_5 : decode cX8_now 5 = .ok (.istore 4, 2) := by decide +kernel
theorem dX8_now_7 : decode cX8_now 7 = .ok (.iload 4, 2) := by decide +kernel
theorem dX8_now_9 : decode cX8_now 9 = .ok (.aload_n 0, 1) := by decide +kernel
theorem dX8_now_10 : decode cX8_now 10 = .ok (.getfield 57, 3) := by decide +kernel
theorem dX8_now_13 : decode cX8_now 13 = .ok (.if_icmp .ge 21, 3) := by decide +kernel
theorem dX8_now_16 : decode cX8_now 16 = .ok (.iload_n 2, 1) := by decide +kernel
theorem dX8_now_17 : decode cX8_now 17 = .ok (.aload_n 0, 1) := by decide +kernel
theorem dX8_now_18 : decode cX8_now 18 = .ok (.getfield 23, 3) := by decide +kernel
theorem dX8_now_21 : decode cX8_now 21 = .ok (.iconst 2, 1) := by decide +kernel
theorem dX8_now_22 : decode cX8_now 22 = .ok (.iload 4, 2) := by decide +kernel
theorem dX8_now_24 : decode cX8_now 24 = .ok (.iadd, 1) := by decide +kernel
theorem dX8_now_25 : decode cX8_now 25 = .ok (.iaload, 1) := by decide +kernel
theorem dX8_now_26 : decode cX8_now 26 = .ok (.iadd, 1) := by decide +kernel
theorem dX8_now_27 : decode cX8_now 27 = .ok (.istore_n 2, 1) := by decide +kernel
theorem dX8_now_28 : decode cX8_now 28 = .ok (.iinc 4 1, 3) := by decide +kernel
theorem dX8_now_31 : decode cX8_now 31 = .ok (.goto (-24), 3) := by decide +kernel
theorem dX8_now_34 : decode cX8_now 34 = .ok (.iconst 0, 1) := by decide +kernel
theorem dX8_now_35 : decode cX8_now 35 = .ok (.istore 4, 2) := by decide +kernel
theorem dX8_now_37 : decode cX8_now 37 = .ok (.iload 4, 2) := by decide +kernel
theorem dX8_now_39 : decode cX8_now 39 = .ok (.iconst 4, 1) := by decide +kernel
theorem dX8_now_40 : decode cX8_now 40 = .ok (.if_icmp .ge 18, 3) := by decide +kernel
theorem dX8_now_43 : decode cX8_now 43 = .ok (.iload_n 3, 1) := by decide +kernel
theorem dX8_now_44 : decode cX8_now 44 = .ok (.aload_n 0, 1) := by decide +kernel
theorem dX8_now_45 : decode cX8_now 45 = .ok (.iload 4, 2) := by decide +kernel
theorem dX8_now_47 : decode cX8_now 47 = .ok (.invokevirtual 160, 3) := by decide +kernel
theorem dX8_now_50 : decode cX8_now 50 = .ok (.iadd, 1) := by decide +kernel
theorem dX8_now_51 : decode cX8_now 51 = .ok (.istore_n 3, 1) := by decide +kernel
theorem dX8_now_52 : decode cX8_now 52 = .ok (.iinc 4 1, 3) := by decide +kernel
theorem dX8_now_55 : decode cX8_now 55 = .ok (.goto (-18), 3) := by decide +kernel
theorem dX8_now_58 : decode cX8_now 58 = .ok (.iload_n 1, 1) := by decide +kernel
theorem dX8_now_59 : decode cX8_now 59 = .ok (.tableswitch 40 0 3 #[29, 29, 36, 38], 29) := by decide +kernel
theorem dX8_now_88 : decode cX8_now 88 = .ok (.aload_n 0, 1) := by decide +kernel
theorem dX8_now_89 : decode cX8_now 89 = .ok (.getfield 23, 3) := by decide +kernel
theorem dX8_now_92 : decode cX8_now 92 = .ok (.iload_n 1, 1) := by decide +kernel
theorem dX8_now_93 : decode cX8_now 93 = .ok (.iaload, 1) := by decide +kernel
theorem dX8_now_94 : decode cX8_now 94 = .ok (.ireturn, 1) := by decide +kernel
theorem dX8_now_95 : decode cX8_now 95 = .ok (.iload_n 2, 1) := by decide +kernel
theorem dX8_now_96 : decode cX8_now 96 = .ok (.ireturn, 1) := by decide +kernel
theorem dX8_now_97 : decode cX8_now 97 = .ok (.iload_n 3, 1) := by decide +kernel
theorem dX8_now_98 : decode cX8_now 98 = .ok (.ireturn, 1) := by decide +kernel
theorem dX8_now_99 : decode cX8_now 99 = .ok (.iconst (-1), 1) := by decide +kernel
theorem dX8_now_100 : decode cX8_now 100 = .ok (.ireturn, 1) := by decide +kernel
theorem dX8_reads_0 : decode cX8_reads 0 = .ok (.iload_n 1, 1) := by decide +kernel
theorem dX8_reads_1 : decode cX8_reads 1 = .ok (.invokestatic 140, 3) := by decide +kernel
theorem dX8_reads_4 : decode cX8_reads 4 = .ok (.ifCond .eq 12, 3) := by decide +kernel
theorem dX8_reads_7 : decode cX8_reads 7 = .ok (.iload_n 2, 1) := by decide +kernel
theorem dX8_reads_8 : decode cX8_reads 8 = .ok (.iconst 0, 1) := by decide +kernel
theorem dX8_reads_9 : decode cX8_reads 9 = .ok (.iconst 1, 1) := by decide +kernel
theorem dX8_reads_10 : decode cX8_reads 10 = .ok (.invokestatic 60, 3) := by decide +kernel
theorem dX8_reads_13 : decode cX8_reads 13 = .ok (.ifCond .ne 5, 3) := by decide +kernel
theorem dX8_reads_16 : decode cX8_reads 16 = .ok (.iconst (-1), 1) := by decide +kernel
theorem dX8_reads_17 : decode cX8_reads 17 = .ok (.ireturn, 1) := by decide +kernel
theorem dX8_reads_18 : decode cX8_reads 18 = .ok (.bipush (-9), 2) := by decide +kernel
theorem dX8_reads_20 : decode cX8_reads 20 = .ok (.istore_n 3, 1) := by decide +kernel
theorem dX8_reads_21 : decode cX8_reads 21 = .ok (.iconst 0, 1) := by decide +kernel
theorem dX8_reads_22 : decode cX8_reads 22 = .ok (.istore 4, 2) := by decide +kernel
theorem dX8_reads_24 : decode cX8_reads 24 = .ok (.iconst 0, 1) := by decide +kernel
theorem dX8_reads_25 : decode cX8_reads 25 = .ok (.istore 5, 2) := by decide +kernel
theorem dX8_reads_27 : decode cX8_reads 27 = .ok (.iload 5, 2) := by decide +kernel
theorem dX8_reads_29 : decode cX8_reads 29 = .ok (.bipush 10, 2) := by decide +kernel
theorem dX8_reads_31 : decode cX8_reads 31 = .ok (.if_icmp .ge 56, 3) := by decide +kernel
theorem dX8_reads_34 : decode cX8_reads 34 = .ok (.aload_n 0, 1) := by decide +kernel
theorem dX8_reads_35 : decode cX8_reads 35 = .ok (.getfield 23, 3) := by decide +kernel
theorem dX8_reads_38 : decode cX8_reads 38 = .ok (.bipush 72, 2) := by decide +kernel
theorem dX8_reads_40 : decode cX8_reads 40 = .ok (.bipush 10, 2) := by decide +kernel
theorem dX8_reads_42 : decode cX8_reads 42 = .ok (.iload_n 1, 1) := by decide +kernel
theorem dX8_reads_43 : decode cX8_reads 43 = .ok (.imul, 1) := by decide +kernel
theorem dX8_reads_44 : decode cX8_reads 44 = .ok (.iadd, 1) := by decide +kernel
theorem dX8_reads_45 : decode cX8_reads 45 = .ok (.iload 5, 2) := by decide +kernel
theorem dX8_reads_47 : decode cX8_reads 47 = .ok (.iadd, 1) := by decide +kernel
theorem dX8_reads_48 : decode cX8_reads 48 = .ok (.iaload, 1) := by decide +kernel
theorem dX8_reads_49 : decode cX8_reads 49 = .ok (.istore 6, 2) := by decide +kernel
theorem dX8_reads_51 : decode cX8_reads 51 = .ok (.iload 6, 2) := by decide +kernel
theorem dX8_reads_53 : decode cX8_reads 53 = .ok (.iload 4, 2) := by decide +kernel
theorem dX8_reads_55 : decode cX8_reads 55 = .ok (.if_icmp .le 8, 3) := by decide +kernel
theorem dX8_reads_58 : decode cX8_reads 58 = .ok (.iload 5, 2) := by decide +kernel
theorem dX8_reads_60 : decode cX8_reads 60 = .ok (.goto 4, 3) := by decide +kernel
theorem dX8_reads_63 : decode cX8_reads 63 = .ok (.iload_n 3, 1) := by decide +kernel
theorem dX8_reads_64 : decode cX8_reads 64 = .ok (.istore_n 3, 1) := by decide +kernel
theorem dX8_reads_65 : decode cX8_reads 65 = .ok (.iload 6, 2) := by decide +kernel
theorem dX8_reads_67 : decode cX8_reads 67 = .ok (.iload 4, 2) := by decide +kernel
theorem dX8_reads_69 : decode cX8_reads 69 = .ok (.if_icmp .le 8, 3) := by decide +kernel
theorem dX8_reads_72 : decode cX8_reads 72 = .ok (.iload 6, 2) := by decide +kernel
theorem dX8_reads_74 : decode cX8_reads 74 = .ok (.goto 5, 3) := by decide +kernel
theorem dX8_reads_77 : decode cX8_reads 77 = .ok (.iload 4, 2) := by decide +kernel
theorem dX8_reads_79 : decode cX8_reads 79 = .ok (.istore 4, 2) := by decide +kernel
theorem dX8_reads_81 : decode cX8_reads 81 = .ok (.iinc 5 1, 3) := by decide +kernel
theorem dX8_reads_84 : decode cX8_reads 84 = .ok (.goto (-57), 3) := by decide +kernel
theorem dX8_reads_87 : decode cX8_reads 87 = .ok (.iconst 0, 1) := by decide +kernel
theorem dX8_reads_88 : decode cX8_reads 88 = .ok (.istore 5, 2) := by decide +kernel
theorem dX8_reads_90 : decode cX8_reads 90 = .ok (.iconst 0, 1) := by decide +kernel
theorem dX8_reads_91 : decode cX8_reads 91 = .ok (.istore 6, 2) := by decide +kernel
theorem dX8_reads_93 : decode cX8_reads 93 = .ok (.iload 6, 2) := by decide +kernel
theorem dX8_reads_95 : decode cX8_reads 95 = .ok (.aload_n 0, 1) := by decide +kernel
theorem dX8_reads_96 : decode cX8_reads 96 = .ok (.getfield 57, 3) := by decide +kernel
theorem dX8_reads_99 : decode cX8_reads 99 = .ok (.if_icmp .ge 45, 3) := by decide +kernel
theorem dX8_reads_102 : decode cX8_reads 102 = .ok (.iload 5, 2) := by decide +kernel
theorem dX8_reads_104 : decode cX8_reads 104 = .ok (.aload_n 0, 1) := by decide +kernel
theorem dX8_reads_105 : decode cX8_reads 105 = .ok (.getfield 23, 3) := by decide +kernel
theorem dX8_reads_108 : decode cX8_reads 108 = .ok (.bipush 72, 2) := by decide +kernel
theorem dX8_reads_110 : decode cX8_reads 110 = .ok (.bipush 10, 2) := by decide +kernel
theorem dX8_reads_112 : decode cX8_reads 112 = .ok (.iload_n 1, 1) := by decide +kernel
theorem dX8_reads_113 : decode cX8_reads 113 = .ok (.imul, 1) := by decide +kernel
theorem dX8_reads_114 : decode cX8_reads 114 = .ok (.iadd, 1) := by decide +kernel
theorem dX8_reads_115 : decode cX8_reads 115 = .ok (.aload_n 0, 1) := by decide +kernel
theorem dX8_reads_116 : decode cX8_reads 116 = .ok (.getfield 7, 3) := by decide +kernel
theorem dX8_reads_119 : decode cX8_reads 119 = .ok (.iload 6, 2) := by decide +kernel
theorem dX8_reads_121 : decode cX8_reads 121 = .ok (.iaload, 1) := by decide +kernel
theorem dX8_reads_122 : decode cX8_reads 122 = .ok (.iadd, 1) := by decide +kernel
theorem dX8_reads_123 : decode cX8_reads 123 = .ok (.iaload, 1) := by decide +kernel
theorem dX8_reads_124 : decode cX8_reads 124 = .ok (.ifCond .le 10, 3) := by decide +kernel
theorem dX8_reads_127 : decode cX8_reads 127 = .ok (.iconst 1, 1) := by decide +kernel
theorem dX8_reads_128 : decode cX8_reads 128 = .ok (.iload 6, 2) := by decide +kernel
theorem dX8_reads_130 : decode cX8_reads 130 = .ok (.ishl, 1) := by decide +kernel
theorem dX8_reads_131 : decode cX8_reads 131 = .ok (.goto 4, 3) := by decide +kernel
theorem dX8_reads_134 : decode cX8_reads 134 = .ok (.iconst 0, 1) := by decide +kernel
theorem dX8_reads_135 : decode cX8_reads 135 = .ok (.ior, 1) := by decide +kernel
theorem dX8_reads_136 : decode cX8_reads 136 = .ok (.istore 5, 2) := by decide +kernel
theorem dX8_reads_138 : decode cX8_reads 138 = .ok (.iinc 6 1, 3) := by decide +kernel
theorem dX8_reads_141 : decode cX8_reads 141 = .ok (.goto (-48), 3) := by decide +kernel
theorem dX8_reads_144 : decode cX8_reads 144 = .ok (.iload_n 2, 1) := by decide +kernel
theorem dX8_reads_145 : decode cX8_reads 145 = .ok (.ifCond .ne 7, 3) := by decide +kernel
theorem dX8_reads_148 : decode cX8_reads 148 = .ok (.iload_n 3, 1) := by decide +kernel
theorem dX8_reads_149 : decode cX8_reads 149 = .ok (.goto 5, 3) := by decide +kernel
theorem dX8_reads_152 : decode cX8_reads 152 = .ok (.iload 5, 2) := by decide +kernel
theorem dX8_reads_154 : decode cX8_reads 154 = .ok (.ireturn, 1) := by decide +kernel
theorem dX8_asItIs_0 : decode cX8_asItIs 0 = .ok (.aload_n 0, 1) := by decide +kernel
theorem dX8_asItIs_1 : decode cX8_asItIs 1 = .ok (.iconst 0, 1) := by decide +kernel
theorem dX8_asItIs_2 : decode cX8_asItIs 2 = .ok (.putfield 163, 3) := by decide +kernel
theorem dX8_asItIs_5 : decode cX8_asItIs 5 = .ok (.aload_n 0, 1) := by decide +kernel
theorem dX8_asItIs_6 : decode cX8_asItIs 6 = .ok (.aload_n 0, 1) := by decide +kernel
theorem dX8_asItIs_7 : decode cX8_asItIs 7 = .ok (.getfield 23, 3) := by decide +kernel
theorem dX8_asItIs_10 : decode cX8_asItIs 10 = .ok (.iconst 2, 1) := by decide +kernel
theorem dX8_asItIs_11 : decode cX8_asItIs 11 = .ok (.iload_n 1, 1) := by decide +kernel
theorem dX8_asItIs_12 : decode cX8_asItIs 12 = .ok (.iadd, 1) := by decide +kernel
theorem dX8_asItIs_13 : decode cX8_asItIs 13 = .ok (.iaload, 1) := by decide +kernel
theorem dX8_asItIs_14 : decode cX8_asItIs 14 = .ok (.putfield 166, 3) := by decide +kernel
theorem dX8_asItIs_17 : decode cX8_asItIs 17 = .ok (.iconst 0, 1) := by decide +kernel
theorem dX8_asItIs_18 : decode cX8_asItIs 18 = .ok (.istore_n 2, 1) := by decide +kernel
theorem dX8_asItIs_19 : decode cX8_asItIs 19 = .ok (.iload_n 2, 1) := by decide +kernel
theorem dX8_asItIs_20 : decode cX8_asItIs 20 = .ok (.aload_n 0, 1) := by decide +kernel
theorem dX8_asItIs_21 : decode cX8_asItIs 21 = .ok (.getfield 166, 3) := by decide +kernel
theorem dX8_asItIs_24 : decode cX8_asItIs 24 = .ok (.if_icmp .ge 21, 3) := by decide +kernel
theorem dX8_asItIs_27 : decode cX8_asItIs 27 = .ok (.aload_n 0, 1) := by decide +kernel
theorem dX8_asItIs_28 : decode cX8_asItIs 28 = .ok (.getfield 51, 3) := by decide +kernel
theorem dX8_asItIs_31 : decode cX8_asItIs 31 = .ok (.iload_n 2, 1) := by decide +kernel
theorem dX8_asItIs_32 : decode cX8_asItIs 32 = .ok (.aload_n 0, 1) := by decide +kernel
theorem dX8_asItIs_33 : decode cX8_asItIs 33 = .ok (.iload_n 1, 1) := by decide +kernel
theorem dX8_asItIs_34 : decode cX8_asItIs 34 = .ok (.iload_n 2, 1) := by decide +kernel
theorem dX8_asItIs_35 : decode cX8_asItIs 35 = .ok (.invokevirtual 131, 3) := by decide +kernel
theorem dX8_asItIs_38 : decode cX8_asItIs 38 = .ok (.iastore, 1) := by decide +kernel
theorem dX8_asItIs_39 : decode cX8_asItIs 39 = .ok (.iinc 2 1, 3) := by decide +kernel
theorem dX8_asItIs_42 : decode cX8_asItIs 42 = .ok (.goto (-23), 3) := by decide +kernel
theorem dX8_asItIs_45 : decode cX8_asItIs 45 = .ok (.return_, 1) := by decide +kernel
theorem dX8_growsTried_0 : decode cX8_growsTried 0 = .ok (.aload_n 0, 1) := by decide +kernel
theorem dX8_growsTried_1 : decode cX8_growsTried 1 = .ok (.dup, 1) := by decide +kernel
theorem dX8_growsTried_2 : decode cX8_growsTried 2 = .ok (.getfield 163, 3) := by decide +kernel
theorem dX8_growsTried_5 : decode cX8_growsTried 5 = .ok (.aload_n 0, 1) := by decide +kernel
theorem dX8_growsTried_6 : decode cX8_growsTried 6 = .ok (.getfield 166, 3) := by decide +kernel
theorem dX8_growsTried_9 : decode cX8_growsTried 9 = .ok (.aload_n 0, 1) := by decide +kernel
theorem dX8_growsTried_10 : decode cX8_growsTried 10 = .ok (.getfield 163, 3) := by decide +kernel
theorem dX8_growsTried_13 : decode cX8_growsTried 13 = .ok (.isub, 1) := by decide +kernel
theorem dX8_growsTried_14 : decode cX8_growsTried 14 = .ok (.aload_n 0, 1) := by decide +kernel
theorem dX8_growsTried_15 : decode cX8_growsTried 15 = .ok (.getfield 19, 3) := by decide +kernel
theorem dX8_growsTried_18 : decode cX8_growsTried 18 = .ok (.if_icmp .ne 7, 3) := by decide +kernel
theorem dX8_growsTried_21 : decode cX8_growsTried 21 = .ok (.iconst 1, 1) := by decide +kernel
theorem dX8_growsTried_22 : decode cX8_growsTried 22 = .ok (.goto 4, 3) := by decide +kernel
theorem dX8_growsTried_25 : decode cX8_growsTried 25 = .ok (.iconst 0, 1) := by decide +kernel
theorem dX8_growsTried_26 : decode cX8_growsTried 26 = .ok (.iadd, 1) := by decide +kernel
theorem dX8_growsTried_27 : decode cX8_growsTried 27 = .ok (.putfield 163, 3) := by decide +kernel
theorem dX8_growsTried_30 : decode cX8_growsTried 30 = .ok (.aload_n 0, 1) := by decide +kernel
theorem dX8_growsTried_31 : decode cX8_growsTried 31 = .ok (.getfield 51, 3) := by decide +kernel
theorem dX8_growsTried_34 : decode cX8_growsTried 34 = .ok (.aload_n 0, 1) := by decide +kernel
theorem dX8_growsTried_35 : decode cX8_growsTried 35 = .ok (.getfield 166, 3) := by decide +kernel
theorem dX8_growsTried_38 : decode cX8_growsTried 38 = .ok (.iload_n 1, 1) := by decide +kernel
theorem dX8_growsTried_39 : decode cX8_growsTried 39 = .ok (.iastore, 1) := by decide +kernel
theorem dX8_growsTried_40 : decode cX8_growsTried 40 = .ok (.aload_n 0, 1) := by decide +kernel
theorem dX8_growsTried_41 : decode cX8_growsTried 41 = .ok (.dup, 1) := by decide +kernel
theorem dX8_growsTried_42 : decode cX8_growsTried 42 = .ok (.getfield 166, 3) := by decide +kernel
theorem dX8_growsTried_45 : decode cX8_growsTried 45 = .ok (.iconst 1, 1) := by decide +kernel
theorem dX8_growsTried_46 : decode cX8_growsTried 46 = .ok (.iadd, 1) := by decide +kernel
theorem dX8_growsTried_47 : decode cX8_growsTried 47 = .ok (.putfield 166, 3) := by decide +kernel
theorem dX8_growsTried_50 : decode cX8_growsTried 50 = .ok (.return_, 1) := by decide +kernel
theorem dX8_plan_0 : decode cX8_plan 0 = .ok (.aload_n 0, 1) := by decide +kernel
theorem dX8_plan_1 : decode cX8_plan 1 = .ok (.iload_n 1, 1) := by decide +kernel
theorem dX8_plan_2 : decode cX8_plan 2 = .ok (.invokevirtual 134, 3) := by decide +kernel
theorem dX8_plan_5 : decode cX8_plan 5 = .ok (.ifCond .eq 33, 3) := by decide +kernel
theorem dX8_plan_8 : decode cX8_plan 8 = .ok (.iload_n 2, 1) := by decide +kernel
theorem dX8_plan_9 : decode cX8_plan 9 = .ok (.iconst 1, 1) := by decide +kernel
theorem dX8_plan_10 : decode cX8_plan 10 = .ok (.bipush 20, 2) := by decide +kernel
theorem dX8_plan_12 : decode cX8_plan 12 = .ok (.invokestatic 60, 3) := by decide +kernel
theorem dX8_plan_15 : decode cX8_plan 15 = .ok (.ifCond .eq 23, 3) := by decide +kernel
theorem dX8_plan_18 : decode cX8_plan 18 = .ok (.iload_n 3, 1) := by decide +kernel
theorem dX8_plan_19 : decode cX8_plan 19 = .ok (.iconst 1, 1) := by decide +kernel
theorem dX8_plan_20 : decode cX8_plan 20 = .ok (.bipush 12, 2) := by decide +kernel
theorem dX8_plan_22 : decode cX8_plan 22 = .ok (.invokestatic 60, 3) := by decide +kernel
theorem dX8_plan_25 : decode cX8_plan 25 = .ok (.ifCond .eq 13, 3) := by decide +kernel
theorem dX8_plan_28 : decode cX8_plan 28 = .ok (.iload 4, 2) := by decide +kernel
theorem dX8_plan_30 : decode cX8_plan 30 = .ok (.iconst 0, 1) := by decide +kernel
theorem dX8_plan_31 : decode cX8_plan 31 = .ok (.iconst 1, 1) := by decide +kernel
theorem dX8_plan_32 : decode cX8_plan 32 = .ok (.invokestatic 60, 3) := by decide +kernel
theorem dX8_plan_35 : decode cX8_plan 35 = .ok (.ifCond .ne 5, 3) := by decide +kernel
theorem dX8_plan_38 : decode cX8_plan 38 = .ok (.iconst (-1), 1) := by decide +kernel
theorem dX8_plan_39 : decode cX8_plan 39 = .ok (.ireturn, 1) := by decide +kernel
theorem dX8_plan_40 : decode cX8_plan 40 = .ok (.aload_n 0, 1) := by decide +kernel
theorem dX8_plan_41 : decode cX8_plan 41 = .ok (.iload_n 1, 1) := by decide +kernel
theorem dX8_plan_42 : decode cX8_plan 42 = .ok (.invokevirtual 169, 3) := by decide +kernel
theorem dX8_plan_45 : decode cX8_plan 45 = .ok (.iconst 0, 1) := by decide +kernel
theorem dX8_plan_46 : decode cX8_plan 46 = .ok (.istore 5, 2) := by decide +kernel
theorem dX8_plan_48 : decode cX8_plan 48 = .ok (.iconst 0, 1) := by decide +kernel
theorem dX8_plan_49 : decode cX8_plan 49 = .ok (.istore 6, 2) := by decide +kernel
theorem dX8_plan_51 : decode cX8_plan 51 = .ok (.iload 6, 2) := by decide +kernel
theorem dX8_plan_53 : decode cX8_plan 53 = .ok (.iload_n 2, 1) := by decide +kernel
theorem dX8_plan_54 : decode cX8_plan 54 = .ok (.if_icmp .ge 106, 3) := by decide +kernel
theorem dX8_plan_57 : decode cX8_plan 57 = .ok (.aload_n 0, 1) := by decide +kernel
theorem dX8_plan_58 : decode cX8_plan 58 = .ok (.aload_n 0, 1) := by decide +kernel
theorem dX8_plan_59 : decode cX8_plan 59 = .ok (.iload_n 1, 1) := by decide +kernel
theorem dX8_plan_60 : decode cX8_plan 60 = .ok (.iload 6, 2) := by decide +kernel
theorem dX8_plan_62 : decode cX8_plan 62 = .ok (.invokevirtual 146, 3) := by decide +kernel
theorem dX8_plan_65 : decode cX8_plan 65 = .ok (.invokevirtual 172, 3) := by decide +kernel
theorem dX8_plan_68 : decode cX8_plan 68 = .ok (.aload_n 0, 1) := by decide +kernel
theorem dX8_plan_69 : decode cX8_plan 69 = .ok (.getfield 166, 3) := by decide +kernel
theorem dX8_plan_72 : decode cX8_plan 72 = .ok (.aload_n 0, 1) := by decide +kernel
theorem dX8_plan_73 : decode cX8_plan 73 = .ok (.getfield 163, 3) := by decide +kernel
theorem dX8_plan_76 : decode cX8_plan 76 = .ok (.isub, 1) := by decide +kernel
theorem dX8_plan_77 : decode cX8_plan 77 = .ok (.iload_n 3, 1) := by decide +kernel
theorem dX8_plan_78 : decode cX8_plan 78 = .ok (.if_icmp .le 48, 3) := by decide +kernel
theorem dX8_plan_81 : decode cX8_plan 81 = .ok (.aload_n 0, 1) := by decide +kernel
theorem dX8_plan_82 : decode cX8_plan 82 = .ok (.getfield 163, 3) := by decide +kernel
theorem dX8_plan_85 : decode cX8_plan 85 = .ok (.aload_n 0, 1) := by decide +kernel
theorem dX8_plan_86 : decode cX8_plan 86 = .ok (.getfield 166, 3) := by decide +kernel
theorem dX8_plan_89 : decode cX8_plan 89 = .ok (.if_icmp .ge 34, 3) := by decide +kernel
theorem dX8_plan_92 : decode cX8_plan 92 = .ok (.aload_n 0, 1) := by decide +kernel
theorem dX8_plan_93 : decode cX8_plan 93 = .ok (.getfield 51, 3) := by decide +kernel
theorem dX8_plan_96 : decode cX8_plan 96 = .ok (.aload_n 0, 1) := by decide +kernel
theorem dX8_plan_97 : decode cX8_plan 97 = .ok (.getfield 163, 3) := by decide +kernel
theorem dX8_plan_100 : decode cX8_plan 100 = .ok (.iaload, 1) := by decide +kernel
theorem dX8_plan_101 : decode cX8_plan 101 = .ok (.aload_n 0, 1) := by decide +kernel
theorem dX8_plan_102 : decode cX8_plan 102 = .ok (.getfield 7, 3) := by decide +kernel
theorem dX8_plan_105 : decode cX8_plan 105 = .ok (.iload_n 1, 1) := by decide +kernel
theorem dX8_plan_106 : decode cX8_plan 106 = .ok (.iaload, 1) := by decide +kernel
theorem dX8_plan_107 : decode cX8_plan 107 = .ok (.if_icmp .eq 16, 3) := by decide +kernel
theorem dX8_plan_110 : decode cX8_plan 110 = .ok (.aload_n 0, 1) := by decide +kernel
theorem dX8_plan_111 : decode cX8_plan 111 = .ok (.dup, 1) := by decide +kernel
theorem dX8_plan_112 : decode cX8_plan 112 = .ok (.getfield 163, 3) := by decide +kernel
theorem dX8_plan_115 : decode cX8_plan 115 = .ok (.iconst 1, 1) := by decide +kernel
theorem dX8_plan_116 : decode cX8_plan 116 = .ok (.iadd, 1) := by decide +kernel
theorem dX8_plan_117 : decode cX8_plan 117 = .ok (.putfield 163, 3) := by decide +kernel
theorem dX8_plan_120 : decode cX8_plan 120 = .ok (.goto (-39), 3) := by decide +kernel
theorem dX8_plan_123 : decode cX8_plan 123 = .ok (.iinc 5 1, 3) := by decide +kernel
theorem dX8_plan_126 : decode cX8_plan 126 = .ok (.aload_n 0, 1) := by decide +kernel
theorem dX8_plan_127 : decode cX8_plan 127 = .ok (.getfield 166, 3) := by decide +kernel
theorem dX8_plan_130 : decode cX8_plan 130 = .ok (.aload_n 0, 1) := by decide +kernel
theorem dX8_plan_131 : decode cX8_plan 131 = .ok (.getfield 163, 3) := by decide +kernel
theorem dX8_plan_134 : decode cX8_plan 134 = .ok (.isub, 1) := by decide +kernel
theorem dX8_plan_135 : decode cX8_plan 135 = .ok (.iload_n 3, 1) := by decide +kernel
theorem dX8_plan_136 : decode cX8_plan 136 = .ok (.if_icmp .le 18, 3) := by decide +kernel
theorem dX8_plan_139 : decode cX8_plan 139 = .ok (.iload 4, 2) := by decide +kernel
theorem dX8_plan_141 : decode cX8_plan 141 = .ok (.ifCond .ne 8, 3) := by decide +kernel
theorem dX8_plan_144 : decode cX8_plan 144 = .ok (.bipush (-9), 2) := by decide +kernel
theorem dX8_plan_146 : decode cX8_plan 146 = .ok (.goto 7, 3) := by decide +kernel
theorem dX8_plan_149 : decode cX8_plan 149 = .ok (.iload 6, 2) := by decide +kernel
theorem dX8_plan_151 : decode cX8_plan 151 = .ok (.iconst 1, 1) := by decide +kernel
theorem dX8_plan_152 : decode cX8_plan 152 = .ok (.iadd, 1) := by decide +kernel
theorem dX8_plan_153 : decode cX8_plan 153 = .ok (.ireturn, 1) := by decide +kernel
theorem dX8_plan_154 : decode cX8_plan 154 = .ok (.iinc 6 1, 3) := by decide +kernel
theorem dX8_plan_157 : decode cX8_plan 157 = .ok (.goto (-106), 3) := by decide +kernel
theorem dX8_plan_160 : decode cX8_plan 160 = .ok (.iload 4, 2) := by decide +kernel
theorem dX8_plan_162 : decode cX8_plan 162 = .ok (.ifCond .ne 8, 3) := by decide +kernel
theorem dX8_plan_165 : decode cX8_plan 165 = .ok (.iload 5, 2) := by decide +kernel
theorem dX8_plan_167 : decode cX8_plan 167 = .ok (.goto 5, 3) := by decide +kernel
theorem dX8_plan_170 : decode cX8_plan 170 = .ok (.bipush (-9), 2) := by decide +kernel
theorem dX8_plan_172 : decode cX8_plan 172 = .ok (.ireturn, 1) := by decide +kernel
theorem dX8_isMost_0 : decode cX8_isMost 0 = .ok (.iconst 0, 1) := by decide +kernel
theorem dX8_isMost_1 : decode cX8_isMost 1 = .ok (.istore_n 2, 1) := by decide +kernel
theorem dX8_isMost_2 : decode cX8_isMost 2 = .ok (.aload_n 0, 1) := by decide +kernel
theorem dX8_isMost_3 : decode cX8_isMost 3 = .ok (.getfield 163, 3) := by decide +kernel
theorem dX8_isMost_6 : decode cX8_isMost 6 = .ok (.istore_n 3, 1) := by decide +kernel
theorem dX8_isMost_7 : decode cX8_isMost 7 = .ok (.iload_n 3, 1) := by decide +kernel
theorem dX8_isMost_8 : decode cX8_isMost 8 = .ok (.aload_n 0, 1) := by decide +kernel
theorem dX8_isMost_9 : decode cX8_isMost 9 = .ok (.getfield 166, 3) := by decide +kernel
theorem dX8_isMost_12 : decode cX8_isMost 12 = .ok (.if_icmp .ge 27, 3) := by decide +kernel
theorem dX8_isMost_15 : decode cX8_isMost 15 = .ok (.iload_n 2, 1) := by decide +kernel
theorem dX8_isMost_16 : decode cX8_isMost 16 = .ok (.aload_n 0, 1) := by decide +kernel
theorem dX8_isMost_17 : decode cX8_isMost 17 = .ok (.getfield 51, 3) := by decide +kernel
theorem dX8_isMost_20 : decode cX8_isMost 20 = .ok (.iload_n 3, 1) := by decide +kernel
theorem dX8_isMost_21 : decode cX8_isMost 21 = .ok (.iaload, 1) := by decide +kernel
theorem dX8_isMost_22 : decode cX8_isMost 22 = .ok (.iload_n 1, 1) := by decide +kernel
theorem dX8_isMost_23 : decode cX8_isMost 23 = .ok (.if_icmp .ne 7, 3) := by decide +kernel
theorem dX8_isMost_26 : decode cX8_isMost 26 = .ok (.iconst 1, 1) := by decide +kernel
theorem dX8_isMost_27 : decode cX8_isMost 27 = .ok (.goto 4, 3) := by decide +kernel
theorem dX8_isMost_30 : decode cX8_isMost 30 = .ok (.iconst 0, 1) := by decide +kernel
theorem dX8_isMost_31 : decode cX8_isMost 31 = .ok (.iadd, 1) := by decide +kernel
theorem dX8_isMost_32 : decode cX8_isMost 32 = .ok (.istore_n 2, 1) := by decide +kernel
theorem dX8_isMost_33 : decode cX8_isMost 33 = .ok (.iinc 3 1, 3) := by decide +kernel
theorem dX8_isMost_36 : decode cX8_isMost 36 = .ok (.goto (-29), 3) := by decide +kernel
theorem dX8_isMost_39 : decode cX8_isMost 39 = .ok (.iload_n 2, 1) := by decide +kernel
theorem dX8_isMost_40 : decode cX8_isMost 40 = .ok (.ifCond .le 7, 3) := by decide +kernel
theorem dX8_isMost_43 : decode cX8_isMost 43 = .ok (.iconst 1, 1) := by decide +kernel
theorem dX8_isMost_44 : decode cX8_isMost 44 = .ok (.goto 4, 3) := by decide +kernel
theorem dX8_isMost_47 : decode cX8_isMost 47 = .ok (.iconst 0, 1) := by decide +kernel
theorem dX8_isMost_48 : decode cX8_isMost 48 = .ok (.istore_n 3, 1) := by decide +kernel
theorem dX8_isMost_49 : decode cX8_isMost 49 = .ok (.iconst 0, 1) := by decide +kernel
theorem dX8_isMost_50 : decode cX8_isMost 50 = .ok (.istore 4, 2) := by decide +kernel
theorem dX8_isMost_52 : decode cX8_isMost 52 = .ok (.iload 4, 2) := by decide +kernel
theorem dX8_isMost_54 : decode cX8_isMost 54 = .ok (.bipush 10, 2) := by decide +kernel
theorem dX8_isMost_56 : decode cX8_isMost 56 = .ok (.if_icmp .ge 77, 3) := by decide +kernel
theorem dX8_isMost_59 : decode cX8_isMost 59 = .ok (.iconst 0, 1) := by decide +kernel
theorem dX8_isMost_60 : decode cX8_isMost 60 = .ok (.istore 5, 2) := by decide +kernel
theorem dX8_isMost_62 : decode cX8_isMost 62 = .ok (.aload_n 0, 1) := by decide +kernel
theorem dX8_isMost_63 : decode cX8_isMost 63 = .ok (.getfield 163, 3) := by decide +kernel
theorem dX8_isMost_66 : decode cX8_isMost 66 = .ok (.istore 6, 2) := by decide +kernel
theorem dX8_isMost_68 : decode cX8_isMost 68 = .ok (.iload 6, 2) := by decide +kernel
theorem dX8_isMost_70 : decode cX8_isMost 70 = .ok (.aload_n 0, 1) := by decide +kernel
theorem dX8_isMost_71 : decode cX8_isMost 71 = .ok (.getfield 166, 3) := by decide +kernel
theorem dX8_isMost_74 : decode cX8_isMost 74 = .ok (.if_icmp .ge 31, 3) := by decide +kernel
theorem dX8_isMost_77 : decode cX8_isMost 77 = .ok (.iload 5, 2) := by decide +kernel
theorem dX8_isMost_79 : decode cX8_isMost 79 = .ok (.aload_n 0, 1) := by decide +kernel
theorem dX8_isMost_80 : decode cX8_isMost 80 = .ok (.getfield 51, 3) := by decide +kernel
theorem dX8_isMost_83 : decode cX8_isMost 83 = .ok (.iload 6, 2) := by decide +kernel
theorem dX8_isMost_85 : decode cX8_isMost 85 = .ok (.iaload, 1) := by decide +kernel
theorem dX8_isMost_86 : decode cX8_isMost 86 = .ok (.iload 4, 2) := by decide +kernel
theorem dX8_isMost_88 : decode cX8_isMost 88 = .ok (.if_icmp .ne 7, 3) := by decide +kernel
theorem dX8_isMost_91 : decode cX8_isMost 91 = .ok (.iconst 1, 1) := by decide +kernel
theorem dX8_isMost_92 : decode cX8_isMost 92 = .ok (.goto 4, 3) := by decide +kernel
theorem dX8_isMost_95 : decode cX8_isMost 95 = .ok (.iconst 0, 1) := by decide +kernel
theorem dX8_isMost_96 : decode cX8_isMost 96 = .ok (.iadd, 1) := by decide +kernel
theorem dX8_isMost_97 : decode cX8_isMost 97 = .ok (.istore 5, 2) := by decide +kernel
theorem dX8_isMost_99 : decode cX8_isMost 99 = .ok (.iinc 6 1, 3) := by decide +kernel
theorem dX8_isMost_102 : decode cX8_isMost 102 = .ok (.goto (-34), 3) := by decide +kernel
theorem dX8_isMost_105 : decode cX8_isMost 105 = .ok (.iload_n 3, 1) := by decide +kernel
theorem dX8_isMost_106 : decode cX8_isMost 106 = .ok (.ifCond .eq 19, 3) := by decide +kernel
theorem dX8_isMost_109 : decode cX8_isMost 109 = .ok (.iload 4, 2) := by decide +kernel
theorem dX8_isMost_111 : decode cX8_isMost 111 = .ok (.iload_n 1, 1) := by decide +kernel
theorem dX8_isMost_112 : decode cX8_isMost 112 = .ok (.if_icmp .eq 9, 3) := by decide +kernel
theorem dX8_isMost_115 : decode cX8_isMost 115 = .ok (.iload 5, 2) := by decide +kernel
theorem dX8_isMost_117 : decode cX8_isMost 117 = .ok (.iload_n 2, 1) := by decide +kernel
theorem dX8_isMost_118 : decode cX8_isMost 118 = .ok (.if_icmp .ge 7, 3) := by decide +kernel
theorem dX8_isMost_121 : decode cX8_isMost 121 = .ok (.iconst 1, 1) := by decide +kernel
theorem dX8_isMost_122 : decode cX8_isMost 122 = .ok (.goto 4, 3) := by decide +kernel
theorem dX8_isMost_125 : decode cX8_isMost 125 = .ok (.iconst 0, 1) := by decide +kernel
theorem dX8_isMost_126 : decode cX8_isMost 126 = .ok (.istore_n 3, 1) := by decide +kernel
theorem dX8_isMost_127 : decode cX8_isMost 127 = .ok (.iinc 4 1, 3) := by decide +kernel
theorem dX8_isMost_130 : decode cX8_isMost 130 = .ok (.goto (-78), 3) := by decide +kernel
theorem dX8_isMost_133 : decode cX8_isMost 133 = .ok (.iload_n 3, 1) := by decide +kernel
theorem dX8_isMost_134 : decode cX8_isMost 134 = .ok (.ireturn, 1) := by decide +kernel
theorem dX8_least_0 : decode cX8_least 0 = .ok (.aload_n 0, 1) := by decide +kernel
theorem dX8_least_1 : decode cX8_least 1 = .ok (.iload_n 1, 1) := by decide +kernel
theorem dX8_least_2 : decode cX8_least 2 = .ok (.invokevirtual 134, 3) := by decide +kernel
theorem dX8_least_5 : decode cX8_least 5 = .ok (.ifCond .eq 20, 3) := by decide +kernel
theorem dX8_least_8 : decode cX8_least 8 = .ok (.iload_n 2, 1) := by decide +kernel
theorem dX8_least_9 : decode cX8_least 9 = .ok (.invokestatic 143, 3) := by decide +kernel
theorem dX8_least_12 : decode cX8_least 12 = .ok (.ifCond .eq 13, 3) := by decide +kernel
theorem dX8_least_15 : decode cX8_least 15 = .ok (.iload_n 3, 1) := by decide +kernel
theorem dX8_least_16 : decode cX8_least 16 = .ok (.iconst 1, 1) := by decide +kernel
theorem dX8_least_17 : decode cX8_least 17 = .ok (.bipush 8, 2) := by decide +kernel
theorem dX8_least_19 : decode cX8_least 19 = .ok (.invokestatic 60, 3) := by decide +kernel
theorem dX8_least_22 : decode cX8_least 22 = .ok (.ifCond .ne 5, 3) := by decide +kernel
theorem dX8_least_25 : decode cX8_least 25 = .ok (.iconst (-1), 1) := by decide +kernel
theorem dX8_least_26 : decode cX8_least 26 = .ok (.ireturn, 1) := by decide +kernel
theorem dX8_least_27 : decode cX8_least 27 = .ok (.bipush (-9), 2) := by decide +kernel
theorem dX8_least_29 : decode cX8_least 29 = .ok (.istore 4, 2) := by decide +kernel
theorem dX8_least_31 : decode cX8_least 31 = .ok (.iconst 0, 1) := by decide +kernel
theorem dX8_least_32 : decode cX8_least 32 = .ok (.istore 5, 2) := by decide +kernel
theorem dX8_least_34 : decode cX8_least 34 = .ok (.iload 5, 2) := by decide +kernel
theorem dX8_least_36 : decode cX8_least 36 = .ok (.iconst 1, 1) := by decide +kernel
theorem dX8_least_37 : decode cX8_least 37 = .ok (.iload_n 3, 1) := by decide +kernel
theorem dX8_least_38 : decode cX8_least 38 = .ok (.ishl, 1) := by decide +kernel
theorem dX8_least_39 : decode cX8_least 39 = .ok (.if_icmp .ge 101, 3) := by decide +kernel
theorem dX8_least_42 : decode cX8_least 42 = .ok (.aload_n 0, 1) := by decide +kernel
theorem dX8_least_43 : decode cX8_least 43 = .ok (.iload_n 1, 1) := by decide +kernel
theorem dX8_least_44 : decode cX8_least 44 = .ok (.invokevirtual 169, 3) := by decide +kernel
theorem dX8_least_47 : decode cX8_least 47 = .ok (.iconst 0, 1) := by decide +kernel
theorem dX8_least_48 : decode cX8_least 48 = .ok (.istore 6, 2) := by decide +kernel
theorem dX8_least_50 : decode cX8_least 50 = .ok (.iload 6, 2) := by decide +kernel
theorem dX8_least_52 : decode cX8_least 52 = .ok (.iload_n 3, 1) := by decide +kernel
theorem dX8_least_53 : decode cX8_least 53 = .ok (.if_icmp .ge 34, 3) := by decide +kernel
theorem dX8_least_56 : decode cX8_least 56 = .ok (.aload_n 0, 1) := by decide +kernel
theorem dX8_least_57 : decode cX8_least 57 = .ok (.iload 5, 2) := by decide +kernel
theorem dX8_least_59 : decode cX8_least 59 = .ok (.iload 6, 2) := by decide +kernel
theorem dX8_least_61 : decode cX8_least 61 = .ok (.invokestatic 175, 3) := by decide +kernel
theorem dX8_least_64 : decode cX8_least 64 = .ok (.ifCond .eq 7, 3) := by decide +kernel
theorem dX8_least_67 : decode cX8_least 67 = .ok (.iload_n 2, 1) := by decide +kernel
theorem dX8_least_68 : decode cX8_least 68 = .ok (.goto 10, 3) := by decide +kernel
theorem dX8_least_71 : decode cX8_least 71 = .ok (.aload_n 0, 1) := by decide +kernel
theorem dX8_least_72 : decode cX8_least 72 = .ok (.iload_n 1, 1) := by decide +kernel
theorem dX8_least_73 : decode cX8_least 73 = .ok (.iload 6, 2) := by decide +kernel
theorem dX8_least_75 : decode cX8_least 75 = .ok (.invokevirtual 146, 3) := by decide +kernel
theorem dX8_least_78 : decode cX8_least 78 = .ok (.invokevirtual 172, 3) := by decide +kernel
theorem dX8_least_81 : decode cX8_least 81 = .ok (.iinc 6 1, 3) := by decide +kernel
theorem dX8_least_84 : decode cX8_least 84 = .ok (.goto (-34), 3) := by decide +kernel
theorem dX8_least_87 : decode cX8_least 87 = .ok (.aload_n 0, 1) := by decide +kernel
theorem dX8_least_88 : decode cX8_least 88 = .ok (.iload_n 2, 1) := by decide +kernel
theorem dX8_least_89 : decode cX8_least 89 = .ok (.invokevirtual 179, 3) := by decide +kernel
theorem dX8_least_92 : decode cX8_least 92 = .ok (.ifCond .eq 22, 3) := by decide +kernel
theorem dX8_least_95 : decode cX8_least 95 = .ok (.iload 4, 2) := by decide +kernel
theorem dX8_least_97 : decode cX8_least 97 = .ok (.ifCond .lt 13, 3) := by decide +kernel
theorem dX8_least_100 : decode cX8_least 100 = .ok (.iload 5, 2) := by decide +kernel
theorem dX8_least_102 : decode cX8_least 102 = .ok (.invokestatic 182, 3) := by decide +kernel
theorem dX8_least_105 : decode cX8_least 105 = .ok (.iload 4, 2) := by decide +kernel
theorem dX8_least_107 : decode cX8_least 107 = .ok (.if_icmp .ge 7, 3) := by decide +kernel
theorem dX8_least_110 : decode cX8_least 110 = .ok (.iconst 1, 1) := by decide +kernel
theorem dX8_least_111 : decode cX8_least 111 = .ok (.goto 4, 3) := by decide +kernel
theorem dX8_least_114 : decode cX8_least 114 = .ok (.iconst 0, 1) := by decide +kernel
theorem dX8_least_115 : decode cX8_least 115 = .ok (.istore 6, 2) := by decide +kernel
theorem dX8_least_117 : decode cX8_least 117 = .ok (.iload 6, 2) := by decide +kernel
theorem dX8_least_119 : decode cX8_least 119 = .ok (.ifCond .eq 11, 3) := by decide +kernel
theorem dX8_least_122 : decode cX8_least 122 = .ok (.iload 5, 2) := by decide +kernel
theorem dX8_least_124 : decode cX8_least 124 = .ok (.invokestatic 182, 3) := by decide +kernel
theorem dX8_least_127 : decode cX8_least 127 = .ok (.goto 5, 3) := by decide +kernel
theorem dX8_least_130 : decode cX8_least 130 = .ok (.iload 4, 2) := by decide +kernel
theorem dX8_least_132 : decode cX8_least 132 = .ok (.istore 4, 2) := by decide +kernel
theorem dX8_least_134 : decode cX8_least 134 = .ok (.iinc 5 1, 3) := by decide +kernel
theorem dX8_least_137 : decode cX8_least 137 = .ok (.goto (-103), 3) := by decide +kernel
theorem dX8_least_140 : decode cX8_least 140 = .ok (.iload 4, 2) := by decide +kernel
theorem dX8_least_142 : decode cX8_least 142 = .ok (.ireturn, 1) := by decide +kernel
theorem dX8_thoughtsOf_0 : decode cX8_thoughtsOf 0 = .ok (.iconst 0, 1) := by decide +kernel
theorem dX8_thoughtsOf_1 : decode cX8_thoughtsOf 1 = .ok (.istore_n 2, 1) := by decide +kernel
theorem dX8_thoughtsOf_2 : decode cX8_thoughtsOf 2 = .ok (.iconst 0, 1) := by decide +kernel
theorem dX8_thoughtsOf_3 : decode cX8_thoughtsOf 3 = .ok (.istore_n 3, 1) := by decide +kernel
theorem dX8_thoughtsOf_4 : decode cX8_thoughtsOf 4 = .ok (.iload_n 3, 1) := by decide +kernel
theorem dX8_thoughtsOf_5 : decode cX8_thoughtsOf 5 = .ok (.aload_n 0, 1) := by decide +kernel
theorem dX8_thoughtsOf_6 : decode cX8_thoughtsOf 6 = .ok (.getfield 57, 3) := by decide +kernel
theorem dX8_thoughtsOf_9 : decode cX8_thoughtsOf 9 = .ok (.if_icmp .ge 51, 3) := by decide +kernel
theorem dX8_thoughtsOf_12 : decode cX8_thoughtsOf 12 = .ok (.iconst 0, 1) := by decide +kernel
theorem dX8_thoughtsOf_13 : decode cX8_thoughtsOf 13 = .ok (.istore 4, 2) := by decide +kernel
theorem dX8_thoughtsOf_15 : decode cX8_thoughtsOf 15 = .ok (.iload 4, 2) := by decide +kernel
theorem dX8_thoughtsOf_17 : decode cX8_thoughtsOf 17 = .ok (.aload_n 0, 1) := by decide +kernel
theorem dX8_thoughtsOf_18 : decode cX8_thoughtsOf 18 = .ok (.getfield 23, 3) := by decide +kernel
theorem dX8_thoughtsOf_21 : decode cX8_thoughtsOf 21 = .ok (.iconst 2, 1) := by decide +kernel
theorem dX8_thoughtsOf_22 : decode cX8_thoughtsOf 22 = .ok (.iload_n 3, 1) := by decide +kernel
theorem dX8_thoughtsOf_23 : decode cX8_thoughtsOf 23 = .ok (.iadd, 1) := by decide +kernel
theorem dX8_thoughtsOf_24 : decode cX8_thoughtsOf 24 = .ok (.iaload, 1) := by decide +kernel
theorem dX8_thoughtsOf_25 : decode cX8_thoughtsOf 25 = .ok (.if_icmp .ge 29, 3) := by decide +kernel
theorem dX8_thoughtsOf_28 : decode cX8_thoughtsOf 28 = .ok (.iload_n 1, 1) := by decide +kernel
theorem dX8_thoughtsOf_29 : decode cX8_thoughtsOf 29 = .ok (.iload_n 3, 1) := by decide +kernel
theorem dX8_thoughtsOf_30 : decode cX8_thoughtsOf 30 = .ok (.invokestatic 175, 3) := by decide +kernel
theorem dX8_thoughtsOf_33 : decode cX8_thoughtsOf 33 = .ok (.ifCond .eq 21, 3) := by decide +kernel
theorem dX8_thoughtsOf_36 : decode cX8_thoughtsOf 36 = .ok (.iload_n 2, 1) := by decide +kernel
theorem dX8_thoughtsOf_37 : decode cX8_thoughtsOf 37 = .ok (.iconst 1, 1) := by decide +kernel
theorem dX8_thoughtsOf_38 : decode cX8_thoughtsOf 38 = .ok (.aload_n 0, 1) := by decide +kernel
theorem dX8_thoughtsOf_39 : decode cX8_thoughtsOf 39 = .ok (.iload_n 3, 1) := by decide +kernel
theorem dX8_thoughtsOf_40 : decode cX8_thoughtsOf 40 = .ok (.iload 4, 2) := by decide +kernel
theorem dX8_thoughtsOf_42 : decode cX8_thoughtsOf 42 = .ok (.invokevirtual 131, 3) := by decide +kernel
theorem dX8_thoughtsOf_45 : decode cX8_thoughtsOf 45 = .ok (.ishl, 1) := by decide +kernel
theorem dX8_thoughtsOf_46 : decode cX8_thoughtsOf 46 = .ok (.ior, 1) := by decide +kernel
theorem dX8_thoughtsOf_47 : decode cX8_thoughtsOf 47 = .ok (.istore_n 2, 1) := by decide +kernel
theorem dX8_thoughtsOf_48 : decode cX8_thoughtsOf 48 = .ok (.iinc 4 1, 3) := by decide +kernel
theorem dX8_thoughtsOf_51 : decode cX8_thoughtsOf 51 = .ok (.goto (-36), 3) := by decide +kernel
theorem dX8_thoughtsOf_54 : decode cX8_thoughtsOf 54 = .ok (.iinc 3 1, 3) := by decide +kernel
theorem dX8_thoughtsOf_57 : decode cX8_thoughtsOf 57 = .ok (.goto (-53), 3) := by decide +kernel
theorem dX8_thoughtsOf_60 : decode cX8_thoughtsOf 60 = .ok (.iload_n 2, 1) := by decide +kernel
theorem dX8_thoughtsOf_61 : decode cX8_thoughtsOf 61 = .ok (.ireturn, 1) := by decide +kernel
theorem dX8_wig_0 : decode cX8_wig 0 = .ok (.iload_n 1, 1) := by decide +kernel
theorem dX8_wig_1 : decode cX8_wig 1 = .ok (.iconst 0, 1) := by decide +kernel
theorem dX8_wig_2 : decode cX8_wig 2 = .ok (.sipush 1023, 3) := by decide +kernel
theorem dX8_wig_5 : decode cX8_wig 5 = .ok (.invokestatic 60, 3) := by decide +kernel
theorem dX8_wig_8 : decode cX8_wig 8 = .ok (.ifCond .ne 5, 3) := by decide +kernel
theorem dX8_wig_11 : decode cX8_wig 11 = .ok (.iconst (-1), 1) := by decide +kernel
theorem dX8_wig_12 : decode cX8_wig 12 = .ok (.ireturn, 1) := by decide +kernel
theorem dX8_wig_13 : decode cX8_wig 13 = .ok (.bipush (-9), 2) := by decide +kernel
theorem dX8_wig_15 : decode cX8_wig 15 = .ok (.istore_n 2, 1) := by decide +kernel
theorem dX8_wig_16 : decode cX8_wig 16 = .ok (.iconst 0, 1) := by decide +kernel
theorem dX8_wig_17 : decode cX8_wig 17 = .ok (.istore_n 3, 1) := by decide +kernel
theorem dX8_wig_18 : decode cX8_wig 18 = .ok (.iload_n 3, 1) := by decide +kernel
theorem dX8_wig_19 : decode cX8_wig 19 = .ok (.iconst 1, 1) := by decide +kernel
theorem dX8_wig_20 : decode cX8_wig 20 = .ok (.aload_n 0, 1) := by decide +kernel
theorem dX8_wig_21 : decode cX8_wig 21 = .ok (.getfield 57, 3) := by decide +kernel
theorem dX8_wig_24 : decode cX8_wig 24 = .ok (.ishl, 1) := by decide +kernel
theorem dX8_wig_25 : decode cX8_wig 25 = .ok (.if_icmp .ge 54, 3) := by decide +kernel
theorem dX8_wig_28 : decode cX8_wig 28 = .ok (.iload_n 1, 1) := by decide +kernel
theorem dX8_wig_29 : decode cX8_wig 29 = .ok (.aload_n 0, 1) := by decide +kernel
theorem dX8_wig_30 : decode cX8_wig 30 = .ok (.iload_n 3, 1) := by decide +kernel
theorem dX8_wig_31 : decode cX8_wig 31 = .ok (.invokevirtual 185, 3) := by decide +kernel
theorem dX8_wig_34 : decode cX8_wig 34 = .ok (.iconst (-1), 1) := by decide +kernel
theorem dX8_wig_35 : decode cX8_wig 35 = .ok (.ixor, 1) := by decide +kernel
theorem dX8_wig_36 : decode cX8_wig 36 = .ok (.iand, 1) := by decide +kernel
theorem dX8_wig_37 : decode cX8_wig 37 = .ok (.ifCond .ne 22, 3) := by decide +kernel
theorem dX8_wig_40 : decode cX8_wig 40 = .ok (.iload_n 2, 1) := by decide +kernel
theorem dX8_wig_41 : decode cX8_wig 41 = .ok (.ifCond .lt 14, 3) := by decide +kernel
theorem dX8_wig_44 : decode cX8_wig 44 = .ok (.iload_n 3, 1) := by decide +kernel
theorem dX8_wig_45 : decode cX8_wig 45 = .ok (.invokestatic 182, 3) := by decide +kernel
theorem dX8_wig_48 : decode cX8_wig 48 = .ok (.iload_n 2, 1) := by decide +kernel
theorem dX8_wig_49 : decode cX8_wig 49 = .ok (.invokestatic 182, 3) := by decide +kernel
theorem dX8_wig_52 : decode cX8_wig 52 = .ok (.if_icmp .ge 7, 3) := by decide +kernel
theorem dX8_wig_55 : decode cX8_wig 55 = .ok (.iconst 1, 1) := by decide +kernel
theorem dX8_wig_56 : decode cX8_wig 56 = .ok (.goto 4, 3) := by decide +kernel
theorem dX8_wig_59 : decode cX8_wig 59 = .ok (.iconst 0, 1) := by decide +kernel
theorem dX8_wig_60 : decode cX8_wig 60 = .ok (.istore 4, 2) := by decide +kernel
theorem dX8_wig_62 : decode cX8_wig 62 = .ok (.iload 4, 2) := by decide +kernel
theorem dX8_wig_64 : decode cX8_wig 64 = .ok (.ifCond .eq 7, 3) := by decide +kernel
theorem dX8_wig_67 : decode cX8_wig 67 = .ok (.iload_n 3, 1) := by decide +kernel
theorem dX8_wig_68 : decode cX8_wig 68 = .ok (.goto 4, 3) := by decide +kernel
theorem dX8_wig_71 : decode cX8_wig 71 = .ok (.iload_n 2, 1) := by decide +kernel
theorem dX8_wig_72 : decode cX8_wig 72 = .ok (.istore_n 2, 1) := by decide +kernel
theorem dX8_wig_73 : decode cX8_wig 73 = .ok (.iinc 3 1, 3) := by decide +kernel
theorem dX8_wig_76 : decode cX8_wig 76 = .ok (.goto (-58), 3) := by decide +kernel
theorem dX8_wig_79 : decode cX8_wig 79 = .ok (.iload_n 2, 1) := by decide +kernel
theorem dX8_wig_80 : decode cX8_wig 80 = .ok (.ireturn, 1) := by decide +kernel
theorem dX8_lowest_0 : decode cX8_lowest 0 = .ok (.iload_n 0, 1) := by decide +kernel
theorem dX8_lowest_1 : decode cX8_lowest 1 = .ok (.istore_n 3, 1) := by decide +kernel
theorem dX8_lowest_2 : decode cX8_lowest 2 = .ok (.iload_n 1, 1) := by decide +kernel
theorem dX8_lowest_3 : decode cX8_lowest 3 = .ok (.istore 4, 2) := by decide +kernel
theorem dX8_lowest_5 : decode cX8_lowest 5 = .ok (.iload 4, 2) := by decide +kernel
theorem dX8_lowest_7 : decode cX8_lowest 7 = .ok (.ifCond .le 19, 3) := by decide +kernel
theorem dX8_lowest_10 : decode cX8_lowest 10 = .ok (.iload_n 3, 1) := by decide +kernel
theorem dX8_lowest_11 : decode cX8_lowest 11 = .ok (.iload 4, 2) := by decide +kernel
theorem dX8_lowest_13 : decode cX8_lowest 13 = .ok (.irem, 1) := by decide +kernel
theorem dX8_lowest_14 : decode cX8_lowest 14 = .ok (.istore 5, 2) := by decide +kernel
theorem dX8_lowest_16 : decode cX8_lowest 16 = .ok (.iload 4, 2) := by decide +kernel
theorem dX8_lowest_18 : decode cX8_lowest 18 = .ok (.istore_n 3, 1) := by decide +kernel
theorem dX8_lowest_19 : decode cX8_lowest 19 = .ok (.iload 5, 2) := by decide +kernel
theorem dX8_lowest_21 : decode cX8_lowest 21 = .ok (.istore 4, 2) := by decide +kernel
theorem dX8_lowest_23 : decode cX8_lowest 23 = .ok (.goto (-18), 3) := by decide +kernel
theorem dX8_lowest_26 : decode cX8_lowest 26 = .ok (.iload_n 2, 1) := by decide +kernel
theorem dX8_lowest_27 : decode cX8_lowest 27 = .ok (.ifCond .ne 7, 3) := by decide +kernel
theorem dX8_lowest_30 : decode cX8_lowest 30 = .ok (.iload_n 0, 1) := by decide +kernel
theorem dX8_lowest_31 : decode cX8_lowest 31 = .ok (.goto 4, 3) := by decide +kernel
theorem dX8_lowest_34 : decode cX8_lowest 34 = .ok (.iload_n 1, 1) := by decide +kernel
theorem dX8_lowest_35 : decode cX8_lowest 35 = .ok (.iload_n 3, 1) := by decide +kernel
theorem dX8_lowest_36 : decode cX8_lowest 36 = .ok (.idiv, 1) := by decide +kernel
theorem dX8_lowest_37 : decode cX8_lowest 37 = .ok (.ireturn, 1) := by decide +kernel
theorem dX8_odds_0 : decode cX8_odds 0 = .ok (.iload_n 1, 1) := by decide +kernel
theorem dX8_odds_1 : decode cX8_odds 1 = .ok (.iconst 0, 1) := by decide +kernel
theorem dX8_odds_2 : decode cX8_odds 2 = .ok (.bipush 10, 2) := by decide +kernel
theorem dX8_odds_4 : decode cX8_odds 4 = .ok (.invokestatic 60, 3) := by decide +kernel
theorem dX8_odds_7 : decode cX8_odds 7 = .ok (.ifCond .eq 33, 3) := by decide +kernel
theorem dX8_odds_10 : decode cX8_odds 10 = .ok (.iload_n 2, 1) := by decide +kernel
theorem dX8_odds_11 : decode cX8_odds 11 = .ok (.iconst 0, 1) := by decide +kernel
theorem dX8_odds_12 : decode cX8_odds 12 = .ok (.bipush 7, 2) := by decide +kernel
theorem dX8_odds_14 : decode cX8_odds 14 = .ok (.invokestatic 60, 3) := by decide +kernel
theorem dX8_odds_17 : decode cX8_odds 17 = .ok (.ifCond .eq 23, 3) := by decide +kernel
theorem dX8_odds_20 : decode cX8_odds 20 = .ok (.iload_n 3, 1) := by decide +kernel
theorem dX8_odds_21 : decode cX8_odds 21 = .ok (.iconst 0, 1) := by decide +kernel
theorem dX8_odds_22 : decode cX8_odds 22 = .ok (.bipush 7, 2) := by decide +kernel
theorem dX8_odds_24 : decode cX8_odds 24 = .ok (.invokestatic 60, 3) := by decide +kernel
theorem dX8_odds_27 : decode cX8_odds 27 = .ok (.ifCond .eq 13, 3) := by decide +kernel
theorem dX8_odds_30 : decode cX8_odds 30 = .ok (.iload 4, 2) := by decide +kernel
theorem dX8_odds_32 : decode cX8_odds 32 = .ok (.iconst 0, 1) := by decide +kernel
theorem dX8_odds_33 : decode cX8_odds 33 = .ok (.iconst 1, 1) := by decide +kernel
theorem dX8_odds_34 : decode cX8_odds 34 = .ok (.invokestatic 60, 3) := by decide +kernel
theorem dX8_odds_37 : decode cX8_odds 37 = .ok (.ifCond .ne 5, 3) := by decide +kernel
theorem dX8_odds_40 : decode cX8_odds 40 = .ok (.iconst (-1), 1) := by decide +kernel
theorem dX8_odds_41 : decode cX8_odds 41 = .ok (.ireturn, 1) := by decide +kernel
theorem dX8_odds_42 : decode cX8_odds 42 = .ok (.iconst 0, 1) := by decide +kernel
theorem dX8_odds_43 : decode cX8_odds 43 = .ok (.istore 5, 2) := by decide +kernel
theorem dX8_odds_45 : decode cX8_odds 45 = .ok (.iconst 1, 1) := by decide +kernel
theorem dX8_odds_46 : decode cX8_odds 46 = .ok (.istore 6, 2) := by decide +kernel
theorem dX8_odds_48 : decode cX8_odds 48 = .ok (.iconst 0, 1) := by decide +kernel
theorem dX8_odds_49 : decode cX8_odds 49 = .ok (.istore 7, 2) := by decide +kernel
theorem dX8_odds_51 : decode cX8_odds 51 = .ok (.iload 7, 2) := by decide +kernel
theorem dX8_odds_53 : decode cX8_odds 53 = .ok (.iload_n 3, 1) := by decide +kernel
theorem dX8_odds_54 : decode cX8_odds 54 = .ok (.if_icmp .ge 16, 3) := by decide +kernel
theorem dX8_odds_57 : decode cX8_odds 57 = .ok (.iload 6, 2) := by decide +kernel
theorem dX8_odds_59 : decode cX8_odds 59 = .ok (.bipush 10, 2) := by decide +kernel
theorem dX8_odds_61 : decode cX8_odds 61 = .ok (.imul, 1) := by decide +kernel
theorem dX8_odds_62 : decode cX8_odds 62 = .ok (.istore 6, 2) := by decide +kernel
theorem dX8_odds_64 : decode cX8_odds 64 = .ok (.iinc 7 1, 3) := by decide +kernel
theorem dX8_odds_67 : decode cX8_odds 67 = .ok (.goto (-16), 3) := by decide +kernel
theorem dX8_odds_70 : decode cX8_odds 70 = .ok (.iconst 0, 1) := by decide +kernel
theorem dX8_odds_71 : decode cX8_odds 71 = .ok (.istore 7, 2) := by decide +kernel
theorem dX8_odds_73 : decode cX8_odds 73 = .ok (.iload 7, 2) := by decide +kernel
theorem dX8_odds_75 : decode cX8_odds 75 = .ok (.iconst 1, 1) := by decide +kernel
theorem dX8_odds_76 : decode cX8_odds 76 = .ok (.iload_n 3, 1) := by decide +kernel
theorem dX8_odds_77 : decode cX8_odds 77 = .ok (.ishl, 1) := by decide +kernel
theorem dX8_odds_78 : decode cX8_odds 78 = .ok (.if_icmp .ge 70, 3) := by decide +kernel
theorem dX8_odds_81 : decode cX8_odds 81 = .ok (.iconst 1, 1) := by decide +kernel
theorem dX8_odds_82 : decode cX8_odds 82 = .ok (.istore 8, 2) := by decide +kernel
theorem dX8_odds_84 : decode cX8_odds 84 = .ok (.iconst 0, 1) := by decide +kernel
theorem dX8_odds_85 : decode cX8_odds 85 = .ok (.istore 9, 2) := by decide +kernel
theorem dX8_odds_87 : decode cX8_odds 87 = .ok (.iload 9, 2) := by decide +kernel
theorem dX8_odds_89 : decode cX8_odds 89 = .ok (.iload_n 3, 1) := by decide +kernel
theorem dX8_odds_90 : decode cX8_odds 90 = .ok (.if_icmp .ge 32, 3) := by decide +kernel
theorem dX8_odds_93 : decode cX8_odds 93 = .ok (.iload 8, 2) := by decide +kernel
theorem dX8_odds_95 : decode cX8_odds 95 = .ok (.iload 7, 2) := by decide +kernel
theorem dX8_odds_97 : decode cX8_odds 97 = .ok (.iload 9, 2) := by decide +kernel
theorem dX8_odds_99 : decode cX8_odds 99 = .ok (.invokestatic 175, 3) := by decide +kernel
theorem dX8_odds_102 : decode cX8_odds 102 = .ok (.ifCond .eq 7, 3) := by decide +kernel
theorem dX8_odds_105 : decode cX8_odds 105 = .ok (.iload_n 1, 1) := by decide +kernel
theorem dX8_odds_106 : decode cX8_odds 106 = .ok (.goto 7, 3) := by decide +kernel
theorem dX8_odds_109 : decode cX8_odds 109 = .ok (.bipush 10, 2) := by decide +kernel
theorem dX8_odds_111 : decode cX8_odds 111 = .ok (.iload_n 1, 1) := by decide +kernel
theorem dX8_odds_112 : decode cX8_odds 112 = .ok (.isub, 1) := by decide +kernel
theorem dX8_odds_113 : decode cX8_odds 113 = .ok (.imul, 1) := by decide +kernel
theorem dX8_odds_114 : decode cX8_odds 114 = .ok (.istore 8, 2) := by decide +kernel
theorem dX8_odds_116 : decode cX8_odds 116 = .ok (.iinc 9 1, 3) := by decide +kernel
theorem dX8_odds_119 : decode cX8_odds 119 = .ok (.goto (-32), 3) := by decide +kernel
theorem dX8_odds_122 : decode cX8_odds 122 = .ok (.iload 5, 2) := by decide +kernel
theorem dX8_odds_124 : decode cX8_odds 124 = .ok (.iload 7, 2) := by decide +kernel
theorem dX8_odds_126 : decode cX8_odds 126 = .ok (.invokestatic 182, 3) := by decide +kernel
theorem dX8_odds_129 : decode cX8_odds 129 = .ok (.iload_n 2, 1) := by decide +kernel
theorem dX8_odds_130 : decode cX8_odds 130 = .ok (.if_icmp .ne 8, 3) := by decide +kernel
theorem dX8_odds_133 : decode cX8_odds 133 = .ok (.iload 8, 2) := by decide +kernel
theorem dX8_odds_135 : decode cX8_odds 135 = .ok (.goto 4, 3) := by decide +kernel
theorem dX8_odds_138 : decode cX8_odds 138 = .ok (.iconst 0, 1) := by decide +kernel
theorem dX8_odds_139 : decode cX8_odds 139 = .ok (.iadd, 1) := by decide +kernel
theorem dX8_odds_140 : decode cX8_odds 140 = .ok (.istore 5, 2) := by decide +kernel
theorem dX8_odds_142 : decode cX8_odds 142 = .ok (.iinc 7 1, 3) := by decide +kernel
theorem dX8_odds_145 : decode cX8_odds 145 = .ok (.goto (-72), 3) := by decide +kernel
theorem dX8_odds_148 : decode cX8_odds 148 = .ok (.iload 5, 2) := by decide +kernel
theorem dX8_odds_150 : decode cX8_odds 150 = .ok (.iload 6, 2) := by decide +kernel
theorem dX8_odds_152 : decode cX8_odds 152 = .ok (.iload 4, 2) := by decide +kernel
theorem dX8_odds_154 : decode cX8_odds 154 = .ok (.invokestatic 188, 3) := by decide +kernel
theorem dX8_odds_157 : decode cX8_odds 157 = .ok (.ireturn, 1) := by decide +kernel
theorem dX8_saw_0 : decode cX8_saw 0 = .ok (.iload_n 1, 1) := by decide +kernel
theorem dX8_saw_1 : decode cX8_saw 1 = .ok (.invokestatic 143, 3) := by decide +kernel
theorem dX8_saw_4 : decode cX8_saw 4 = .ok (.ifCond .ne 5, 3) := by decide +kernel
theorem dX8_saw_7 : decode cX8_saw 7 = .ok (.iconst (-1), 1) := by decide +kernel
theorem dX8_saw_8 : decode cX8_saw 8 = .ok (.ireturn, 1) := by decide +kernel
theorem dX8_saw_9 : decode cX8_saw 9 = .ok (.aload_n 0, 1) := by decide +kernel
theorem dX8_saw_10 : decode cX8_saw 10 = .ok (.getfield 125, 3) := by decide +kernel
theorem dX8_saw_13 : decode cX8_saw 13 = .ok (.iconst 4, 1) := by decide +kernel
theorem dX8_saw_14 : decode cX8_saw 14 = .ok (.if_icmp .ne 6, 3) := by decide +kernel
theorem dX8_saw_17 : decode cX8_saw 17 = .ok (.bipush (-3), 2) := by decide +kernel
theorem dX8_saw_19 : decode cX8_saw 19 = .ok (.ireturn, 1) := by decide +kernel
theorem dX8_saw_20 : decode cX8_saw 20 = .ok (.aload_n 0, 1) := by decide +kernel
theorem dX8_saw_21 : decode cX8_saw 21 = .ok (.getfield 33, 3) := by decide +kernel
theorem dX8_saw_24 : decode cX8_saw 24 = .ok (.aload_n 0, 1) := by decide +kernel
theorem dX8_saw_25 : decode cX8_saw 25 = .ok (.getfield 125, 3) := by decide +kernel
theorem dX8_saw_28 : decode cX8_saw 28 = .ok (.iload_n 1, 1) := by decide +kernel
theorem dX8_saw_29 : decode cX8_saw 29 = .ok (.iastore, 1) := by decide +kernel
theorem dX8_saw_30 : decode cX8_saw 30 = .ok (.aload_n 0, 1) := by decide +kernel
theorem dX8_saw_31 : decode cX8_saw 31 = .ok (.dup, 1) := by decide +kernel
theorem dX8_saw_32 : decode cX8_saw 32 = .ok (.getfield 125, 3) := by decide +kernel
theorem dX8_saw_35 : decode cX8_saw 35 = .ok (.iconst 1, 1) := by decide +kernel
theorem dX8_saw_36 : decode cX8_saw 36 = .ok (.iadd, 1) := by decide +kernel
theorem dX8_saw_37 : decode cX8_saw 37 = .ok (.putfield 125, 3) := by decide +kernel
theorem dX8_saw_40 : decode cX8_saw 40 = .ok (.aload_n 0, 1) := by decide +kernel
theorem dX8_saw_41 : decode cX8_saw 41 = .ok (.getfield 125, 3) := by decide +kernel
theorem dX8_saw_44 : decode cX8_saw 44 = .ok (.ireturn, 1) := by decide +kernel
theorem dX8_isLock_0 : decode cX8_isLock 0 = .ok (.iload_n 2, 1) := by decide +kernel
theorem dX8_isLock_1 : decode cX8_isLock 1 = .ok (.aload_n 0, 1) := by decide +kernel
theorem dX8_isLock_2 : decode cX8_isLock 2 = .ok (.getfield 125, 3) := by decide +kernel
theorem dX8_isLock_5 : decode cX8_isLock 5 = .ok (.iadd, 1) := by decide +kernel
theorem dX8_isLock_6 : decode cX8_isLock 6 = .ok (.aload_n 0, 1) := by decide +kernel
theorem dX8_isLock_7 : decode cX8_isLock 7 = .ok (.getfield 23, 3) := by decide +kernel
theorem dX8_isLock_10 : decode cX8_isLock 10 = .ok (.iconst 2, 1) := by decide +kernel
theorem dX8_isLock_11 : decode cX8_isLock 11 = .ok (.iload_n 1, 1) := by decide +kernel
theorem dX8_isLock_12 : decode cX8_isLock 12 = .ok (.iadd, 1) := by decide +kernel
theorem dX8_isLock_13 : decode cX8_isLock 13 = .ok (.iaload, 1) := by decide +kernel
theorem dX8_isLock_14 : decode cX8_isLock 14 = .ok (.if_icmp .gt 7, 3) := by decide +kernel
theorem dX8_isLock_17 : decode cX8_isLock 17 = .ok (.iconst 1, 1) := by decide +kernel
theorem dX8_isLock_18 : decode cX8_isLock 18 = .ok (.goto 4, 3) := by decide +kernel
theorem dX8_isLock_21 : decode cX8_isLock 21 = .ok (.iconst 0, 1) := by decide +kernel
theorem dX8_isLock_22 : decode cX8_isLock 22 = .ok (.istore_n 3, 1) := by decide +kernel
theorem dX8_isLock_23 : decode cX8_isLock 23 = .ok (.iconst 0, 1) := by decide +kernel
theorem dX8_isLock_24 : decode cX8_isLock 24 = .ok (.istore 4, 2) := by decide +kernel
theorem dX8_isLock_26 : decode cX8_isLock 26 = .ok (.iload 4, 2) := by decide +kernel
theorem dX8_isLock_28 : decode cX8_isLock 28 = .ok (.aload_n 0, 1) := by decide +kernel
theorem dX8_isLock_29 : decode cX8_isLock 29 = .ok (.getfield 125, 3) := by decide +kernel
theorem dX8_isLock_32 : decode cX8_isLock 32 = .ok (.if_icmp .ge 38, 3) := by decide +kernel
theorem dX8_isLock_35 : decode cX8_isLock 35 = .ok (.iload_n 3, 1) := by decide +kernel
theorem dX8_isLock_36 : decode cX8_isLock 36 = .ok (.ifCond .eq 34, 3) := by decide +kernel
theorem dX8_isLock_39 : decode cX8_isLock 39 = .ok (.aload_n 0, 1) := by decide +kernel
theorem dX8_isLock_40 : decode cX8_isLock 40 = .ok (.iload_n 1, 1) := by decide +kernel
theorem dX8_isLock_41 : decode cX8_isLock 41 = .ok (.iload_n 2, 1) := by decide +kernel
theorem dX8_isLock_42 : decode cX8_isLock 42 = .ok (.iload 4, 2) := by decide +kernel
theorem dX8_isLock_44 : decode cX8_isLock 44 = .ok (.iadd, 1) := by decide +kernel
theorem dX8_isLock_45 : decode cX8_isLock 45 = .ok (.invokevirtual 131, 3) := by decide +kernel
theorem dX8_isLock_48 : decode cX8_isLock 48 = .ok (.aload_n 0, 1) := by decide +kernel
theorem dX8_isLock_49 : decode cX8_isLock 49 = .ok (.getfield 33, 3) := by decide +kernel
theorem dX8_isLock_52 : decode cX8_isLock 52 = .ok (.iload 4, 2) := by decide +kernel
theorem dX8_isLock_54 : decode cX8_isLock 54 = .ok (.iaload, 1) := by decide +kernel
theorem dX8_isLock_55 : decode cX8_isLock 55 = .ok (.if_icmp .ne 7, 3) := by decide +kernel
theorem dX8_isLock_58 : decode cX8_isLock 58 = .ok (.iconst 1, 1) := by decide +kernel
theorem dX8_isLock_59 : decode cX8_isLock 59 = .ok (.goto 4, 3) := by decide +kernel
theorem dX8_isLock_62 : decode cX8_isLock 62 = .ok (.iconst 0, 1) := by decide +kernel
theorem dX8_isLock_63 : decode cX8_isLock 63 = .ok (.istore_n 3, 1) := by decide +kernel
theorem dX8_isLock_64 : decode cX8_isLock 64 = .ok (.iinc 4 1, 3) := by decide +kernel
theorem dX8_isLock_67 : decode cX8_isLock 67 = .ok (.goto (-41), 3) := by decide +kernel
theorem dX8_isLock_70 : decode cX8_isLock 70 = .ok (.iload_n 3, 1) := by decide +kernel
theorem dX8_isLock_71 : decode cX8_isLock 71 = .ok (.ireturn, 1) := by decide +kernel
theorem dX8_lock_0 : decode cX8_lock 0 = .ok (.iload_n 1, 1) := by decide +kernel
theorem dX8_lock_1 : decode cX8_lock 1 = .ok (.iconst 0, 1) := by decide +kernel
theorem dX8_lock_2 : decode cX8_lock 2 = .ok (.iconst 1, 1) := by decide +kernel
theorem dX8_lock_3 : decode cX8_lock 3 = .ok (.invokestatic 60, 3) := by decide +kernel
theorem dX8_lock_6 : decode cX8_lock 6 = .ok (.ifCond .ne 5, 3) := by decide +kernel
theorem dX8_lock_9 : decode cX8_lock 9 = .ok (.iconst (-1), 1) := by decide +kernel
theorem dX8_lock_10 : decode cX8_lock 10 = .ok (.ireturn, 1) := by decide +kernel
theorem dX8_lock_11 : decode cX8_lock 11 = .ok (.iconst 0, 1) := by decide +kernel
theorem dX8_lock_12 : decode cX8_lock 12 = .ok (.istore_n 2, 1) := by decide +kernel
theorem dX8_lock_13 : decode cX8_lock 13 = .ok (.iload_n 2, 1) := by decide +kernel
theorem dX8_lock_14 : decode cX8_lock 14 = .ok (.bipush 10, 2) := by decide +kernel
theorem dX8_lock_16 : decode cX8_lock 16 = .ok (.if_icmp .ge 16, 3) := by decide +kernel
theorem dX8_lock_19 : decode cX8_lock 19 = .ok (.aload_n 0, 1) := by decide +kernel
theorem dX8_lock_20 : decode cX8_lock 20 = .ok (.getfield 54, 3) := by decide +kernel
theorem dX8_lock_23 : decode cX8_lock 23 = .ok (.iload_n 2, 1) := by decide +kernel
theorem dX8_lock_24 : decode cX8_lock 24 = .ok (.iconst 0, 1) := by decide +kernel
theorem dX8_lock_25 : decode cX8_lock 25 = .ok (.iastore, 1) := by decide +kernel
theorem dX8_lock_26 : decode cX8_lock 26 = .ok (.iinc 2 1, 3) := by decide +kernel
theorem dX8_lock_29 : decode cX8_lock 29 = .ok (.goto (-16), 3) := by decide +kernel
theorem dX8_lock_32 : decode cX8_lock 32 = .ok (.iconst 0, 1) := by decide +kernel
theorem dX8_lock_33 : decode cX8_lock 33 = .ok (.istore_n 2, 1) := by decide +kernel
theorem dX8_lock_34 : decode cX8_lock 34 = .ok (.iconst 0, 1) := by decide +kernel
theorem dX8_lock_35 : decode cX8_lock 35 = .ok (.istore_n 3, 1) := by decide +kernel
theorem dX8_lock_36 : decode cX8_lock 36 = .ok (.iload_n 3, 1) := by decide +kernel
theorem dX8_lock_37 : decode cX8_lock 37 = .ok (.aload_n 0, 1) := by decide +kernel
theorem dX8_lock_38 : decode cX8_lock 38 = .ok (.getfield 57, 3) := by decide +kernel
theorem dX8_lock_41 : decode cX8_lock 41 = .ok (.if_icmp .ge 86, 3) := by decide +kernel
theorem dX8_lock_44 : decode cX8_lock 44 = .ok (.iconst 0, 1) := by decide +kernel
theorem dX8_lock_45 : decode cX8_lock 45 = .ok (.istore 4, 2) := by decide +kernel
theorem dX8_lock_47 : decode cX8_lock 47 = .ok (.iload 4, 2) := by decide +kernel
theorem dX8_lock_49 : decode cX8_lock 49 = .ok (.aload_n 0, 1) := by decide +kernel
theorem dX8_lock_50 : decode cX8_lock 50 = .ok (.getfield 23, 3) := by decide +kernel
theorem dX8_lock_53 : decode cX8_lock 53 = .ok (.iconst 2, 1) := by decide +kernel
theorem dX8_lock_54 : decode cX8_lock 54 = .ok (.iload_n 3, 1) := by decide +kernel
theorem dX8_lock_55 : decode cX8_lock 55 = .ok (.iadd, 1) := by decide +kernel
theorem dX8_lock_56 : decode cX8_lock 56 = .ok (.iaload, 1) := by decide +kernel
theorem dX8_lock_57 : decode cX8_lock 57 = .ok (.if_icmp .gt 64, 3) := by decide +kernel
theorem dX8_lock_60 : decode cX8_lock 60 = .ok (.aload_n 0, 1) := by decide +kernel
theorem dX8_lock_61 : decode cX8_lock 61 = .ok (.iload_n 3, 1) := by decide +kernel
theorem dX8_lock_62 : decode cX8_lock 62 = .ok (.iload 4, 2) := by decide +kernel
theorem dX8_lock_64 : decode cX8_lock 64 = .ok (.invokevirtual 192, 3) := by decide +kernel
theorem dX8_lock_67 : decode cX8_lock 67 = .ok (.ifCond .eq 48, 3) := by decide +kernel
theorem dX8_lock_70 : decode cX8_lock 70 = .ok (.iload_n 2, 1) := by decide +kernel
theorem dX8_lock_71 : decode cX8_lock 71 = .ok (.iconst 1, 1) := by decide +kernel
theorem dX8_lock_72 : decode cX8_lock 72 = .ok (.iload_n 3, 1) := by decide +kernel
theorem dX8_lock_73 : decode cX8_lock 73 = .ok (.ishl, 1) := by decide +kernel
theorem dX8_lock_74 : decode cX8_lock 74 = .ok (.ior, 1) := by decide +kernel
theorem dX8_lock_75 : decode cX8_lock 75 = .ok (.istore_n 2, 1) := by decide +kernel
theorem dX8_lock_76 : decode cX8_lock 76 = .ok (.iload 4, 2) := by decide +kernel
theorem dX8_lock_78 : decode cX8_lock 78 = .ok (.aload_n 0, 1) := by decide +kernel
theorem dX8_lock_79 : decode cX8_lock 79 = .ok (.getfield 125, 3) := by decide +kernel
theorem dX8_lock_82 : decode cX8_lock 82 = .ok (.iadd, 1) := by decide +kernel
theorem dX8_lock_83 : decode cX8_lock 83 = .ok (.aload_n 0, 1) := by decide +kernel
theorem dX8_lock_84 : decode cX8_lock 84 = .ok (.getfield 23, 3) := by decide +kernel
theorem dX8_lock_87 : decode cX8_lock 87 = .ok (.iconst 2, 1) := by decide +kernel
theorem dX8_lock_88 : decode cX8_lock 88 = .ok (.iload_n 3, 1) := by decide +kernel
theorem dX8_lock_89 : decode cX8_lock 89 = .ok (.iadd, 1) := by decide +kernel
theorem dX8_lock_90 : decode cX8_lock 90 = .ok (.iaload, 1) := by decide +kernel
theorem dX8_lock_91 : decode cX8_lock 91 = .ok (.if_icmp .ge 24, 3) := by decide +kernel
theorem dX8_lock_94 : decode cX8_lock 94 = .ok (.aload_n 0, 1) := by decide +kernel
theorem dX8_lock_95 : decode cX8_lock 95 = .ok (.getfield 54, 3) := by decide +kernel
theorem dX8_lock_98 : decode cX8_lock 98 = .ok (.aload_n 0, 1) := by decide +kernel
theorem dX8_lock_99 : decode cX8_lock 99 = .ok (.iload_n 3, 1) := by decide +kernel
theorem dX8_lock_100 : decode cX8_lock 100 = .ok (.iload 4, 2) := by decide +kernel
theorem dX8_lock_102 : decode cX8_lock 102 = .ok (.aload_n 0, 1) := by decide +kernel
theorem dX8_lock_103 : decode cX8_lock 103 = .ok (.getfield 125, 3) := by decide +kernel
theorem dX8_lock_106 : decode cX8_lock 106 = .ok (.iadd, 1) := by decide +kernel
theorem dX8_lock_107 : decode cX8_lock 107 = .ok (.invokevirtual 131, 3) := by decide +kernel
theorem dX8_lock_110 : decode cX8_lock 110 = .ok (.dup2, 1) := by decide +kernel
theorem dX8_lock_111 : decode cX8_lock 111 = .ok (.iaload, 1) := by decide +kernel
theorem dX8_lock_112 : decode cX8_lock 112 = .ok (.iconst 1, 1) := by decide +kernel
theorem dX8_lock_113 : decode cX8_lock 113 = .ok (.iadd, 1) := by decide +kernel
theorem dX8_lock_114 : decode cX8_lock 114 = .ok (.iastore, 1) := by decide +kernel
theorem dX8_lock_115 : decode cX8_lock 115 = .ok (.iinc 4 1, 3) := by decide +kernel
theorem dX8_lock_118 : decode cX8_lock 118 = .ok (.goto (-71), 3) := by decide +kernel
theorem dX8_lock_121 : decode cX8_lock 121 = .ok (.iinc 3 1, 3) := by decide +kernel
theorem dX8_lock_124 : decode cX8_lock 124 = .ok (.goto (-88), 3) := by decide +kernel
theorem dX8_lock_127 : decode cX8_lock 127 = .ok (.bipush (-9), 2) := by decide +kernel
theorem dX8_lock_129 : decode cX8_lock 129 = .ok (.istore_n 3, 1) := by decide +kernel
theorem dX8_lock_130 : decode cX8_lock 130 = .ok (.iconst 0, 1) := by decide +kernel
theorem dX8_lock_131 : decode cX8_lock 131 = .ok (.istore 4, 2) := by decide +kernel
theorem dX8_lock_133 : decode cX8_lock 133 = .ok (.iconst 0, 1) := by decide +kernel
theorem dX8_lock_134 : decode cX8_lock 134 = .ok (.istore 5, 2) := by decide +kernel
theorem dX8_lock_136 : decode cX8_lock 136 = .ok (.iload 5, 2) := by decide +kernel
theorem dX8_lock_138 : decode cX8_lock 138 = .ok (.bipush 10, 2) := by decide +kernel
theorem dX8_lock_140 : decode cX8_lock 140 = .ok (.if_icmp .ge 54, 3) := by decide +kernel
theorem dX8_lock_143 : decode cX8_lock 143 = .ok (.aload_n 0, 1) := by decide +kernel
theorem dX8_lock_144 : decode cX8_lock 144 = .ok (.getfield 54, 3) := by decide +kernel
theorem dX8_lock_147 : decode cX8_lock 147 = .ok (.iload 5, 2) := by decide +kernel
theorem dX8_lock_149 : decode cX8_lock 149 = .ok (.iaload, 1) := by decide +kernel
theorem dX8_lock_150 : decode cX8_lock 150 = .ok (.iload 4, 2) := by decide +kernel
theorem dX8_lock_152 : decode cX8_lock 152 = .ok (.if_icmp .le 8, 3) := by decide +kernel
theorem dX8_lock_155 : decode cX8_lock 155 = .ok (.iload 5, 2) := by decide +kernel
theorem dX8_lock_157 : decode cX8_lock 157 = .ok (.goto 4, 3) := by decide +kernel
theorem dX8_lock_160 : decode cX8_lock 160 = .ok (.iload_n 3, 1) := by decide +kernel
theorem dX8_lock_161 : decode cX8_lock 161 = .ok (.istore_n 3, 1) := by decide +kernel
theorem dX8_lock_162 : decode cX8_lock 162 = .ok (.aload_n 0, 1) := by decide +kernel
theorem dX8_lock_163 : decode cX8_lock 163 = .ok (.getfield 54, 3) := by decide +kernel
theorem dX8_lock_166 : decode cX8_lock 166 = .ok (.iload 5, 2) := by decide +kernel
theorem dX8_lock_168 : decode cX8_lock 168 = .ok (.iaload, 1) := by decide +kernel
theorem dX8_lock_169 : decode cX8_lock 169 = .ok (.iload 4, 2) := by decide +kernel
theorem dX8_lock_171 : decode cX8_lock 171 = .ok (.if_icmp .le 13, 3) := by decide +kernel
theorem dX8_lock_174 : decode cX8_lock 174 = .ok (.aload_n 0, 1) := by decide +kernel
theorem dX8_lock_175 : decode cX8_lock 175 = .ok (.getfield 54, 3) := by decide +kernel
theorem dX8_lock_178 : decode cX8_lock 178 = .ok (.iload 5, 2) := by decide +kernel
theorem dX8_lock_180 : decode cX8_lock 180 = .ok (.iaload, 1) := by decide +kernel
theorem dX8_lock_181 : decode cX8_lock 181 = .ok (.goto 5, 3) := by decide +kernel
theorem dX8_lock_184 : decode cX8_lock 184 = .ok (.iload 4, 2) := by decide +kernel
theorem dX8_lock_186 : decode cX8_lock 186 = .ok (.istore 4, 2) := by decide +kernel
theorem dX8_lock_188 : decode cX8_lock 188 = .ok (.iinc 5 1, 3) := by decide +kernel
theorem dX8_lock_191 : decode cX8_lock 191 = .ok (.goto (-55), 3) := by decide +kernel
theorem dX8_lock_194 : decode cX8_lock 194 = .ok (.iload_n 1, 1) := by decide +kernel
theorem dX8_lock_195 : decode cX8_lock 195 = .ok (.ifCond .ne 7, 3) := by decide +kernel
theorem dX8_lock_198 : decode cX8_lock 198 = .ok (.iload_n 2, 1) := by decide +kernel
theorem dX8_lock_199 : decode cX8_lock 199 = .ok (.goto 4, 3) := by decide +kernel
theorem dX8_lock_202 : decode cX8_lock 202 = .ok (.iload_n 3, 1) := by decide +kernel
theorem dX8_lock_203 : decode cX8_lock 203 = .ok (.ireturn, 1) := by decide +kernel
theorem dX8_hears_0 : decode cX8_hears 0 = .ok (.iload_n 1, 1) := by decide +kernel
theorem dX8_hears_1 : decode cX8_hears 1 = .ok (.invokestatic 143, 3) := by decide +kernel
theorem dX8_hears_4 : decode cX8_hears 4 = .ok (.ifCond .eq 13, 3) := by decide +kernel
theorem dX8_hears_7 : decode cX8_hears 7 = .ok (.iload_n 2, 1) := by decide +kernel
theorem dX8_hears_8 : decode cX8_hears 8 = .ok (.iconst 0, 1) := by decide +kernel
theorem dX8_hears_9 : decode cX8_hears 9 = .ok (.bipush 60, 2) := by decide +kernel
theorem dX8_hears_11 : decode cX8_hears 11 = .ok (.invokestatic 60, 3) := by decide +kernel
theorem dX8_hears_14 : decode cX8_hears 14 = .ok (.ifCond .ne 5, 3) := by decide +kernel
theorem dX8_hears_17 : decode cX8_hears 17 = .ok (.iconst (-1), 1) := by decide +kernel
theorem dX8_hears_18 : decode cX8_hears 18 = .ok (.ireturn, 1) := by decide +kernel
theorem dX8_hears_19 : decode cX8_hears 19 = .ok (.aload_n 0, 1) := by decide +kernel
theorem dX8_hears_20 : decode cX8_hears 20 = .ok (.getfield 128, 3) := by decide +kernel
theorem dX8_hears_23 : decode cX8_hears 23 = .ok (.iconst 4, 1) := by decide +kernel
theorem dX8_hears_24 : decode cX8_hears 24 = .ok (.if_icmp .ne 6, 3) := by decide +kernel
theorem dX8_hears_27 : decode cX8_hears 27 = .ok (.bipush (-3), 2) := by decide +kernel
theorem dX8_hears_29 : decode cX8_hears 29 = .ok (.ireturn, 1) := by decide +kernel
theorem dX8_hears_30 : decode cX8_hears 30 = .ok (.aload_n 0, 1) := by decide +kernel
theorem dX8_hears_31 : decode cX8_hears 31 = .ok (.getfield 36, 3) := by decide +kernel
theorem dX8_hears_34 : decode cX8_hears 34 = .ok (.iconst 2, 1) := by decide +kernel
theorem dX8_hears_35 : decode cX8_hears 35 = .ok (.aload_n 0, 1) := by decide +kernel
theorem dX8_hears_36 : decode cX8_hears 36 = .ok (.getfield 128, 3) := by decide +kernel
theorem dX8_hears_39 : decode cX8_hears 39 = .ok (.imul, 1) := by decide +kernel
theorem dX8_hears_40 : decode cX8_hears 40 = .ok (.iload_n 1, 1) := by decide +kernel
theorem dX8_hears_41 : decode cX8_hears 41 = .ok (.iastore, 1) := by decide +kernel
theorem dX8_hears_42 : decode cX8_hears 42 = .ok (.aload_n 0, 1) := by decide +kernel
theorem dX8_hears_43 : decode cX8_hears 43 = .ok (.getfield 36, 3) := by decide +kernel
theorem dX8_hears_46 : decode cX8_hears 46 = .ok (.iconst 2, 1) := by decide +kernel
theorem dX8_hears_47 : decode cX8_hears 47 = .ok (.aload_n 0, 1) := by decide +kernel
theorem dX8_hears_48 : decode cX8_hears 48 = .ok (.getfield 128, 3) := by decide +kernel
theorem dX8_hears_51 : decode cX8_hears 51 = .ok (.imul, 1) := by decide +kernel
theorem dX8_hears_52 : decode cX8_hears 52 = .ok (.iconst 1, 1) := by decide +kernel
theorem dX8_hears_53 : decode cX8_hears 53 = .ok (.iadd, 1) := by decide +kernel
theorem dX8_hears_54 : decode cX8_hears 54 = .ok (.iload_n 2, 1) := by decide +kernel
theorem dX8_hears_55 : decode cX8_hears 55 = .ok (.iastore, 1) := by decide +kernel
theorem dX8_hears_56 : decode cX8_hears 56 = .ok (.aload_n 0, 1) := by decide +kernel
theorem dX8_hears_57 : decode cX8_hears 57 = .ok (.dup, 1) := by decide +kernel
theorem dX8_hears_58 : decode cX8_hears 58 = .ok (.getfield 128, 3) := by decide +kernel
theorem dX8_hears_61 : decode cX8_hears 61 = .ok (.iconst 1, 1) := by decide +kernel
theorem dX8_hears_62 : decode cX8_hears 62 = .ok (.iadd, 1) := by decide +kernel
theorem dX8_hears_63 : decode cX8_hears 63 = .ok (.putfield 128, 3) := by decide +kernel
theorem dX8_hears_66 : decode cX8_hears 66 = .ok (.aload_n 0, 1) := by decide +kernel
theorem dX8_hears_67 : decode cX8_hears 67 = .ok (.getfield 128, 3) := by decide +kernel
theorem dX8_hears_70 : decode cX8_hears 70 = .ok (.ireturn, 1) := by decide +kernel
theorem dX8_isHeard_0 : decode cX8_isHeard 0 = .ok (.iconst 1, 1) := by decide +kernel
theorem dX8_isHeard_1 : decode cX8_isHeard 1 = .ok (.istore_n 2, 1) := by decide +kernel
theorem dX8_isHeard_2 : decode cX8_isHeard 2 = .ok (.iconst 0, 1) := by decide +kernel
theorem dX8_isHeard_3 : decode cX8_isHeard 3 = .ok (.istore_n 3, 1) := by decide +kernel
theorem dX8_isHeard_4 : decode cX8_isHeard 4 = .ok (.iload_n 3, 1) := by decide +kernel
theorem dX8_isHeard_5 : decode cX8_isHeard 5 = .ok (.aload_n 0, 1) := by decide +kernel
theorem dX8_isHeard_6 : decode cX8_isHeard 6 = .ok (.getfield 128, 3) := by decide +kernel
theorem dX8_isHeard_9 : decode cX8_isHeard 9 = .ok (.if_icmp .ge 87, 3) := by decide +kernel
theorem dX8_isHeard_12 : decode cX8_isHeard 12 = .ok (.iconst 0, 1) := by decide +kernel
theorem dX8_isHeard_13 : decode cX8_isHeard 13 = .ok (.istore 4, 2) := by decide +kernel
theorem dX8_isHeard_15 : decode cX8_isHeard 15 = .ok (.iconst 0, 1) := by decide +kernel
theorem dX8_isHeard_16 : decode cX8_isHeard 16 = .ok (.istore 5, 2) := by decide +kernel
theorem dX8_isHeard_18 : decode cX8_isHeard 18 = .ok (.iload 5, 2) := by decide +kernel
theorem dX8_isHeard_20 : decode cX8_isHeard 20 = .ok (.aload_n 0, 1) := by decide +kernel
theorem dX8_isHeard_21 : decode cX8_isHeard 21 = .ok (.getfield 57, 3) := by decide +kernel
theorem dX8_isHeard_24 : decode cX8_isHeard 24 = .ok (.if_icmp .ge 41, 3) := by decide +kernel
theorem dX8_isHeard_27 : decode cX8_isHeard 27 = .ok (.iload 4, 2) := by decide +kernel
theorem dX8_isHeard_29 : decode cX8_isHeard 29 = .ok (.iload_n 1, 1) := by decide +kernel
theorem dX8_isHeard_30 : decode cX8_isHeard 30 = .ok (.iload 5, 2) := by decide +kernel
theorem dX8_isHeard_32 : decode cX8_isHeard 32 = .ok (.invokestatic 175, 3) := by decide +kernel
theorem dX8_isHeard_35 : decode cX8_isHeard 35 = .ok (.ifCond .eq 20, 3) := by decide +kernel
theorem dX8_isHeard_38 : decode cX8_isHeard 38 = .ok (.aload_n 0, 1) := by decide +kernel
theorem dX8_isHeard_39 : decode cX8_isHeard 39 = .ok (.iload 5, 2) := by decide +kernel
theorem dX8_isHeard_41 : decode cX8_isHeard 41 = .ok (.aload_n 0, 1) := by decide +kernel
theorem dX8_isHeard_42 : decode cX8_isHeard 42 = .ok (.getfield 36, 3) := by decide +kernel
theorem dX8_isHeard_45 : decode cX8_isHeard 45 = .ok (.iconst 2, 1) := by decide +kernel
theorem dX8_isHeard_46 : decode cX8_isHeard 46 = .ok (.iload_n 3, 1) := by decide +kernel
theorem dX8_isHeard_47 : decode cX8_isHeard 47 = .ok (.imul, 1) := by decide +kernel
theorem dX8_isHeard_48 : decode cX8_isHeard 48 = .ok (.iaload, 1) := by decide +kernel
theorem dX8_isHeard_49 : decode cX8_isHeard 49 = .ok (.invokevirtual 137, 3) := by decide +kernel
theorem dX8_isHeard_52 : decode cX8_isHeard 52 = .ok (.goto 4, 3) := by decide +kernel
theorem dX8_isHeard_55 : decode cX8_isHeard 55 = .ok (.iconst 0, 1) := by decide +kernel
theorem dX8_isHeard_56 : decode cX8_isHeard 56 = .ok (.iadd, 1) := by decide +kernel
theorem dX8_isHeard_57 : decode cX8_isHeard 57 = .ok (.istore 4, 2) := by decide +kernel
theorem dX8_isHeard_59 : decode cX8_isHeard 59 = .ok (.iinc 5 1, 3) := by decide +kernel
theorem dX8_isHeard_62 : decode cX8_isHeard 62 = .ok (.goto (-44), 3) := by decide +kernel
theorem dX8_isHeard_65 : decode cX8_isHeard 65 = .ok (.iload_n 2, 1) := by decide +kernel
theorem dX8_isHeard_66 : decode cX8_isHeard 66 = .ok (.ifCond .eq 22, 3) := by decide +kernel
theorem dX8_isHeard_69 : decode cX8_isHeard 69 = .ok (.iload 4, 2) := by decide +kernel
theorem dX8_isHeard_71 : decode cX8_isHeard 71 = .ok (.aload_n 0, 1) := by decide +kernel
theorem dX8_isHeard_72 : decode cX8_isHeard 72 = .ok (.getfield 36, 3) := by decide +kernel
theorem dX8_isHeard_75 : decode cX8_isHeard 75 = .ok (.iconst 2, 1) := by decide +kernel
theorem dX8_isHeard_76 : decode cX8_isHeard 76 = .ok (.iload_n 3, 1) := by decide +kernel
theorem dX8_isHeard_77 : decode cX8_isHeard 77 = .ok (.imul, 1) := by decide +kernel
theorem dX8_isHeard_78 : decode cX8_isHeard 78 = .ok (.iconst 1, 1) := by decide +kernel
theorem dX8_isHeard_79 : decode cX8_isHeard 79 = .ok (.iadd, 1) := by decide +kernel
theorem dX8_isHeard_80 : decode cX8_isHeard 80 = .ok (.iaload, 1) := by decide +kernel
theorem dX8_isHeard_81 : decode cX8_isHeard 81 = .ok (.if_icmp .ne 7, 3) := by decide +kernel
theorem dX8_isHeard_84 : decode cX8_isHeard 84 = .ok (.iconst 1, 1) := by decide +kernel
theorem dX8_isHeard_85 : decode cX8_isHeard 85 = .ok (.goto 4, 3) := by decide +kernel
theorem dX8_isHeard_88 : decode cX8_isHeard 88 = .ok (.iconst 0, 1) := by decide +kernel
theorem dX8_isHeard_89 : decode cX8_isHeard 89 = .ok (.istore_n 2, 1) := by decide +kernel
theorem dX8_isHeard_90 : decode cX8_isHeard 90 = .ok (.iinc 3 1, 3) := by decide +kernel
theorem dX8_isHeard_93 : decode cX8_isHeard 93 = .ok (.goto (-89), 3) := by decide +kernel
theorem dX8_isHeard_96 : decode cX8_isHeard 96 = .ok (.iload_n 2, 1) := by decide +kernel
theorem dX8_isHeard_97 : decode cX8_isHeard 97 = .ok (.ireturn, 1) := by decide +kernel
theorem dX8_sets_0 : decode cX8_sets 0 = .ok (.iload_n 1, 1) := by decide +kernel
theorem dX8_sets_1 : decode cX8_sets 1 = .ok (.iconst 0, 1) := by decide +kernel
theorem dX8_sets_2 : decode cX8_sets 2 = .ok (.iconst 3, 1) := by decide +kernel
theorem dX8_sets_3 : decode cX8_sets 3 = .ok (.invokestatic 60, 3) := by decide +kernel
theorem dX8_sets_6 : decode cX8_sets 6 = .ok (.ifCond .ne 5, 3) := by decide +kernel
theorem dX8_sets_9 : decode cX8_sets 9 = .ok (.iconst (-1), 1) := by decide +kernel
theorem dX8_sets_10 : decode cX8_sets 10 = .ok (.ireturn, 1) := by decide +kernel
theorem dX8_sets_11 : decode cX8_sets 11 = .ok (.iconst 1, 1) := by decide +kernel
theorem dX8_sets_12 : decode cX8_sets 12 = .ok (.aload_n 0, 1) := by decide +kernel
theorem dX8_sets_13 : decode cX8_sets 13 = .ok (.getfield 57, 3) := by decide +kernel
theorem dX8_sets_16 : decode cX8_sets 16 = .ok (.ishl, 1) := by decide +kernel
theorem dX8_sets_17 : decode cX8_sets 17 = .ok (.iconst 1, 1) := by decide +kernel
theorem dX8_sets_18 : decode cX8_sets 18 = .ok (.isub, 1) := by decide +kernel
theorem dX8_sets_19 : decode cX8_sets 19 = .ok (.istore_n 2, 1) := by decide +kernel
theorem dX8_sets_20 : decode cX8_sets 20 = .ok (.iload_n 2, 1) := by decide +kernel
theorem dX8_sets_21 : decode cX8_sets 21 = .ok (.istore_n 3, 1) := by decide +kernel
theorem dX8_sets_22 : decode cX8_sets 22 = .ok (.iconst 0, 1) := by decide +kernel
theorem dX8_sets_23 : decode cX8_sets 23 = .ok (.istore 4, 2) := by decide +kernel
theorem dX8_sets_25 : decode cX8_sets 25 = .ok (.bipush (-9), 2) := by decide +kernel
theorem dX8_sets_27 : decode cX8_sets 27 = .ok (.istore 5, 2) := by decide +kernel
theorem dX8_sets_29 : decode cX8_sets 29 = .ok (.iconst 0, 1) := by decide +kernel
theorem dX8_sets_30 : decode cX8_sets 30 = .ok (.istore 6, 2) := by decide +kernel
theorem dX8_sets_32 : decode cX8_sets 32 = .ok (.iconst 0, 1) := by decide +kernel
theorem dX8_sets_33 : decode cX8_sets 33 = .ok (.istore 7, 2) := by decide +kernel
theorem dX8_sets_35 : decode cX8_sets 35 = .ok (.iload 7, 2) := by decide +kernel
theorem dX8_sets_37 : decode cX8_sets 37 = .ok (.iload_n 2, 1) := by decide +kernel
theorem dX8_sets_38 : decode cX8_sets 38 = .ok (.if_icmp .gt 47, 3) := by decide +kernel
theorem dX8_sets_41 : decode cX8_sets 41 = .ok (.aload_n 0, 1) := by decide +kernel
theorem dX8_sets_42 : decode cX8_sets 42 = .ok (.iload 7, 2) := by decide +kernel
theorem dX8_sets_44 : decode cX8_sets 44 = .ok (.invokevirtual 195, 3) := by decide +kernel
theorem dX8_sets_47 : decode cX8_sets 47 = .ok (.ifCond .eq 32, 3) := by decide +kernel
theorem dX8_sets_50 : decode cX8_sets 50 = .ok (.iload 6, 2) := by decide +kernel
theorem dX8_sets_52 : decode cX8_sets 52 = .ok (.ifCond .ne 8, 3) := by decide +kernel
theorem dX8_sets_55 : decode cX8_sets 55 = .ok (.iload 7, 2) := by decide +kernel
theorem dX8_sets_57 : decode cX8_sets 57 = .ok (.goto 5, 3) := by decide +kernel
theorem dX8_sets_60 : decode cX8_sets 60 = .ok (.iload 5, 2) := by decide +kernel
theorem dX8_sets_62 : decode cX8_sets 62 = .ok (.istore 5, 2) := by decide +kernel
theorem dX8_sets_64 : decode cX8_sets 64 = .ok (.iload_n 3, 1) := by decide +kernel
theorem dX8_sets_65 : decode cX8_sets 65 = .ok (.iload 7, 2) := by decide +kernel
theorem dX8_sets_67 : decode cX8_sets 67 = .ok (.iand, 1) := by decide +kernel
theorem dX8_sets_68 : decode cX8_sets 68 = .ok (.istore_n 3, 1) := by decide +kernel
theorem dX8_sets_69 : decode cX8_sets 69 = .ok (.iload 4, 2) := by decide +kernel
theorem dX8_sets_71 : decode cX8_sets 71 = .ok (.iload 7, 2) := by decide +kernel
theorem dX8_sets_73 : decode cX8_sets 73 = .ok (.ior, 1) := by decide +kernel
theorem dX8_sets_74 : decode cX8_sets 74 = .ok (.istore 4, 2) := by decide +kernel
theorem dX8_sets_76 : decode cX8_sets 76 = .ok (.iinc 6 1, 3) := by decide +kernel
theorem dX8_sets_79 : decode cX8_sets 79 = .ok (.iinc 7 1, 3) := by decide +kernel
theorem dX8_sets_82 : decode cX8_sets 82 = .ok (.goto (-47), 3) := by decide +kernel
theorem dX8_sets_85 : decode cX8_sets 85 = .ok (.iload_n 1, 1) := by decide +kernel
theorem dX8_sets_86 : decode cX8_sets 86 = .ok (.ifCond .eq 8, 3) := by decide +kernel
theorem dX8_sets_89 : decode cX8_sets 89 = .ok (.iload 6, 2) := by decide +kernel
theorem dX8_sets_91 : decode cX8_sets 91 = .ok (.ifCond .ne 15, 3) := by decide +kernel
theorem dX8_sets_94 : decode cX8_sets 94 = .ok (.iload_n 1, 1) := by decide +kernel
theorem dX8_sets_95 : decode cX8_sets 95 = .ok (.ifCond .ne 8, 3) := by decide +kernel
theorem dX8_sets_98 : decode cX8_sets 98 = .ok (.iload 6, 2) := by decide +kernel
theorem dX8_sets_100 : decode cX8_sets 100 = .ok (.goto 5, 3) := by decide +kernel
theorem dX8_sets_103 : decode cX8_sets 103 = .ok (.bipush (-9), 2) := by decide +kernel
theorem dX8_sets_105 : decode cX8_sets 105 = .ok (.ireturn, 1) := by decide +kernel
theorem dX8_sets_106 : decode cX8_sets 106 = .ok (.iload_n 1, 1) := by decide +kernel
theorem dX8_sets_107 : decode cX8_sets 107 = .ok (.iconst 1, 1) := by decide +kernel
theorem dX8_sets_108 : decode cX8_sets 108 = .ok (.if_icmp .ne 8, 3) := by decide +kernel
theorem dX8_sets_111 : decode cX8_sets 111 = .ok (.iload 5, 2) := by decide +kernel
theorem dX8_sets_113 : decode cX8_sets 113 = .ok (.goto 18, 3) := by decide +kernel
theorem dX8_sets_116 : decode cX8_sets 116 = .ok (.iload_n 1, 1) := by decide +kernel
theorem dX8_sets_117 : decode cX8_sets 117 = .ok (.iconst 2, 1) := by decide +kernel
theorem dX8_sets_118 : decode cX8_sets 118 = .ok (.if_icmp .ne 7, 3) := by decide +kernel
theorem dX8_sets_121 : decode cX8_sets 121 = .ok (.iload_n 3, 1) := by decide +kernel
theorem dX8_sets_122 : decode cX8_sets 122 = .ok (.goto 9, 3) := by decide +kernel
theorem dX8_sets_125 : decode cX8_sets 125 = .ok (.iload_n 2, 1) := by decide +kernel
theorem dX8_sets_126 : decode cX8_sets 126 = .ok (.iload 4, 2) := by decide +kernel
theorem dX8_sets_128 : decode cX8_sets 128 = .ok (.iconst (-1), 1) := by decide +kernel
theorem dX8_sets_129 : decode cX8_sets 129 = .ok (.ixor, 1) := by decide +kernel
theorem dX8_sets_130 : decode cX8_sets 130 = .ok (.iand, 1) := by decide +kernel
theorem dX8_sets_131 : decode cX8_sets 131 = .ok (.ireturn, 1) := by decide +kernel
theorem dX8_forget_0 : decode cX8_forget 0 = .ok (.aload_n 0, 1) := by decide +kernel
theorem dX8_forget_1 : decode cX8_forget 1 = .ok (.getfield 125, 3) := by decide +kernel
theorem dX8_forget_4 : decode cX8_forget 4 = .ok (.aload_n 0, 1) := by decide +kernel
theorem dX8_forget_5 : decode cX8_forget 5 = .ok (.getfield 128, 3) := by decide +kernel
theorem dX8_forget_8 : decode cX8_forget 8 = .ok (.iadd, 1) := by decide +kernel
theorem dX8_forget_9 : decode cX8_forget 9 = .ok (.istore_n 1, 1) := by decide +kernel
theorem dX8_forget_10 : decode cX8_forget 10 = .ok (.aload_n 0, 1) := by decide +kernel
theorem dX8_forget_11 : decode cX8_forget 11 = .ok (.iconst 0, 1) := by decide +kernel
theorem dX8_forget_12 : decode cX8_forget 12 = .ok (.putfield 125, 3) := by decide +kernel
theorem dX8_forget_15 : decode cX8_forget 15 = .ok (.aload_n 0, 1) := by decide +kernel
theorem dX8_forget_16 : decode cX8_forget 16 = .ok (.iconst 0, 1) := by decide +kernel
theorem dX8_forget_17 : decode cX8_forget 17 = .ok (.putfield 128, 3) := by decide +kernel
theorem dX8_forget_20 : decode cX8_forget 20 = .ok (.iload_n 1, 1) := by decide +kernel
theorem dX8_forget_21 : decode cX8_forget 21 = .ok (.ireturn, 1) := by decide +kernel
theorem dX8_mark_0 : decode cX8_mark 0 = .ok (.iload_n 1, 1) := by decide +kernel
theorem dX8_mark_1 : decode cX8_mark 1 = .ok (.iconst 0, 1) := by decide +kernel
theorem dX8_mark_2 : decode cX8_mark 2 = .ok (.iconst 5, 1) := by decide +kernel
theorem dX8_mark_3 : decode cX8_mark 3 = .ok (.invokestatic 60, 3) := by decide +kernel
theorem dX8_mark_6 : decode cX8_mark 6 = .ok (.ifCond .eq 11, 3) := by decide +kernel
theorem dX8_mark_9 : decode cX8_mark 9 = .ok (.aload_n 0, 1) := by decide +kernel
theorem dX8_mark_10 : decode cX8_mark 10 = .ok (.iload_n 2, 1) := by decide +kernel
theorem dX8_mark_11 : decode cX8_mark 11 = .ok (.invokevirtual 134, 3) := by decide +kernel
theorem dX8_mark_14 : decode cX8_mark 14 = .ok (.ifCond .ne 6, 3) := by decide +kernel
theorem dX8_mark_17 : decode cX8_mark 17 = .ok (.ldc 198, 2) := by decide +kernel
theorem dX8_mark_19 : decode cX8_mark 19 = .ok (.ireturn, 1) := by decide +kernel
theorem dX8_mark_20 : decode cX8_mark 20 = .ok (.aload_n 0, 1) := by decide +kernel
theorem dX8_mark_21 : decode cX8_mark 21 = .ok (.getfield 23, 3) := by decide +kernel
theorem dX8_mark_24 : decode cX8_mark 24 = .ok (.iconst 2, 1) := by decide +kernel
theorem dX8_mark_25 : decode cX8_mark 25 = .ok (.iload_n 2, 1) := by decide +kernel
theorem dX8_mark_26 : decode cX8_mark 26 = .ok (.iadd, 1) := by decide +kernel
theorem dX8_mark_27 : decode cX8_mark 27 = .ok (.iaload, 1) := by decide +kernel
theorem dX8_mark_28 : decode cX8_mark 28 = .ok (.istore_n 3, 1) := by decide +kernel
theorem dX8_mark_29 : decode cX8_mark 29 = .ok (.iload_n 3, 1) := by decide +kernel
theorem dX8_mark_30 : decode cX8_mark 30 = .ok (.iload_n 3, 1) := by decide +kernel
theorem dX8_mark_31 : decode cX8_mark 31 = .ok (.ifCond .ne 7, 3) := by decide +kernel
theorem dX8_mark_34 : decode cX8_mark 34 = .ok (.iconst (-1), 1) := by decide +kernel
theorem dX8_mark_35 : decode cX8_mark 35 = .ok (.goto 11, 3) := by decide +kernel
theorem dX8_mark_38 : decode cX8_mark 38 = .ok (.aload_n 0, 1) := by decide +kernel
theorem dX8_mark_39 : decode cX8_mark 39 = .ok (.iload_n 2, 1) := by decide +kernel
theorem dX8_mark_40 : decode cX8_mark 40 = .ok (.iload_n 3, 1) := by decide +kernel
theorem dX8_mark_41 : decode cX8_mark 41 = .ok (.iconst 1, 1) := by decide +kernel
theorem dX8_mark_42 : decode cX8_mark 42 = .ok (.isub, 1) := by decide +kernel
theorem dX8_mark_43 : decode cX8_mark 43 = .ok (.invokevirtual 131, 3) := by decide +kernel
theorem dX8_mark_46 : decode cX8_mark 46 = .ok (.iadd, 1) := by decide +kernel
theorem dX8_mark_47 : decode cX8_mark 47 = .ok (.istore 4, 2) := by decide +kernel
theorem dX8_mark_49 : decode cX8_mark 49 = .ok (.iload_n 3, 1) := by decide +kernel
theorem dX8_mark_50 : decode cX8_mark 50 = .ok (.aload_n 0, 1) := by decide +kernel
theorem dX8_mark_51 : decode cX8_mark 51 = .ok (.getfield 7, 3) := by decide +kernel
theorem dX8_mark_54 : decode cX8_mark 54 = .ok (.iload_n 2, 1) := by decide +kernel
theorem dX8_mark_55 : decode cX8_mark 55 = .ok (.iaload, 1) := by decide +kernel
theorem dX8_mark_56 : decode cX8_mark 56 = .ok (.isub, 1) := by decide +kernel
theorem dX8_mark_57 : decode cX8_mark 57 = .ok (.istore 5, 2) := by decide +kernel
theorem dX8_mark_59 : decode cX8_mark 59 = .ok (.iload_n 1, 1) := by decide +kernel
theorem dX8_mark_60 : decode cX8_mark 60 = .ok (.tableswitch 121 1 5 #[36, 51, 66, 83, 100], 36) := by decide +kernel
theorem dX8_mark_96 : decode cX8_mark 96 = .ok (.aload_n 0, 1) := by decide +kernel
theorem dX8_mark_97 : decode cX8_mark 97 = .ok (.dup, 1) := by decide +kernel
theorem dX8_mark_98 : decode cX8_mark 98 = .ok (.getfield 199, 3) := by decide +kernel
theorem dX8_mark_101 : decode cX8_mark 101 = .ok (.ldc2_w 203, 3) := by decide +kernel
theorem dX8_mark_104 : decode cX8_mark 104 = .ok (.ladd, 1) := by decide +kernel
theorem dX8_mark_105 : decode cX8_mark 105 = .ok (.putfield 199, 3) := by decide +kernel
theorem dX8_mark_108 : decode cX8_mark 108 = .ok (.iload 4, 2) := by decide +kernel
theorem dX8_mark_110 : decode cX8_mark 110 = .ok (.ireturn, 1) := by decide +kernel
theorem dX8_mark_111 : decode cX8_mark 111 = .ok (.aload_n 0, 1) := by decide +kernel
theorem dX8_mark_112 : decode cX8_mark 112 = .ok (.dup, 1) := by decide +kernel
theorem dX8_mark_113 : decode cX8_mark 113 = .ok (.getfield 199, 3) := by decide +kernel
theorem dX8_mark_116 : decode cX8_mark 116 = .ok (.ldc2_w 205, 3) := by decide +kernel
theorem dX8_mark_119 : decode cX8_mark 119 = .ok (.ladd, 1) := by decide +kernel
