theorem dX7_choose_25 : decode cX7_choose 25 = .ok (.iload_n 2, 1) := by decide +kernel
theorem dX7_choose_26 : decode cX7_choose 26 = .ok (.ireturn, 1) := by decide +kernel
theorem dX7_commonDivisor_0 : decode cX7_commonDivisor 0 = .ok (.iload_n 0, 1) := by decide +kernel
theorem dX7_commonDivisor_1 : decode cX7_commonDivisor 1 = .ok (.istore_n 2, 1) := by decide +kernel
theorem dX7_commonDivisor_2 : decode cX7_commonDivisor 2 = .ok (.iload_n 1, 1) := by decide +kernel
theorem dX7_commonDivisor_3 : decode cX7_commonDivisor 3 = .ok (.istore_n 3, 1) := by decide +kernel
theorem dX7_commonDivisor_4 : decode cX7_commonDivisor 4 = .ok (.iconst 0, 1) := by decide +kernel
theorem dX7_commonDivisor_5 : decode cX7_commonDivisor 5 = .ok (.istore 4, 2) := by decide +kernel
theorem dX7_commonDivisor_7 : decode cX7_commonDivisor 7 = .ok (.iload 4, 2) := by decide +kernel
theorem dX7_commonDivisor_9 : decode cX7_commonDivisor 9 = .ok (.bipush 64, 2) := by decide +kernel
theorem dX7_commonDivisor_11 : decode cX7_commonDivisor 11 = .ok (.if_icmp .ge 23, 3) := by decide +kernel
theorem dX7_commonDivisor_14 : decode cX7_commonDivisor 14 = .ok (.iload_n 3, 1) := by decide +kernel
theorem dX7_commonDivisor_15 : decode cX7_commonDivisor 15 = .ok (.ifCond .eq 19, 3) := by decide +kernel
theorem dX7_commonDivisor_18 : decode cX7_commonDivisor 18 = .ok (.iload_n 2, 1) := by decide +kernel
theorem dX7_commonDivisor_19 : decode cX7_commonDivisor 19 = .ok (.iload_n 3, 1) := by decide +kernel
theorem dX7_commonDivisor_20 : decode cX7_commonDivisor 20 = .ok (.irem, 1) := by decide +kernel
theorem dX7_commonDivisor_21 : decode cX7_commonDivisor 21 = .ok (.istore 5, 2) := by decide +kernel
theorem dX7_commonDivisor_23 : decode cX7_commonDivisor 23 = .ok (.iload_n 3, 1) := by decide +kernel
theorem dX7_commonDivisor_24 : decode cX7_commonDivisor 24 = .ok (.istore_n 2, 1) := by decide +kernel
theorem dX7_commonDivisor_25 : decode cX7_commonDivisor 25 = .ok (.iload 5, 2) := by decide +kernel
theorem dX7_commonDivisor_27 : decode cX7_commonDivisor 27 = .ok (.istore_n 3, 1) := by decide +kernel
theorem dX7_commonDivisor_28 : decode cX7_commonDivisor 28 = .ok (.iinc 4 1, 3) := by decide +kernel
theorem dX7_commonDivisor_31 : decode cX7_commonDivisor 31 = .ok (.goto (-24), 3) := by decide +kernel
theorem dX7_commonDivisor_34 : decode cX7_commonDivisor 34 = .ok (.iload_n 2, 1) := by decide +kernel
theorem dX7_commonDivisor_35 : decode cX7_commonDivisor 35 = .ok (.ireturn, 1) := by decide +kernel
theorem dX7_whoseLock_0 : decode cX7_whoseLock 0 = .ok (.iconst 0, 1) := by decide +kernel
theorem dX7_whoseLock_1 : decode cX7_whoseLock 1 = .ok (.istore_n 1, 1) := by decide +kernel
theorem dX7_whoseLock_2 : decode cX7_whoseLock 2 = .ok (.iconst 0, 1) := by decide +kernel
theorem dX7_whoseLock_3 : decode cX7_whoseLock 3 = .ok (.istore_n 2, 1) := by decide +kernel
theorem dX7_whoseLock_4 : decode cX7_whoseLock 4 = .ok (.iload_n 2, 1) := by decide +kernel
theorem dX7_whoseLock_5 : decode cX7_whoseLock 5 = .ok (.aload_n 0, 1) := by decide +kernel
theorem dX7_whoseLock_6 : decode cX7_whoseLock 6 = .ok (.getfield 53, 3) := by decide +kernel
theorem dX7_whoseLock_9 : decode cX7_whoseLock 9 = .ok (.getfield 192, 3) := by decide +kernel
theorem dX7_whoseLock_12 : decode cX7_whoseLock 12 = .ok (.if_icmp .ge 58, 3) := by decide +kernel
theorem dX7_whoseLock_15 : decode cX7_whoseLock 15 = .ok (.iconst 0, 1) := by decide +kernel
theorem dX7_whoseLock_16 : decode cX7_whoseLock 16 = .ok (.istore_n 3, 1) := by decide +kernel
theorem dX7_whoseLock_17 : decode cX7_whoseLock 17 = .ok (.iload_n 3, 1) := by decide +kernel
theorem dX7_whoseLock_18 : decode cX7_whoseLock 18 = .ok (.aload_n 0, 1) := by decide +kernel
theorem dX7_whoseLock_19 : decode cX7_whoseLock 19 = .ok (.getfield 24, 3) := by decide +kernel
theorem dX7_whoseLock_22 : decode cX7_whoseLock 22 = .ok (.getfield 102, 3) := by decide +kernel
theorem dX7_whoseLock_25 : decode cX7_whoseLock 25 = .ok (.getfield 112, 3) := by decide +kernel
theorem dX7_whoseLock_28 : decode cX7_whoseLock 28 = .ok (.iload_n 2, 1) := by decide +kernel
theorem dX7_whoseLock_29 : decode cX7_whoseLock 29 = .ok (.iaload, 1) := by decide +kernel
theorem dX7_whoseLock_30 : decode cX7_whoseLock 30 = .ok (.if_icmp .gt 34, 3) := by decide +kernel
theorem dX7_whoseLock_33 : decode cX7_whoseLock 33 = .ok (.aload_n 0, 1) := by decide +kernel
theorem dX7_whoseLock_34 : decode cX7_whoseLock 34 = .ok (.getfield 39, 3) := by decide +kernel
theorem dX7_whoseLock_37 : decode cX7_whoseLock 37 = .ok (.aload_n 0, 1) := by decide +kernel
theorem dX7_whoseLock_38 : decode cX7_whoseLock 38 = .ok (.getfield 24, 3) := by decide +kernel
theorem dX7_whoseLock_41 : decode cX7_whoseLock 41 = .ok (.getfield 102, 3) := by decide +kernel
theorem dX7_whoseLock_44 : decode cX7_whoseLock 44 = .ok (.iload_n 2, 1) := by decide +kernel
theorem dX7_whoseLock_45 : decode cX7_whoseLock 45 = .ok (.iload_n 3, 1) := by decide +kernel
theorem dX7_whoseLock_46 : decode cX7_whoseLock 46 = .ok (.invokevirtual 279, 3) := by decide +kernel
theorem dX7_whoseLock_49 : decode cX7_whoseLock 49 = .ok (.ifCond .eq 9, 3) := by decide +kernel
theorem dX7_whoseLock_52 : decode cX7_whoseLock 52 = .ok (.iload_n 1, 1) := by decide +kernel
theorem dX7_whoseLock_53 : decode cX7_whoseLock 53 = .ok (.iconst 1, 1) := by decide +kernel
theorem dX7_whoseLock_54 : decode cX7_whoseLock 54 = .ok (.iload_n 2, 1) := by decide +kernel
theorem dX7_whoseLock_55 : decode cX7_whoseLock 55 = .ok (.ishl, 1) := by decide +kernel
theorem dX7_whoseLock_56 : decode cX7_whoseLock 56 = .ok (.ior, 1) := by decide +kernel
theorem dX7_whoseLock_57 : decode cX7_whoseLock 57 = .ok (.istore_n 1, 1) := by decide +kernel
theorem dX7_whoseLock_58 : decode cX7_whoseLock 58 = .ok (.iinc 3 1, 3) := by decide +kernel
theorem dX7_whoseLock_61 : decode cX7_whoseLock 61 = .ok (.goto (-44), 3) := by decide +kernel
theorem dX7_whoseLock_64 : decode cX7_whoseLock 64 = .ok (.iinc 2 1, 3) := by decide +kernel
theorem dX7_whoseLock_67 : decode cX7_whoseLock 67 = .ok (.goto (-63), 3) := by decide +kernel
theorem dX7_whoseLock_70 : decode cX7_whoseLock 70 = .ok (.iload_n 1, 1) := by decide +kernel
theorem dX7_whoseLock_71 : decode cX7_whoseLock 71 = .ok (.ireturn, 1) := by decide +kernel
theorem dX7_nextInLock_0 : decode cX7_nextInLock 0 = .ok (.aload_n 0, 1) := by decide +kernel
theorem dX7_nextInLock_1 : decode cX7_nextInLock 1 = .ok (.getfield 57, 3) := by decide +kernel
theorem dX7_nextInLock_4 : decode cX7_nextInLock 4 = .ok (.iconst 0, 1) := by decide +kernel
theorem dX7_nextInLock_5 : decode cX7_nextInLock 5 = .ok (.invokestatic 283, 3) := by decide +kernel
theorem dX7_nextInLock_8 : decode cX7_nextInLock 8 = .ok (.iconst 0, 1) := by decide +kernel
theorem dX7_nextInLock_9 : decode cX7_nextInLock 9 = .ok (.istore_n 1, 1) := by decide +kernel
theorem dX7_nextInLock_10 : decode cX7_nextInLock 10 = .ok (.iload_n 1, 1) := by decide +kernel
theorem dX7_nextInLock_11 : decode cX7_nextInLock 11 = .ok (.aload_n 0, 1) := by decide +kernel
theorem dX7_nextInLock_12 : decode cX7_nextInLock 12 = .ok (.getfield 53, 3) := by decide +kernel
theorem dX7_nextInLock_15 : decode cX7_nextInLock 15 = .ok (.getfield 192, 3) := by decide +kernel
theorem dX7_nextInLock_18 : decode cX7_nextInLock 18 = .ok (.if_icmp .ge 91, 3) := by decide +kernel
theorem dX7_nextInLock_21 : decode cX7_nextInLock 21 = .ok (.aload_n 0, 1) := by decide +kernel
theorem dX7_nextInLock_22 : decode cX7_nextInLock 22 = .ok (.getfield 24, 3) := by decide +kernel
theorem dX7_nextInLock_25 : decode cX7_nextInLock 25 = .ok (.getfield 102, 3) := by decide +kernel
theorem dX7_nextInLock_28 : decode cX7_nextInLock 28 = .ok (.getfield 112, 3) := by decide +kernel
theorem dX7_nextInLock_31 : decode cX7_nextInLock 31 = .ok (.iload_n 1, 1) := by decide +kernel
theorem dX7_nextInLock_32 : decode cX7_nextInLock 32 = .ok (.iaload, 1) := by decide +kernel
theorem dX7_nextInLock_33 : decode cX7_nextInLock 33 = .ok (.istore_n 2, 1) := by decide +kernel
theorem dX7_nextInLock_34 : decode cX7_nextInLock 34 = .ok (.iconst 0, 1) := by decide +kernel
theorem dX7_nextInLock_35 : decode cX7_nextInLock 35 = .ok (.istore_n 3, 1) := by decide +kernel
theorem dX7_nextInLock_36 : decode cX7_nextInLock 36 = .ok (.iload_n 3, 1) := by decide +kernel
theorem dX7_nextInLock_37 : decode cX7_nextInLock 37 = .ok (.aload_n 0, 1) := by decide +kernel
theorem dX7_nextInLock_38 : decode cX7_nextInLock 38 = .ok (.getfield 39, 3) := by decide +kernel
theorem dX7_nextInLock_41 : decode cX7_nextInLock 41 = .ok (.getfield 215, 3) := by decide +kernel
theorem dX7_nextInLock_44 : decode cX7_nextInLock 44 = .ok (.iadd, 1) := by decide +kernel
theorem dX7_nextInLock_45 : decode cX7_nextInLock 45 = .ok (.iload_n 2, 1) := by decide +kernel
theorem dX7_nextInLock_46 : decode cX7_nextInLock 46 = .ok (.if_icmp .ge 57, 3) := by decide +kernel
theorem dX7_nextInLock_49 : decode cX7_nextInLock 49 = .ok (.aload_n 0, 1) := by decide +kernel
theorem dX7_nextInLock_50 : decode cX7_nextInLock 50 = .ok (.getfield 39, 3) := by decide +kernel
theorem dX7_nextInLock_53 : decode cX7_nextInLock 53 = .ok (.aload_n 0, 1) := by decide +kernel
theorem dX7_nextInLock_54 : decode cX7_nextInLock 54 = .ok (.getfield 24, 3) := by decide +kernel
theorem dX7_nextInLock_57 : decode cX7_nextInLock 57 = .ok (.getfield 102, 3) := by decide +kernel
theorem dX7_nextInLock_60 : decode cX7_nextInLock 60 = .ok (.iload_n 1, 1) := by decide +kernel
theorem dX7_nextInLock_61 : decode cX7_nextInLock 61 = .ok (.iload_n 3, 1) := by decide +kernel
theorem dX7_nextInLock_62 : decode cX7_nextInLock 62 = .ok (.invokevirtual 279, 3) := by decide +kernel
theorem dX7_nextInLock_65 : decode cX7_nextInLock 65 = .ok (.ifCond .eq 32, 3) := by decide +kernel
theorem dX7_nextInLock_68 : decode cX7_nextInLock 68 = .ok (.aload_n 0, 1) := by decide +kernel
theorem dX7_nextInLock_69 : decode cX7_nextInLock 69 = .ok (.getfield 57, 3) := by decide +kernel
theorem dX7_nextInLock_72 : decode cX7_nextInLock 72 = .ok (.aload_n 0, 1) := by decide +kernel
theorem dX7_nextInLock_73 : decode cX7_nextInLock 73 = .ok (.getfield 24, 3) := by decide +kernel
theorem dX7_nextInLock_76 : decode cX7_nextInLock 76 = .ok (.getfield 102, 3) := by decide +kernel
theorem dX7_nextInLock_79 : decode cX7_nextInLock 79 = .ok (.iload_n 1, 1) := by decide +kernel
theorem dX7_nextInLock_80 : decode cX7_nextInLock 80 = .ok (.iload_n 3, 1) := by decide +kernel
theorem dX7_nextInLock_81 : decode cX7_nextInLock 81 = .ok (.aload_n 0, 1) := by decide +kernel
theorem dX7_nextInLock_82 : decode cX7_nextInLock 82 = .ok (.getfield 39, 3) := by decide +kernel
theorem dX7_nextInLock_85 : decode cX7_nextInLock 85 = .ok (.getfield 215, 3) := by decide +kernel
theorem dX7_nextInLock_88 : decode cX7_nextInLock 88 = .ok (.iadd, 1) := by decide +kernel
theorem dX7_nextInLock_89 : decode cX7_nextInLock 89 = .ok (.invokevirtual 127, 3) := by decide +kernel
theorem dX7_nextInLock_92 : decode cX7_nextInLock 92 = .ok (.dup2, 1) := by decide +kernel
theorem dX7_nextInLock_93 : decode cX7_nextInLock 93 = .ok (.iaload, 1) := by decide +kernel
theorem dX7_nextInLock_94 : decode cX7_nextInLock 94 = .ok (.iconst 1, 1) := by decide +kernel
theorem dX7_nextInLock_95 : decode cX7_nextInLock 95 = .ok (.iadd, 1) := by decide +kernel
theorem dX7_nextInLock_96 : decode cX7_nextInLock 96 = .ok (.iastore, 1) := by decide +kernel
theorem dX7_nextInLock_97 : decode cX7_nextInLock 97 = .ok (.iinc 3 1, 3) := by decide +kernel
theorem dX7_nextInLock_100 : decode cX7_nextInLock 100 = .ok (.goto (-64), 3) := by decide +kernel
theorem dX7_nextInLock_103 : decode cX7_nextInLock 103 = .ok (.iinc 1 1, 3) := by decide +kernel
theorem dX7_nextInLock_106 : decode cX7_nextInLock 106 = .ok (.goto (-96), 3) := by decide +kernel
theorem dX7_nextInLock_109 : decode cX7_nextInLock 109 = .ok (.aload_n 0, 1) := by decide +kernel
theorem dX7_nextInLock_110 : decode cX7_nextInLock 110 = .ok (.getfield 57, 3) := by decide +kernel
theorem dX7_nextInLock_113 : decode cX7_nextInLock 113 = .ok (.invokestatic 271, 3) := by decide +kernel
theorem dX7_nextInLock_116 : decode cX7_nextInLock 116 = .ok (.ireturn, 1) := by decide +kernel
theorem dX7_shareOutHeard_0 : decode cX7_shareOutHeard 0 = .ok (.iconst 0, 1) := by decide +kernel
theorem dX7_shareOutHeard_1 : decode cX7_shareOutHeard 1 = .ok (.istore_n 1, 1) := by decide +kernel
theorem dX7_shareOutHeard_2 : decode cX7_shareOutHeard 2 = .ok (.iload_n 1, 1) := by decide +kernel
theorem dX7_shareOutHeard_3 : decode cX7_shareOutHeard 3 = .ok (.aload_n 0, 1) := by decide +kernel
theorem dX7_shareOutHeard_4 : decode cX7_shareOutHeard 4 = .ok (.getfield 39, 3) := by decide +kernel
theorem dX7_shareOutHeard_7 : decode cX7_shareOutHeard 7 = .ok (.getfield 227, 3) := by decide +kernel
theorem dX7_shareOutHeard_10 : decode cX7_shareOutHeard 10 = .ok (.if_icmp .ge 58, 3) := by decide +kernel
theorem dX7_shareOutHeard_13 : decode cX7_shareOutHeard 13 = .ok (.iconst 0, 1) := by decide +kernel
theorem dX7_shareOutHeard_14 : decode cX7_shareOutHeard 14 = .ok (.istore_n 2, 1) := by decide +kernel
theorem dX7_shareOutHeard_15 : decode cX7_shareOutHeard 15 = .ok (.iload_n 2, 1) := by decide +kernel
theorem dX7_shareOutHeard_16 : decode cX7_shareOutHeard 16 = .ok (.aload_n 0, 1) := by decide +kernel
theorem dX7_shareOutHeard_17 : decode cX7_shareOutHeard 17 = .ok (.getfield 53, 3) := by decide +kernel
theorem dX7_shareOutHeard_20 : decode cX7_shareOutHeard 20 = .ok (.getfield 192, 3) := by decide +kernel
theorem dX7_shareOutHeard_23 : decode cX7_shareOutHeard 23 = .ok (.if_icmp .ge 39, 3) := by decide +kernel
theorem dX7_shareOutHeard_26 : decode cX7_shareOutHeard 26 = .ok (.aload_n 0, 1) := by decide +kernel
theorem dX7_shareOutHeard_27 : decode cX7_shareOutHeard 27 = .ok (.getfield 61, 3) := by decide +kernel
theorem dX7_shareOutHeard_30 : decode cX7_shareOutHeard 30 = .ok (.iload_n 1, 1) := by decide +kernel
theorem dX7_shareOutHeard_31 : decode cX7_shareOutHeard 31 = .ok (.iconst 5, 1) := by decide +kernel
theorem dX7_shareOutHeard_32 : decode cX7_shareOutHeard 32 = .ok (.imul, 1) := by decide +kernel
theorem dX7_shareOutHeard_33 : decode cX7_shareOutHeard 33 = .ok (.iload_n 2, 1) := by decide +kernel
theorem dX7_shareOutHeard_34 : decode cX7_shareOutHeard 34 = .ok (.iadd, 1) := by decide +kernel
theorem dX7_shareOutHeard_35 : decode cX7_shareOutHeard 35 = .ok (.aload_n 0, 1) := by decide +kernel
theorem dX7_shareOutHeard_36 : decode cX7_shareOutHeard 36 = .ok (.getfield 24, 3) := by decide +kernel
theorem dX7_shareOutHeard_39 : decode cX7_shareOutHeard 39 = .ok (.getfield 102, 3) := by decide +kernel
theorem dX7_shareOutHeard_42 : decode cX7_shareOutHeard 42 = .ok (.iload_n 2, 1) := by decide +kernel
theorem dX7_shareOutHeard_43 : decode cX7_shareOutHeard 43 = .ok (.aload_n 0, 1) := by decide +kernel
theorem dX7_shareOutHeard_44 : decode cX7_shareOutHeard 44 = .ok (.getfield 39, 3) := by decide +kernel
theorem dX7_shareOutHeard_47 : decode cX7_shareOutHeard 47 = .ok (.getfield 230, 3) := by decide +kernel
theorem dX7_shareOutHeard_50 : decode cX7_shareOutHeard 50 = .ok (.iload_n 1, 1) := by decide +kernel
theorem dX7_shareOutHeard_51 : decode cX7_shareOutHeard 51 = .ok (.iaload, 1) := by decide +kernel
theorem dX7_shareOutHeard_52 : decode cX7_shareOutHeard 52 = .ok (.invokevirtual 120, 3) := by decide +kernel
theorem dX7_shareOutHeard_55 : decode cX7_shareOutHeard 55 = .ok (.iastore, 1) := by decide +kernel
theorem dX7_shareOutHeard_56 : decode cX7_shareOutHeard 56 = .ok (.iinc 2 1, 3) := by decide +kernel
theorem dX7_shareOutHeard_59 : decode cX7_shareOutHeard 59 = .ok (.goto (-44), 3) := by decide +kernel
theorem dX7_shareOutHeard_62 : decode cX7_shareOutHeard 62 = .ok (.iinc 1 1, 3) := by decide +kernel
theorem dX7_shareOutHeard_65 : decode cX7_shareOutHeard 65 = .ok (.goto (-63), 3) := by decide +kernel
theorem dX7_shareOutHeard_68 : decode cX7_shareOutHeard 68 = .ok (.return_, 1) := by decide +kernel
theorem dX7_allHeardIsSo_0 : decode cX7_allHeardIsSo 0 = .ok (.iconst 0, 1) := by decide +kernel
theorem dX7_allHeardIsSo_1 : decode cX7_allHeardIsSo 1 = .ok (.istore_n 2, 1) := by decide +kernel
theorem dX7_allHeardIsSo_2 : decode cX7_allHeardIsSo 2 = .ok (.iload_n 2, 1) := by decide +kernel
theorem dX7_allHeardIsSo_3 : decode cX7_allHeardIsSo 3 = .ok (.aload_n 0, 1) := by decide +kernel
theorem dX7_allHeardIsSo_4 : decode cX7_allHeardIsSo 4 = .ok (.getfield 39, 3) := by decide +kernel
theorem dX7_allHeardIsSo_7 : decode cX7_allHeardIsSo 7 = .ok (.getfield 227, 3) := by decide +kernel
theorem dX7_allHeardIsSo_10 : decode cX7_allHeardIsSo 10 = .ok (.if_icmp .ge 70, 3) := by decide +kernel
theorem dX7_allHeardIsSo_13 : decode cX7_allHeardIsSo 13 = .ok (.iconst 0, 1) := by decide +kernel
theorem dX7_allHeardIsSo_14 : decode cX7_allHeardIsSo 14 = .ok (.istore_n 3, 1) := by decide +kernel
theorem dX7_allHeardIsSo_15 : decode cX7_allHeardIsSo 15 = .ok (.iconst 0, 1) := by decide +kernel
theorem dX7_allHeardIsSo_16 : decode cX7_allHeardIsSo 16 = .ok (.istore 4, 2) := by decide +kernel
theorem dX7_allHeardIsSo_18 : decode cX7_allHeardIsSo 18 = .ok (.iload 4, 2) := by decide +kernel
theorem dX7_allHeardIsSo_20 : decode cX7_allHeardIsSo 20 = .ok (.aload_n 0, 1) := by decide +kernel
theorem dX7_allHeardIsSo_21 : decode cX7_allHeardIsSo 21 = .ok (.getfield 53, 3) := by decide +kernel
theorem dX7_allHeardIsSo_24 : decode cX7_allHeardIsSo 24 = .ok (.getfield 192, 3) := by decide +kernel
theorem dX7_allHeardIsSo_27 : decode cX7_allHeardIsSo 27 = .ok (.if_icmp .ge 32, 3) := by decide +kernel
theorem dX7_allHeardIsSo_30 : decode cX7_allHeardIsSo 30 = .ok (.iload_n 1, 1) := by decide +kernel
theorem dX7_allHeardIsSo_31 : decode cX7_allHeardIsSo 31 = .ok (.iload 4, 2) := by decide +kernel
theorem dX7_allHeardIsSo_33 : decode cX7_allHeardIsSo 33 = .ok (.invokestatic 275, 3) := by decide +kernel
theorem dX7_allHeardIsSo_36 : decode cX7_allHeardIsSo 36 = .ok (.ifCond .eq 17, 3) := by decide +kernel
theorem dX7_allHeardIsSo_39 : decode cX7_allHeardIsSo 39 = .ok (.iload_n 3, 1) := by decide +kernel
theorem dX7_allHeardIsSo_40 : decode cX7_allHeardIsSo 40 = .ok (.aload_n 0, 1) := by decide +kernel
theorem dX7_allHeardIsSo_41 : decode cX7_allHeardIsSo 41 = .ok (.getfield 61, 3) := by decide +kernel
theorem dX7_allHeardIsSo_44 : decode cX7_allHeardIsSo 44 = .ok (.iload_n 2, 1) := by decide +kernel
theorem dX7_allHeardIsSo_45 : decode cX7_allHeardIsSo 45 = .ok (.iconst 5, 1) := by decide +kernel
theorem dX7_allHeardIsSo_46 : decode cX7_allHeardIsSo 46 = .ok (.imul, 1) := by decide +kernel
theorem dX7_allHeardIsSo_47 : decode cX7_allHeardIsSo 47 = .ok (.iload 4, 2) := by decide +kernel
theorem dX7_allHeardIsSo_49 : decode cX7_allHeardIsSo 49 = .ok (.iadd, 1) := by decide +kernel
theorem dX7_allHeardIsSo_50 : decode cX7_allHeardIsSo 50 = .ok (.iaload, 1) := by decide +kernel
theorem dX7_allHeardIsSo_51 : decode cX7_allHeardIsSo 51 = .ok (.iadd, 1) := by decide +kernel
theorem dX7_allHeardIsSo_52 : decode cX7_allHeardIsSo 52 = .ok (.istore_n 3, 1) := by decide +kernel
theorem dX7_allHeardIsSo_53 : decode cX7_allHeardIsSo 53 = .ok (.iinc 4 1, 3) := by decide +kernel
theorem dX7_allHeardIsSo_56 : decode cX7_allHeardIsSo 56 = .ok (.goto (-38), 3) := by decide +kernel
theorem dX7_allHeardIsSo_59 : decode cX7_allHeardIsSo 59 = .ok (.iload_n 3, 1) := by decide +kernel
theorem dX7_allHeardIsSo_60 : decode cX7_allHeardIsSo 60 = .ok (.aload_n 0, 1) := by decide +kernel
theorem dX7_allHeardIsSo_61 : decode cX7_allHeardIsSo 61 = .ok (.getfield 39, 3) := by decide +kernel
theorem dX7_allHeardIsSo_64 : decode cX7_allHeardIsSo 64 = .ok (.getfield 233, 3) := by decide +kernel
theorem dX7_allHeardIsSo_67 : decode cX7_allHeardIsSo 67 = .ok (.iload_n 2, 1) := by decide +kernel
theorem dX7_allHeardIsSo_68 : decode cX7_allHeardIsSo 68 = .ok (.iaload, 1) := by decide +kernel
theorem dX7_allHeardIsSo_69 : decode cX7_allHeardIsSo 69 = .ok (.if_icmp .eq 5, 3) := by decide +kernel
theorem dX7_allHeardIsSo_72 : decode cX7_allHeardIsSo 72 = .ok (.iconst 0, 1) := by decide +kernel
theorem dX7_allHeardIsSo_73 : decode cX7_allHeardIsSo 73 = .ok (.ireturn, 1) := by decide +kernel
theorem dX7_allHeardIsSo_74 : decode cX7_allHeardIsSo 74 = .ok (.iinc 2 1, 3) := by decide +kernel
theorem dX7_allHeardIsSo_77 : decode cX7_allHeardIsSo 77 = .ok (.goto (-75), 3) := by decide +kernel
theorem dX7_allHeardIsSo_80 : decode cX7_allHeardIsSo 80 = .ok (.iconst 1, 1) := by decide +kernel
theorem dX7_allHeardIsSo_81 : decode cX7_allHeardIsSo 81 = .ok (.ireturn, 1) := by decide +kernel
theorem dX7_markOne_0 : decode cX7_markOne 0 = .ok (.aload_n 0, 1) := by decide +kernel
theorem dX7_markOne_1 : decode cX7_markOne 1 = .ok (.dup, 1) := by decide +kernel
theorem dX7_markOne_2 : decode cX7_markOne 2 = .ok (.getfield 267, 3) := by decide +kernel
theorem dX7_markOne_5 : decode cX7_markOne 5 = .ok (.lconst 1, 1) := by decide +kernel
theorem dX7_markOne_6 : decode cX7_markOne 6 = .ok (.ladd, 1) := by decide +kernel
theorem dX7_markOne_7 : decode cX7_markOne 7 = .ok (.putfield 267, 3) := by decide +kernel
theorem dX7_markOne_10 : decode cX7_markOne 10 = .ok (.aload_n 0, 1) := by decide +kernel
theorem dX7_markOne_11 : decode cX7_markOne 11 = .ok (.getfield 24, 3) := by decide +kernel
theorem dX7_markOne_14 : decode cX7_markOne 14 = .ok (.getfield 102, 3) := by decide +kernel
theorem dX7_markOne_17 : decode cX7_markOne 17 = .ok (.getfield 112, 3) := by decide +kernel
theorem dX7_markOne_20 : decode cX7_markOne 20 = .ok (.iload_n 1, 1) := by decide +kernel
theorem dX7_markOne_21 : decode cX7_markOne 21 = .ok (.iaload, 1) := by decide +kernel
theorem dX7_markOne_22 : decode cX7_markOne 22 = .ok (.ireturn, 1) := by decide +kernel
theorem dX7_markPoet_0 : decode cX7_markPoet 0 = .ok (.aload_n 0, 1) := by decide +kernel
theorem dX7_markPoet_1 : decode cX7_markPoet 1 = .ok (.dup, 1) := by decide +kernel
theorem dX7_markPoet_2 : decode cX7_markPoet 2 = .ok (.getfield 267, 3) := by decide +kernel
theorem dX7_markPoet_5 : decode cX7_markPoet 5 = .ok (.ldc2_w 289, 3) := by decide +kernel
theorem dX7_markPoet_8 : decode cX7_markPoet 8 = .ok (.ladd, 1) := by decide +kernel
theorem dX7_markPoet_9 : decode cX7_markPoet 9 = .ok (.putfield 267, 3) := by decide +kernel
theorem dX7_markPoet_12 : decode cX7_markPoet 12 = .ok (.aload_n 0, 1) := by decide +kernel
theorem dX7_markPoet_13 : decode cX7_markPoet 13 = .ok (.iload_n 1, 1) := by decide +kernel
theorem dX7_markPoet_14 : decode cX7_markPoet 14 = .ok (.invokevirtual 243, 3) := by decide +kernel
theorem dX7_markPoet_17 : decode cX7_markPoet 17 = .ok (.aload_n 0, 1) := by decide +kernel
theorem dX7_markPoet_18 : decode cX7_markPoet 18 = .ok (.getfield 24, 3) := by decide +kernel
theorem dX7_markPoet_21 : decode cX7_markPoet 21 = .ok (.getfield 102, 3) := by decide +kernel
theorem dX7_markPoet_24 : decode cX7_markPoet 24 = .ok (.iload_n 1, 1) := by decide +kernel
theorem dX7_markPoet_25 : decode cX7_markPoet 25 = .ok (.invokevirtual 291, 3) := by decide +kernel
theorem dX7_markPoet_28 : decode cX7_markPoet 28 = .ok (.iadd, 1) := by decide +kernel
theorem dX7_markPoet_29 : decode cX7_markPoet 29 = .ok (.ireturn, 1) := by decide +kernel
theorem dX7_markBride_0 : decode cX7_markBride 0 = .ok (.aload_n 0, 1) := by decide +kernel
theorem dX7_markBride_1 : decode cX7_markBride 1 = .ok (.dup, 1) := by decide +kernel
theorem dX7_markBride_2 : decode cX7_markBride 2 = .ok (.getfield 267, 3) := by decide +kernel
theorem dX7_markBride_5 : decode cX7_markBride 5 = .ok (.ldc2_w 294, 3) := by decide +kernel
theorem dX7_markBride_8 : decode cX7_markBride 8 = .ok (.ladd, 1) := by decide +kernel
theorem dX7_markBride_9 : decode cX7_markBride 9 = .ok (.putfield 267, 3) := by decide +kernel
theorem dX7_markBride_12 : decode cX7_markBride 12 = .ok (.aload_n 0, 1) := by decide +kernel
theorem dX7_markBride_13 : decode cX7_markBride 13 = .ok (.iload_n 1, 1) := by decide +kernel
theorem dX7_markBride_14 : decode cX7_markBride 14 = .ok (.invokevirtual 243, 3) := by decide +kernel
theorem dX7_markBride_17 : decode cX7_markBride 17 = .ok (.aload_n 0, 1) := by decide +kernel
theorem dX7_markBride_18 : decode cX7_markBride 18 = .ok (.getfield 53, 3) := by decide +kernel
theorem dX7_markBride_21 : decode cX7_markBride 21 = .ok (.getfield 106, 3) := by decide +kernel
theorem dX7_markBride_24 : decode cX7_markBride 24 = .ok (.iload_n 1, 1) := by decide +kernel
theorem dX7_markBride_25 : decode cX7_markBride 25 = .ok (.iaload, 1) := by decide +kernel
theorem dX7_markBride_26 : decode cX7_markBride 26 = .ok (.isub, 1) := by decide +kernel
theorem dX7_markBride_27 : decode cX7_markBride 27 = .ok (.ireturn, 1) := by decide +kernel
theorem dX7_markWig_0 : decode cX7_markWig 0 = .ok (.aload_n 0, 1) := by decide +kernel
theorem dX7_markWig_1 : decode cX7_markWig 1 = .ok (.dup, 1) := by decide +kernel
theorem dX7_markWig_2 : decode cX7_markWig 2 = .ok (.getfield 267, 3) := by decide +kernel
theorem dX7_markWig_5 : decode cX7_markWig 5 = .ok (.ldc2_w 296, 3) := by decide +kernel
theorem dX7_markWig_8 : decode cX7_markWig 8 = .ok (.ladd, 1) := by decide +kernel
theorem dX7_markWig_9 : decode cX7_markWig 9 = .ok (.putfield 267, 3) := by decide +kernel
theorem dX7_markWig_12 : decode cX7_markWig 12 = .ok (.aload_n 0, 1) := by decide +kernel
theorem dX7_markWig_13 : decode cX7_markWig 13 = .ok (.iload_n 1, 1) := by decide +kernel
theorem dX7_markWig_14 : decode cX7_markWig 14 = .ok (.invokevirtual 246, 3) := by decide +kernel
theorem dX7_markWig_17 : decode cX7_markWig 17 = .ok (.iconst 2, 1) := by decide +kernel
theorem dX7_markWig_18 : decode cX7_markWig 18 = .ok (.imul, 1) := by decide +kernel
theorem dX7_markWig_19 : decode cX7_markWig 19 = .ok (.ireturn, 1) := by decide +kernel
theorem dX7_markNun_0 : decode cX7_markNun 0 = .ok (.aload_n 0, 1) := by decide +kernel
theorem dX7_markNun_1 : decode cX7_markNun 1 = .ok (.dup, 1) := by decide +kernel
theorem dX7_markNun_2 : decode cX7_markNun 2 = .ok (.getfield 267, 3) := by decide +kernel
theorem dX7_markNun_5 : decode cX7_markNun 5 = .ok (.ldc2_w 298, 3) := by decide +kernel
theorem dX7_markNun_8 : decode cX7_markNun 8 = .ok (.ladd, 1) := by decide +kernel
theorem dX7_markNun_9 : decode cX7_markNun 9 = .ok (.putfield 267, 3) := by decide +kernel
theorem dX7_markNun_12 : decode cX7_markNun 12 = .ok (.aload_n 0, 1) := by decide +kernel
theorem dX7_markNun_13 : decode cX7_markNun 13 = .ok (.iload_n 1, 1) := by decide +kernel
theorem dX7_markNun_14 : decode cX7_markNun 14 = .ok (.invokevirtual 249, 3) := by decide +kernel
theorem dX7_markNun_17 : decode cX7_markNun 17 = .ok (.iload_n 1, 1) := by decide +kernel
theorem dX7_markNun_18 : decode cX7_markNun 18 = .ok (.iadd, 1) := by decide +kernel
theorem dX7_markNun_19 : decode cX7_markNun 19 = .ok (.ireturn, 1) := by decide +kernel
theorem dX7_markBald_0 : decode cX7_markBald 0 = .ok (.aload_n 0, 1) := by decide +kernel
theorem dX7_markBald_1 : decode cX7_markBald 1 = .ok (.dup, 1) := by decide +kernel
theorem dX7_markBald_2 : decode cX7_markBald 2 = .ok (.getfield 267, 3) := by decide +kernel
theorem dX7_markBald_5 : decode cX7_markBald 5 = .ok (.ldc2_w 300, 3) := by decide +kernel
theorem dX7_markBald_8 : decode cX7_markBald 8 = .ok (.ladd, 1) := by decide +kernel
theorem dX7_markBald_9 : decode cX7_markBald 9 = .ok (.putfield 267, 3) := by decide +kernel
theorem dX7_markBald_12 : decode cX7_markBald 12 = .ok (.aload_n 0, 1) := by decide +kernel
theorem dX7_markBald_13 : decode cX7_markBald 13 = .ok (.iload_n 1, 1) := by decide +kernel
theorem dX7_markBald_14 : decode cX7_markBald 14 = .ok (.invokevirtual 243, 3) := by decide +kernel
theorem dX7_markBald_17 : decode cX7_markBald 17 = .ok (.aload_n 0, 1) := by decide +kernel
theorem dX7_markBald_18 : decode cX7_markBald 18 = .ok (.getfield 24, 3) := by decide +kernel
theorem dX7_markBald_21 : decode cX7_markBald 21 = .ok (.getfield 102, 3) := by decide +kernel
theorem dX7_markBald_24 : decode cX7_markBald 24 = .ok (.getfield 139, 3) := by decide +kernel
theorem dX7_markBald_27 : decode cX7_markBald 27 = .ok (.iadd, 1) := by decide +kernel
theorem dX7_markBald_28 : decode cX7_markBald 28 = .ok (.ireturn, 1) := by decide +kernel
theorem dX8_init_0 : decode cX8_init 0 = .ok (.aload_n 0, 1) := by decide +kernel
theorem dX8_init_1 : decode cX8_init 1 = .ok (.invokespecial 1, 3) := by decide +kernel
theorem dX8_init_4 : decode cX8_init 4 = .ok (.aload_n 0, 1) := by decide +kernel
theorem dX8_init_5 : decode cX8_init 5 = .ok (.iconst 5, 1) := by decide +kernel
theorem dX8_init_6 : decode cX8_init 6 = .ok (.newarray .int, 2) := by decide +kernel
theorem dX8_init_8 : decode cX8_init 8 = .ok (.putfield 7, 3) := by decide +kernel
theorem dX8_init_11 : decode cX8_init 11 = .ok (.aload_n 0, 1) := by decide +kernel
theorem dX8_init_12 : decode cX8_init 12 = .ok (.iconst 5, 1) := by decide +kernel
theorem dX8_init_13 : decode cX8_init 13 = .ok (.newarray .int, 2) := by decide +kernel
theorem dX8_init_15 : decode cX8_init 15 = .ok (.putfield 13, 3) := by decide +kernel
theorem dX8_init_18 : decode cX8_init 18 = .ok (.aload_n 0, 1) := by decide +kernel
theorem dX8_init_19 : decode cX8_init 19 = .ok (.bipush 35, 2) := by decide +kernel
theorem dX8_init_21 : decode cX8_init 21 = .ok (.newarray .int, 2) := by decide +kernel
theorem dX8_init_23 : decode cX8_init 23 = .ok (.putfield 16, 3) := by decide +kernel
theorem dX8_init_26 : decode cX8_init 26 = .ok (.aload_n 0, 1) := by decide +kernel
theorem dX8_init_27 : decode cX8_init 27 = .ok (.bipush 12, 2) := by decide +kernel
theorem dX8_init_29 : decode cX8_init 29 = .ok (.putfield 19, 3) := by decide +kernel
theorem dX8_init_32 : decode cX8_init 32 = .ok (.aload_n 0, 1) := by decide +kernel
theorem dX8_init_33 : decode cX8_init 33 = .ok (.sipush 1233, 3) := by decide +kernel
theorem dX8_init_36 : decode cX8_init 36 = .ok (.newarray .int, 2) := by decide +kernel
theorem dX8_init_38 : decode cX8_init 38 = .ok (.putfield 23, 3) := by decide +kernel
theorem dX8_init_41 : decode cX8_init 41 = .ok (.aload_n 0, 1) := by decide +kernel
theorem dX8_init_42 : decode cX8_init 42 = .ok (.sipush 2466, 3) := by decide +kernel
theorem dX8_init_45 : decode cX8_init 45 = .ok (.newarray .int, 2) := by decide +kernel
theorem dX8_init_47 : decode cX8_init 47 = .ok (.putfield 26, 3) := by decide +kernel
theorem dX8_init_50 : decode cX8_init 50 = .ok (.aload_n 0, 1) := by decide +kernel
theorem dX8_init_51 : decode cX8_init 51 = .ok (.iconst 2, 1) := by decide +kernel
theorem dX8_init_52 : decode cX8_init 52 = .ok (.newarray .boolean, 2) := by decide +kernel
theorem dX8_init_54 : decode cX8_init 54 = .ok (.putfield 29, 3) := by decide +kernel
theorem dX8_init_57 : decode cX8_init 57 = .ok (.aload_n 0, 1) := by decide +kernel
theorem dX8_init_58 : decode cX8_init 58 = .ok (.iconst 4, 1) := by decide +kernel
theorem dX8_init_59 : decode cX8_init 59 = .ok (.newarray .int, 2) := by decide +kernel
theorem dX8_init_61 : decode cX8_init 61 = .ok (.putfield 33, 3) := by decide +kernel
theorem dX8_init_64 : decode cX8_init 64 = .ok (.aload_n 0, 1) := by decide +kernel
theorem dX8_init_65 : decode cX8_init 65 = .ok (.bipush 8, 2) := by decide +kernel
theorem dX8_init_67 : decode cX8_init 67 = .ok (.newarray .int, 2) := by decide +kernel
theorem dX8_init_69 : decode cX8_init 69 = .ok (.putfield 36, 3) := by decide +kernel
theorem dX8_init_72 : decode cX8_init 72 = .ok (.aload_n 0, 1) := by decide +kernel
theorem dX8_init_73 : decode cX8_init 73 = .ok (.bipush 120, 2) := by decide +kernel
theorem dX8_init_75 : decode cX8_init 75 = .ok (.newarray .int, 2) := by decide +kernel
theorem dX8_init_77 : decode cX8_init 77 = .ok (.putfield 39, 3) := by decide +kernel
theorem dX8_init_80 : decode cX8_init 80 = .ok (.aload_n 0, 1) := by decide +kernel
theorem dX8_init_81 : decode cX8_init 81 = .ok (.iconst 5, 1) := by decide +kernel
theorem dX8_init_82 : decode cX8_init 82 = .ok (.newarray .int, 2) := by decide +kernel
theorem dX8_init_84 : decode cX8_init 84 = .ok (.putfield 42, 3) := by decide +kernel
theorem dX8_init_87 : decode cX8_init 87 = .ok (.aload_n 0, 1) := by decide +kernel
theorem dX8_init_88 : decode cX8_init 88 = .ok (.iconst 5, 1) := by decide +kernel
theorem dX8_init_89 : decode cX8_init 89 = .ok (.newarray .int, 2) := by decide +kernel
theorem dX8_init_91 : decode cX8_init 91 = .ok (.putfield 45, 3) := by decide +kernel
theorem dX8_init_94 : decode cX8_init 94 = .ok (.aload_n 0, 1) := by decide +kernel
theorem dX8_init_95 : decode cX8_init 95 = .ok (.bipush 35, 2) := by decide +kernel
theorem dX8_init_97 : decode cX8_init 97 = .ok (.newarray .int, 2) := by decide +kernel
theorem dX8_init_99 : decode cX8_init 99 = .ok (.putfield 48, 3) := by decide +kernel
theorem dX8_init_102 : decode cX8_init 102 = .ok (.aload_n 0, 1) := by decide +kernel
theorem dX8_init_103 : decode cX8_init 103 = .ok (.bipush 40, 2) := by decide +kernel
theorem dX8_init_105 : decode cX8_init 105 = .ok (.newarray .int, 2) := by decide +kernel
theorem dX8_init_107 : decode cX8_init 107 = .ok (.putfield 51, 3) := by decide +kernel
theorem dX8_init_110 : decode cX8_init 110 = .ok (.aload_n 0, 1) := by decide +kernel
theorem dX8_init_111 : decode cX8_init 111 = .ok (.bipush 10, 2) := by decide +kernel
theorem dX8_init_113 : decode cX8_init 113 = .ok (.newarray .int, 2) := by decide +kernel
theorem dX8_init_115 : decode cX8_init 115 = .ok (.putfield 54, 3) := by decide +kernel
theorem dX8_init_118 : decode cX8_init 118 = .ok (.return_, 1) := by decide +kernel
theorem dX8_in_0 : decode cX8_in 0 = .ok (.iload_n 0, 1) := by decide +kernel
theorem dX8_in_1 : decode cX8_in 1 = .ok (.iload_n 1, 1) := by decide +kernel
theorem dX8_in_2 : decode cX8_in 2 = .ok (.if_icmp .lt 12, 3) := by decide +kernel
theorem dX8_in_5 : decode cX8_in 5 = .ok (.iload_n 0, 1) := by decide +kernel
theorem dX8_in_6 : decode cX8_in 6 = .ok (.iload_n 2, 1) := by decide +kernel
theorem dX8_in_7 : decode cX8_in 7 = .ok (.if_icmp .gt 7, 3) := by decide +kernel
theorem dX8_in_10 : decode cX8_in 10 = .ok (.iconst 1, 1) := by decide +kernel
theorem dX8_in_11 : decode cX8_in 11 = .ok (.goto 4, 3) := by decide +kernel
theorem dX8_in_14 : decode cX8_in 14 = .ok (.iconst 0, 1) := by decide +kernel
theorem dX8_in_15 : decode cX8_in 15 = .ok (.ireturn, 1) := by decide +kernel
theorem dX8_has_0 : decode cX8_has 0 = .ok (.iload_n 0, 1) := by decide +kernel
theorem dX8_has_1 : decode cX8_has 1 = .ok (.iload_n 1, 1) := by decide +kernel
theorem dX8_has_2 : decode cX8_has 2 = .ok (.ishr, 1) := by decide +kernel
theorem dX8_has_3 : decode cX8_has 3 = .ok (.iconst 1, 1) := by decide +kernel
theorem dX8_has_4 : decode cX8_has 4 = .ok (.iand, 1) := by decide +kernel
theorem dX8_has_5 : decode cX8_has 5 = .ok (.iconst 1, 1) := by decide +kernel
theorem dX8_has_6 : decode cX8_has 6 = .ok (.if_icmp .ne 7, 3) := by decide +kernel
theorem dX8_has_9 : decode cX8_has 9 = .ok (.iconst 1, 1) := by decide +kernel
theorem dX8_has_10 : decode cX8_has 10 = .ok (.goto 4, 3) := by decide +kernel
theorem dX8_has_13 : decode cX8_has 13 = .ok (.iconst 0, 1) := by decide +kernel
theorem dX8_has_14 : decode cX8_has 14 = .ok (.ireturn, 1) := by decide +kernel
theorem dX8_bits_0 : decode cX8_bits 0 = .ok (.iconst 0, 1) := by decide +kernel
theorem dX8_bits_1 : decode cX8_bits 1 = .ok (.istore_n 1, 1) := by decide +kernel
theorem dX8_bits_2 : decode cX8_bits 2 = .ok (.iconst 0, 1) := by decide +kernel
theorem dX8_bits_3 : decode cX8_bits 3 = .ok (.istore_n 2, 1) := by decide +kernel
theorem dX8_bits_4 : decode cX8_bits 4 = .ok (.iload_n 2, 1) := by decide +kernel
theorem dX8_bits_5 : decode cX8_bits 5 = .ok (.bipush 10, 2) := by decide +kernel
theorem dX8_bits_7 : decode cX8_bits 7 = .ok (.if_icmp .ge 17, 3) := by decide +kernel
theorem dX8_bits_10 : decode cX8_bits 10 = .ok (.iload_n 1, 1) := by decide +kernel
theorem dX8_bits_11 : decode cX8_bits 11 = .ok (.iload_n 0, 1) := by decide +kernel
theorem dX8_bits_12 : decode cX8_bits 12 = .ok (.iload_n 2, 1) := by decide +kernel
theorem dX8_bits_13 : decode cX8_bits 13 = .ok (.ishr, 1) := by decide +kernel
theorem dX8_bits_14 : decode cX8_bits 14 = .ok (.iconst 1, 1) := by decide +kernel
theorem dX8_bits_15 : decode cX8_bits 15 = .ok (.iand, 1) := by decide +kernel
theorem dX8_bits_16 : decode cX8_bits 16 = .ok (.iadd, 1) := by decide +kernel
theorem dX8_bits_17 : decode cX8_bits 17 = .ok (.istore_n 1, 1) := by decide +kernel
theorem dX8_bits_18 : decode cX8_bits 18 = .ok (.iinc 2 1, 3) := by decide +kernel
theorem dX8_bits_21 : decode cX8_bits 21 = .ok (.goto (-17), 3) := by decide +kernel
theorem dX8_bits_24 : decode cX8_bits 24 = .ok (.iload_n 1, 1) := by decide +kernel
theorem dX8_bits_25 : decode cX8_bits 25 = .ok (.ireturn, 1) := by decide +kernel
theorem dX8_isOne_0 : decode cX8_isOne 0 = .ok (.iload_n 1, 1) := by decide +kernel
theorem dX8_isOne_1 : decode cX8_isOne 1 = .ok (.iconst 0, 1) := by decide +kernel
theorem dX8_isOne_2 : decode cX8_isOne 2 = .ok (.aload_n 0, 1) := by decide +kernel
theorem dX8_isOne_3 : decode cX8_isOne 3 = .ok (.getfield 57, 3) := by decide +kernel
theorem dX8_isOne_6 : decode cX8_isOne 6 = .ok (.iconst 1, 1) := by decide +kernel
theorem dX8_isOne_7 : decode cX8_isOne 7 = .ok (.isub, 1) := by decide +kernel
theorem dX8_isOne_8 : decode cX8_isOne 8 = .ok (.invokestatic 60, 3) := by decide +kernel
theorem dX8_isOne_11 : decode cX8_isOne 11 = .ok (.ireturn, 1) := by decide +kernel
theorem dX8_isThought_0 : decode cX8_isThought 0 = .ok (.iload_n 0, 1) := by decide +kernel
theorem dX8_isThought_1 : decode cX8_isThought 1 = .ok (.iconst 0, 1) := by decide +kernel
theorem dX8_isThought_2 : decode cX8_isThought 2 = .ok (.bipush 9, 2) := by decide +kernel
theorem dX8_isThought_4 : decode cX8_isThought 4 = .ok (.invokestatic 60, 3) := by decide +kernel
theorem dX8_isThought_7 : decode cX8_isThought 7 = .ok (.ireturn, 1) := by decide +kernel
theorem dX8_isJar_0 : decode cX8_isJar 0 = .ok (.iload_n 0, 1) := by decide +kernel
theorem dX8_isJar_1 : decode cX8_isJar 1 = .ok (.iconst 0, 1) := by decide +kernel
theorem dX8_isJar_2 : decode cX8_isJar 2 = .ok (.iconst 3, 1) := by decide +kernel
theorem dX8_isJar_3 : decode cX8_isJar 3 = .ok (.invokestatic 60, 3) := by decide +kernel
theorem dX8_isJar_6 : decode cX8_isJar 6 = .ok (.ireturn, 1) := by decide +kernel
theorem dX8_type_0 : decode cX8_type 0 = .ok (.iload_n 1, 1) := by decide +kernel
theorem dX8_type_1 : decode cX8_type 1 = .ok (.iconst 0, 1) := by decide +kernel
theorem dX8_type_2 : decode cX8_type 2 = .ok (.sipush 255, 3) := by decide +kernel
theorem dX8_type_5 : decode cX8_type 5 = .ok (.invokestatic 60, 3) := by decide +kernel
theorem dX8_type_8 : decode cX8_type 8 = .ok (.ifCond .ne 5, 3) := by decide +kernel
theorem dX8_type_11 : decode cX8_type 11 = .ok (.iconst (-1), 1) := by decide +kernel
theorem dX8_type_12 : decode cX8_type 12 = .ok (.ireturn, 1) := by decide +kernel
theorem dX8_type_13 : decode cX8_type 13 = .ok (.aload_n 0, 1) := by decide +kernel
theorem dX8_type_14 : decode cX8_type 14 = .ok (.getfield 64, 3) := by decide +kernel
theorem dX8_type_17 : decode cX8_type 17 = .ok (.bipush 120, 2) := by decide +kernel
theorem dX8_type_19 : decode cX8_type 19 = .ok (.if_icmp .ne 6, 3) := by decide +kernel
theorem dX8_type_22 : decode cX8_type 22 = .ok (.bipush (-3), 2) := by decide +kernel
theorem dX8_type_24 : decode cX8_type 24 = .ok (.ireturn, 1) := by decide +kernel
theorem dX8_type_25 : decode cX8_type 25 = .ok (.aload_n 0, 1) := by decide +kernel
theorem dX8_type_26 : decode cX8_type 26 = .ok (.getfield 39, 3) := by decide +kernel
theorem dX8_type_29 : decode cX8_type 29 = .ok (.aload_n 0, 1) := by decide +kernel
theorem dX8_type_30 : decode cX8_type 30 = .ok (.getfield 64, 3) := by decide +kernel
theorem dX8_type_33 : decode cX8_type 33 = .ok (.iload_n 1, 1) := by decide +kernel
theorem dX8_type_34 : decode cX8_type 34 = .ok (.iastore, 1) := by decide +kernel
theorem dX8_type_35 : decode cX8_type 35 = .ok (.aload_n 0, 1) := by decide +kernel
theorem dX8_type_36 : decode cX8_type 36 = .ok (.dup, 1) := by decide +kernel
theorem dX8_type_37 : decode cX8_type 37 = .ok (.getfield 64, 3) := by decide +kernel
theorem dX8_type_40 : decode cX8_type 40 = .ok (.iconst 1, 1) := by decide +kernel
theorem dX8_type_41 : decode cX8_type 41 = .ok (.iadd, 1) := by decide +kernel
theorem dX8_type_42 : decode cX8_type 42 = .ok (.putfield 64, 3) := by decide +kernel
theorem dX8_type_45 : decode cX8_type 45 = .ok (.aload_n 0, 1) := by decide +kernel
theorem dX8_type_46 : decode cX8_type 46 = .ok (.getfield 64, 3) := by decide +kernel
theorem dX8_type_49 : decode cX8_type 49 = .ok (.ireturn, 1) := by decide +kernel
theorem dX8_clear_0 : decode cX8_clear 0 = .ok (.aload_n 0, 1) := by decide +kernel
theorem dX8_clear_1 : decode cX8_clear 1 = .ok (.getfield 64, 3) := by decide +kernel
theorem dX8_clear_4 : decode cX8_clear 4 = .ok (.istore_n 1, 1) := by decide +kernel
theorem dX8_clear_5 : decode cX8_clear 5 = .ok (.aload_n 0, 1) := by decide +kernel
theorem dX8_clear_6 : decode cX8_clear 6 = .ok (.iconst 0, 1) := by decide +kernel
theorem dX8_clear_7 : decode cX8_clear 7 = .ok (.putfield 64, 3) := by decide +kernel
theorem dX8_clear_10 : decode cX8_clear 10 = .ok (.iload_n 1, 1) := by decide +kernel
theorem dX8_clear_11 : decode cX8_clear 11 = .ok (.ireturn, 1) := by decide +kernel
theorem dX8_letterAt_0 : decode cX8_letterAt 0 = .ok (.iload_n 1, 1) := by decide +kernel
theorem dX8_letterAt_1 : decode cX8_letterAt 1 = .ok (.aload_n 0, 1) := by decide +kernel
theorem dX8_letterAt_2 : decode cX8_letterAt 2 = .ok (.getfield 64, 3) := by decide +kernel
theorem dX8_letterAt_5 : decode cX8_letterAt 5 = .ok (.if_icmp .ge 12, 3) := by decide +kernel
theorem dX8_letterAt_8 : decode cX8_letterAt 8 = .ok (.aload_n 0, 1) := by decide +kernel
theorem dX8_letterAt_9 : decode cX8_letterAt 9 = .ok (.getfield 39, 3) := by decide +kernel
theorem dX8_letterAt_12 : decode cX8_letterAt 12 = .ok (.iload_n 1, 1) := by decide +kernel
theorem dX8_letterAt_13 : decode cX8_letterAt 13 = .ok (.iaload, 1) := by decide +kernel
theorem dX8_letterAt_14 : decode cX8_letterAt 14 = .ok (.goto 4, 3) := by decide +kernel
theorem dX8_letterAt_17 : decode cX8_letterAt 17 = .ok (.iconst (-1), 1) := by decide +kernel
theorem dX8_letterAt_18 : decode cX8_letterAt 18 = .ok (.ireturn, 1) := by decide +kernel
theorem dX8_isFigure_0 : decode cX8_isFigure 0 = .ok (.iload_n 0, 1) := by decide +kernel
theorem dX8_isFigure_1 : decode cX8_isFigure 1 = .ok (.bipush 48, 2) := by decide +kernel
theorem dX8_isFigure_3 : decode cX8_isFigure 3 = .ok (.bipush 57, 2) := by decide +kernel
theorem dX8_isFigure_5 : decode cX8_isFigure 5 = .ok (.invokestatic 60, 3) := by decide +kernel
theorem dX8_isFigure_8 : decode cX8_isFigure 8 = .ok (.ireturn, 1) := by decide +kernel
theorem dX8_isLetter_0 : decode cX8_isLetter 0 = .ok (.iload_n 0, 1) := by decide +kernel
theorem dX8_isLetter_1 : decode cX8_isLetter 1 = .ok (.bipush 97, 2) := by decide +kernel
theorem dX8_isLetter_3 : decode cX8_isLetter 3 = .ok (.bipush 122, 2) := by decide +kernel
theorem dX8_isLetter_5 : decode cX8_isLetter 5 = .ok (.invokestatic 60, 3) := by decide +kernel
theorem dX8_isLetter_8 : decode cX8_isLetter 8 = .ok (.ireturn, 1) := by decide +kernel
theorem dX8_next_0 : decode cX8_next 0 = .ok (.aload_n 0, 1) := by decide +kernel
theorem dX8_next_1 : decode cX8_next 1 = .ok (.aload_n 0, 1) := by decide +kernel
theorem dX8_next_2 : decode cX8_next 2 = .ok (.getfield 67, 3) := by decide +kernel
theorem dX8_next_5 : decode cX8_next 5 = .ok (.invokevirtual 70, 3) := by decide +kernel
theorem dX8_next_8 : decode cX8_next 8 = .ok (.bipush 32, 2) := by decide +kernel
theorem dX8_next_10 : decode cX8_next 10 = .ok (.if_icmp .ne 16, 3) := by decide +kernel
theorem dX8_next_13 : decode cX8_next 13 = .ok (.aload_n 0, 1) := by decide +kernel
theorem dX8_next_14 : decode cX8_next 14 = .ok (.dup, 1) := by decide +kernel
theorem dX8_next_15 : decode cX8_next 15 = .ok (.getfield 67, 3) := by decide +kernel
theorem dX8_next_18 : decode cX8_next 18 = .ok (.iconst 1, 1) := by decide +kernel
theorem dX8_next_19 : decode cX8_next 19 = .ok (.iadd, 1) := by decide +kernel
theorem dX8_next_20 : decode cX8_next 20 = .ok (.putfield 67, 3) := by decide +kernel
theorem dX8_next_23 : decode cX8_next 23 = .ok (.goto (-23), 3) := by decide +kernel
theorem dX8_next_26 : decode cX8_next 26 = .ok (.aload_n 0, 1) := by decide +kernel
theorem dX8_next_27 : decode cX8_next 27 = .ok (.aload_n 0, 1) := by decide +kernel
theorem dX8_next_28 : decode cX8_next 28 = .ok (.getfield 67, 3) := by decide +kernel
theorem dX8_next_31 : decode cX8_next 31 = .ok (.putfield 74, 3) := by decide +kernel
theorem dX8_next_34 : decode cX8_next 34 = .ok (.aload_n 0, 1) := by decide +kernel
theorem dX8_next_35 : decode cX8_next 35 = .ok (.aload_n 0, 1) := by decide +kernel
theorem dX8_next_36 : decode cX8_next 36 = .ok (.getfield 67, 3) := by decide +kernel
theorem dX8_next_39 : decode cX8_next 39 = .ok (.invokevirtual 70, 3) := by decide +kernel
theorem dX8_next_42 : decode cX8_next 42 = .ok (.istore_n 1, 1) := by decide +kernel
theorem dX8_next_43 : decode cX8_next 43 = .ok (.aload_n 0, 1) := by decide +kernel
theorem dX8_next_44 : decode cX8_next 44 = .ok (.iconst 0, 1) := by decide +kernel
theorem dX8_next_45 : decode cX8_next 45 = .ok (.putfield 77, 3) := by decide +kernel
theorem dX8_next_48 : decode cX8_next 48 = .ok (.iload_n 1, 1) := by decide +kernel
theorem dX8_next_49 : decode cX8_next 49 = .ok (.ifCond .ge 11, 3) := by decide +kernel
theorem dX8_next_52 : decode cX8_next 52 = .ok (.aload_n 0, 1) := by decide +kernel
theorem dX8_next_53 : decode cX8_next 53 = .ok (.iconst 0, 1) := by decide +kernel
theorem dX8_next_54 : decode cX8_next 54 = .ok (.putfield 80, 3) := by decide +kernel
theorem dX8_next_57 : decode cX8_next 57 = .ok (.goto 205, 3) := by decide +kernel
theorem dX8_next_60 : decode cX8_next 60 = .ok (.iload_n 1, 1) := by decide +kernel
theorem dX8_next_61 : decode cX8_next 61 = .ok (.invokestatic 83, 3) := by decide +kernel
theorem dX8_next_64 : decode cX8_next 64 = .ok (.ifCond .eq 109, 3) := by decide +kernel
theorem dX8_next_67 : decode cX8_next 67 = .ok (.aload_n 0, 1) := by decide +kernel
theorem dX8_next_68 : decode cX8_next 68 = .ok (.aload_n 0, 1) := by decide +kernel
theorem dX8_next_69 : decode cX8_next 69 = .ok (.getfield 67, 3) := by decide +kernel
theorem dX8_next_72 : decode cX8_next 72 = .ok (.invokevirtual 70, 3) := by decide +kernel
theorem dX8_next_75 : decode cX8_next 75 = .ok (.invokestatic 83, 3) := by decide +kernel
theorem dX8_next_78 : decode cX8_next 78 = .ok (.ifCond .eq 55, 3) := by decide +kernel
theorem dX8_next_81 : decode cX8_next 81 = .ok (.aload_n 0, 1) := by decide +kernel
theorem dX8_next_82 : decode cX8_next 82 = .ok (.aload_n 0, 1) := by decide +kernel
theorem dX8_next_83 : decode cX8_next 83 = .ok (.getfield 77, 3) := by decide +kernel
theorem dX8_next_86 : decode cX8_next 86 = .ok (.bipush 99, 2) := by decide +kernel
theorem dX8_next_88 : decode cX8_next 88 = .ok (.if_icmp .le 10, 3) := by decide +kernel
theorem dX8_next_91 : decode cX8_next 91 = .ok (.aload_n 0, 1) := by decide +kernel
theorem dX8_next_92 : decode cX8_next 92 = .ok (.getfield 77, 3) := by decide +kernel
theorem dX8_next_95 : decode cX8_next 95 = .ok (.goto 22, 3) := by decide +kernel
theorem dX8_next_98 : decode cX8_next 98 = .ok (.bipush 10, 2) := by decide +kernel
theorem dX8_next_100 : decode cX8_next 100 = .ok (.aload_n 0, 1) := by decide +kernel
theorem dX8_next_101 : decode cX8_next 101 = .ok (.getfield 77, 3) := by decide +kernel
theorem dX8_next_104 : decode cX8_next 104 = .ok (.imul, 1) := by decide +kernel
theorem dX8_next_105 : decode cX8_next 105 = .ok (.aload_n 0, 1) := by decide +kernel
theorem dX8_next_106 : decode cX8_next 106 = .ok (.aload_n 0, 1) := by decide +kernel
theorem dX8_next_107 : decode cX8_next 107 = .ok (.getfield 67, 3) := by decide +kernel
theorem dX8_next_110 : decode cX8_next 110 = .ok (.invokevirtual 70, 3) := by decide +kernel
theorem dX8_next_113 : decode cX8_next 113 = .ok (.iadd, 1) := by decide +kernel
theorem dX8_next_114 : decode cX8_next 114 = .ok (.bipush 48, 2) := by decide +kernel
theorem dX8_next_116 : decode cX8_next 116 = .ok (.isub, 1) := by decide +kernel
theorem dX8_next_117 : decode cX8_next 117 = .ok (.putfield 77, 3) := by decide +kernel
theorem dX8_next_120 : decode cX8_next 120 = .ok (.aload_n 0, 1) := by decide +kernel
theorem dX8_next_121 : decode cX8_next 121 = .ok (.dup, 1) := by decide +kernel
theorem dX8_next_122 : decode cX8_next 122 = .ok (.getfield 67, 3) := by decide +kernel
theorem dX8_next_125 : decode cX8_next 125 = .ok (.iconst 1, 1) := by decide +kernel
theorem dX8_next_126 : decode cX8_next 126 = .ok (.iadd, 1) := by decide +kernel
theorem dX8_next_127 : decode cX8_next 127 = .ok (.putfield 67, 3) := by decide +kernel
theorem dX8_next_130 : decode cX8_next 130 = .ok (.goto (-63), 3) := by decide +kernel
theorem dX8_next_133 : decode cX8_next 133 = .ok (.aload_n 0, 1) := by decide +kernel
theorem dX8_next_134 : decode cX8_next 134 = .ok (.aload_n 0, 1) := by decide +kernel
theorem dX8_next_135 : decode cX8_next 135 = .ok (.getfield 77, 3) := by decide +kernel
theorem dX8_next_138 : decode cX8_next 138 = .ok (.bipush 99, 2) := by decide +kernel
theorem dX8_next_140 : decode cX8_next 140 = .ok (.if_icmp .gt 22, 3) := by decide +kernel
theorem dX8_next_143 : decode cX8_next 143 = .ok (.iload_n 1, 1) := by decide +kernel
theorem dX8_next_144 : decode cX8_next 144 = .ok (.bipush 48, 2) := by decide +kernel
theorem dX8_next_146 : decode cX8_next 146 = .ok (.if_icmp .ne 20, 3) := by decide +kernel
theorem dX8_next_149 : decode cX8_next 149 = .ok (.aload_n 0, 1) := by decide +kernel
theorem dX8_next_150 : decode cX8_next 150 = .ok (.getfield 67, 3) := by decide +kernel
theorem dX8_next_153 : decode cX8_next 153 = .ok (.aload_n 0, 1) := by decide +kernel
theorem dX8_next_154 : decode cX8_next 154 = .ok (.getfield 74, 3) := by decide +kernel
theorem dX8_next_157 : decode cX8_next 157 = .ok (.isub, 1) := by decide +kernel
theorem dX8_next_158 : decode cX8_next 158 = .ok (.iconst 1, 1) := by decide +kernel
theorem dX8_next_159 : decode cX8_next 159 = .ok (.if_icmp .le 7, 3) := by decide +kernel
theorem dX8_next_162 : decode cX8_next 162 = .ok (.iconst 4, 1) := by decide +kernel
theorem dX8_next_163 : decode cX8_next 163 = .ok (.goto 4, 3) := by decide +kernel
theorem dX8_next_166 : decode cX8_next 166 = .ok (.iconst 2, 1) := by decide +kernel
theorem dX8_next_167 : decode cX8_next 167 = .ok (.putfield 80, 3) := by decide +kernel
theorem dX8_next_170 : decode cX8_next 170 = .ok (.goto 92, 3) := by decide +kernel
theorem dX8_next_173 : decode cX8_next 173 = .ok (.iload_n 1, 1) := by decide +kernel
theorem dX8_next_174 : decode cX8_next 174 = .ok (.invokestatic 87, 3) := by decide +kernel
theorem dX8_next_177 : decode cX8_next 177 = .ok (.ifCond .eq 60, 3) := by decide +kernel
theorem dX8_next_180 : decode cX8_next 180 = .ok (.aload_n 0, 1) := by decide +kernel
theorem dX8_next_181 : decode cX8_next 181 = .ok (.aload_n 0, 1) := by decide +kernel
theorem dX8_next_182 : decode cX8_next 182 = .ok (.getfield 67, 3) := by decide +kernel
theorem dX8_next_185 : decode cX8_next 185 = .ok (.invokevirtual 70, 3) := by decide +kernel
theorem dX8_next_188 : decode cX8_next 188 = .ok (.invokestatic 87, 3) := by decide +kernel
theorem dX8_next_191 : decode cX8_next 191 = .ok (.ifCond .eq 16, 3) := by decide +kernel
theorem dX8_next_194 : decode cX8_next 194 = .ok (.aload_n 0, 1) := by decide +kernel
theorem dX8_next_195 : decode cX8_next 195 = .ok (.dup, 1) := by decide +kernel
theorem dX8_next_196 : decode cX8_next 196 = .ok (.getfield 67, 3) := by decide +kernel
theorem dX8_next_199 : decode cX8_next 199 = .ok (.iconst 1, 1) := by decide +kernel
theorem dX8_next_200 : decode cX8_next 200 = .ok (.iadd, 1) := by decide +kernel
theorem dX8_next_201 : decode cX8_next 201 = .ok (.putfield 67, 3) := by decide +kernel
theorem dX8_next_204 : decode cX8_next 204 = .ok (.goto (-24), 3) := by decide +kernel
theorem dX8_next_207 : decode cX8_next 207 = .ok (.aload_n 0, 1) := by decide +kernel
theorem dX8_next_208 : decode cX8_next 208 = .ok (.iconst 1, 1) := by decide +kernel
theorem dX8_next_209 : decode cX8_next 209 = .ok (.putfield 80, 3) := by decide +kernel
theorem dX8_next_212 : decode cX8_next 212 = .ok (.aload_n 0, 1) := by decide +kernel
theorem dX8_next_213 : decode cX8_next 213 = .ok (.aload_n 0, 1) := by decide +kernel
theorem dX8_next_214 : decode cX8_next 214 = .ok (.getfield 67, 3) := by decide +kernel
theorem dX8_next_217 : decode cX8_next 217 = .ok (.aload_n 0, 1) := by decide +kernel
theorem dX8_next_218 : decode cX8_next 218 = .ok (.getfield 74, 3) := by decide +kernel
theorem dX8_next_221 : decode cX8_next 221 = .ok (.isub, 1) := by decide +kernel
theorem dX8_next_222 : decode cX8_next 222 = .ok (.iconst 1, 1) := by decide +kernel
theorem dX8_next_223 : decode cX8_next 223 = .ok (.if_icmp .ne 7, 3) := by decide +kernel
theorem dX8_next_226 : decode cX8_next 226 = .ok (.iload_n 1, 1) := by decide +kernel
theorem dX8_next_227 : decode cX8_next 227 = .ok (.goto 4, 3) := by decide +kernel
theorem dX8_next_230 : decode cX8_next 230 = .ok (.iconst 0, 1) := by decide +kernel
theorem dX8_next_231 : decode cX8_next 231 = .ok (.putfield 77, 3) := by decide +kernel
theorem dX8_next_234 : decode cX8_next 234 = .ok (.goto 28, 3) := by decide +kernel
theorem dX8_next_237 : decode cX8_next 237 = .ok (.aload_n 0, 1) := by decide +kernel
theorem dX8_next_238 : decode cX8_next 238 = .ok (.iload_n 1, 1) := by decide +kernel
theorem dX8_next_239 : decode cX8_next 239 = .ok (.bipush 59, 2) := by decide +kernel
theorem dX8_next_241 : decode cX8_next 241 = .ok (.if_icmp .ne 7, 3) := by decide +kernel
theorem dX8_next_244 : decode cX8_next 244 = .ok (.iconst 3, 1) := by decide +kernel
theorem dX8_next_245 : decode cX8_next 245 = .ok (.goto 4, 3) := by decide +kernel
theorem dX8_next_248 : decode cX8_next 248 = .ok (.iconst 4, 1) := by decide +kernel
theorem dX8_next_249 : decode cX8_next 249 = .ok (.putfield 80, 3) := by decide +kernel
theorem dX8_next_252 : decode cX8_next 252 = .ok (.aload_n 0, 1) := by decide +kernel
theorem dX8_next_253 : decode cX8_next 253 = .ok (.dup, 1) := by decide +kernel
theorem dX8_next_254 : decode cX8_next 254 = .ok (.getfield 67, 3) := by decide +kernel
theorem dX8_next_257 : decode cX8_next 257 = .ok (.iconst 1, 1) := by decide +kernel
theorem dX8_next_258 : decode cX8_next 258 = .ok (.iadd, 1) := by decide +kernel
theorem dX8_next_259 : decode cX8_next 259 = .ok (.putfield 67, 3) := by decide +kernel
theorem dX8_next_262 : decode cX8_next 262 = .ok (.return_, 1) := by decide +kernel
theorem dX8_takesNumber_0 : decode cX8_takesNumber 0 = .ok (.aload_n 0, 1) := by decide +kernel
theorem dX8_takesNumber_1 : decode cX8_takesNumber 1 = .ok (.getfield 90, 3) := by decide +kernel
theorem dX8_takesNumber_4 : decode cX8_takesNumber 4 = .ok (.ifCond .ne 27, 3) := by decide +kernel
theorem dX8_takesNumber_7 : decode cX8_takesNumber 7 = .ok (.aload_n 0, 1) := by decide +kernel
theorem dX8_takesNumber_8 : decode cX8_takesNumber 8 = .ok (.getfield 80, 3) := by decide +kernel
theorem dX8_takesNumber_11 : decode cX8_takesNumber 11 = .ok (.iconst 2, 1) := by decide +kernel
theorem dX8_takesNumber_12 : decode cX8_takesNumber 12 = .ok (.if_icmp .ne 19, 3) := by decide +kernel
theorem dX8_takesNumber_15 : decode cX8_takesNumber 15 = .ok (.aload_n 0, 1) := by decide +kernel
theorem dX8_takesNumber_16 : decode cX8_takesNumber 16 = .ok (.getfield 77, 3) := by decide +kernel
theorem dX8_takesNumber_19 : decode cX8_takesNumber 19 = .ok (.iload_n 1, 1) := by decide +kernel
theorem dX8_takesNumber_20 : decode cX8_takesNumber 20 = .ok (.iload_n 2, 1) := by decide +kernel
theorem dX8_takesNumber_21 : decode cX8_takesNumber 21 = .ok (.invokestatic 60, 3) := by decide +kernel
theorem dX8_takesNumber_24 : decode cX8_takesNumber 24 = .ok (.ifCond .eq 7, 3) := by decide +kernel
theorem dX8_takesNumber_27 : decode cX8_takesNumber 27 = .ok (.iconst 1, 1) := by decide +kernel
theorem dX8_takesNumber_28 : decode cX8_takesNumber 28 = .ok (.goto 4, 3) := by decide +kernel
theorem dX8_takesNumber_31 : decode cX8_takesNumber 31 = .ok (.iconst 0, 1) := by decide +kernel
theorem dX8_takesNumber_32 : decode cX8_takesNumber 32 = .ok (.istore_n 3, 1) := by decide +kernel
theorem dX8_takesNumber_33 : decode cX8_takesNumber 33 = .ok (.aload_n 0, 1) := by decide +kernel
theorem dX8_takesNumber_34 : decode cX8_takesNumber 34 = .ok (.iload_n 3, 1) := by decide +kernel
theorem dX8_takesNumber_35 : decode cX8_takesNumber 35 = .ok (.ifCond .ne 7, 3) := by decide +kernel
theorem dX8_takesNumber_38 : decode cX8_takesNumber 38 = .ok (.iconst 1, 1) := by decide +kernel
theorem dX8_takesNumber_39 : decode cX8_takesNumber 39 = .ok (.goto 4, 3) := by decide +kernel
theorem dX8_takesNumber_42 : decode cX8_takesNumber 42 = .ok (.iconst 0, 1) := by decide +kernel
theorem dX8_takesNumber_43 : decode cX8_takesNumber 43 = .ok (.putfield 90, 3) := by decide +kernel
theorem dX8_takesNumber_46 : decode cX8_takesNumber 46 = .ok (.aload_n 0, 1) := by decide +kernel
theorem dX8_takesNumber_47 : decode cX8_takesNumber 47 = .ok (.getfield 77, 3) := by decide +kernel
theorem dX8_takesNumber_50 : decode cX8_takesNumber 50 = .ok (.istore 4, 2) := by decide +kernel
theorem dX8_takesNumber_52 : decode cX8_takesNumber 52 = .ok (.iload_n 3, 1) := by decide +kernel
theorem dX8_takesNumber_53 : decode cX8_takesNumber 53 = .ok (.ifCond .eq 7, 3) := by decide +kernel
theorem dX8_takesNumber_56 : decode cX8_takesNumber 56 = .ok (.aload_n 0, 1) := by decide +kernel
theorem dX8_takesNumber_57 : decode cX8_takesNumber 57 = .ok (.invokevirtual 94, 3) := by decide +kernel
theorem dX8_takesNumber_60 : decode cX8_takesNumber 60 = .ok (.iload_n 3, 1) := by decide +kernel
theorem dX8_takesNumber_61 : decode cX8_takesNumber 61 = .ok (.ifCond .eq 8, 3) := by decide +kernel
theorem dX8_takesNumber_64 : decode cX8_takesNumber 64 = .ok (.iload 4, 2) := by decide +kernel
theorem dX8_takesNumber_66 : decode cX8_takesNumber 66 = .ok (.goto 4, 3) := by decide +kernel
theorem dX8_takesNumber_69 : decode cX8_takesNumber 69 = .ok (.iconst 0, 1) := by decide +kernel
theorem dX8_takesNumber_70 : decode cX8_takesNumber 70 = .ok (.ireturn, 1) := by decide +kernel
theorem dX8_readOne_0 : decode cX8_readOne 0 = .ok (.aload_n 0, 1) := by decide +kernel
theorem dX8_readOne_1 : decode cX8_readOne 1 = .ok (.getfield 97, 3) := by decide +kernel
theorem dX8_readOne_4 : decode cX8_readOne 4 = .ok (.istore_n 1, 1) := by decide +kernel
theorem dX8_readOne_5 : decode cX8_readOne 5 = .ok (.aload_n 0, 1) := by decide +kernel
theorem dX8_readOne_6 : decode cX8_readOne 6 = .ok (.getfield 42, 3) := by decide +kernel
theorem dX8_readOne_9 : decode cX8_readOne 9 = .ok (.iload_n 1, 1) := by decide +kernel
theorem dX8_readOne_10 : decode cX8_readOne 10 = .ok (.aload_n 0, 1) := by decide +kernel
theorem dX8_readOne_11 : decode cX8_readOne 11 = .ok (.iconst 0, 1) := by decide +kernel
theorem dX8_readOne_12 : decode cX8_readOne 12 = .ok (.bipush 9, 2) := by decide +kernel
theorem dX8_readOne_14 : decode cX8_readOne 14 = .ok (.invokevirtual 100, 3) := by decide +kernel
theorem dX8_readOne_17 : decode cX8_readOne 17 = .ok (.iastore, 1) := by decide +kernel
theorem dX8_readOne_18 : decode cX8_readOne 18 = .ok (.iconst 0, 1) := by decide +kernel
theorem dX8_readOne_19 : decode cX8_readOne 19 = .ok (.istore_n 2, 1) := by decide +kernel
theorem dX8_readOne_20 : decode cX8_readOne 20 = .ok (.aload_n 0, 1) := by decide +kernel
theorem dX8_readOne_21 : decode cX8_readOne 21 = .ok (.getfield 90, 3) := by decide +kernel
theorem dX8_readOne_24 : decode cX8_readOne 24 = .ok (.ifCond .ne 45, 3) := by decide +kernel
theorem dX8_readOne_27 : decode cX8_readOne 27 = .ok (.aload_n 0, 1) := by decide +kernel
theorem dX8_readOne_28 : decode cX8_readOne 28 = .ok (.getfield 80, 3) := by decide +kernel
theorem dX8_readOne_31 : decode cX8_readOne 31 = .ok (.iconst 2, 1) := by decide +kernel
theorem dX8_readOne_32 : decode cX8_readOne 32 = .ok (.if_icmp .ne 9, 3) := by decide +kernel
theorem dX8_readOne_35 : decode cX8_readOne 35 = .ok (.iload_n 2, 1) := by decide +kernel
theorem dX8_readOne_36 : decode cX8_readOne 36 = .ok (.bipush 7, 2) := by decide +kernel
theorem dX8_readOne_38 : decode cX8_readOne 38 = .ok (.if_icmp .lt 7, 3) := by decide +kernel
theorem dX8_readOne_41 : decode cX8_readOne 41 = .ok (.iload_n 2, 1) := by decide +kernel
theorem dX8_readOne_42 : decode cX8_readOne 42 = .ok (.ifCond .ne 27, 3) := by decide +kernel
theorem dX8_readOne_45 : decode cX8_readOne 45 = .ok (.aload_n 0, 1) := by decide +kernel
theorem dX8_readOne_46 : decode cX8_readOne 46 = .ok (.getfield 48, 3) := by decide +kernel
theorem dX8_readOne_49 : decode cX8_readOne 49 = .ok (.bipush 7, 2) := by decide +kernel
theorem dX8_readOne_51 : decode cX8_readOne 51 = .ok (.iload_n 1, 1) := by decide +kernel
theorem dX8_readOne_52 : decode cX8_readOne 52 = .ok (.imul, 1) := by decide +kernel
theorem dX8_readOne_53 : decode cX8_readOne 53 = .ok (.iload_n 2, 1) := by decide +kernel
theorem dX8_readOne_54 : decode cX8_readOne 54 = .ok (.iadd, 1) := by decide +kernel
theorem dX8_readOne_55 : decode cX8_readOne 55 = .ok (.aload_n 0, 1) := by decide +kernel
theorem dX8_readOne_56 : decode cX8_readOne 56 = .ok (.iconst 0, 1) := by decide +kernel
theorem dX8_readOne_57 : decode cX8_readOne 57 = .ok (.bipush 9, 2) := by decide +kernel
theorem dX8_readOne_59 : decode cX8_readOne 59 = .ok (.invokevirtual 100, 3) := by decide +kernel
theorem dX8_readOne_62 : decode cX8_readOne 62 = .ok (.iastore, 1) := by decide +kernel
theorem dX8_readOne_63 : decode cX8_readOne 63 = .ok (.iinc 2 1, 3) := by decide +kernel
theorem dX8_readOne_66 : decode cX8_readOne 66 = .ok (.goto (-46), 3) := by decide +kernel
theorem dX8_readOne_69 : decode cX8_readOne 69 = .ok (.aload_n 0, 1) := by decide +kernel
theorem dX8_readOne_70 : decode cX8_readOne 70 = .ok (.getfield 45, 3) := by decide +kernel
theorem dX8_readOne_73 : decode cX8_readOne 73 = .ok (.iload_n 1, 1) := by decide +kernel
theorem dX8_readOne_74 : decode cX8_readOne 74 = .ok (.iload_n 2, 1) := by decide +kernel
theorem dX8_readOne_75 : decode cX8_readOne 75 = .ok (.iastore, 1) := by decide +kernel
theorem dX8_readOne_76 : decode cX8_readOne 76 = .ok (.aload_n 0, 1) := by decide +kernel
theorem dX8_readOne_77 : decode cX8_readOne 77 = .ok (.dup, 1) := by decide +kernel
theorem dX8_readOne_78 : decode cX8_readOne 78 = .ok (.getfield 97, 3) := by decide +kernel
theorem dX8_readOne_81 : decode cX8_readOne 81 = .ok (.iconst 1, 1) := by decide +kernel
theorem dX8_readOne_82 : decode cX8_readOne 82 = .ok (.iadd, 1) := by decide +kernel
theorem dX8_readOne_83 : decode cX8_readOne 83 = .ok (.putfield 97, 3) := by decide +kernel
theorem dX8_readOne_86 : decode cX8_readOne 86 = .ok (.return_, 1) := by decide +kernel
theorem dX8_mayBegin_0 : decode cX8_mayBegin 0 = .ok (.iload_n 1, 1) := by decide +kernel
theorem dX8_mayBegin_1 : decode cX8_mayBegin 1 = .ok (.lookupswitch 75 #[(106, 62), (109, 49), (112, 35)], 35) := by decide +kernel
theorem dX8_mayBegin_36 : decode cX8_mayBegin 36 = .ok (.aload_n 0, 1) := by decide +kernel
theorem dX8_mayBegin_37 : decode cX8_mayBegin 37 = .ok (.getfield 97, 3) := by decide +kernel
theorem dX8_mayBegin_40 : decode cX8_mayBegin 40 = .ok (.iconst 5, 1) := by decide +kernel
theorem dX8_mayBegin_41 : decode cX8_mayBegin 41 = .ok (.if_icmp .ge 7, 3) := by decide +kernel
theorem dX8_mayBegin_44 : decode cX8_mayBegin 44 = .ok (.iconst 1, 1) := by decide +kernel
theorem dX8_mayBegin_45 : decode cX8_mayBegin 45 = .ok (.goto 4, 3) := by decide +kernel
theorem dX8_mayBegin_48 : decode cX8_mayBegin 48 = .ok (.iconst 0, 1) := by decide +kernel
theorem dX8_mayBegin_49 : decode cX8_mayBegin 49 = .ok (.ireturn, 1) := by decide +kernel
theorem dX8_mayBegin_50 : decode cX8_mayBegin 50 = .ok (.aload_n 0, 1) := by decide +kernel
theorem dX8_mayBegin_51 : decode cX8_mayBegin 51 = .ok (.getfield 104, 3) := by decide +kernel
theorem dX8_mayBegin_54 : decode cX8_mayBegin 54 = .ok (.ifCond .ge 7, 3) := by decide +kernel
theorem dX8_mayBegin_57 : decode cX8_mayBegin 57 = .ok (.iconst 1, 1) := by decide +kernel
theorem dX8_mayBegin_58 : decode cX8_mayBegin 58 = .ok (.goto 4, 3) := by decide +kernel
theorem dX8_mayBegin_61 : decode cX8_mayBegin 61 = .ok (.iconst 0, 1) := by decide +kernel
theorem dX8_mayBegin_62 : decode cX8_mayBegin 62 = .ok (.ireturn, 1) := by decide +kernel
theorem dX8_mayBegin_63 : decode cX8_mayBegin 63 = .ok (.aload_n 0, 1) := by decide +kernel
theorem dX8_mayBegin_64 : decode cX8_mayBegin 64 = .ok (.getfield 107, 3) := by decide +kernel
theorem dX8_mayBegin_67 : decode cX8_mayBegin 67 = .ok (.ifCond .ge 7, 3) := by decide +kernel
theorem dX8_mayBegin_70 : decode cX8_mayBegin 70 = .ok (.iconst 1, 1) := by decide +kernel
theorem dX8_mayBegin_71 : decode cX8_mayBegin 71 = .ok (.goto 4, 3) := by decide +kernel
theorem dX8_mayBegin_74 : decode cX8_mayBegin 74 = .ok (.iconst 0, 1) := by decide +kernel
theorem dX8_mayBegin_75 : decode cX8_mayBegin 75 = .ok (.ireturn, 1) := by decide +kernel
theorem dX8_mayBegin_76 : decode cX8_mayBegin 76 = .ok (.iconst 0, 1) := by decide +kernel
theorem dX8_mayBegin_77 : decode cX8_mayBegin 77 = .ok (.ireturn, 1) := by decide +kernel
theorem dX8_readItem_0 : decode cX8_readItem 0 = .ok (.aload_n 0, 1) := by decide +kernel
theorem dX8_readItem_1 : decode cX8_readItem 1 = .ok (.getfield 77, 3) := by decide +kernel
theorem dX8_readItem_4 : decode cX8_readItem 4 = .ok (.istore_n 1, 1) := by decide +kernel
theorem dX8_readItem_5 : decode cX8_readItem 5 = .ok (.aload_n 0, 1) := by decide +kernel
theorem dX8_readItem_6 : decode cX8_readItem 6 = .ok (.getfield 80, 3) := by decide +kernel
theorem dX8_readItem_9 : decode cX8_readItem 9 = .ok (.iconst 1, 1) := by decide +kernel
theorem dX8_readItem_10 : decode cX8_readItem 10 = .ok (.if_icmp .ne 11, 3) := by decide +kernel
theorem dX8_readItem_13 : decode cX8_readItem 13 = .ok (.aload_n 0, 1) := by decide +kernel
theorem dX8_readItem_14 : decode cX8_readItem 14 = .ok (.iload_n 1, 1) := by decide +kernel
theorem dX8_readItem_15 : decode cX8_readItem 15 = .ok (.invokevirtual 110, 3) := by decide +kernel
theorem dX8_readItem_18 : decode cX8_readItem 18 = .ok (.ifCond .ne 9, 3) := by decide +kernel
theorem dX8_readItem_21 : decode cX8_readItem 21 = .ok (.aload_n 0, 1) := by decide +kernel
theorem dX8_readItem_22 : decode cX8_readItem 22 = .ok (.iconst 1, 1) := by decide +kernel
theorem dX8_readItem_23 : decode cX8_readItem 23 = .ok (.putfield 90, 3) := by decide +kernel
theorem dX8_readItem_26 : decode cX8_readItem 26 = .ok (.return_, 1) := by decide +kernel
theorem dX8_readItem_27 : decode cX8_readItem 27 = .ok (.aload_n 0, 1) := by decide +kernel
theorem dX8_readItem_28 : decode cX8_readItem 28 = .ok (.invokevirtual 94, 3) := by decide +kernel
theorem dX8_readItem_31 : decode cX8_readItem 31 = .ok (.iload_n 1, 1) := by decide +kernel
theorem dX8_readItem_32 : decode cX8_readItem 32 = .ok (.bipush 112, 2) := by decide +kernel
theorem dX8_readItem_34 : decode cX8_readItem 34 = .ok (.if_icmp .ne 10, 3) := by decide +kernel
theorem dX8_readItem_37 : decode cX8_readItem 37 = .ok (.aload_n 0, 1) := by decide +kernel
theorem dX8_readItem_38 : decode cX8_readItem 38 = .ok (.invokevirtual 113, 3) := by decide +kernel
theorem dX8_readItem_41 : decode cX8_readItem 41 = .ok (.goto 33, 3) := by decide +kernel
theorem dX8_readItem_44 : decode cX8_readItem 44 = .ok (.iload_n 1, 1) := by decide +kernel
theorem dX8_readItem_45 : decode cX8_readItem 45 = .ok (.bipush 109, 2) := by decide +kernel
theorem dX8_readItem_47 : decode cX8_readItem 47 = .ok (.if_icmp .ne 17, 3) := by decide +kernel
theorem dX8_readItem_50 : decode cX8_readItem 50 = .ok (.aload_n 0, 1) := by decide +kernel
theorem dX8_readItem_51 : decode cX8_readItem 51 = .ok (.aload_n 0, 1) := by decide +kernel
theorem dX8_readItem_52 : decode cX8_readItem 52 = .ok (.iconst 1, 1) := by decide +kernel
theorem dX8_readItem_53 : decode cX8_readItem 53 = .ok (.bipush 12, 2) := by decide +kernel
theorem dX8_readItem_55 : decode cX8_readItem 55 = .ok (.invokevirtual 100, 3) := by decide +kernel
theorem dX8_readItem_58 : decode cX8_readItem 58 = .ok (.putfield 104, 3) := by decide +kernel
theorem dX8_readItem_61 : decode cX8_readItem 61 = .ok (.goto 13, 3) := by decide +kernel
theorem dX8_readItem_64 : decode cX8_readItem 64 = .ok (.aload_n 0, 1) := by decide +kernel
theorem dX8_readItem_65 : decode cX8_readItem 65 = .ok (.aload_n 0, 1) := by decide +kernel
theorem dX8_readItem_66 : decode cX8_readItem 66 = .ok (.iconst 0, 1) := by decide +kernel
theorem dX8_readItem_67 : decode cX8_readItem 67 = .ok (.iconst 3, 1) := by decide +kernel
theorem dX8_readItem_68 : decode cX8_readItem 68 = .ok (.invokevirtual 100, 3) := by decide +kernel
theorem dX8_readItem_71 : decode cX8_readItem 71 = .ok (.putfield 107, 3) := by decide +kernel
theorem dX8_readItem_74 : decode cX8_readItem 74 = .ok (.aload_n 0, 1) := by decide +kernel
theorem dX8_readItem_75 : decode cX8_readItem 75 = .ok (.aload_n 0, 1) := by decide +kernel
theorem dX8_readItem_76 : decode cX8_readItem 76 = .ok (.getfield 90, 3) := by decide +kernel
theorem dX8_readItem_79 : decode cX8_readItem 79 = .ok (.ifCond .ne 11, 3) := by decide +kernel
theorem dX8_readItem_82 : decode cX8_readItem 82 = .ok (.aload_n 0, 1) := by decide +kernel
theorem dX8_readItem_83 : decode cX8_readItem 83 = .ok (.getfield 80, 3) := by decide +kernel
theorem dX8_readItem_86 : decode cX8_readItem 86 = .ok (.iconst 3, 1) := by decide +kernel
theorem dX8_readItem_87 : decode cX8_readItem 87 = .ok (.if_icmp .eq 7, 3) := by decide +kernel
theorem dX8_readItem_90 : decode cX8_readItem 90 = .ok (.iconst 1, 1) := by decide +kernel
theorem dX8_readItem_91 : decode cX8_readItem 91 = .ok (.goto 4, 3) := by decide +kernel
theorem dX8_readItem_94 : decode cX8_readItem 94 = .ok (.iconst 0, 1) := by decide +kernel
theorem dX8_readItem_95 : decode cX8_readItem 95 = .ok (.putfield 90, 3) := by decide +kernel
theorem dX8_readItem_98 : decode cX8_readItem 98 = .ok (.aload_n 0, 1) := by decide +kernel
theorem dX8_readItem_99 : decode cX8_readItem 99 = .ok (.getfield 90, 3) := by decide +kernel
theorem dX8_readItem_102 : decode cX8_readItem 102 = .ok (.ifCond .ne 7, 3) := by decide +kernel
theorem dX8_readItem_105 : decode cX8_readItem 105 = .ok (.aload_n 0, 1) := by decide +kernel
theorem dX8_readItem_106 : decode cX8_readItem 106 = .ok (.invokevirtual 94, 3) := by decide +kernel
theorem dX8_readItem_109 : decode cX8_readItem 109 = .ok (.return_, 1) := by decide +kernel
theorem dX8_shop_0 : decode cX8_shop 0 = .ok (.aload_n 0, 1) := by decide +kernel
theorem dX8_shop_1 : decode cX8_shop 1 = .ok (.iconst 0, 1) := by decide +kernel
theorem dX8_shop_2 : decode cX8_shop 2 = .ok (.putfield 67, 3) := by decide +kernel
theorem dX8_shop_5 : decode cX8_shop 5 = .ok (.aload_n 0, 1) := by decide +kernel
theorem dX8_shop_6 : decode cX8_shop 6 = .ok (.iconst 0, 1) := by decide +kernel
theorem dX8_shop_7 : decode cX8_shop 7 = .ok (.putfield 90, 3) := by decide +kernel
theorem dX8_shop_10 : decode cX8_shop 10 = .ok (.aload_n 0, 1) := by decide +kernel
theorem dX8_shop_11 : decode cX8_shop 11 = .ok (.iconst 0, 1) := by decide +kernel
theorem dX8_shop_12 : decode cX8_shop 12 = .ok (.putfield 116, 3) := by decide +kernel
theorem dX8_shop_15 : decode cX8_shop 15 = .ok (.aload_n 0, 1) := by decide +kernel
theorem dX8_shop_16 : decode cX8_shop 16 = .ok (.iconst 0, 1) := by decide +kernel
theorem dX8_shop_17 : decode cX8_shop 17 = .ok (.putfield 97, 3) := by decide +kernel
theorem dX8_shop_20 : decode cX8_shop 20 = .ok (.aload_n 0, 1) := by decide +kernel
theorem dX8_shop_21 : decode cX8_shop 21 = .ok (.iconst (-1), 1) := by decide +kernel
theorem dX8_shop_22 : decode cX8_shop 22 = .ok (.putfield 104, 3) := by decide +kernel
theorem dX8_shop_25 : decode cX8_shop 25 = .ok (.aload_n 0, 1) := by decide +kernel
theorem dX8_shop_26 : decode cX8_shop 26 = .ok (.iconst (-1), 1) := by decide +kernel
theorem dX8_shop_27 : decode cX8_shop 27 = .ok (.putfield 107, 3) := by decide +kernel
theorem dX8_shop_30 : decode cX8_shop 30 = .ok (.aload_n 0, 1) := by decide +kernel
theorem dX8_shop_31 : decode cX8_shop 31 = .ok (.invokevirtual 94, 3) := by decide +kernel
theorem dX8_shop_34 : decode cX8_shop 34 = .ok (.aload_n 0, 1) := by decide +kernel
theorem dX8_shop_35 : decode cX8_shop 35 = .ok (.getfield 80, 3) := by decide +kernel
theorem dX8_shop_38 : decode cX8_shop 38 = .ok (.ifCond .eq 27, 3) := by decide +kernel
theorem dX8_shop_41 : decode cX8_shop 41 = .ok (.aload_n 0, 1) := by decide +kernel
theorem dX8_shop_42 : decode cX8_shop 42 = .ok (.getfield 90, 3) := by decide +kernel
theorem dX8_shop_45 : decode cX8_shop 45 = .ok (.ifCond .ne 20, 3) := by decide +kernel
theorem dX8_shop_48 : decode cX8_shop 48 = .ok (.aload_n 0, 1) := by decide +kernel
theorem dX8_shop_49 : decode cX8_shop 49 = .ok (.invokevirtual 119, 3) := by decide +kernel
theorem dX8_shop_52 : decode cX8_shop 52 = .ok (.aload_n 0, 1) := by decide +kernel
theorem dX8_shop_53 : decode cX8_shop 53 = .ok (.dup, 1) := by decide +kernel
theorem dX8_shop_54 : decode cX8_shop 54 = .ok (.getfield 116, 3) := by decide +kernel
theorem dX8_shop_57 : decode cX8_shop 57 = .ok (.iconst 1, 1) := by decide +kernel
theorem dX8_shop_58 : decode cX8_shop 58 = .ok (.iadd, 1) := by decide +kernel
theorem dX8_shop_59 : decode cX8_shop 59 = .ok (.putfield 116, 3) := by decide +kernel
theorem dX8_shop_62 : decode cX8_shop 62 = .ok (.goto (-28), 3) := by decide +kernel
theorem dX8_shop_65 : decode cX8_shop 65 = .ok (.aload_n 0, 1) := by decide +kernel
theorem dX8_shop_66 : decode cX8_shop 66 = .ok (.getfield 90, 3) := by decide +kernel
theorem dX8_shop_69 : decode cX8_shop 69 = .ok (.ifCond .eq 11, 3) := by decide +kernel
theorem dX8_shop_72 : decode cX8_shop 72 = .ok (.bipush (-10), 2) := by decide +kernel
theorem dX8_shop_74 : decode cX8_shop 74 = .ok (.aload_n 0, 1) := by decide +kernel
theorem dX8_shop_75 : decode cX8_shop 75 = .ok (.getfield 74, 3) := by decide +kernel
theorem dX8_shop_78 : decode cX8_shop 78 = .ok (.isub, 1) := by decide +kernel
theorem dX8_shop_79 : decode cX8_shop 79 = .ok (.ireturn, 1) := by decide +kernel
theorem dX8_shop_80 : decode cX8_shop 80 = .ok (.aload_n 0, 1) := by decide +kernel
theorem dX8_shop_81 : decode cX8_shop 81 = .ok (.invokevirtual 122, 3) := by decide +kernel
theorem dX8_shop_84 : decode cX8_shop 84 = .ok (.aload_n 0, 1) := by decide +kernel
theorem dX8_shop_85 : decode cX8_shop 85 = .ok (.getfield 116, 3) := by decide +kernel
theorem dX8_shop_88 : decode cX8_shop 88 = .ok (.ireturn, 1) := by decide +kernel
theorem dX8_settles_0 : decode cX8_settles 0 = .ok (.aload_n 0, 1) := by decide +kernel
theorem dX8_settles_1 : decode cX8_settles 1 = .ok (.aload_n 0, 1) := by decide +kernel
theorem dX8_settles_2 : decode cX8_settles 2 = .ok (.getfield 97, 3) := by decide +kernel
theorem dX8_settles_5 : decode cX8_settles 5 = .ok (.putfield 57, 3) := by decide +kernel
theorem dX8_settles_8 : decode cX8_settles 8 = .ok (.iconst 0, 1) := by decide +kernel
theorem dX8_settles_9 : decode cX8_settles 9 = .ok (.istore_n 1, 1) := by decide +kernel
theorem dX8_settles_10 : decode cX8_settles 10 = .ok (.iload_n 1, 1) := by decide +kernel
theorem dX8_settles_11 : decode cX8_settles 11 = .ok (.iconst 5, 1) := by decide +kernel
theorem dX8_settles_12 : decode cX8_settles 12 = .ok (.if_icmp .ge 33, 3) := by decide +kernel
theorem dX8_settles_15 : decode cX8_settles 15 = .ok (.aload_n 0, 1) := by decide +kernel
theorem dX8_settles_16 : decode cX8_settles 16 = .ok (.getfield 7, 3) := by decide +kernel
theorem dX8_settles_19 : decode cX8_settles 19 = .ok (.iload_n 1, 1) := by decide +kernel
theorem dX8_settles_20 : decode cX8_settles 20 = .ok (.aload_n 0, 1) := by decide +kernel
theorem dX8_settles_21 : decode cX8_settles 21 = .ok (.getfield 42, 3) := by decide +kernel
theorem dX8_settles_24 : decode cX8_settles 24 = .ok (.iload_n 1, 1) := by decide +kernel
theorem dX8_settles_25 : decode cX8_settles 25 = .ok (.iaload, 1) := by decide +kernel
theorem dX8_settles_26 : decode cX8_settles 26 = .ok (.iastore, 1) := by decide +kernel
theorem dX8_settles_27 : decode cX8_settles 27 = .ok (.aload_n 0, 1) := by decide +kernel
theorem dX8_settles_28 : decode cX8_settles 28 = .ok (.getfield 13, 3) := by decide +kernel
theorem dX8_settles_31 : decode cX8_settles 31 = .ok (.iload_n 1, 1) := by decide +kernel
theorem dX8_settles_32 : decode cX8_settles 32 = .ok (.aload_n 0, 1) := by decide +kernel
theorem dX8_settles_33 : decode cX8_settles 33 = .ok (.getfield 45, 3) := by decide +kernel
theorem dX8_settles_36 : decode cX8_settles 36 = .ok (.iload_n 1, 1) := by decide +kernel
theorem dX8_settles_37 : decode cX8_settles 37 = .ok (.iaload, 1) := by decide +kernel
theorem dX8_settles_38 : decode cX8_settles 38 = .ok (.iastore, 1) := by decide +kernel
theorem dX8_settles_39 : decode cX8_settles 39 = .ok (.iinc 1 1, 3) := by decide +kernel
theorem dX8_settles_42 : decode cX8_settles 42 = .ok (.goto (-32), 3) := by decide +kernel
theorem dX8_settles_45 : decode cX8_settles 45 = .ok (.iconst 0, 1) := by decide +kernel
theorem dX8_settles_46 : decode cX8_settles 46 = .ok (.istore_n 1, 1) := by decide +kernel
theorem dX8_settles_47 : decode cX8_settles 47 = .ok (.iload_n 1, 1) := by decide +kernel
theorem dX8_settles_48 : decode cX8_settles 48 = .ok (.bipush 35, 2) := by decide +kernel
theorem dX8_settles_50 : decode cX8_settles 50 = .ok (.if_icmp .ge 21, 3) := by decide +kernel
theorem dX8_settles_53 : decode cX8_settles 53 = .ok (.aload_n 0, 1) := by decide +kernel
theorem dX8_settles_54 : decode cX8_settles 54 = .ok (.getfield 16, 3) := by decide +kernel
theorem dX8_settles_57 : decode cX8_settles 57 = .ok (.iload_n 1, 1) := by decide +kernel
theorem dX8_settles_58 : decode cX8_settles 58 = .ok (.aload_n 0, 1) := by decide +kernel
theorem dX8_settles_59 : decode cX8_settles 59 = .ok (.getfield 48, 3) := by decide +kernel
theorem dX8_settles_62 : decode cX8_settles 62 = .ok (.iload_n 1, 1) := by decide +kernel
theorem dX8_settles_63 : decode cX8_settles 63 = .ok (.iaload, 1) := by decide +kernel
theorem dX8_settles_64 : decode cX8_settles 64 = .ok (.iastore, 1) := by decide +kernel
theorem dX8_settles_65 : decode cX8_settles 65 = .ok (.iinc 1 1, 3) := by decide +kernel
theorem dX8_settles_68 : decode cX8_settles 68 = .ok (.goto (-21), 3) := by decide +kernel
theorem dX8_settles_71 : decode cX8_settles 71 = .ok (.aload_n 0, 1) := by decide +kernel
theorem dX8_settles_72 : decode cX8_settles 72 = .ok (.aload_n 0, 1) := by decide +kernel
theorem dX8_settles_73 : decode cX8_settles 73 = .ok (.getfield 104, 3) := by decide +kernel
theorem dX8_settles_76 : decode cX8_settles 76 = .ok (.ifCond .ge 8, 3) := by decide +kernel
theorem dX8_settles_79 : decode cX8_settles 79 = .ok (.bipush 12, 2) := by decide +kernel
theorem dX8_settles_81 : decode cX8_settles 81 = .ok (.goto 7, 3) := by decide +kernel
theorem dX8_settles_84 : decode cX8_settles 84 = .ok (.aload_n 0, 1) := by decide +kernel
theorem dX8_settles_85 : decode cX8_settles 85 = .ok (.getfield 104, 3) := by decide +kernel
theorem dX8_settles_88 : decode cX8_settles 88 = .ok (.putfield 19, 3) := by decide +kernel
theorem dX8_settles_91 : decode cX8_settles 91 = .ok (.iconst 0, 1) := by decide +kernel
theorem dX8_settles_92 : decode cX8_settles 92 = .ok (.istore_n 1, 1) := by decide +kernel
theorem dX8_settles_93 : decode cX8_settles 93 = .ok (.iload_n 1, 1) := by decide +kernel
theorem dX8_settles_94 : decode cX8_settles 94 = .ok (.sipush 1233, 3) := by decide +kernel
theorem dX8_settles_97 : decode cX8_settles 97 = .ok (.if_icmp .ge 16, 3) := by decide +kernel
theorem dX8_settles_100 : decode cX8_settles 100 = .ok (.aload_n 0, 1) := by decide +kernel
theorem dX8_settles_101 : decode cX8_settles 101 = .ok (.getfield 23, 3) := by decide +kernel
theorem dX8_settles_104 : decode cX8_settles 104 = .ok (.iload_n 1, 1) := by decide +kernel
theorem dX8_settles_105 : decode cX8_settles 105 = .ok (.iconst 0, 1) := by decide +kernel
theorem dX8_settles_106 : decode cX8_settles 106 = .ok (.iastore, 1) := by decide +kernel
theorem dX8_settles_107 : decode cX8_settles 107 = .ok (.iinc 1 1, 3) := by decide +kernel
theorem dX8_settles_110 : decode cX8_settles 110 = .ok (.goto (-17), 3) := by decide +kernel
theorem dX8_settles_113 : decode cX8_settles 113 = .ok (.aload_n 0, 1) := by decide +kernel
theorem dX8_settles_114 : decode cX8_settles 114 = .ok (.getfield 23, 3) := by decide +kernel
theorem dX8_settles_117 : decode cX8_settles 117 = .ok (.iconst 1, 1) := by decide +kernel
theorem dX8_settles_118 : decode cX8_settles 118 = .ok (.aload_n 0, 1) := by decide +kernel
theorem dX8_settles_119 : decode cX8_settles 119 = .ok (.getfield 107, 3) := by decide +kernel
theorem dX8_settles_122 : decode cX8_settles 122 = .ok (.ifCond .ge 7, 3) := by decide +kernel
theorem dX8_settles_125 : decode cX8_settles 125 = .ok (.iconst 0, 1) := by decide +kernel
theorem dX8_settles_126 : decode cX8_settles 126 = .ok (.goto 7, 3) := by decide +kernel
theorem dX8_settles_129 : decode cX8_settles 129 = .ok (.aload_n 0, 1) := by decide +kernel
theorem dX8_settles_130 : decode cX8_settles 130 = .ok (.getfield 107, 3) := by decide +kernel
theorem dX8_settles_133 : decode cX8_settles 133 = .ok (.iastore, 1) := by decide +kernel
theorem dX8_settles_134 : decode cX8_settles 134 = .ok (.iconst 0, 1) := by decide +kernel
theorem dX8_settles_135 : decode cX8_settles 135 = .ok (.istore_n 1, 1) := by decide +kernel
theorem dX8_settles_136 : decode cX8_settles 136 = .ok (.iload_n 1, 1) := by decide +kernel
theorem dX8_settles_137 : decode cX8_settles 137 = .ok (.iconst 5, 1) := by decide +kernel
theorem dX8_settles_138 : decode cX8_settles 138 = .ok (.if_icmp .ge 20, 3) := by decide +kernel
theorem dX8_settles_141 : decode cX8_settles 141 = .ok (.aload_n 0, 1) := by decide +kernel
theorem dX8_settles_142 : decode cX8_settles 142 = .ok (.getfield 23, 3) := by decide +kernel
theorem dX8_settles_145 : decode cX8_settles 145 = .ok (.bipush 67, 2) := by decide +kernel
theorem dX8_settles_147 : decode cX8_settles 147 = .ok (.iload_n 1, 1) := by decide +kernel
theorem dX8_settles_148 : decode cX8_settles 148 = .ok (.iadd, 1) := by decide +kernel
theorem dX8_settles_149 : decode cX8_settles 149 = .ok (.bipush (-9), 2) := by decide +kernel
theorem dX8_settles_151 : decode cX8_settles 151 = .ok (.iastore, 1) := by decide +kernel
theorem dX8_settles_152 : decode cX8_settles 152 = .ok (.iinc 1 1, 3) := by decide +kernel
theorem dX8_settles_155 : decode cX8_settles 155 = .ok (.goto (-19), 3) := by decide +kernel
theorem dX8_settles_158 : decode cX8_settles 158 = .ok (.aload_n 0, 1) := by decide +kernel
theorem dX8_settles_159 : decode cX8_settles 159 = .ok (.iconst 0, 1) := by decide +kernel
theorem dX8_settles_160 : decode cX8_settles 160 = .ok (.putfield 125, 3) := by decide +kernel
theorem dX8_settles_163 : decode cX8_settles 163 = .ok (.aload_n 0, 1) := by decide +kernel
theorem dX8_settles_164 : decode cX8_settles 164 = .ok (.iconst 0, 1) := by decide +kernel
theorem dX8_settles_165 : decode cX8_settles 165 = .ok (.putfield 128, 3) := by decide +kernel
theorem dX8_settles_168 : decode cX8_settles 168 = .ok (.aload_n 0, 1) := by decide +kernel
theorem dX8_settles_169 : decode cX8_settles 169 = .ok (.getfield 29, 3) := by decide +kernel
theorem dX8_settles_172 : decode cX8_settles 172 = .ok (.iconst 0, 1) := by decide +kernel
theorem dX8_settles_173 : decode cX8_settles 173 = .ok (.iconst 0, 1) := by decide +kernel
theorem dX8_settles_174 : decode cX8_settles 174 = .ok (.bastore, 1) := by decide +kernel
theorem dX8_settles_175 : decode cX8_settles 175 = .ok (.aload_n 0, 1) := by decide +kernel
theorem dX8_settles_176 : decode cX8_settles 176 = .ok (.getfield 29, 3) := by decide +kernel
theorem dX8_settles_179 : decode cX8_settles 179 = .ok (.iconst 1, 1) := by decide +kernel
theorem dX8_settles_180 : decode cX8_settles 180 = .ok (.iconst 0, 1) := by decide +kernel
theorem dX8_settles_181 : decode cX8_settles 181 = .ok (.bastore, 1) := by decide +kernel
theorem dX8_settles_182 : decode cX8_settles 182 = .ok (.aload_n 0, 1) := by decide +kernel
theorem dX8_settles_183 : decode cX8_settles 183 = .ok (.iconst 0, 1) := by decide +kernel
theorem dX8_settles_184 : decode cX8_settles 184 = .ok (.putfield 64, 3) := by decide +kernel
theorem dX8_settles_187 : decode cX8_settles 187 = .ok (.return_, 1) := by decide +kernel
theorem dX8_layerOf_0 : decode cX8_layerOf 0 = .ok (.aload_n 0, 1) := by decide +kernel
theorem dX8_layerOf_1 : decode cX8_layerOf 1 = .ok (.getfield 23, 3) := by decide +kernel
theorem dX8_layerOf_4 : decode cX8_layerOf 4 = .ok (.bipush 7, 2) := by decide +kernel
theorem dX8_layerOf_6 : decode cX8_layerOf 6 = .ok (.bipush 12, 2) := by decide +kernel
theorem dX8_layerOf_8 : decode cX8_layerOf 8 = .ok (.iload_n 1, 1) := by decide +kernel
theorem dX8_layerOf_9 : decode cX8_layerOf 9 = .ok (.imul, 1) := by decide +kernel
theorem dX8_layerOf_10 : decode cX8_layerOf 10 = .ok (.iadd, 1) := by decide +kernel
theorem dX8_layerOf_11 : decode cX8_layerOf 11 = .ok (.iload_n 2, 1) := by decide +kernel
theorem dX8_layerOf_12 : decode cX8_layerOf 12 = .ok (.iadd, 1) := by decide +kernel
theorem dX8_layerOf_13 : decode cX8_layerOf 13 = .ok (.iaload, 1) := by decide +kernel
theorem dX8_layerOf_14 : decode cX8_layerOf 14 = .ok (.ireturn, 1) := by decide +kernel
theorem dX8_layersOf_0 : decode cX8_layersOf 0 = .ok (.iconst 0, 1) := by decide +kernel
theorem dX8_layersOf_1 : decode cX8_layersOf 1 = .ok (.istore_n 3, 1) := by decide +kernel
theorem dX8_layersOf_2 : decode cX8_layersOf 2 = .ok (.iconst 0, 1) := by decide +kernel
theorem dX8_layersOf_3 : decode cX8_layersOf 3 = .ok (.istore 4, 2) := by decide +kernel
theorem dX8_layersOf_5 : decode cX8_layersOf 5 = .ok (.iload 4, 2) := by decide +kernel
theorem dX8_layersOf_7 : decode cX8_layersOf 7 = .ok (.aload_n 0, 1) := by decide +kernel
theorem dX8_layersOf_8 : decode cX8_layersOf 8 = .ok (.getfield 23, 3) := by decide +kernel
theorem dX8_layersOf_11 : decode cX8_layersOf 11 = .ok (.iconst 2, 1) := by decide +kernel
theorem dX8_layersOf_12 : decode cX8_layersOf 12 = .ok (.iload_n 1, 1) := by decide +kernel
theorem dX8_layersOf_13 : decode cX8_layersOf 13 = .ok (.iadd, 1) := by decide +kernel
theorem dX8_layersOf_14 : decode cX8_layersOf 14 = .ok (.iaload, 1) := by decide +kernel
theorem dX8_layersOf_15 : decode cX8_layersOf 15 = .ok (.if_icmp .ge 28, 3) := by decide +kernel
theorem dX8_layersOf_18 : decode cX8_layersOf 18 = .ok (.iload_n 3, 1) := by decide +kernel
theorem dX8_layersOf_19 : decode cX8_layersOf 19 = .ok (.aload_n 0, 1) := by decide +kernel
theorem dX8_layersOf_20 : decode cX8_layersOf 20 = .ok (.iload_n 1, 1) := by decide +kernel
theorem dX8_layersOf_21 : decode cX8_layersOf 21 = .ok (.iload 4, 2) := by decide +kernel
theorem dX8_layersOf_23 : decode cX8_layersOf 23 = .ok (.invokevirtual 131, 3) := by decide +kernel
theorem dX8_layersOf_26 : decode cX8_layersOf 26 = .ok (.iload_n 2, 1) := by decide +kernel
theorem dX8_layersOf_27 : decode cX8_layersOf 27 = .ok (.if_icmp .ne 7, 3) := by decide +kernel
theorem dX8_layersOf_30 : decode cX8_layersOf 30 = .ok (.iconst 1, 1) := by decide +kernel
theorem dX8_layersOf_31 : decode cX8_layersOf 31 = .ok (.goto 4, 3) := by decide +kernel
theorem dX8_layersOf_34 : decode cX8_layersOf 34 = .ok (.iconst 0, 1) := by decide +kernel
theorem dX8_layersOf_35 : decode cX8_layersOf 35 = .ok (.iadd, 1) := by decide +kernel
theorem dX8_layersOf_36 : decode cX8_layersOf 36 = .ok (.istore_n 3, 1) := by decide +kernel
theorem dX8_layersOf_37 : decode cX8_layersOf 37 = .ok (.iinc 4 1, 3) := by decide +kernel
theorem dX8_layersOf_40 : decode cX8_layersOf 40 = .ok (.goto (-35), 3) := by decide +kernel
theorem dX8_layersOf_43 : decode cX8_layersOf 43 = .ok (.iload_n 3, 1) := by decide +kernel
theorem dX8_layersOf_44 : decode cX8_layersOf 44 = .ok (.ireturn, 1) := by decide +kernel
theorem dX8_inJar_0 : decode cX8_inJar 0 = .ok (.iconst 0, 1) := by decide +kernel
theorem dX8_inJar_1 : decode cX8_inJar 1 = .ok (.istore_n 2, 1) := by decide +kernel
theorem dX8_inJar_2 : decode cX8_inJar 2 = .ok (.iconst 0, 1) := by decide +kernel
theorem dX8_inJar_3 : decode cX8_inJar 3 = .ok (.istore_n 3, 1) := by decide +kernel
theorem dX8_inJar_4 : decode cX8_inJar 4 = .ok (.iload_n 3, 1) := by decide +kernel
theorem dX8_inJar_5 : decode cX8_inJar 5 = .ok (.bipush 10, 2) := by decide +kernel
theorem dX8_inJar_7 : decode cX8_inJar 7 = .ok (.if_icmp .ge 26, 3) := by decide +kernel
theorem dX8_inJar_10 : decode cX8_inJar 10 = .ok (.iload_n 2, 1) := by decide +kernel
theorem dX8_inJar_11 : decode cX8_inJar 11 = .ok (.aload_n 0, 1) := by decide +kernel
theorem dX8_inJar_12 : decode cX8_inJar 12 = .ok (.getfield 23, 3) := by decide +kernel
theorem dX8_inJar_15 : decode cX8_inJar 15 = .ok (.bipush 72, 2) := by decide +kernel
theorem dX8_inJar_17 : decode cX8_inJar 17 = .ok (.bipush 10, 2) := by decide +kernel
theorem dX8_inJar_19 : decode cX8_inJar 19 = .ok (.iload_n 1, 1) := by decide +kernel
theorem dX8_inJar_20 : decode cX8_inJar 20 = .ok (.imul, 1) := by decide +kernel
theorem dX8_inJar_21 : decode cX8_inJar 21 = .ok (.iadd, 1) := by decide +kernel
theorem dX8_inJar_22 : decode cX8_inJar 22 = .ok (.iload_n 3, 1) := by decide +kernel
theorem dX8_inJar_23 : decode cX8_inJar 23 = .ok (.iadd, 1) := by decide +kernel
theorem dX8_inJar_24 : decode cX8_inJar 24 = .ok (.iaload, 1) := by decide +kernel
theorem dX8_inJar_25 : decode cX8_inJar 25 = .ok (.iadd, 1) := by decide +kernel
theorem dX8_inJar_26 : decode cX8_inJar 26 = .ok (.istore_n 2, 1) := by decide +kernel
theorem dX8_inJar_27 : decode cX8_inJar 27 = .ok (.iinc 3 1, 3) := by decide +kernel
theorem dX8_inJar_30 : decode cX8_inJar 30 = .ok (.goto (-26), 3) := by decide +kernel
theorem dX8_inJar_33 : decode cX8_inJar 33 = .ok (.iload_n 2, 1) := by decide +kernel
theorem dX8_inJar_34 : decode cX8_inJar 34 = .ok (.ireturn, 1) := by decide +kernel
theorem dX8_one_0 : decode cX8_one 0 = .ok (.aload_n 0, 1) := by decide +kernel
theorem dX8_one_1 : decode cX8_one 1 = .ok (.iload_n 1, 1) := by decide +kernel
theorem dX8_one_2 : decode cX8_one 2 = .ok (.invokevirtual 134, 3) := by decide +kernel
theorem dX8_one_5 : decode cX8_one 5 = .ok (.ifCond .ne 5, 3) := by decide +kernel
theorem dX8_one_8 : decode cX8_one 8 = .ok (.iconst (-1), 1) := by decide +kernel
theorem dX8_one_9 : decode cX8_one 9 = .ok (.ireturn, 1) := by decide +kernel
theorem dX8_one_10 : decode cX8_one 10 = .ok (.iload_n 2, 1) := by decide +kernel
theorem dX8_one_11 : decode cX8_one 11 = .ok (.tableswitch 78 0 4 #[33, 40, 47, 56, 66], 33) := by decide +kernel
theorem dX8_one_44 : decode cX8_one 44 = .ok (.aload_n 0, 1) := by decide +kernel
theorem dX8_one_45 : decode cX8_one 45 = .ok (.getfield 7, 3) := by decide +kernel
theorem dX8_one_48 : decode cX8_one 48 = .ok (.iload_n 1, 1) := by decide +kernel
theorem dX8_one_49 : decode cX8_one 49 = .ok (.iaload, 1) := by decide +kernel
theorem dX8_one_50 : decode cX8_one 50 = .ok (.ireturn, 1) := by decide +kernel
theorem dX8_one_51 : decode cX8_one 51 = .ok (.aload_n 0, 1) := by decide +kernel
theorem dX8_one_52 : decode cX8_one 52 = .ok (.getfield 13, 3) := by decide +kernel
theorem dX8_one_55 : decode cX8_one 55 = .ok (.iload_n 1, 1) := by decide +kernel
theorem dX8_one_56 : decode cX8_one 56 = .ok (.iaload, 1) := by decide +kernel
theorem dX8_one_57 : decode cX8_one 57 = .ok (.ireturn, 1) := by decide +kernel
theorem dX8_one_58 : decode cX8_one 58 = .ok (.aload_n 0, 1) := by decide +kernel
theorem dX8_one_59 : decode cX8_one 59 = .ok (.getfield 23, 3) := by decide +kernel
theorem dX8_one_62 : decode cX8_one 62 = .ok (.iconst 2, 1) := by decide +kernel
theorem dX8_one_63 : decode cX8_one 63 = .ok (.iload_n 1, 1) := by decide +kernel
theorem dX8_one_64 : decode cX8_one 64 = .ok (.iadd, 1) := by decide +kernel
theorem dX8_one_65 : decode cX8_one 65 = .ok (.iaload, 1) := by decide +kernel
theorem dX8_one_66 : decode cX8_one 66 = .ok (.ireturn, 1) := by decide +kernel
theorem dX8_one_67 : decode cX8_one 67 = .ok (.aload_n 0, 1) := by decide +kernel
theorem dX8_one_68 : decode cX8_one 68 = .ok (.getfield 23, 3) := by decide +kernel
theorem dX8_one_71 : decode cX8_one 71 = .ok (.bipush 67, 2) := by decide +kernel
theorem dX8_one_73 : decode cX8_one 73 = .ok (.iload_n 1, 1) := by decide +kernel
theorem dX8_one_74 : decode cX8_one 74 = .ok (.iadd, 1) := by decide +kernel
theorem dX8_one_75 : decode cX8_one 75 = .ok (.iaload, 1) := by decide +kernel
theorem dX8_one_76 : decode cX8_one 76 = .ok (.ireturn, 1) := by decide +kernel
theorem dX8_one_77 : decode cX8_one 77 = .ok (.aload_n 0, 1) := by decide +kernel
theorem dX8_one_78 : decode cX8_one 78 = .ok (.iload_n 1, 1) := by decide +kernel
theorem dX8_one_79 : decode cX8_one 79 = .ok (.aload_n 0, 1) := by decide +kernel
theorem dX8_one_80 : decode cX8_one 80 = .ok (.getfield 7, 3) := by decide +kernel
theorem dX8_one_83 : decode cX8_one 83 = .ok (.iload_n 1, 1) := by decide +kernel
theorem dX8_one_84 : decode cX8_one 84 = .ok (.iaload, 1) := by decide +kernel
theorem dX8_one_85 : decode cX8_one 85 = .ok (.invokevirtual 137, 3) := by decide +kernel
theorem dX8_one_88 : decode cX8_one 88 = .ok (.ireturn, 1) := by decide +kernel
theorem dX8_one_89 : decode cX8_one 89 = .ok (.iconst (-1), 1) := by decide +kernel
theorem dX8_one_90 : decode cX8_one 90 = .ok (.ireturn, 1) := by decide +kernel
theorem dX8_week_0 : decode cX8_week 0 = .ok (.aload_n 0, 1) := by decide +kernel
theorem dX8_week_1 : decode cX8_week 1 = .ok (.iload_n 1, 1) := by decide +kernel
theorem dX8_week_2 : decode cX8_week 2 = .ok (.invokevirtual 134, 3) := by decide +kernel
theorem dX8_week_5 : decode cX8_week 5 = .ok (.ifCond .eq 13, 3) := by decide +kernel
theorem dX8_week_8 : decode cX8_week 8 = .ok (.iload_n 2, 1) := by decide +kernel
theorem dX8_week_9 : decode cX8_week 9 = .ok (.iconst 0, 1) := by decide +kernel
theorem dX8_week_10 : decode cX8_week 10 = .ok (.bipush 6, 2) := by decide +kernel
theorem dX8_week_12 : decode cX8_week 12 = .ok (.invokestatic 60, 3) := by decide +kernel
theorem dX8_week_15 : decode cX8_week 15 = .ok (.ifCond .ne 5, 3) := by decide +kernel
theorem dX8_week_18 : decode cX8_week 18 = .ok (.iconst (-1), 1) := by decide +kernel
theorem dX8_week_19 : decode cX8_week 19 = .ok (.ireturn, 1) := by decide +kernel
theorem dX8_week_20 : decode cX8_week 20 = .ok (.iload_n 2, 1) := by decide +kernel
theorem dX8_week_21 : decode cX8_week 21 = .ok (.aload_n 0, 1) := by decide +kernel
theorem dX8_week_22 : decode cX8_week 22 = .ok (.getfield 13, 3) := by decide +kernel
theorem dX8_week_25 : decode cX8_week 25 = .ok (.iload_n 1, 1) := by decide +kernel
theorem dX8_week_26 : decode cX8_week 26 = .ok (.iaload, 1) := by decide +kernel
theorem dX8_week_27 : decode cX8_week 27 = .ok (.if_icmp .ge 17, 3) := by decide +kernel
theorem dX8_week_30 : decode cX8_week 30 = .ok (.aload_n 0, 1) := by decide +kernel
theorem dX8_week_31 : decode cX8_week 31 = .ok (.getfield 16, 3) := by decide +kernel
theorem dX8_week_34 : decode cX8_week 34 = .ok (.bipush 7, 2) := by decide +kernel
theorem dX8_week_36 : decode cX8_week 36 = .ok (.iload_n 1, 1) := by decide +kernel
theorem dX8_week_37 : decode cX8_week 37 = .ok (.imul, 1) := by decide +kernel
theorem dX8_week_38 : decode cX8_week 38 = .ok (.iload_n 2, 1) := by decide +kernel
theorem dX8_week_39 : decode cX8_week 39 = .ok (.iadd, 1) := by decide +kernel
theorem dX8_week_40 : decode cX8_week 40 = .ok (.iaload, 1) := by decide +kernel
theorem dX8_week_41 : decode cX8_week 41 = .ok (.goto 5, 3) := by decide +kernel
theorem dX8_week_44 : decode cX8_week 44 = .ok (.bipush (-9), 2) := by decide +kernel
theorem dX8_week_46 : decode cX8_week 46 = .ok (.ireturn, 1) := by decide +kernel
theorem dX8_layer_0 : decode cX8_layer 0 = .ok (.aload_n 0, 1) := by decide +kernel
theorem dX8_layer_1 : decode cX8_layer 1 = .ok (.iload_n 1, 1) := by decide +kernel
theorem dX8_layer_2 : decode cX8_layer 2 = .ok (.invokevirtual 134, 3) := by decide +kernel
theorem dX8_layer_5 : decode cX8_layer 5 = .ok (.ifCond .eq 13, 3) := by decide +kernel
theorem dX8_layer_8 : decode cX8_layer 8 = .ok (.iload_n 2, 1) := by decide +kernel
theorem dX8_layer_9 : decode cX8_layer 9 = .ok (.iconst 0, 1) := by decide +kernel
theorem dX8_layer_10 : decode cX8_layer 10 = .ok (.bipush 11, 2) := by decide +kernel
theorem dX8_layer_12 : decode cX8_layer 12 = .ok (.invokestatic 60, 3) := by decide +kernel
theorem dX8_layer_15 : decode cX8_layer 15 = .ok (.ifCond .ne 5, 3) := by decide +kernel
theorem dX8_layer_18 : decode cX8_layer 18 = .ok (.iconst (-1), 1) := by decide +kernel
theorem dX8_layer_19 : decode cX8_layer 19 = .ok (.ireturn, 1) := by decide +kernel
theorem dX8_layer_20 : decode cX8_layer 20 = .ok (.iload_n 2, 1) := by decide +kernel
theorem dX8_layer_21 : decode cX8_layer 21 = .ok (.aload_n 0, 1) := by decide +kernel
theorem dX8_layer_22 : decode cX8_layer 22 = .ok (.getfield 23, 3) := by decide +kernel
theorem dX8_layer_25 : decode cX8_layer 25 = .ok (.iconst 2, 1) := by decide +kernel
theorem dX8_layer_26 : decode cX8_layer 26 = .ok (.iload_n 1, 1) := by decide +kernel
theorem dX8_layer_27 : decode cX8_layer 27 = .ok (.iadd, 1) := by decide +kernel
theorem dX8_layer_28 : decode cX8_layer 28 = .ok (.iaload, 1) := by decide +kernel
theorem dX8_layer_29 : decode cX8_layer 29 = .ok (.if_icmp .ge 12, 3) := by decide +kernel
theorem dX8_layer_32 : decode cX8_layer 32 = .ok (.aload_n 0, 1) := by decide +kernel
theorem dX8_layer_33 : decode cX8_layer 33 = .ok (.iload_n 1, 1) := by decide +kernel
theorem dX8_layer_34 : decode cX8_layer 34 = .ok (.iload_n 2, 1) := by decide +kernel
theorem dX8_layer_35 : decode cX8_layer 35 = .ok (.invokevirtual 131, 3) := by decide +kernel
theorem dX8_layer_38 : decode cX8_layer 38 = .ok (.goto 5, 3) := by decide +kernel
theorem dX8_layer_41 : decode cX8_layer 41 = .ok (.bipush (-9), 2) := by decide +kernel
theorem dX8_layer_43 : decode cX8_layer 43 = .ok (.ireturn, 1) := by decide +kernel
theorem dX8_jar_0 : decode cX8_jar 0 = .ok (.iload_n 1, 1) := by decide +kernel
theorem dX8_jar_1 : decode cX8_jar 1 = .ok (.invokestatic 140, 3) := by decide +kernel
theorem dX8_jar_4 : decode cX8_jar 4 = .ok (.ifCond .eq 27, 3) := by decide +kernel
theorem dX8_jar_7 : decode cX8_jar 7 = .ok (.iload_n 2, 1) := by decide +kernel
theorem dX8_jar_8 : decode cX8_jar 8 = .ok (.invokestatic 143, 3) := by decide +kernel
theorem dX8_jar_11 : decode cX8_jar 11 = .ok (.ifCond .eq 20, 3) := by decide +kernel
theorem dX8_jar_14 : decode cX8_jar 14 = .ok (.aload_n 0, 1) := by decide +kernel
theorem dX8_jar_15 : decode cX8_jar 15 = .ok (.getfield 23, 3) := by decide +kernel
theorem dX8_jar_18 : decode cX8_jar 18 = .ok (.bipush 72, 2) := by decide +kernel
theorem dX8_jar_20 : decode cX8_jar 20 = .ok (.bipush 10, 2) := by decide +kernel
theorem dX8_jar_22 : decode cX8_jar 22 = .ok (.iload_n 1, 1) := by decide +kernel
theorem dX8_jar_23 : decode cX8_jar 23 = .ok (.imul, 1) := by decide +kernel
theorem dX8_jar_24 : decode cX8_jar 24 = .ok (.iadd, 1) := by decide +kernel
theorem dX8_jar_25 : decode cX8_jar 25 = .ok (.iload_n 2, 1) := by decide +kernel
theorem dX8_jar_26 : decode cX8_jar 26 = .ok (.iadd, 1) := by decide +kernel
theorem dX8_jar_27 : decode cX8_jar 27 = .ok (.iaload, 1) := by decide +kernel
theorem dX8_jar_28 : decode cX8_jar 28 = .ok (.goto 4, 3) := by decide +kernel
theorem dX8_jar_31 : decode cX8_jar 31 = .ok (.iconst (-1), 1) := by decide +kernel
theorem dX8_jar_32 : decode cX8_jar 32 = .ok (.ireturn, 1) := by decide +kernel
theorem dX8_remembers_0 : decode cX8_remembers 0 = .ok (.aload_n 0, 1) := by decide +kernel
theorem dX8_remembers_1 : decode cX8_remembers 1 = .ok (.getfield 23, 3) := by decide +kernel
theorem dX8_remembers_4 : decode cX8_remembers 4 = .ok (.bipush 112, 2) := by decide +kernel
theorem dX8_remembers_6 : decode cX8_remembers 6 = .ok (.iaload, 1) := by decide +kernel
theorem dX8_remembers_7 : decode cX8_remembers 7 = .ok (.bipush 10, 2) := by decide +kernel
theorem dX8_remembers_9 : decode cX8_remembers 9 = .ok (.if_icmp .ne 45, 3) := by decide +kernel
theorem dX8_remembers_12 : decode cX8_remembers 12 = .ok (.bipush 113, 2) := by decide +kernel
theorem dX8_remembers_14 : decode cX8_remembers 14 = .ok (.istore_n 1, 1) := by decide +kernel
theorem dX8_remembers_15 : decode cX8_remembers 15 = .ok (.iload_n 1, 1) := by decide +kernel
theorem dX8_remembers_16 : decode cX8_remembers 16 = .ok (.sipush 1121, 3) := by decide +kernel
theorem dX8_remembers_19 : decode cX8_remembers 19 = .ok (.if_icmp .ge 24, 3) := by decide +kernel
theorem dX8_remembers_22 : decode cX8_remembers 22 = .ok (.aload_n 0, 1) := by decide +kernel
theorem dX8_remembers_23 : decode cX8_remembers 23 = .ok (.getfield 23, 3) := by decide +kernel
theorem dX8_remembers_26 : decode cX8_remembers 26 = .ok (.iload_n 1, 1) := by decide +kernel
theorem dX8_remembers_27 : decode cX8_remembers 27 = .ok (.aload_n 0, 1) := by decide +kernel
theorem dX8_remembers_28 : decode cX8_remembers 28 = .ok (.getfield 23, 3) := by decide +kernel
theorem dX8_remembers_31 : decode cX8_remembers 31 = .ok (.iload_n 1, 1) := by decide +kernel
theorem dX8_remembers_32 : decode cX8_remembers 32 = .ok (.bipush 112, 2) := by decide +kernel
theorem dX8_remembers_34 : decode cX8_remembers 34 = .ok (.iadd, 1) := by decide +kernel
theorem dX8_remembers_35 : decode cX8_remembers 35 = .ok (.iaload, 1) := by decide +kernel
theorem dX8_remembers_36 : decode cX8_remembers 36 = .ok (.iastore, 1) := by decide +kernel
theorem dX8_remembers_37 : decode cX8_remembers 37 = .ok (.iinc 1 1, 3) := by decide +kernel
theorem dX8_remembers_40 : decode cX8_remembers 40 = .ok (.goto (-25), 3) := by decide +kernel
theorem dX8_remembers_43 : decode cX8_remembers 43 = .ok (.aload_n 0, 1) := by decide +kernel
theorem dX8_remembers_44 : decode cX8_remembers 44 = .ok (.getfield 23, 3) := by decide +kernel
theorem dX8_remembers_47 : decode cX8_remembers 47 = .ok (.bipush 112, 2) := by decide +kernel
theorem dX8_remembers_49 : decode cX8_remembers 49 = .ok (.dup2, 1) := by decide +kernel
theorem dX8_remembers_50 : decode cX8_remembers 50 = .ok (.iaload, 1) := by decide +kernel
theorem dX8_remembers_51 : decode cX8_remembers 51 = .ok (.iconst 1, 1) := by decide +kernel
theorem dX8_remembers_52 : decode cX8_remembers 52 = .ok (.isub, 1) := by decide +kernel
theorem dX8_remembers_53 : decode cX8_remembers 53 = .ok (.iastore, 1) := by decide +kernel
theorem dX8_remembers_54 : decode cX8_remembers 54 = .ok (.bipush 113, 2) := by decide +kernel
theorem dX8_remembers_56 : decode cX8_remembers 56 = .ok (.bipush 112, 2) := by decide +kernel
theorem dX8_remembers_58 : decode cX8_remembers 58 = .ok (.aload_n 0, 1) := by decide +kernel
theorem dX8_remembers_59 : decode cX8_remembers 59 = .ok (.getfield 23, 3) := by decide +kernel
theorem dX8_remembers_62 : decode cX8_remembers 62 = .ok (.bipush 112, 2) := by decide +kernel
theorem dX8_remembers_64 : decode cX8_remembers 64 = .ok (.iaload, 1) := by decide +kernel
theorem dX8_remembers_65 : decode cX8_remembers 65 = .ok (.imul, 1) := by decide +kernel
theorem dX8_remembers_66 : decode cX8_remembers 66 = .ok (.iadd, 1) := by decide +kernel
theorem dX8_remembers_67 : decode cX8_remembers 67 = .ok (.istore_n 1, 1) := by decide +kernel
theorem dX8_remembers_68 : decode cX8_remembers 68 = .ok (.iconst 0, 1) := by decide +kernel
theorem dX8_remembers_69 : decode cX8_remembers 69 = .ok (.istore_n 2, 1) := by decide +kernel
theorem dX8_remembers_70 : decode cX8_remembers 70 = .ok (.iload_n 2, 1) := by decide +kernel
theorem dX8_remembers_71 : decode cX8_remembers 71 = .ok (.bipush 112, 2) := by decide +kernel
theorem dX8_remembers_73 : decode cX8_remembers 73 = .ok (.if_icmp .ge 23, 3) := by decide +kernel
theorem dX8_remembers_76 : decode cX8_remembers 76 = .ok (.aload_n 0, 1) := by decide +kernel
theorem dX8_remembers_77 : decode cX8_remembers 77 = .ok (.getfield 23, 3) := by decide +kernel
theorem dX8_remembers_80 : decode cX8_remembers 80 = .ok (.iload_n 1, 1) := by decide +kernel
theorem dX8_remembers_81 : decode cX8_remembers 81 = .ok (.iload_n 2, 1) := by decide +kernel
theorem dX8_remembers_82 : decode cX8_remembers 82 = .ok (.iadd, 1) := by decide +kernel
theorem dX8_remembers_83 : decode cX8_remembers 83 = .ok (.aload_n 0, 1) := by decide +kernel
theorem dX8_remembers_84 : decode cX8_remembers 84 = .ok (.getfield 23, 3) := by decide +kernel
theorem dX8_remembers_87 : decode cX8_remembers 87 = .ok (.iload_n 2, 1) := by decide +kernel
theorem dX8_remembers_88 : decode cX8_remembers 88 = .ok (.iaload, 1) := by decide +kernel
theorem dX8_remembers_89 : decode cX8_remembers 89 = .ok (.iastore, 1) := by decide +kernel
theorem dX8_remembers_90 : decode cX8_remembers 90 = .ok (.iinc 2 1, 3) := by decide +kernel
theorem dX8_remembers_93 : decode cX8_remembers 93 = .ok (.goto (-23), 3) := by decide +kernel
theorem dX8_remembers_96 : decode cX8_remembers 96 = .ok (.aload_n 0, 1) := by decide +kernel
theorem dX8_remembers_97 : decode cX8_remembers 97 = .ok (.getfield 23, 3) := by decide +kernel
theorem dX8_remembers_100 : decode cX8_remembers 100 = .ok (.bipush 112, 2) := by decide +kernel
theorem dX8_remembers_102 : decode cX8_remembers 102 = .ok (.dup2, 1) := by decide +kernel
theorem dX8_remembers_103 : decode cX8_remembers 103 = .ok (.iaload, 1) := by decide +kernel
theorem dX8_remembers_104 : decode cX8_remembers 104 = .ok (.iconst 1, 1) := by decide +kernel
theorem dX8_remembers_105 : decode cX8_remembers 105 = .ok (.iadd, 1) := by decide +kernel
theorem dX8_remembers_106 : decode cX8_remembers 106 = .ok (.iastore, 1) := by decide +kernel
theorem dX8_remembers_107 : decode cX8_remembers 107 = .ok (.return_, 1) := by decide +kernel
theorem dX8_thinks_0 : decode cX8_thinks 0 = .ok (.iload_n 2, 1) := by decide +kernel
theorem dX8_thinks_1 : decode cX8_thinks 1 = .ok (.ifCond .ne 29, 3) := by decide +kernel
theorem dX8_thinks_4 : decode cX8_thinks 4 = .ok (.aload_n 0, 1) := by decide +kernel
theorem dX8_thinks_5 : decode cX8_thinks 5 = .ok (.getfield 23, 3) := by decide +kernel
theorem dX8_thinks_8 : decode cX8_thinks 8 = .ok (.bipush 67, 2) := by decide +kernel
theorem dX8_thinks_10 : decode cX8_thinks 10 = .ok (.iload_n 1, 1) := by decide +kernel
theorem dX8_thinks_11 : decode cX8_thinks 11 = .ok (.iadd, 1) := by decide +kernel
theorem dX8_thinks_12 : decode cX8_thinks 12 = .ok (.iaload, 1) := by decide +kernel
theorem dX8_thinks_13 : decode cX8_thinks 13 = .ok (.bipush (-9), 2) := by decide +kernel
theorem dX8_thinks_15 : decode cX8_thinks 15 = .ok (.if_icmp .eq 15, 3) := by decide +kernel
theorem dX8_thinks_18 : decode cX8_thinks 18 = .ok (.aload_n 0, 1) := by decide +kernel
theorem dX8_thinks_19 : decode cX8_thinks 19 = .ok (.getfield 23, 3) := by decide +kernel
theorem dX8_thinks_22 : decode cX8_thinks 22 = .ok (.bipush 67, 2) := by decide +kernel
theorem dX8_thinks_24 : decode cX8_thinks 24 = .ok (.iload_n 1, 1) := by decide +kernel
theorem dX8_thinks_25 : decode cX8_thinks 25 = .ok (.iadd, 1) := by decide +kernel
theorem dX8_thinks_26 : decode cX8_thinks 26 = .ok (.iaload, 1) := by decide +kernel
theorem dX8_thinks_27 : decode cX8_thinks 27 = .ok (.goto 28, 3) := by decide +kernel
theorem dX8_thinks_30 : decode cX8_thinks 30 = .ok (.aload_n 0, 1) := by decide +kernel
theorem dX8_thinks_31 : decode cX8_thinks 31 = .ok (.getfield 16, 3) := by decide +kernel
theorem dX8_thinks_34 : decode cX8_thinks 34 = .ok (.bipush 7, 2) := by decide +kernel
theorem dX8_thinks_36 : decode cX8_thinks 36 = .ok (.iload_n 1, 1) := by decide +kernel
theorem dX8_thinks_37 : decode cX8_thinks 37 = .ok (.imul, 1) := by decide +kernel
theorem dX8_thinks_38 : decode cX8_thinks 38 = .ok (.aload_n 0, 1) := by decide +kernel
theorem dX8_thinks_39 : decode cX8_thinks 39 = .ok (.getfield 23, 3) := by decide +kernel
theorem dX8_thinks_42 : decode cX8_thinks 42 = .ok (.iconst 0, 1) := by decide +kernel
theorem dX8_thinks_43 : decode cX8_thinks 43 = .ok (.iaload, 1) := by decide +kernel
theorem dX8_thinks_44 : decode cX8_thinks 44 = .ok (.iload_n 2, 1) := by decide +kernel
theorem dX8_thinks_45 : decode cX8_thinks 45 = .ok (.iadd, 1) := by decide +kernel
theorem dX8_thinks_46 : decode cX8_thinks 46 = .ok (.aload_n 0, 1) := by decide +kernel
theorem dX8_thinks_47 : decode cX8_thinks 47 = .ok (.getfield 13, 3) := by decide +kernel
theorem dX8_thinks_50 : decode cX8_thinks 50 = .ok (.iload_n 1, 1) := by decide +kernel
theorem dX8_thinks_51 : decode cX8_thinks 51 = .ok (.iaload, 1) := by decide +kernel
theorem dX8_thinks_52 : decode cX8_thinks 52 = .ok (.irem, 1) := by decide +kernel
theorem dX8_thinks_53 : decode cX8_thinks 53 = .ok (.iadd, 1) := by decide +kernel
theorem dX8_thinks_54 : decode cX8_thinks 54 = .ok (.iaload, 1) := by decide +kernel
theorem dX8_thinks_55 : decode cX8_thinks 55 = .ok (.ireturn, 1) := by decide +kernel
theorem dX8_loses_0 : decode cX8_loses 0 = .ok (.aload_n 0, 1) := by decide +kernel
theorem dX8_loses_1 : decode cX8_loses 1 = .ok (.getfield 23, 3) := by decide +kernel
theorem dX8_loses_4 : decode cX8_loses 4 = .ok (.iconst 2, 1) := by decide +kernel
theorem dX8_loses_5 : decode cX8_loses 5 = .ok (.iload_n 1, 1) := by decide +kernel
theorem dX8_loses_6 : decode cX8_loses 6 = .ok (.iadd, 1) := by decide +kernel
theorem dX8_loses_7 : decode cX8_loses 7 = .ok (.dup2, 1) := by decide +kernel
theorem dX8_loses_8 : decode cX8_loses 8 = .ok (.iaload, 1) := by decide +kernel
theorem dX8_loses_9 : decode cX8_loses 9 = .ok (.iload_n 2, 1) := by decide +kernel
theorem dX8_loses_10 : decode cX8_loses 10 = .ok (.isub, 1) := by decide +kernel
theorem dX8_loses_11 : decode cX8_loses 11 = .ok (.iastore, 1) := by decide +kernel
theorem dX8_loses_12 : decode cX8_loses 12 = .ok (.iconst 0, 1) := by decide +kernel
theorem dX8_loses_13 : decode cX8_loses 13 = .ok (.istore_n 3, 1) := by decide +kernel
theorem dX8_loses_14 : decode cX8_loses 14 = .ok (.iload_n 3, 1) := by decide +kernel
theorem dX8_loses_15 : decode cX8_loses 15 = .ok (.aload_n 0, 1) := by decide +kernel
theorem dX8_loses_16 : decode cX8_loses 16 = .ok (.getfield 23, 3) := by decide +kernel
theorem dX8_loses_19 : decode cX8_loses 19 = .ok (.iconst 2, 1) := by decide +kernel
theorem dX8_loses_20 : decode cX8_loses 20 = .ok (.iload_n 1, 1) := by decide +kernel
theorem dX8_loses_21 : decode cX8_loses 21 = .ok (.iadd, 1) := by decide +kernel
theorem dX8_loses_22 : decode cX8_loses 22 = .ok (.iaload, 1) := by decide +kernel
theorem dX8_loses_23 : decode cX8_loses 23 = .ok (.if_icmp .ge 39, 3) := by decide +kernel
theorem dX8_loses_26 : decode cX8_loses 26 = .ok (.aload_n 0, 1) := by decide +kernel
theorem dX8_loses_27 : decode cX8_loses 27 = .ok (.getfield 23, 3) := by decide +kernel
theorem dX8_loses_30 : decode cX8_loses 30 = .ok (.bipush 7, 2) := by decide +kernel
theorem dX8_loses_32 : decode cX8_loses 32 = .ok (.bipush 12, 2) := by decide +kernel
theorem dX8_loses_34 : decode cX8_loses 34 = .ok (.iload_n 1, 1) := by decide +kernel
theorem dX8_loses_35 : decode cX8_loses 35 = .ok (.imul, 1) := by decide +kernel
theorem dX8_loses_36 : decode cX8_loses 36 = .ok (.iadd, 1) := by decide +kernel
theorem dX8_loses_37 : decode cX8_loses 37 = .ok (.iload_n 3, 1) := by decide +kernel
theorem dX8_loses_38 : decode cX8_loses 38 = .ok (.iadd, 1) := by decide +kernel
theorem dX8_loses_39 : decode cX8_loses 39 = .ok (.aload_n 0, 1) := by decide +kernel
theorem dX8_loses_40 : decode cX8_loses 40 = .ok (.getfield 23, 3) := by decide +kernel
theorem dX8_loses_43 : decode cX8_loses 43 = .ok (.bipush 7, 2) := by decide +kernel
theorem dX8_loses_45 : decode cX8_loses 45 = .ok (.bipush 12, 2) := by decide +kernel
theorem dX8_loses_47 : decode cX8_loses 47 = .ok (.iload_n 1, 1) := by decide +kernel
theorem dX8_loses_48 : decode cX8_loses 48 = .ok (.imul, 1) := by decide +kernel
theorem dX8_loses_49 : decode cX8_loses 49 = .ok (.iadd, 1) := by decide +kernel
theorem dX8_loses_50 : decode cX8_loses 50 = .ok (.iload_n 3, 1) := by decide +kernel
theorem dX8_loses_51 : decode cX8_loses 51 = .ok (.iadd, 1) := by decide +kernel
theorem dX8_loses_52 : decode cX8_loses 52 = .ok (.iload_n 2, 1) := by decide +kernel
theorem dX8_loses_53 : decode cX8_loses 53 = .ok (.iadd, 1) := by decide +kernel
theorem dX8_loses_54 : decode cX8_loses 54 = .ok (.iaload, 1) := by decide +kernel
theorem dX8_loses_55 : decode cX8_loses 55 = .ok (.iastore, 1) := by decide +kernel
theorem dX8_loses_56 : decode cX8_loses 56 = .ok (.iinc 3 1, 3) := by decide +kernel
theorem dX8_loses_59 : decode cX8_loses 59 = .ok (.goto (-45), 3) := by decide +kernel
theorem dX8_loses_62 : decode cX8_loses 62 = .ok (.return_, 1) := by decide +kernel
theorem dX8_grows_0 : decode cX8_grows 0 = .ok (.aload_n 0, 1) := by decide +kernel
theorem dX8_grows_1 : decode cX8_grows 1 = .ok (.iload_n 1, 1) := by decide +kernel
theorem dX8_grows_2 : decode cX8_grows 2 = .ok (.iconst 0, 1) := by decide +kernel
theorem dX8_grows_3 : decode cX8_grows 3 = .ok (.invokevirtual 146, 3) := by decide +kernel
theorem dX8_grows_6 : decode cX8_grows 6 = .ok (.istore_n 2, 1) := by decide +kernel
theorem dX8_grows_7 : decode cX8_grows 7 = .ok (.aload_n 0, 1) := by decide +kernel
theorem dX8_grows_8 : decode cX8_grows 8 = .ok (.getfield 23, 3) := by decide +kernel
theorem dX8_grows_11 : decode cX8_grows 11 = .ok (.bipush 67, 2) := by decide +kernel
theorem dX8_grows_13 : decode cX8_grows 13 = .ok (.iload_n 1, 1) := by decide +kernel
theorem dX8_grows_14 : decode cX8_grows 14 = .ok (.iadd, 1) := by decide +kernel
theorem dX8_grows_15 : decode cX8_grows 15 = .ok (.bipush (-9), 2) := by decide +kernel
theorem dX8_grows_17 : decode cX8_grows 17 = .ok (.iastore, 1) := by decide +kernel
theorem dX8_grows_18 : decode cX8_grows 18 = .ok (.aload_n 0, 1) := by decide +kernel
theorem dX8_grows_19 : decode cX8_grows 19 = .ok (.getfield 23, 3) := by decide +kernel
theorem dX8_grows_22 : decode cX8_grows 22 = .ok (.iconst 2, 1) := by decide +kernel
theorem dX8_grows_23 : decode cX8_grows 23 = .ok (.iload_n 1, 1) := by decide +kernel
theorem dX8_grows_24 : decode cX8_grows 24 = .ok (.iadd, 1) := by decide +kernel
theorem dX8_grows_25 : decode cX8_grows 25 = .ok (.iaload, 1) := by decide +kernel
theorem dX8_grows_26 : decode cX8_grows 26 = .ok (.aload_n 0, 1) := by decide +kernel
theorem dX8_grows_27 : decode cX8_grows 27 = .ok (.getfield 19, 3) := by decide +kernel
theorem dX8_grows_30 : decode cX8_grows 30 = .ok (.if_icmp .ne 9, 3) := by decide +kernel
theorem dX8_grows_33 : decode cX8_grows 33 = .ok (.aload_n 0, 1) := by decide +kernel
theorem dX8_grows_34 : decode cX8_grows 34 = .ok (.iload_n 1, 1) := by decide +kernel
theorem dX8_grows_35 : decode cX8_grows 35 = .ok (.iconst 1, 1) := by decide +kernel
theorem dX8_grows_36 : decode cX8_grows 36 = .ok (.invokevirtual 149, 3) := by decide +kernel
theorem dX8_grows_39 : decode cX8_grows 39 = .ok (.aload_n 0, 1) := by decide +kernel
theorem dX8_grows_40 : decode cX8_grows 40 = .ok (.getfield 23, 3) := by decide +kernel
theorem dX8_grows_43 : decode cX8_grows 43 = .ok (.bipush 7, 2) := by decide +kernel
theorem dX8_grows_45 : decode cX8_grows 45 = .ok (.bipush 12, 2) := by decide +kernel
theorem dX8_grows_47 : decode cX8_grows 47 = .ok (.iload_n 1, 1) := by decide +kernel
theorem dX8_grows_48 : decode cX8_grows 48 = .ok (.imul, 1) := by decide +kernel
theorem dX8_grows_49 : decode cX8_grows 49 = .ok (.iadd, 1) := by decide +kernel
theorem dX8_grows_50 : decode cX8_grows 50 = .ok (.aload_n 0, 1) := by decide +kernel
theorem dX8_grows_51 : decode cX8_grows 51 = .ok (.getfield 23, 3) := by decide +kernel
theorem dX8_grows_54 : decode cX8_grows 54 = .ok (.iconst 2, 1) := by decide +kernel
theorem dX8_grows_55 : decode cX8_grows 55 = .ok (.iload_n 1, 1) := by decide +kernel
theorem dX8_grows_56 : decode cX8_grows 56 = .ok (.iadd, 1) := by decide +kernel
theorem dX8_grows_57 : decode cX8_grows 57 = .ok (.iaload, 1) := by decide +kernel
theorem dX8_grows_58 : decode cX8_grows 58 = .ok (.iadd, 1) := by decide +kernel
theorem dX8_grows_59 : decode cX8_grows 59 = .ok (.iload_n 2, 1) := by decide +kernel
theorem dX8_grows_60 : decode cX8_grows 60 = .ok (.iastore, 1) := by decide +kernel
theorem dX8_grows_61 : decode cX8_grows 61 = .ok (.aload_n 0, 1) := by decide +kernel
theorem dX8_grows_62 : decode cX8_grows 62 = .ok (.getfield 23, 3) := by decide +kernel
theorem dX8_grows_65 : decode cX8_grows 65 = .ok (.iconst 2, 1) := by decide +kernel
