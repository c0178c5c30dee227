theorem dX5_goBack_30 : decode cX5_goBack 30 = .ok (.invokevirtual 33, 3) := by decide +kernel
theorem dX5_goBack_33 : decode cX5_goBack 33 = .ok (.return_, 1) := by decide +kernel
theorem dX5_copyFrom_0 : decode cX5_copyFrom 0 = .ok (.aload_n 0, 1) := by decide +kernel
theorem dX5_copyFrom_1 : decode cX5_copyFrom 1 = .ok (.getfield 12, 3) := by decide +kernel
theorem dX5_copyFrom_4 : decode cX5_copyFrom 4 = .ok (.aload_n 1, 1) := by decide +kernel
theorem dX5_copyFrom_5 : decode cX5_copyFrom 5 = .ok (.getfield 12, 3) := by decide +kernel
theorem dX5_copyFrom_8 : decode cX5_copyFrom 8 = .ok (.invokevirtual 33, 3) := by decide +kernel
theorem dX5_copyFrom_11 : decode cX5_copyFrom 11 = .ok (.aload_n 0, 1) := by decide +kernel
theorem dX5_copyFrom_12 : decode cX5_copyFrom 12 = .ok (.aload_n 1, 1) := by decide +kernel
theorem dX5_copyFrom_13 : decode cX5_copyFrom 13 = .ok (.getfield 26, 3) := by decide +kernel
theorem dX5_copyFrom_16 : decode cX5_copyFrom 16 = .ok (.putfield 26, 3) := by decide +kernel
theorem dX5_copyFrom_19 : decode cX5_copyFrom 19 = .ok (.iconst 0, 1) := by decide +kernel
theorem dX5_copyFrom_20 : decode cX5_copyFrom 20 = .ok (.istore_n 2, 1) := by decide +kernel
theorem dX5_copyFrom_21 : decode cX5_copyFrom 21 = .ok (.iload_n 2, 1) := by decide +kernel
theorem dX5_copyFrom_22 : decode cX5_copyFrom 22 = .ok (.aload_n 0, 1) := by decide +kernel
theorem dX5_copyFrom_23 : decode cX5_copyFrom 23 = .ok (.getfield 26, 3) := by decide +kernel
theorem dX5_copyFrom_26 : decode cX5_copyFrom 26 = .ok (.if_icmp .ge 24, 3) := by decide +kernel
theorem dX5_copyFrom_29 : decode cX5_copyFrom 29 = .ok (.aload_n 0, 1) := by decide +kernel
theorem dX5_copyFrom_30 : decode cX5_copyFrom 30 = .ok (.getfield 18, 3) := by decide +kernel
theorem dX5_copyFrom_33 : decode cX5_copyFrom 33 = .ok (.iload_n 2, 1) := by decide +kernel
theorem dX5_copyFrom_34 : decode cX5_copyFrom 34 = .ok (.aaload, 1) := by decide +kernel
theorem dX5_copyFrom_35 : decode cX5_copyFrom 35 = .ok (.aload_n 1, 1) := by decide +kernel
theorem dX5_copyFrom_36 : decode cX5_copyFrom 36 = .ok (.getfield 18, 3) := by decide +kernel
theorem dX5_copyFrom_39 : decode cX5_copyFrom 39 = .ok (.iload_n 2, 1) := by decide +kernel
theorem dX5_copyFrom_40 : decode cX5_copyFrom 40 = .ok (.aaload, 1) := by decide +kernel
theorem dX5_copyFrom_41 : decode cX5_copyFrom 41 = .ok (.invokevirtual 33, 3) := by decide +kernel
theorem dX5_copyFrom_44 : decode cX5_copyFrom 44 = .ok (.iinc 2 1, 3) := by decide +kernel
theorem dX5_copyFrom_47 : decode cX5_copyFrom 47 = .ok (.goto (-26), 3) := by decide +kernel
theorem dX5_copyFrom_50 : decode cX5_copyFrom 50 = .ok (.return_, 1) := by decide +kernel
theorem dX6_init_0 : decode cX6_init 0 = .ok (.aload_n 0, 1) := by decide +kernel
theorem dX6_init_1 : decode cX6_init 1 = .ok (.invokespecial 3, 3) := by decide +kernel
theorem dX6_init_4 : decode cX6_init 4 = .ok (.aload_n 0, 1) := by decide +kernel
theorem dX6_init_5 : decode cX6_init 5 = .ok (.iconst 5, 1) := by decide +kernel
theorem dX6_init_6 : decode cX6_init 6 = .ok (.newarray .int, 2) := by decide +kernel
theorem dX6_init_8 : decode cX6_init 8 = .ok (.putfield 9, 3) := by decide +kernel
theorem dX6_init_11 : decode cX6_init 11 = .ok (.aload_n 0, 1) := by decide +kernel
theorem dX6_init_12 : decode cX6_init 12 = .ok (.iconst 5, 1) := by decide +kernel
theorem dX6_init_13 : decode cX6_init 13 = .ok (.newarray .int, 2) := by decide +kernel
theorem dX6_init_15 : decode cX6_init 15 = .ok (.putfield 15, 3) := by decide +kernel
theorem dX6_init_18 : decode cX6_init 18 = .ok (.aload_n 0, 1) := by decide +kernel
theorem dX6_init_19 : decode cX6_init 19 = .ok (.bipush 35, 2) := by decide +kernel
theorem dX6_init_21 : decode cX6_init 21 = .ok (.newarray .int, 2) := by decide +kernel
theorem dX6_init_23 : decode cX6_init 23 = .ok (.putfield 18, 3) := by decide +kernel
theorem dX6_init_26 : decode cX6_init 26 = .ok (.aload_n 0, 1) := by decide +kernel
theorem dX6_init_27 : decode cX6_init 27 = .ok (.bipush 12, 2) := by decide +kernel
theorem dX6_init_29 : decode cX6_init 29 = .ok (.putfield 21, 3) := by decide +kernel
theorem dX6_init_32 : decode cX6_init 32 = .ok (.return_, 1) := by decide +kernel
theorem dX6_begin_0 : decode cX6_begin 0 = .ok (.aload_n 0, 1) := by decide +kernel
theorem dX6_begin_1 : decode cX6_begin 1 = .ok (.iconst 0, 1) := by decide +kernel
theorem dX6_begin_2 : decode cX6_begin 2 = .ok (.putfield 25, 3) := by decide +kernel
theorem dX6_begin_5 : decode cX6_begin 5 = .ok (.aload_n 0, 1) := by decide +kernel
theorem dX6_begin_6 : decode cX6_begin 6 = .ok (.bipush 12, 2) := by decide +kernel
theorem dX6_begin_8 : decode cX6_begin 8 = .ok (.putfield 21, 3) := by decide +kernel
theorem dX6_begin_11 : decode cX6_begin 11 = .ok (.aload_n 0, 1) := by decide +kernel
theorem dX6_begin_12 : decode cX6_begin 12 = .ok (.iconst 0, 1) := by decide +kernel
theorem dX6_begin_13 : decode cX6_begin 13 = .ok (.putfield 28, 3) := by decide +kernel
theorem dX6_begin_16 : decode cX6_begin 16 = .ok (.return_, 1) := by decide +kernel
theorem dX6_copyFrom_0 : decode cX6_copyFrom 0 = .ok (.aload_n 0, 1) := by decide +kernel
theorem dX6_copyFrom_1 : decode cX6_copyFrom 1 = .ok (.aload_n 1, 1) := by decide +kernel
theorem dX6_copyFrom_2 : decode cX6_copyFrom 2 = .ok (.getfield 25, 3) := by decide +kernel
theorem dX6_copyFrom_5 : decode cX6_copyFrom 5 = .ok (.putfield 25, 3) := by decide +kernel
theorem dX6_copyFrom_8 : decode cX6_copyFrom 8 = .ok (.aload_n 0, 1) := by decide +kernel
theorem dX6_copyFrom_9 : decode cX6_copyFrom 9 = .ok (.aload_n 1, 1) := by decide +kernel
theorem dX6_copyFrom_10 : decode cX6_copyFrom 10 = .ok (.getfield 21, 3) := by decide +kernel
theorem dX6_copyFrom_13 : decode cX6_copyFrom 13 = .ok (.putfield 21, 3) := by decide +kernel
theorem dX6_copyFrom_16 : decode cX6_copyFrom 16 = .ok (.aload_n 0, 1) := by decide +kernel
theorem dX6_copyFrom_17 : decode cX6_copyFrom 17 = .ok (.aload_n 1, 1) := by decide +kernel
theorem dX6_copyFrom_18 : decode cX6_copyFrom 18 = .ok (.getfield 28, 3) := by decide +kernel
theorem dX6_copyFrom_21 : decode cX6_copyFrom 21 = .ok (.putfield 28, 3) := by decide +kernel
theorem dX6_copyFrom_24 : decode cX6_copyFrom 24 = .ok (.aload_n 1, 1) := by decide +kernel
theorem dX6_copyFrom_25 : decode cX6_copyFrom 25 = .ok (.getfield 9, 3) := by decide +kernel
theorem dX6_copyFrom_28 : decode cX6_copyFrom 28 = .ok (.iconst 0, 1) := by decide +kernel
theorem dX6_copyFrom_29 : decode cX6_copyFrom 29 = .ok (.aload_n 0, 1) := by decide +kernel
theorem dX6_copyFrom_30 : decode cX6_copyFrom 30 = .ok (.getfield 9, 3) := by decide +kernel
theorem dX6_copyFrom_33 : decode cX6_copyFrom 33 = .ok (.iconst 0, 1) := by decide +kernel
theorem dX6_copyFrom_34 : decode cX6_copyFrom 34 = .ok (.aload_n 0, 1) := by decide +kernel
theorem dX6_copyFrom_35 : decode cX6_copyFrom 35 = .ok (.getfield 9, 3) := by decide +kernel
theorem dX6_copyFrom_38 : decode cX6_copyFrom 38 = .ok (.arraylength, 1) := by decide +kernel
theorem dX6_copyFrom_39 : decode cX6_copyFrom 39 = .ok (.invokestatic 31, 3) := by decide +kernel
theorem dX6_copyFrom_42 : decode cX6_copyFrom 42 = .ok (.aload_n 1, 1) := by decide +kernel
theorem dX6_copyFrom_43 : decode cX6_copyFrom 43 = .ok (.getfield 15, 3) := by decide +kernel
theorem dX6_copyFrom_46 : decode cX6_copyFrom 46 = .ok (.iconst 0, 1) := by decide +kernel
theorem dX6_copyFrom_47 : decode cX6_copyFrom 47 = .ok (.aload_n 0, 1) := by decide +kernel
theorem dX6_copyFrom_48 : decode cX6_copyFrom 48 = .ok (.getfield 15, 3) := by decide +kernel
theorem dX6_copyFrom_51 : decode cX6_copyFrom 51 = .ok (.iconst 0, 1) := by decide +kernel
theorem dX6_copyFrom_52 : decode cX6_copyFrom 52 = .ok (.aload_n 0, 1) := by decide +kernel
theorem dX6_copyFrom_53 : decode cX6_copyFrom 53 = .ok (.getfield 15, 3) := by decide +kernel
theorem dX6_copyFrom_56 : decode cX6_copyFrom 56 = .ok (.arraylength, 1) := by decide +kernel
theorem dX6_copyFrom_57 : decode cX6_copyFrom 57 = .ok (.invokestatic 31, 3) := by decide +kernel
theorem dX6_copyFrom_60 : decode cX6_copyFrom 60 = .ok (.aload_n 1, 1) := by decide +kernel
theorem dX6_copyFrom_61 : decode cX6_copyFrom 61 = .ok (.getfield 18, 3) := by decide +kernel
theorem dX6_copyFrom_64 : decode cX6_copyFrom 64 = .ok (.iconst 0, 1) := by decide +kernel
theorem dX6_copyFrom_65 : decode cX6_copyFrom 65 = .ok (.aload_n 0, 1) := by decide +kernel
theorem dX6_copyFrom_66 : decode cX6_copyFrom 66 = .ok (.getfield 18, 3) := by decide +kernel
theorem dX6_copyFrom_69 : decode cX6_copyFrom 69 = .ok (.iconst 0, 1) := by decide +kernel
theorem dX6_copyFrom_70 : decode cX6_copyFrom 70 = .ok (.aload_n 0, 1) := by decide +kernel
theorem dX6_copyFrom_71 : decode cX6_copyFrom 71 = .ok (.getfield 18, 3) := by decide +kernel
theorem dX6_copyFrom_74 : decode cX6_copyFrom 74 = .ok (.arraylength, 1) := by decide +kernel
theorem dX6_copyFrom_75 : decode cX6_copyFrom 75 = .ok (.invokestatic 31, 3) := by decide +kernel
theorem dX6_copyFrom_78 : decode cX6_copyFrom 78 = .ok (.return_, 1) := by decide +kernel
theorem dX6_usualThought_0 : decode cX6_usualThought 0 = .ok (.aload_n 0, 1) := by decide +kernel
theorem dX6_usualThought_1 : decode cX6_usualThought 1 = .ok (.getfield 15, 3) := by decide +kernel
theorem dX6_usualThought_4 : decode cX6_usualThought 4 = .ok (.iload_n 1, 1) := by decide +kernel
theorem dX6_usualThought_5 : decode cX6_usualThought 5 = .ok (.iaload, 1) := by decide +kernel
theorem dX6_usualThought_6 : decode cX6_usualThought 6 = .ok (.istore_n 3, 1) := by decide +kernel
theorem dX6_usualThought_7 : decode cX6_usualThought 7 = .ok (.iload_n 3, 1) := by decide +kernel
theorem dX6_usualThought_8 : decode cX6_usualThought 8 = .ok (.ifCond .le 19, 3) := by decide +kernel
theorem dX6_usualThought_11 : decode cX6_usualThought 11 = .ok (.aload_n 0, 1) := by decide +kernel
theorem dX6_usualThought_12 : decode cX6_usualThought 12 = .ok (.getfield 18, 3) := by decide +kernel
theorem dX6_usualThought_15 : decode cX6_usualThought 15 = .ok (.iload_n 1, 1) := by decide +kernel
theorem dX6_usualThought_16 : decode cX6_usualThought 16 = .ok (.bipush 7, 2) := by decide +kernel
theorem dX6_usualThought_18 : decode cX6_usualThought 18 = .ok (.imul, 1) := by decide +kernel
theorem dX6_usualThought_19 : decode cX6_usualThought 19 = .ok (.iload_n 2, 1) := by decide +kernel
theorem dX6_usualThought_20 : decode cX6_usualThought 20 = .ok (.iload_n 3, 1) := by decide +kernel
theorem dX6_usualThought_21 : decode cX6_usualThought 21 = .ok (.irem, 1) := by decide +kernel
theorem dX6_usualThought_22 : decode cX6_usualThought 22 = .ok (.iadd, 1) := by decide +kernel
theorem dX6_usualThought_23 : decode cX6_usualThought 23 = .ok (.iaload, 1) := by decide +kernel
theorem dX6_usualThought_24 : decode cX6_usualThought 24 = .ok (.goto 4, 3) := by decide +kernel
theorem dX6_usualThought_27 : decode cX6_usualThought 27 = .ok (.iconst 0, 1) := by decide +kernel
theorem dX6_usualThought_28 : decode cX6_usualThought 28 = .ok (.ireturn, 1) := by decide +kernel
theorem dX7_init_0 : decode cX7_init 0 = .ok (.aload_n 0, 1) := by decide +kernel
theorem dX7_init_1 : decode cX7_init 1 = .ok (.invokespecial 1, 3) := by decide +kernel
theorem dX7_init_4 : decode cX7_init 4 = .ok (.aload_n 0, 1) := by decide +kernel
theorem dX7_init_5 : decode cX7_init 5 = .ok (.new 7, 3) := by decide +kernel
theorem dX7_init_8 : decode cX7_init 8 = .ok (.dup, 1) := by decide +kernel
theorem dX7_init_9 : decode cX7_init 9 = .ok (.invokespecial 9, 3) := by decide +kernel
theorem dX7_init_12 : decode cX7_init 12 = .ok (.putfield 10, 3) := by decide +kernel
theorem dX7_init_15 : decode cX7_init 15 = .ok (.aload_n 0, 1) := by decide +kernel
theorem dX7_init_16 : decode cX7_init 16 = .ok (.aload_n 0, 1) := by decide +kernel
theorem dX7_init_17 : decode cX7_init 17 = .ok (.getfield 10, 3) := by decide +kernel
theorem dX7_init_20 : decode cX7_init 20 = .ok (.getfield 16, 3) := by decide +kernel
theorem dX7_init_23 : decode cX7_init 23 = .ok (.putfield 20, 3) := by decide +kernel
theorem dX7_init_26 : decode cX7_init 26 = .ok (.aload_n 0, 1) := by decide +kernel
theorem dX7_init_27 : decode cX7_init 27 = .ok (.new 21, 3) := by decide +kernel
theorem dX7_init_30 : decode cX7_init 30 = .ok (.dup, 1) := by decide +kernel
theorem dX7_init_31 : decode cX7_init 31 = .ok (.invokespecial 23, 3) := by decide +kernel
theorem dX7_init_34 : decode cX7_init 34 = .ok (.putfield 24, 3) := by decide +kernel
theorem dX7_init_37 : decode cX7_init 37 = .ok (.aload_n 0, 1) := by decide +kernel
theorem dX7_init_38 : decode cX7_init 38 = .ok (.iconst 2, 1) := by decide +kernel
theorem dX7_init_39 : decode cX7_init 39 = .ok (.anewarray 21, 3) := by decide +kernel
theorem dX7_init_42 : decode cX7_init 42 = .ok (.putfield 28, 3) := by decide +kernel
theorem dX7_init_45 : decode cX7_init 45 = .ok (.iconst 0, 1) := by decide +kernel
theorem dX7_init_46 : decode cX7_init 46 = .ok (.istore_n 1, 1) := by decide +kernel
theorem dX7_init_47 : decode cX7_init 47 = .ok (.iload_n 1, 1) := by decide +kernel
theorem dX7_init_48 : decode cX7_init 48 = .ok (.iconst 2, 1) := by decide +kernel
theorem dX7_init_49 : decode cX7_init 49 = .ok (.if_icmp .ge 22, 3) := by decide +kernel
theorem dX7_init_52 : decode cX7_init 52 = .ok (.aload_n 0, 1) := by decide +kernel
theorem dX7_init_53 : decode cX7_init 53 = .ok (.getfield 28, 3) := by decide +kernel
theorem dX7_init_56 : decode cX7_init 56 = .ok (.iload_n 1, 1) := by decide +kernel
theorem dX7_init_57 : decode cX7_init 57 = .ok (.new 21, 3) := by decide +kernel
theorem dX7_init_60 : decode cX7_init 60 = .ok (.dup, 1) := by decide +kernel
theorem dX7_init_61 : decode cX7_init 61 = .ok (.invokespecial 23, 3) := by decide +kernel
theorem dX7_init_64 : decode cX7_init 64 = .ok (.aastore, 1) := by decide +kernel
theorem dX7_init_65 : decode cX7_init 65 = .ok (.iinc 1 1, 3) := by decide +kernel
theorem dX7_init_68 : decode cX7_init 68 = .ok (.goto (-21), 3) := by decide +kernel
theorem dX7_init_71 : decode cX7_init 71 = .ok (.aload_n 0, 1) := by decide +kernel
theorem dX7_init_72 : decode cX7_init 72 = .ok (.iconst 2, 1) := by decide +kernel
theorem dX7_init_73 : decode cX7_init 73 = .ok (.newarray .boolean, 2) := by decide +kernel
theorem dX7_init_75 : decode cX7_init 75 = .ok (.putfield 32, 3) := by decide +kernel
theorem dX7_init_78 : decode cX7_init 78 = .ok (.aload_n 0, 1) := by decide +kernel
theorem dX7_init_79 : decode cX7_init 79 = .ok (.new 36, 3) := by decide +kernel
theorem dX7_init_82 : decode cX7_init 82 = .ok (.dup, 1) := by decide +kernel
theorem dX7_init_83 : decode cX7_init 83 = .ok (.invokespecial 38, 3) := by decide +kernel
theorem dX7_init_86 : decode cX7_init 86 = .ok (.putfield 39, 3) := by decide +kernel
theorem dX7_init_89 : decode cX7_init 89 = .ok (.aload_n 0, 1) := by decide +kernel
theorem dX7_init_90 : decode cX7_init 90 = .ok (.new 43, 3) := by decide +kernel
theorem dX7_init_93 : decode cX7_init 93 = .ok (.dup, 1) := by decide +kernel
theorem dX7_init_94 : decode cX7_init 94 = .ok (.invokespecial 45, 3) := by decide +kernel
theorem dX7_init_97 : decode cX7_init 97 = .ok (.putfield 46, 3) := by decide +kernel
theorem dX7_init_100 : decode cX7_init 100 = .ok (.aload_n 0, 1) := by decide +kernel
theorem dX7_init_101 : decode cX7_init 101 = .ok (.new 50, 3) := by decide +kernel
theorem dX7_init_104 : decode cX7_init 104 = .ok (.dup, 1) := by decide +kernel
theorem dX7_init_105 : decode cX7_init 105 = .ok (.invokespecial 52, 3) := by decide +kernel
theorem dX7_init_108 : decode cX7_init 108 = .ok (.putfield 53, 3) := by decide +kernel
theorem dX7_init_111 : decode cX7_init 111 = .ok (.aload_n 0, 1) := by decide +kernel
theorem dX7_init_112 : decode cX7_init 112 = .ok (.bipush 10, 2) := by decide +kernel
theorem dX7_init_114 : decode cX7_init 114 = .ok (.newarray .int, 2) := by decide +kernel
theorem dX7_init_116 : decode cX7_init 116 = .ok (.putfield 57, 3) := by decide +kernel
theorem dX7_init_119 : decode cX7_init 119 = .ok (.aload_n 0, 1) := by decide +kernel
theorem dX7_init_120 : decode cX7_init 120 = .ok (.bipush 20, 2) := by decide +kernel
theorem dX7_init_122 : decode cX7_init 122 = .ok (.newarray .int, 2) := by decide +kernel
theorem dX7_init_124 : decode cX7_init 124 = .ok (.putfield 61, 3) := by decide +kernel
theorem dX7_init_127 : decode cX7_init 127 = .ok (.return_, 1) := by decide +kernel
theorem dX7_type_0 : decode cX7_type 0 = .ok (.iload_n 1, 1) := by decide +kernel
theorem dX7_type_1 : decode cX7_type 1 = .ok (.iconst 0, 1) := by decide +kernel
theorem dX7_type_2 : decode cX7_type 2 = .ok (.sipush 255, 3) := by decide +kernel
theorem dX7_type_5 : decode cX7_type 5 = .ok (.invokestatic 64, 3) := by decide +kernel
theorem dX7_type_8 : decode cX7_type 8 = .ok (.ifCond .ne 5, 3) := by decide +kernel
theorem dX7_type_11 : decode cX7_type 11 = .ok (.iconst (-1), 1) := by decide +kernel
theorem dX7_type_12 : decode cX7_type 12 = .ok (.ireturn, 1) := by decide +kernel
theorem dX7_type_13 : decode cX7_type 13 = .ok (.aload_n 0, 1) := by decide +kernel
theorem dX7_type_14 : decode cX7_type 14 = .ok (.getfield 20, 3) := by decide +kernel
theorem dX7_type_17 : decode cX7_type 17 = .ok (.getfield 68, 3) := by decide +kernel
theorem dX7_type_20 : decode cX7_type 20 = .ok (.bipush 120, 2) := by decide +kernel
theorem dX7_type_22 : decode cX7_type 22 = .ok (.if_icmp .lt 6, 3) := by decide +kernel
theorem dX7_type_25 : decode cX7_type 25 = .ok (.bipush (-3), 2) := by decide +kernel
theorem dX7_type_27 : decode cX7_type 27 = .ok (.ireturn, 1) := by decide +kernel
theorem dX7_type_28 : decode cX7_type 28 = .ok (.aload_n 0, 1) := by decide +kernel
theorem dX7_type_29 : decode cX7_type 29 = .ok (.getfield 20, 3) := by decide +kernel
theorem dX7_type_32 : decode cX7_type 32 = .ok (.getfield 74, 3) := by decide +kernel
theorem dX7_type_35 : decode cX7_type 35 = .ok (.aload_n 0, 1) := by decide +kernel
theorem dX7_type_36 : decode cX7_type 36 = .ok (.getfield 20, 3) := by decide +kernel
theorem dX7_type_39 : decode cX7_type 39 = .ok (.getfield 68, 3) := by decide +kernel
theorem dX7_type_42 : decode cX7_type 42 = .ok (.iload_n 1, 1) := by decide +kernel
theorem dX7_type_43 : decode cX7_type 43 = .ok (.iastore, 1) := by decide +kernel
theorem dX7_type_44 : decode cX7_type 44 = .ok (.aload_n 0, 1) := by decide +kernel
theorem dX7_type_45 : decode cX7_type 45 = .ok (.getfield 20, 3) := by decide +kernel
theorem dX7_type_48 : decode cX7_type 48 = .ok (.dup, 1) := by decide +kernel
theorem dX7_type_49 : decode cX7_type 49 = .ok (.getfield 68, 3) := by decide +kernel
theorem dX7_type_52 : decode cX7_type 52 = .ok (.iconst 1, 1) := by decide +kernel
theorem dX7_type_53 : decode cX7_type 53 = .ok (.iadd, 1) := by decide +kernel
theorem dX7_type_54 : decode cX7_type 54 = .ok (.putfield 68, 3) := by decide +kernel
theorem dX7_type_57 : decode cX7_type 57 = .ok (.aload_n 0, 1) := by decide +kernel
theorem dX7_type_58 : decode cX7_type 58 = .ok (.getfield 20, 3) := by decide +kernel
theorem dX7_type_61 : decode cX7_type 61 = .ok (.getfield 68, 3) := by decide +kernel
theorem dX7_type_64 : decode cX7_type 64 = .ok (.ireturn, 1) := by decide +kernel
theorem dX7_clear_0 : decode cX7_clear 0 = .ok (.aload_n 0, 1) := by decide +kernel
theorem dX7_clear_1 : decode cX7_clear 1 = .ok (.getfield 20, 3) := by decide +kernel
theorem dX7_clear_4 : decode cX7_clear 4 = .ok (.getfield 68, 3) := by decide +kernel
theorem dX7_clear_7 : decode cX7_clear 7 = .ok (.istore_n 1, 1) := by decide +kernel
theorem dX7_clear_8 : decode cX7_clear 8 = .ok (.aload_n 0, 1) := by decide +kernel
theorem dX7_clear_9 : decode cX7_clear 9 = .ok (.getfield 20, 3) := by decide +kernel
theorem dX7_clear_12 : decode cX7_clear 12 = .ok (.iconst 0, 1) := by decide +kernel
theorem dX7_clear_13 : decode cX7_clear 13 = .ok (.putfield 68, 3) := by decide +kernel
theorem dX7_clear_16 : decode cX7_clear 16 = .ok (.iload_n 1, 1) := by decide +kernel
theorem dX7_clear_17 : decode cX7_clear 17 = .ok (.ireturn, 1) := by decide +kernel
theorem dX7_shop_0 : decode cX7_shop 0 = .ok (.aload_n 0, 1) := by decide +kernel
theorem dX7_shop_1 : decode cX7_shop 1 = .ok (.getfield 10, 3) := by decide +kernel
theorem dX7_shop_4 : decode cX7_shop 4 = .ok (.invokevirtual 77, 3) := by decide +kernel
theorem dX7_shop_7 : decode cX7_shop 7 = .ok (.istore_n 1, 1) := by decide +kernel
theorem dX7_shop_8 : decode cX7_shop 8 = .ok (.iload_n 1, 1) := by decide +kernel
theorem dX7_shop_9 : decode cX7_shop 9 = .ok (.ifCond .ge 5, 3) := by decide +kernel
theorem dX7_shop_12 : decode cX7_shop 12 = .ok (.iload_n 1, 1) := by decide +kernel
theorem dX7_shop_13 : decode cX7_shop 13 = .ok (.ireturn, 1) := by decide +kernel
theorem dX7_shop_14 : decode cX7_shop 14 = .ok (.aload_n 0, 1) := by decide +kernel
theorem dX7_shop_15 : decode cX7_shop 15 = .ok (.getfield 53, 3) := by decide +kernel
theorem dX7_shop_18 : decode cX7_shop 18 = .ok (.aload_n 0, 1) := by decide +kernel
theorem dX7_shop_19 : decode cX7_shop 19 = .ok (.getfield 10, 3) := by decide +kernel
theorem dX7_shop_22 : decode cX7_shop 22 = .ok (.getfield 81, 3) := by decide +kernel
theorem dX7_shop_25 : decode cX7_shop 25 = .ok (.invokevirtual 84, 3) := by decide +kernel
theorem dX7_shop_28 : decode cX7_shop 28 = .ok (.aload_n 0, 1) := by decide +kernel
theorem dX7_shop_29 : decode cX7_shop 29 = .ok (.getfield 20, 3) := by decide +kernel
theorem dX7_shop_32 : decode cX7_shop 32 = .ok (.iconst 0, 1) := by decide +kernel
theorem dX7_shop_33 : decode cX7_shop 33 = .ok (.putfield 68, 3) := by decide +kernel
theorem dX7_shop_36 : decode cX7_shop 36 = .ok (.aload_n 0, 1) := by decide +kernel
theorem dX7_shop_37 : decode cX7_shop 37 = .ok (.getfield 24, 3) := by decide +kernel
theorem dX7_shop_40 : decode cX7_shop 40 = .ok (.aload_n 0, 1) := by decide +kernel
theorem dX7_shop_41 : decode cX7_shop 41 = .ok (.getfield 53, 3) := by decide +kernel
theorem dX7_shop_44 : decode cX7_shop 44 = .ok (.getfield 88, 3) := by decide +kernel
theorem dX7_shop_47 : decode cX7_shop 47 = .ok (.invokevirtual 91, 3) := by decide +kernel
theorem dX7_shop_50 : decode cX7_shop 50 = .ok (.aload_n 0, 1) := by decide +kernel
theorem dX7_shop_51 : decode cX7_shop 51 = .ok (.getfield 39, 3) := by decide +kernel
theorem dX7_shop_54 : decode cX7_shop 54 = .ok (.invokevirtual 95, 3) := by decide +kernel
theorem dX7_shop_57 : decode cX7_shop 57 = .ok (.iconst 0, 1) := by decide +kernel
theorem dX7_shop_58 : decode cX7_shop 58 = .ok (.istore_n 2, 1) := by decide +kernel
theorem dX7_shop_59 : decode cX7_shop 59 = .ok (.iload_n 2, 1) := by decide +kernel
theorem dX7_shop_60 : decode cX7_shop 60 = .ok (.iconst 2, 1) := by decide +kernel
theorem dX7_shop_61 : decode cX7_shop 61 = .ok (.if_icmp .ge 16, 3) := by decide +kernel
theorem dX7_shop_64 : decode cX7_shop 64 = .ok (.aload_n 0, 1) := by decide +kernel
theorem dX7_shop_65 : decode cX7_shop 65 = .ok (.getfield 32, 3) := by decide +kernel
theorem dX7_shop_68 : decode cX7_shop 68 = .ok (.iload_n 2, 1) := by decide +kernel
theorem dX7_shop_69 : decode cX7_shop 69 = .ok (.iconst 0, 1) := by decide +kernel
theorem dX7_shop_70 : decode cX7_shop 70 = .ok (.bastore, 1) := by decide +kernel
theorem dX7_shop_71 : decode cX7_shop 71 = .ok (.iinc 2 1, 3) := by decide +kernel
theorem dX7_shop_74 : decode cX7_shop 74 = .ok (.goto (-15), 3) := by decide +kernel
theorem dX7_shop_77 : decode cX7_shop 77 = .ok (.iload_n 1, 1) := by decide +kernel
theorem dX7_shop_78 : decode cX7_shop 78 = .ok (.ireturn, 1) := by decide +kernel
theorem dX7_one_0 : decode cX7_one 0 = .ok (.aload_n 0, 1) := by decide +kernel
theorem dX7_one_1 : decode cX7_one 1 = .ok (.iload_n 1, 1) := by decide +kernel
theorem dX7_one_2 : decode cX7_one 2 = .ok (.invokevirtual 98, 3) := by decide +kernel
theorem dX7_one_5 : decode cX7_one 5 = .ok (.ifCond .ne 5, 3) := by decide +kernel
theorem dX7_one_8 : decode cX7_one 8 = .ok (.iconst (-1), 1) := by decide +kernel
theorem dX7_one_9 : decode cX7_one 9 = .ok (.ireturn, 1) := by decide +kernel
theorem dX7_one_10 : decode cX7_one 10 = .ok (.aload_n 0, 1) := by decide +kernel
theorem dX7_one_11 : decode cX7_one 11 = .ok (.getfield 24, 3) := by decide +kernel
theorem dX7_one_14 : decode cX7_one 14 = .ok (.getfield 102, 3) := by decide +kernel
theorem dX7_one_17 : decode cX7_one 17 = .ok (.astore_n 3, 1) := by decide +kernel
theorem dX7_one_18 : decode cX7_one 18 = .ok (.iload_n 2, 1) := by decide +kernel
theorem dX7_one_19 : decode cX7_one 19 = .ok (.tableswitch 82 0 4 #[33, 43, 53, 60, 67], 33) := by decide +kernel
theorem dX7_one_52 : decode cX7_one 52 = .ok (.aload_n 0, 1) := by decide +kernel
theorem dX7_one_53 : decode cX7_one 53 = .ok (.getfield 53, 3) := by decide +kernel
theorem dX7_one_56 : decode cX7_one 56 = .ok (.getfield 106, 3) := by decide +kernel
theorem dX7_one_59 : decode cX7_one 59 = .ok (.iload_n 1, 1) := by decide +kernel
theorem dX7_one_60 : decode cX7_one 60 = .ok (.iaload, 1) := by decide +kernel
theorem dX7_one_61 : decode cX7_one 61 = .ok (.ireturn, 1) := by decide +kernel
theorem dX7_one_62 : decode cX7_one 62 = .ok (.aload_n 0, 1) := by decide +kernel
theorem dX7_one_63 : decode cX7_one 63 = .ok (.getfield 53, 3) := by decide +kernel
theorem dX7_one_66 : decode cX7_one 66 = .ok (.getfield 109, 3) := by decide +kernel
theorem dX7_one_69 : decode cX7_one 69 = .ok (.iload_n 1, 1) := by decide +kernel
theorem dX7_one_70 : decode cX7_one 70 = .ok (.iaload, 1) := by decide +kernel
theorem dX7_one_71 : decode cX7_one 71 = .ok (.ireturn, 1) := by decide +kernel
theorem dX7_one_72 : decode cX7_one 72 = .ok (.aload_n 3, 1) := by decide +kernel
theorem dX7_one_73 : decode cX7_one 73 = .ok (.getfield 112, 3) := by decide +kernel
theorem dX7_one_76 : decode cX7_one 76 = .ok (.iload_n 1, 1) := by decide +kernel
theorem dX7_one_77 : decode cX7_one 77 = .ok (.iaload, 1) := by decide +kernel
theorem dX7_one_78 : decode cX7_one 78 = .ok (.ireturn, 1) := by decide +kernel
theorem dX7_one_79 : decode cX7_one 79 = .ok (.aload_n 3, 1) := by decide +kernel
theorem dX7_one_80 : decode cX7_one 80 = .ok (.getfield 117, 3) := by decide +kernel
theorem dX7_one_83 : decode cX7_one 83 = .ok (.iload_n 1, 1) := by decide +kernel
theorem dX7_one_84 : decode cX7_one 84 = .ok (.iaload, 1) := by decide +kernel
theorem dX7_one_85 : decode cX7_one 85 = .ok (.ireturn, 1) := by decide +kernel
theorem dX7_one_86 : decode cX7_one 86 = .ok (.aload_n 3, 1) := by decide +kernel
theorem dX7_one_87 : decode cX7_one 87 = .ok (.iload_n 1, 1) := by decide +kernel
theorem dX7_one_88 : decode cX7_one 88 = .ok (.aload_n 0, 1) := by decide +kernel
theorem dX7_one_89 : decode cX7_one 89 = .ok (.getfield 53, 3) := by decide +kernel
theorem dX7_one_92 : decode cX7_one 92 = .ok (.getfield 106, 3) := by decide +kernel
theorem dX7_one_95 : decode cX7_one 95 = .ok (.iload_n 1, 1) := by decide +kernel
theorem dX7_one_96 : decode cX7_one 96 = .ok (.iaload, 1) := by decide +kernel
theorem dX7_one_97 : decode cX7_one 97 = .ok (.invokevirtual 120, 3) := by decide +kernel
theorem dX7_one_100 : decode cX7_one 100 = .ok (.ireturn, 1) := by decide +kernel
theorem dX7_one_101 : decode cX7_one 101 = .ok (.iconst (-1), 1) := by decide +kernel
theorem dX7_one_102 : decode cX7_one 102 = .ok (.ireturn, 1) := by decide +kernel
theorem dX7_week_0 : decode cX7_week 0 = .ok (.aload_n 0, 1) := by decide +kernel
theorem dX7_week_1 : decode cX7_week 1 = .ok (.iload_n 1, 1) := by decide +kernel
theorem dX7_week_2 : decode cX7_week 2 = .ok (.invokevirtual 98, 3) := by decide +kernel
theorem dX7_week_5 : decode cX7_week 5 = .ok (.ifCond .eq 13, 3) := by decide +kernel
theorem dX7_week_8 : decode cX7_week 8 = .ok (.iload_n 2, 1) := by decide +kernel
theorem dX7_week_9 : decode cX7_week 9 = .ok (.iconst 0, 1) := by decide +kernel
theorem dX7_week_10 : decode cX7_week 10 = .ok (.bipush 6, 2) := by decide +kernel
theorem dX7_week_12 : decode cX7_week 12 = .ok (.invokestatic 64, 3) := by decide +kernel
theorem dX7_week_15 : decode cX7_week 15 = .ok (.ifCond .ne 5, 3) := by decide +kernel
theorem dX7_week_18 : decode cX7_week 18 = .ok (.iconst (-1), 1) := by decide +kernel
theorem dX7_week_19 : decode cX7_week 19 = .ok (.ireturn, 1) := by decide +kernel
theorem dX7_week_20 : decode cX7_week 20 = .ok (.iload_n 2, 1) := by decide +kernel
theorem dX7_week_21 : decode cX7_week 21 = .ok (.aload_n 0, 1) := by decide +kernel
theorem dX7_week_22 : decode cX7_week 22 = .ok (.getfield 53, 3) := by decide +kernel
theorem dX7_week_25 : decode cX7_week 25 = .ok (.getfield 109, 3) := by decide +kernel
theorem dX7_week_28 : decode cX7_week 28 = .ok (.iload_n 1, 1) := by decide +kernel
theorem dX7_week_29 : decode cX7_week 29 = .ok (.iaload, 1) := by decide +kernel
theorem dX7_week_30 : decode cX7_week 30 = .ok (.if_icmp .ge 20, 3) := by decide +kernel
theorem dX7_week_33 : decode cX7_week 33 = .ok (.aload_n 0, 1) := by decide +kernel
theorem dX7_week_34 : decode cX7_week 34 = .ok (.getfield 53, 3) := by decide +kernel
theorem dX7_week_37 : decode cX7_week 37 = .ok (.getfield 124, 3) := by decide +kernel
theorem dX7_week_40 : decode cX7_week 40 = .ok (.iload_n 1, 1) := by decide +kernel
theorem dX7_week_41 : decode cX7_week 41 = .ok (.bipush 7, 2) := by decide +kernel
theorem dX7_week_43 : decode cX7_week 43 = .ok (.imul, 1) := by decide +kernel
theorem dX7_week_44 : decode cX7_week 44 = .ok (.iload_n 2, 1) := by decide +kernel
theorem dX7_week_45 : decode cX7_week 45 = .ok (.iadd, 1) := by decide +kernel
theorem dX7_week_46 : decode cX7_week 46 = .ok (.iaload, 1) := by decide +kernel
theorem dX7_week_47 : decode cX7_week 47 = .ok (.goto 5, 3) := by decide +kernel
theorem dX7_week_50 : decode cX7_week 50 = .ok (.bipush (-9), 2) := by decide +kernel
theorem dX7_week_52 : decode cX7_week 52 = .ok (.ireturn, 1) := by decide +kernel
theorem dX7_layer_0 : decode cX7_layer 0 = .ok (.aload_n 0, 1) := by decide +kernel
theorem dX7_layer_1 : decode cX7_layer 1 = .ok (.iload_n 1, 1) := by decide +kernel
theorem dX7_layer_2 : decode cX7_layer 2 = .ok (.invokevirtual 98, 3) := by decide +kernel
theorem dX7_layer_5 : decode cX7_layer 5 = .ok (.ifCond .eq 13, 3) := by decide +kernel
theorem dX7_layer_8 : decode cX7_layer 8 = .ok (.iload_n 2, 1) := by decide +kernel
theorem dX7_layer_9 : decode cX7_layer 9 = .ok (.iconst 0, 1) := by decide +kernel
theorem dX7_layer_10 : decode cX7_layer 10 = .ok (.bipush 11, 2) := by decide +kernel
theorem dX7_layer_12 : decode cX7_layer 12 = .ok (.invokestatic 64, 3) := by decide +kernel
theorem dX7_layer_15 : decode cX7_layer 15 = .ok (.ifCond .ne 5, 3) := by decide +kernel
theorem dX7_layer_18 : decode cX7_layer 18 = .ok (.iconst (-1), 1) := by decide +kernel
theorem dX7_layer_19 : decode cX7_layer 19 = .ok (.ireturn, 1) := by decide +kernel
theorem dX7_layer_20 : decode cX7_layer 20 = .ok (.iload_n 2, 1) := by decide +kernel
theorem dX7_layer_21 : decode cX7_layer 21 = .ok (.aload_n 0, 1) := by decide +kernel
theorem dX7_layer_22 : decode cX7_layer 22 = .ok (.getfield 24, 3) := by decide +kernel
theorem dX7_layer_25 : decode cX7_layer 25 = .ok (.getfield 102, 3) := by decide +kernel
theorem dX7_layer_28 : decode cX7_layer 28 = .ok (.getfield 112, 3) := by decide +kernel
theorem dX7_layer_31 : decode cX7_layer 31 = .ok (.iload_n 1, 1) := by decide +kernel
theorem dX7_layer_32 : decode cX7_layer 32 = .ok (.iaload, 1) := by decide +kernel
theorem dX7_layer_33 : decode cX7_layer 33 = .ok (.if_icmp .ge 18, 3) := by decide +kernel
theorem dX7_layer_36 : decode cX7_layer 36 = .ok (.aload_n 0, 1) := by decide +kernel
theorem dX7_layer_37 : decode cX7_layer 37 = .ok (.getfield 24, 3) := by decide +kernel
theorem dX7_layer_40 : decode cX7_layer 40 = .ok (.getfield 102, 3) := by decide +kernel
theorem dX7_layer_43 : decode cX7_layer 43 = .ok (.iload_n 1, 1) := by decide +kernel
theorem dX7_layer_44 : decode cX7_layer 44 = .ok (.iload_n 2, 1) := by decide +kernel
theorem dX7_layer_45 : decode cX7_layer 45 = .ok (.invokevirtual 127, 3) := by decide +kernel
theorem dX7_layer_48 : decode cX7_layer 48 = .ok (.goto 5, 3) := by decide +kernel
theorem dX7_layer_51 : decode cX7_layer 51 = .ok (.bipush (-9), 2) := by decide +kernel
theorem dX7_layer_53 : decode cX7_layer 53 = .ok (.ireturn, 1) := by decide +kernel
theorem dX7_jar_0 : decode cX7_jar 0 = .ok (.iload_n 1, 1) := by decide +kernel
theorem dX7_jar_1 : decode cX7_jar 1 = .ok (.invokestatic 130, 3) := by decide +kernel
theorem dX7_jar_4 : decode cX7_jar 4 = .ok (.ifCond .eq 10, 3) := by decide +kernel
theorem dX7_jar_7 : decode cX7_jar 7 = .ok (.iload_n 2, 1) := by decide +kernel
theorem dX7_jar_8 : decode cX7_jar 8 = .ok (.invokestatic 133, 3) := by decide +kernel
theorem dX7_jar_11 : decode cX7_jar 11 = .ok (.ifCond .ne 5, 3) := by decide +kernel
theorem dX7_jar_14 : decode cX7_jar 14 = .ok (.iconst (-1), 1) := by decide +kernel
theorem dX7_jar_15 : decode cX7_jar 15 = .ok (.ireturn, 1) := by decide +kernel
theorem dX7_jar_16 : decode cX7_jar 16 = .ok (.aload_n 0, 1) := by decide +kernel
theorem dX7_jar_17 : decode cX7_jar 17 = .ok (.getfield 24, 3) := by decide +kernel
theorem dX7_jar_20 : decode cX7_jar 20 = .ok (.getfield 102, 3) := by decide +kernel
theorem dX7_jar_23 : decode cX7_jar 23 = .ok (.iload_n 1, 1) := by decide +kernel
theorem dX7_jar_24 : decode cX7_jar 24 = .ok (.iload_n 2, 1) := by decide +kernel
theorem dX7_jar_25 : decode cX7_jar 25 = .ok (.invokevirtual 136, 3) := by decide +kernel
theorem dX7_jar_28 : decode cX7_jar 28 = .ok (.ireturn, 1) := by decide +kernel
theorem dX7_days_0 : decode cX7_days 0 = .ok (.iload_n 1, 1) := by decide +kernel
theorem dX7_days_1 : decode cX7_days 1 = .ok (.iconst 1, 1) := by decide +kernel
theorem dX7_days_2 : decode cX7_days 2 = .ok (.bipush 9, 2) := by decide +kernel
theorem dX7_days_4 : decode cX7_days 4 = .ok (.invokestatic 64, 3) := by decide +kernel
theorem dX7_days_7 : decode cX7_days 7 = .ok (.ifCond .ne 5, 3) := by decide +kernel
theorem dX7_days_10 : decode cX7_days 10 = .ok (.iconst (-1), 1) := by decide +kernel
theorem dX7_days_11 : decode cX7_days 11 = .ok (.ireturn, 1) := by decide +kernel
theorem dX7_days_12 : decode cX7_days 12 = .ok (.aload_n 0, 1) := by decide +kernel
theorem dX7_days_13 : decode cX7_days 13 = .ok (.getfield 24, 3) := by decide +kernel
theorem dX7_days_16 : decode cX7_days 16 = .ok (.getfield 102, 3) := by decide +kernel
theorem dX7_days_19 : decode cX7_days 19 = .ok (.getfield 139, 3) := by decide +kernel
theorem dX7_days_22 : decode cX7_days 22 = .ok (.iload_n 1, 1) := by decide +kernel
theorem dX7_days_23 : decode cX7_days 23 = .ok (.iadd, 1) := by decide +kernel
theorem dX7_days_24 : decode cX7_days 24 = .ok (.sipush 999, 3) := by decide +kernel
theorem dX7_days_27 : decode cX7_days 27 = .ok (.if_icmp .le 6, 3) := by decide +kernel
theorem dX7_days_30 : decode cX7_days 30 = .ok (.bipush (-2), 2) := by decide +kernel
theorem dX7_days_32 : decode cX7_days 32 = .ok (.ireturn, 1) := by decide +kernel
theorem dX7_days_33 : decode cX7_days 33 = .ok (.aload_n 0, 1) := by decide +kernel
theorem dX7_days_34 : decode cX7_days 34 = .ok (.getfield 24, 3) := by decide +kernel
theorem dX7_days_37 : decode cX7_days 37 = .ok (.invokevirtual 142, 3) := by decide +kernel
theorem dX7_days_40 : decode cX7_days 40 = .ok (.iconst 0, 1) := by decide +kernel
theorem dX7_days_41 : decode cX7_days 41 = .ok (.istore_n 2, 1) := by decide +kernel
theorem dX7_days_42 : decode cX7_days 42 = .ok (.iload_n 2, 1) := by decide +kernel
theorem dX7_days_43 : decode cX7_days 43 = .ok (.iload_n 1, 1) := by decide +kernel
theorem dX7_days_44 : decode cX7_days 44 = .ok (.if_icmp .ge 23, 3) := by decide +kernel
theorem dX7_days_47 : decode cX7_days 47 = .ok (.aload_n 0, 1) := by decide +kernel
theorem dX7_days_48 : decode cX7_days 48 = .ok (.getfield 24, 3) := by decide +kernel
theorem dX7_days_51 : decode cX7_days 51 = .ok (.getfield 102, 3) := by decide +kernel
theorem dX7_days_54 : decode cX7_days 54 = .ok (.aload_n 0, 1) := by decide +kernel
theorem dX7_days_55 : decode cX7_days 55 = .ok (.getfield 53, 3) := by decide +kernel
theorem dX7_days_58 : decode cX7_days 58 = .ok (.invokevirtual 145, 3) := by decide +kernel
theorem dX7_days_61 : decode cX7_days 61 = .ok (.iinc 2 1, 3) := by decide +kernel
theorem dX7_days_64 : decode cX7_days 64 = .ok (.goto (-22), 3) := by decide +kernel
theorem dX7_days_67 : decode cX7_days 67 = .ok (.aload_n 0, 1) := by decide +kernel
theorem dX7_days_68 : decode cX7_days 68 = .ok (.getfield 24, 3) := by decide +kernel
theorem dX7_days_71 : decode cX7_days 71 = .ok (.getfield 102, 3) := by decide +kernel
theorem dX7_days_74 : decode cX7_days 74 = .ok (.getfield 139, 3) := by decide +kernel
theorem dX7_days_77 : decode cX7_days 77 = .ok (.ireturn, 1) := by decide +kernel
theorem dX7_minds_0 : decode cX7_minds 0 = .ok (.aload_n 0, 1) := by decide +kernel
theorem dX7_minds_1 : decode cX7_minds 1 = .ok (.iload_n 1, 1) := by decide +kernel
theorem dX7_minds_2 : decode cX7_minds 2 = .ok (.invokevirtual 98, 3) := by decide +kernel
theorem dX7_minds_5 : decode cX7_minds 5 = .ok (.ifCond .eq 10, 3) := by decide +kernel
theorem dX7_minds_8 : decode cX7_minds 8 = .ok (.iload_n 2, 1) := by decide +kernel
theorem dX7_minds_9 : decode cX7_minds 9 = .ok (.invokestatic 133, 3) := by decide +kernel
theorem dX7_minds_12 : decode cX7_minds 12 = .ok (.ifCond .ne 5, 3) := by decide +kernel
theorem dX7_minds_15 : decode cX7_minds 15 = .ok (.iconst (-1), 1) := by decide +kernel
theorem dX7_minds_16 : decode cX7_minds 16 = .ok (.ireturn, 1) := by decide +kernel
theorem dX7_minds_17 : decode cX7_minds 17 = .ok (.aload_n 0, 1) := by decide +kernel
theorem dX7_minds_18 : decode cX7_minds 18 = .ok (.getfield 24, 3) := by decide +kernel
theorem dX7_minds_21 : decode cX7_minds 21 = .ok (.getfield 102, 3) := by decide +kernel
theorem dX7_minds_24 : decode cX7_minds 24 = .ok (.getfield 117, 3) := by decide +kernel
theorem dX7_minds_27 : decode cX7_minds 27 = .ok (.iload_n 1, 1) := by decide +kernel
theorem dX7_minds_28 : decode cX7_minds 28 = .ok (.iaload, 1) := by decide +kernel
theorem dX7_minds_29 : decode cX7_minds 29 = .ok (.istore_n 3, 1) := by decide +kernel
theorem dX7_minds_30 : decode cX7_minds 30 = .ok (.iload_n 3, 1) := by decide +kernel
theorem dX7_minds_31 : decode cX7_minds 31 = .ok (.iload_n 2, 1) := by decide +kernel
theorem dX7_minds_32 : decode cX7_minds 32 = .ok (.if_icmp .ne 6, 3) := by decide +kernel
theorem dX7_minds_35 : decode cX7_minds 35 = .ok (.bipush (-2), 2) := by decide +kernel
theorem dX7_minds_37 : decode cX7_minds 37 = .ok (.ireturn, 1) := by decide +kernel
theorem dX7_minds_38 : decode cX7_minds 38 = .ok (.aload_n 0, 1) := by decide +kernel
theorem dX7_minds_39 : decode cX7_minds 39 = .ok (.getfield 24, 3) := by decide +kernel
theorem dX7_minds_42 : decode cX7_minds 42 = .ok (.invokevirtual 142, 3) := by decide +kernel
theorem dX7_minds_45 : decode cX7_minds 45 = .ok (.aload_n 0, 1) := by decide +kernel
theorem dX7_minds_46 : decode cX7_minds 46 = .ok (.getfield 24, 3) := by decide +kernel
theorem dX7_minds_49 : decode cX7_minds 49 = .ok (.getfield 102, 3) := by decide +kernel
theorem dX7_minds_52 : decode cX7_minds 52 = .ok (.getfield 117, 3) := by decide +kernel
theorem dX7_minds_55 : decode cX7_minds 55 = .ok (.iload_n 1, 1) := by decide +kernel
theorem dX7_minds_56 : decode cX7_minds 56 = .ok (.iload_n 2, 1) := by decide +kernel
theorem dX7_minds_57 : decode cX7_minds 57 = .ok (.iastore, 1) := by decide +kernel
theorem dX7_minds_58 : decode cX7_minds 58 = .ok (.iload_n 3, 1) := by decide +kernel
theorem dX7_minds_59 : decode cX7_minds 59 = .ok (.ireturn, 1) := by decide +kernel
theorem dX7_cuts_0 : decode cX7_cuts 0 = .ok (.aload_n 0, 1) := by decide +kernel
theorem dX7_cuts_1 : decode cX7_cuts 1 = .ok (.iload_n 1, 1) := by decide +kernel
theorem dX7_cuts_2 : decode cX7_cuts 2 = .ok (.invokevirtual 98, 3) := by decide +kernel
theorem dX7_cuts_5 : decode cX7_cuts 5 = .ok (.ifCond .eq 13, 3) := by decide +kernel
theorem dX7_cuts_8 : decode cX7_cuts 8 = .ok (.iload_n 2, 1) := by decide +kernel
theorem dX7_cuts_9 : decode cX7_cuts 9 = .ok (.iconst 1, 1) := by decide +kernel
theorem dX7_cuts_10 : decode cX7_cuts 10 = .ok (.bipush 12, 2) := by decide +kernel
theorem dX7_cuts_12 : decode cX7_cuts 12 = .ok (.invokestatic 64, 3) := by decide +kernel
theorem dX7_cuts_15 : decode cX7_cuts 15 = .ok (.ifCond .ne 5, 3) := by decide +kernel
theorem dX7_cuts_18 : decode cX7_cuts 18 = .ok (.iconst (-1), 1) := by decide +kernel
theorem dX7_cuts_19 : decode cX7_cuts 19 = .ok (.ireturn, 1) := by decide +kernel
theorem dX7_cuts_20 : decode cX7_cuts 20 = .ok (.iload_n 2, 1) := by decide +kernel
theorem dX7_cuts_21 : decode cX7_cuts 21 = .ok (.aload_n 0, 1) := by decide +kernel
theorem dX7_cuts_22 : decode cX7_cuts 22 = .ok (.getfield 24, 3) := by decide +kernel
theorem dX7_cuts_25 : decode cX7_cuts 25 = .ok (.getfield 102, 3) := by decide +kernel
theorem dX7_cuts_28 : decode cX7_cuts 28 = .ok (.getfield 112, 3) := by decide +kernel
theorem dX7_cuts_31 : decode cX7_cuts 31 = .ok (.iload_n 1, 1) := by decide +kernel
theorem dX7_cuts_32 : decode cX7_cuts 32 = .ok (.iaload, 1) := by decide +kernel
theorem dX7_cuts_33 : decode cX7_cuts 33 = .ok (.if_icmp .le 6, 3) := by decide +kernel
theorem dX7_cuts_36 : decode cX7_cuts 36 = .ok (.bipush (-2), 2) := by decide +kernel
theorem dX7_cuts_38 : decode cX7_cuts 38 = .ok (.ireturn, 1) := by decide +kernel
theorem dX7_cuts_39 : decode cX7_cuts 39 = .ok (.aload_n 0, 1) := by decide +kernel
theorem dX7_cuts_40 : decode cX7_cuts 40 = .ok (.getfield 24, 3) := by decide +kernel
theorem dX7_cuts_43 : decode cX7_cuts 43 = .ok (.invokevirtual 142, 3) := by decide +kernel
theorem dX7_cuts_46 : decode cX7_cuts 46 = .ok (.aload_n 0, 1) := by decide +kernel
theorem dX7_cuts_47 : decode cX7_cuts 47 = .ok (.getfield 24, 3) := by decide +kernel
theorem dX7_cuts_50 : decode cX7_cuts 50 = .ok (.getfield 102, 3) := by decide +kernel
theorem dX7_cuts_53 : decode cX7_cuts 53 = .ok (.iload_n 1, 1) := by decide +kernel
theorem dX7_cuts_54 : decode cX7_cuts 54 = .ok (.iload_n 2, 1) := by decide +kernel
theorem dX7_cuts_55 : decode cX7_cuts 55 = .ok (.invokevirtual 148, 3) := by decide +kernel
theorem dX7_cuts_58 : decode cX7_cuts 58 = .ok (.aload_n 0, 1) := by decide +kernel
theorem dX7_cuts_59 : decode cX7_cuts 59 = .ok (.getfield 24, 3) := by decide +kernel
theorem dX7_cuts_62 : decode cX7_cuts 62 = .ok (.getfield 102, 3) := by decide +kernel
theorem dX7_cuts_65 : decode cX7_cuts 65 = .ok (.getfield 112, 3) := by decide +kernel
theorem dX7_cuts_68 : decode cX7_cuts 68 = .ok (.iload_n 1, 1) := by decide +kernel
theorem dX7_cuts_69 : decode cX7_cuts 69 = .ok (.iaload, 1) := by decide +kernel
theorem dX7_cuts_70 : decode cX7_cuts 70 = .ok (.ireturn, 1) := by decide +kernel
theorem dX7_changes_0 : decode cX7_changes 0 = .ok (.iload_n 1, 1) := by decide +kernel
theorem dX7_changes_1 : decode cX7_changes 1 = .ok (.invokestatic 130, 3) := by decide +kernel
theorem dX7_changes_4 : decode cX7_changes 4 = .ok (.ifCond .ne 5, 3) := by decide +kernel
theorem dX7_changes_7 : decode cX7_changes 7 = .ok (.iconst (-1), 1) := by decide +kernel
theorem dX7_changes_8 : decode cX7_changes 8 = .ok (.ireturn, 1) := by decide +kernel
theorem dX7_changes_9 : decode cX7_changes 9 = .ok (.aload_n 0, 1) := by decide +kernel
theorem dX7_changes_10 : decode cX7_changes 10 = .ok (.getfield 24, 3) := by decide +kernel
theorem dX7_changes_13 : decode cX7_changes 13 = .ok (.getfield 102, 3) := by decide +kernel
theorem dX7_changes_16 : decode cX7_changes 16 = .ok (.getfield 152, 3) := by decide +kernel
theorem dX7_changes_19 : decode cX7_changes 19 = .ok (.istore_n 2, 1) := by decide +kernel
theorem dX7_changes_20 : decode cX7_changes 20 = .ok (.iload_n 2, 1) := by decide +kernel
theorem dX7_changes_21 : decode cX7_changes 21 = .ok (.iload_n 1, 1) := by decide +kernel
theorem dX7_changes_22 : decode cX7_changes 22 = .ok (.if_icmp .ne 6, 3) := by decide +kernel
theorem dX7_changes_25 : decode cX7_changes 25 = .ok (.bipush (-2), 2) := by decide +kernel
theorem dX7_changes_27 : decode cX7_changes 27 = .ok (.ireturn, 1) := by decide +kernel
theorem dX7_changes_28 : decode cX7_changes 28 = .ok (.aload_n 0, 1) := by decide +kernel
theorem dX7_changes_29 : decode cX7_changes 29 = .ok (.getfield 24, 3) := by decide +kernel
theorem dX7_changes_32 : decode cX7_changes 32 = .ok (.invokevirtual 142, 3) := by decide +kernel
theorem dX7_changes_35 : decode cX7_changes 35 = .ok (.aload_n 0, 1) := by decide +kernel
theorem dX7_changes_36 : decode cX7_changes 36 = .ok (.getfield 24, 3) := by decide +kernel
theorem dX7_changes_39 : decode cX7_changes 39 = .ok (.getfield 102, 3) := by decide +kernel
theorem dX7_changes_42 : decode cX7_changes 42 = .ok (.iload_n 1, 1) := by decide +kernel
theorem dX7_changes_43 : decode cX7_changes 43 = .ok (.putfield 152, 3) := by decide +kernel
theorem dX7_changes_46 : decode cX7_changes 46 = .ok (.iload_n 2, 1) := by decide +kernel
theorem dX7_changes_47 : decode cX7_changes 47 = .ok (.ireturn, 1) := by decide +kernel
theorem dX7_empties_0 : decode cX7_empties 0 = .ok (.iload_n 1, 1) := by decide +kernel
theorem dX7_empties_1 : decode cX7_empties 1 = .ok (.invokestatic 130, 3) := by decide +kernel
theorem dX7_empties_4 : decode cX7_empties 4 = .ok (.ifCond .ne 5, 3) := by decide +kernel
theorem dX7_empties_7 : decode cX7_empties 7 = .ok (.iconst (-1), 1) := by decide +kernel
theorem dX7_empties_8 : decode cX7_empties 8 = .ok (.ireturn, 1) := by decide +kernel
theorem dX7_empties_9 : decode cX7_empties 9 = .ok (.aload_n 0, 1) := by decide +kernel
theorem dX7_empties_10 : decode cX7_empties 10 = .ok (.getfield 24, 3) := by decide +kernel
theorem dX7_empties_13 : decode cX7_empties 13 = .ok (.getfield 102, 3) := by decide +kernel
theorem dX7_empties_16 : decode cX7_empties 16 = .ok (.iload_n 1, 1) := by decide +kernel
theorem dX7_empties_17 : decode cX7_empties 17 = .ok (.invokevirtual 153, 3) := by decide +kernel
theorem dX7_empties_20 : decode cX7_empties 20 = .ok (.istore_n 2, 1) := by decide +kernel
theorem dX7_empties_21 : decode cX7_empties 21 = .ok (.iload_n 2, 1) := by decide +kernel
theorem dX7_empties_22 : decode cX7_empties 22 = .ok (.ifCond .ne 6, 3) := by decide +kernel
theorem dX7_empties_25 : decode cX7_empties 25 = .ok (.bipush (-2), 2) := by decide +kernel
theorem dX7_empties_27 : decode cX7_empties 27 = .ok (.ireturn, 1) := by decide +kernel
theorem dX7_empties_28 : decode cX7_empties 28 = .ok (.aload_n 0, 1) := by decide +kernel
theorem dX7_empties_29 : decode cX7_empties 29 = .ok (.getfield 24, 3) := by decide +kernel
theorem dX7_empties_32 : decode cX7_empties 32 = .ok (.invokevirtual 142, 3) := by decide +kernel
theorem dX7_empties_35 : decode cX7_empties 35 = .ok (.aload_n 0, 1) := by decide +kernel
theorem dX7_empties_36 : decode cX7_empties 36 = .ok (.getfield 24, 3) := by decide +kernel
theorem dX7_empties_39 : decode cX7_empties 39 = .ok (.getfield 102, 3) := by decide +kernel
theorem dX7_empties_42 : decode cX7_empties 42 = .ok (.iload_n 1, 1) := by decide +kernel
theorem dX7_empties_43 : decode cX7_empties 43 = .ok (.invokevirtual 157, 3) := by decide +kernel
theorem dX7_empties_46 : decode cX7_empties 46 = .ok (.iload_n 2, 1) := by decide +kernel
theorem dX7_empties_47 : decode cX7_empties 47 = .ok (.ireturn, 1) := by decide +kernel
theorem dX7_undo_0 : decode cX7_undo 0 = .ok (.aload_n 0, 1) := by decide +kernel
theorem dX7_undo_1 : decode cX7_undo 1 = .ok (.getfield 24, 3) := by decide +kernel
theorem dX7_undo_4 : decode cX7_undo 4 = .ok (.getfield 160, 3) := by decide +kernel
theorem dX7_undo_7 : decode cX7_undo 7 = .ok (.ifCond .ne 6, 3) := by decide +kernel
theorem dX7_undo_10 : decode cX7_undo 10 = .ok (.bipush (-2), 2) := by decide +kernel
theorem dX7_undo_12 : decode cX7_undo 12 = .ok (.ireturn, 1) := by decide +kernel
theorem dX7_undo_13 : decode cX7_undo 13 = .ok (.aload_n 0, 1) := by decide +kernel
theorem dX7_undo_14 : decode cX7_undo 14 = .ok (.getfield 24, 3) := by decide +kernel
theorem dX7_undo_17 : decode cX7_undo 17 = .ok (.invokevirtual 163, 3) := by decide +kernel
theorem dX7_undo_20 : decode cX7_undo 20 = .ok (.aload_n 0, 1) := by decide +kernel
theorem dX7_undo_21 : decode cX7_undo 21 = .ok (.getfield 24, 3) := by decide +kernel
theorem dX7_undo_24 : decode cX7_undo 24 = .ok (.getfield 160, 3) := by decide +kernel
theorem dX7_undo_27 : decode cX7_undo 27 = .ok (.ireturn, 1) := by decide +kernel
theorem dX7_now_0 : decode cX7_now 0 = .ok (.aload_n 0, 1) := by decide +kernel
theorem dX7_now_1 : decode cX7_now 1 = .ok (.getfield 24, 3) := by decide +kernel
theorem dX7_now_4 : decode cX7_now 4 = .ok (.getfield 102, 3) := by decide +kernel
theorem dX7_now_7 : decode cX7_now 7 = .ok (.astore_n 2, 1) := by decide +kernel
theorem dX7_now_8 : decode cX7_now 8 = .ok (.iload_n 1, 1) := by decide +kernel
theorem dX7_now_9 : decode cX7_now 9 = .ok (.tableswitch 51 0 3 #[31, 36, 41, 46], 31) := by decide +kernel
theorem dX7_now_40 : decode cX7_now 40 = .ok (.aload_n 2, 1) := by decide +kernel
theorem dX7_now_41 : decode cX7_now 41 = .ok (.getfield 139, 3) := by decide +kernel
theorem dX7_now_44 : decode cX7_now 44 = .ok (.ireturn, 1) := by decide +kernel
theorem dX7_now_45 : decode cX7_now 45 = .ok (.aload_n 2, 1) := by decide +kernel
theorem dX7_now_46 : decode cX7_now 46 = .ok (.getfield 152, 3) := by decide +kernel
theorem dX7_now_49 : decode cX7_now 49 = .ok (.ireturn, 1) := by decide +kernel
theorem dX7_now_50 : decode cX7_now 50 = .ok (.aload_n 0, 1) := by decide +kernel
theorem dX7_now_51 : decode cX7_now 51 = .ok (.invokevirtual 166, 3) := by decide +kernel
theorem dX7_now_54 : decode cX7_now 54 = .ok (.ireturn, 1) := by decide +kernel
theorem dX7_now_55 : decode cX7_now 55 = .ok (.aload_n 0, 1) := by decide +kernel
theorem dX7_now_56 : decode cX7_now 56 = .ok (.invokevirtual 169, 3) := by decide +kernel
theorem dX7_now_59 : decode cX7_now 59 = .ok (.ireturn, 1) := by decide +kernel
theorem dX7_now_60 : decode cX7_now 60 = .ok (.iconst (-1), 1) := by decide +kernel
theorem dX7_now_61 : decode cX7_now 61 = .ok (.ireturn, 1) := by decide +kernel
theorem dX7_reads_0 : decode cX7_reads 0 = .ok (.iload_n 1, 1) := by decide +kernel
theorem dX7_reads_1 : decode cX7_reads 1 = .ok (.invokestatic 130, 3) := by decide +kernel
theorem dX7_reads_4 : decode cX7_reads 4 = .ok (.ifCond .ne 5, 3) := by decide +kernel
theorem dX7_reads_7 : decode cX7_reads 7 = .ok (.iconst (-1), 1) := by decide +kernel
theorem dX7_reads_8 : decode cX7_reads 8 = .ok (.ireturn, 1) := by decide +kernel
theorem dX7_reads_9 : decode cX7_reads 9 = .ok (.iload_n 2, 1) := by decide +kernel
theorem dX7_reads_10 : decode cX7_reads 10 = .ok (.lookupswitch 38 #[(0, 26), (1, 32)], 26) := by decide +kernel
theorem dX7_reads_36 : decode cX7_reads 36 = .ok (.aload_n 0, 1) := by decide +kernel
theorem dX7_reads_37 : decode cX7_reads 37 = .ok (.iload_n 1, 1) := by decide +kernel
theorem dX7_reads_38 : decode cX7_reads 38 = .ok (.invokevirtual 172, 3) := by decide +kernel
theorem dX7_reads_41 : decode cX7_reads 41 = .ok (.ireturn, 1) := by decide +kernel
theorem dX7_reads_42 : decode cX7_reads 42 = .ok (.aload_n 0, 1) := by decide +kernel
theorem dX7_reads_43 : decode cX7_reads 43 = .ok (.iload_n 1, 1) := by decide +kernel
theorem dX7_reads_44 : decode cX7_reads 44 = .ok (.invokevirtual 175, 3) := by decide +kernel
theorem dX7_reads_47 : decode cX7_reads 47 = .ok (.ireturn, 1) := by decide +kernel
theorem dX7_reads_48 : decode cX7_reads 48 = .ok (.iconst (-1), 1) := by decide +kernel
theorem dX7_reads_49 : decode cX7_reads 49 = .ok (.ireturn, 1) := by decide +kernel
theorem dX7_plan_0 : decode cX7_plan 0 = .ok (.aload_n 0, 1) := by decide +kernel
theorem dX7_plan_1 : decode cX7_plan 1 = .ok (.iload_n 1, 1) := by decide +kernel
theorem dX7_plan_2 : decode cX7_plan 2 = .ok (.invokevirtual 98, 3) := by decide +kernel
theorem dX7_plan_5 : decode cX7_plan 5 = .ok (.ifCond .eq 33, 3) := by decide +kernel
theorem dX7_plan_8 : decode cX7_plan 8 = .ok (.iload_n 2, 1) := by decide +kernel
theorem dX7_plan_9 : decode cX7_plan 9 = .ok (.iconst 1, 1) := by decide +kernel
theorem dX7_plan_10 : decode cX7_plan 10 = .ok (.bipush 20, 2) := by decide +kernel
theorem dX7_plan_12 : decode cX7_plan 12 = .ok (.invokestatic 64, 3) := by decide +kernel
theorem dX7_plan_15 : decode cX7_plan 15 = .ok (.ifCond .eq 23, 3) := by decide +kernel
theorem dX7_plan_18 : decode cX7_plan 18 = .ok (.iload_n 3, 1) := by decide +kernel
theorem dX7_plan_19 : decode cX7_plan 19 = .ok (.iconst 1, 1) := by decide +kernel
theorem dX7_plan_20 : decode cX7_plan 20 = .ok (.bipush 12, 2) := by decide +kernel
theorem dX7_plan_22 : decode cX7_plan 22 = .ok (.invokestatic 64, 3) := by decide +kernel
theorem dX7_plan_25 : decode cX7_plan 25 = .ok (.ifCond .eq 13, 3) := by decide +kernel
theorem dX7_plan_28 : decode cX7_plan 28 = .ok (.iload 4, 2) := by decide +kernel
theorem dX7_plan_30 : decode cX7_plan 30 = .ok (.iconst 0, 1) := by decide +kernel
theorem dX7_plan_31 : decode cX7_plan 31 = .ok (.iconst 1, 1) := by decide +kernel
theorem dX7_plan_32 : decode cX7_plan 32 = .ok (.invokestatic 64, 3) := by decide +kernel
theorem dX7_plan_35 : decode cX7_plan 35 = .ok (.ifCond .ne 5, 3) := by decide +kernel
theorem dX7_plan_38 : decode cX7_plan 38 = .ok (.iconst (-1), 1) := by decide +kernel
theorem dX7_plan_39 : decode cX7_plan 39 = .ok (.ireturn, 1) := by decide +kernel
theorem dX7_plan_40 : decode cX7_plan 40 = .ok (.aload_n 0, 1) := by decide +kernel
theorem dX7_plan_41 : decode cX7_plan 41 = .ok (.getfield 46, 3) := by decide +kernel
theorem dX7_plan_44 : decode cX7_plan 44 = .ok (.aload_n 0, 1) := by decide +kernel
theorem dX7_plan_45 : decode cX7_plan 45 = .ok (.getfield 53, 3) := by decide +kernel
theorem dX7_plan_48 : decode cX7_plan 48 = .ok (.aload_n 0, 1) := by decide +kernel
theorem dX7_plan_49 : decode cX7_plan 49 = .ok (.getfield 24, 3) := by decide +kernel
theorem dX7_plan_52 : decode cX7_plan 52 = .ok (.getfield 102, 3) := by decide +kernel
theorem dX7_plan_55 : decode cX7_plan 55 = .ok (.iload_n 1, 1) := by decide +kernel
theorem dX7_plan_56 : decode cX7_plan 56 = .ok (.iload_n 2, 1) := by decide +kernel
theorem dX7_plan_57 : decode cX7_plan 57 = .ok (.invokevirtual 178, 3) := by decide +kernel
theorem dX7_plan_60 : decode cX7_plan 60 = .ok (.aload_n 0, 1) := by decide +kernel
theorem dX7_plan_61 : decode cX7_plan 61 = .ok (.getfield 46, 3) := by decide +kernel
theorem dX7_plan_64 : decode cX7_plan 64 = .ok (.aload_n 0, 1) := by decide +kernel
theorem dX7_plan_65 : decode cX7_plan 65 = .ok (.getfield 53, 3) := by decide +kernel
theorem dX7_plan_68 : decode cX7_plan 68 = .ok (.getfield 106, 3) := by decide +kernel
theorem dX7_plan_71 : decode cX7_plan 71 = .ok (.iload_n 1, 1) := by decide +kernel
theorem dX7_plan_72 : decode cX7_plan 72 = .ok (.iaload, 1) := by decide +kernel
theorem dX7_plan_73 : decode cX7_plan 73 = .ok (.iload_n 2, 1) := by decide +kernel
theorem dX7_plan_74 : decode cX7_plan 74 = .ok (.iload_n 3, 1) := by decide +kernel
theorem dX7_plan_75 : decode cX7_plan 75 = .ok (.invokevirtual 182, 3) := by decide +kernel
theorem dX7_plan_78 : decode cX7_plan 78 = .ok (.istore 5, 2) := by decide +kernel
theorem dX7_plan_80 : decode cX7_plan 80 = .ok (.iload 4, 2) := by decide +kernel
theorem dX7_plan_82 : decode cX7_plan 82 = .ok (.iconst 1, 1) := by decide +kernel
theorem dX7_plan_83 : decode cX7_plan 83 = .ok (.if_icmp .ne 6, 3) := by decide +kernel
theorem dX7_plan_86 : decode cX7_plan 86 = .ok (.iload 5, 2) := by decide +kernel
theorem dX7_plan_88 : decode cX7_plan 88 = .ok (.ireturn, 1) := by decide +kernel
theorem dX7_plan_89 : decode cX7_plan 89 = .ok (.iload 5, 2) := by decide +kernel
theorem dX7_plan_91 : decode cX7_plan 91 = .ok (.bipush (-9), 2) := by decide +kernel
theorem dX7_plan_93 : decode cX7_plan 93 = .ok (.if_icmp .ne 13, 3) := by decide +kernel
theorem dX7_plan_96 : decode cX7_plan 96 = .ok (.aload_n 0, 1) := by decide +kernel
theorem dX7_plan_97 : decode cX7_plan 97 = .ok (.getfield 46, 3) := by decide +kernel
theorem dX7_plan_100 : decode cX7_plan 100 = .ok (.invokevirtual 186, 3) := by decide +kernel
theorem dX7_plan_103 : decode cX7_plan 103 = .ok (.goto 5, 3) := by decide +kernel
theorem dX7_plan_106 : decode cX7_plan 106 = .ok (.bipush (-9), 2) := by decide +kernel
theorem dX7_plan_108 : decode cX7_plan 108 = .ok (.ireturn, 1) := by decide +kernel
theorem dX7_least_0 : decode cX7_least 0 = .ok (.aload_n 0, 1) := by decide +kernel
theorem dX7_least_1 : decode cX7_least 1 = .ok (.iload_n 1, 1) := by decide +kernel
theorem dX7_least_2 : decode cX7_least 2 = .ok (.invokevirtual 98, 3) := by decide +kernel
theorem dX7_least_5 : decode cX7_least 5 = .ok (.ifCond .eq 20, 3) := by decide +kernel
theorem dX7_least_8 : decode cX7_least 8 = .ok (.iload_n 2, 1) := by decide +kernel
theorem dX7_least_9 : decode cX7_least 9 = .ok (.invokestatic 133, 3) := by decide +kernel
theorem dX7_least_12 : decode cX7_least 12 = .ok (.ifCond .eq 13, 3) := by decide +kernel
theorem dX7_least_15 : decode cX7_least 15 = .ok (.iload_n 3, 1) := by decide +kernel
theorem dX7_least_16 : decode cX7_least 16 = .ok (.iconst 1, 1) := by decide +kernel
theorem dX7_least_17 : decode cX7_least 17 = .ok (.bipush 8, 2) := by decide +kernel
theorem dX7_least_19 : decode cX7_least 19 = .ok (.invokestatic 64, 3) := by decide +kernel
theorem dX7_least_22 : decode cX7_least 22 = .ok (.ifCond .ne 5, 3) := by decide +kernel
theorem dX7_least_25 : decode cX7_least 25 = .ok (.iconst (-1), 1) := by decide +kernel
theorem dX7_least_26 : decode cX7_least 26 = .ok (.ireturn, 1) := by decide +kernel
theorem dX7_least_27 : decode cX7_least 27 = .ok (.aload_n 0, 1) := by decide +kernel
theorem dX7_least_28 : decode cX7_least 28 = .ok (.getfield 46, 3) := by decide +kernel
theorem dX7_least_31 : decode cX7_least 31 = .ok (.aload_n 0, 1) := by decide +kernel
theorem dX7_least_32 : decode cX7_least 32 = .ok (.getfield 53, 3) := by decide +kernel
theorem dX7_least_35 : decode cX7_least 35 = .ok (.aload_n 0, 1) := by decide +kernel
theorem dX7_least_36 : decode cX7_least 36 = .ok (.getfield 24, 3) := by decide +kernel
theorem dX7_least_39 : decode cX7_least 39 = .ok (.getfield 102, 3) := by decide +kernel
theorem dX7_least_42 : decode cX7_least 42 = .ok (.iload_n 1, 1) := by decide +kernel
theorem dX7_least_43 : decode cX7_least 43 = .ok (.iload_n 3, 1) := by decide +kernel
theorem dX7_least_44 : decode cX7_least 44 = .ok (.invokevirtual 178, 3) := by decide +kernel
theorem dX7_least_47 : decode cX7_least 47 = .ok (.aload_n 0, 1) := by decide +kernel
theorem dX7_least_48 : decode cX7_least 48 = .ok (.getfield 46, 3) := by decide +kernel
theorem dX7_least_51 : decode cX7_least 51 = .ok (.iload_n 2, 1) := by decide +kernel
theorem dX7_least_52 : decode cX7_least 52 = .ok (.invokevirtual 189, 3) := by decide +kernel
theorem dX7_least_55 : decode cX7_least 55 = .ok (.ireturn, 1) := by decide +kernel
theorem dX7_wig_0 : decode cX7_wig 0 = .ok (.iload_n 1, 1) := by decide +kernel
theorem dX7_wig_1 : decode cX7_wig 1 = .ok (.iconst 0, 1) := by decide +kernel
theorem dX7_wig_2 : decode cX7_wig 2 = .ok (.sipush 1023, 3) := by decide +kernel
theorem dX7_wig_5 : decode cX7_wig 5 = .ok (.invokestatic 64, 3) := by decide +kernel
theorem dX7_wig_8 : decode cX7_wig 8 = .ok (.ifCond .ne 5, 3) := by decide +kernel
theorem dX7_wig_11 : decode cX7_wig 11 = .ok (.iconst (-1), 1) := by decide +kernel
theorem dX7_wig_12 : decode cX7_wig 12 = .ok (.ireturn, 1) := by decide +kernel
theorem dX7_wig_13 : decode cX7_wig 13 = .ok (.iconst 0, 1) := by decide +kernel
theorem dX7_wig_14 : decode cX7_wig 14 = .ok (.istore_n 2, 1) := by decide +kernel
theorem dX7_wig_15 : decode cX7_wig 15 = .ok (.iload_n 2, 1) := by decide +kernel
theorem dX7_wig_16 : decode cX7_wig 16 = .ok (.aload_n 0, 1) := by decide +kernel
theorem dX7_wig_17 : decode cX7_wig 17 = .ok (.getfield 53, 3) := by decide +kernel
theorem dX7_wig_20 : decode cX7_wig 20 = .ok (.getfield 192, 3) := by decide +kernel
theorem dX7_wig_23 : decode cX7_wig 23 = .ok (.if_icmp .ge 26, 3) := by decide +kernel
theorem dX7_wig_26 : decode cX7_wig 26 = .ok (.aload_n 0, 1) := by decide +kernel
theorem dX7_wig_27 : decode cX7_wig 27 = .ok (.getfield 61, 3) := by decide +kernel
theorem dX7_wig_30 : decode cX7_wig 30 = .ok (.iload_n 2, 1) := by decide +kernel
theorem dX7_wig_31 : decode cX7_wig 31 = .ok (.aload_n 0, 1) := by decide +kernel
theorem dX7_wig_32 : decode cX7_wig 32 = .ok (.getfield 24, 3) := by decide +kernel
theorem dX7_wig_35 : decode cX7_wig 35 = .ok (.getfield 102, 3) := by decide +kernel
theorem dX7_wig_38 : decode cX7_wig 38 = .ok (.iload_n 2, 1) := by decide +kernel
theorem dX7_wig_39 : decode cX7_wig 39 = .ok (.invokevirtual 195, 3) := by decide +kernel
theorem dX7_wig_42 : decode cX7_wig 42 = .ok (.iastore, 1) := by decide +kernel
theorem dX7_wig_43 : decode cX7_wig 43 = .ok (.iinc 2 1, 3) := by decide +kernel
theorem dX7_wig_46 : decode cX7_wig 46 = .ok (.goto (-31), 3) := by decide +kernel
theorem dX7_wig_49 : decode cX7_wig 49 = .ok (.bipush (-9), 2) := by decide +kernel
theorem dX7_wig_51 : decode cX7_wig 51 = .ok (.istore_n 2, 1) := by decide +kernel
theorem dX7_wig_52 : decode cX7_wig 52 = .ok (.bipush 6, 2) := by decide +kernel
theorem dX7_wig_54 : decode cX7_wig 54 = .ok (.istore_n 3, 1) := by decide +kernel
theorem dX7_wig_55 : decode cX7_wig 55 = .ok (.iconst 0, 1) := by decide +kernel
theorem dX7_wig_56 : decode cX7_wig 56 = .ok (.istore 4, 2) := by decide +kernel
theorem dX7_wig_58 : decode cX7_wig 58 = .ok (.iload 4, 2) := by decide +kernel
theorem dX7_wig_60 : decode cX7_wig 60 = .ok (.iconst 1, 1) := by decide +kernel
theorem dX7_wig_61 : decode cX7_wig 61 = .ok (.aload_n 0, 1) := by decide +kernel
theorem dX7_wig_62 : decode cX7_wig 62 = .ok (.getfield 53, 3) := by decide +kernel
theorem dX7_wig_65 : decode cX7_wig 65 = .ok (.getfield 192, 3) := by decide +kernel
theorem dX7_wig_68 : decode cX7_wig 68 = .ok (.ishl, 1) := by decide +kernel
theorem dX7_wig_69 : decode cX7_wig 69 = .ok (.if_icmp .ge 40, 3) := by decide +kernel
theorem dX7_wig_72 : decode cX7_wig 72 = .ok (.iload 4, 2) := by decide +kernel
theorem dX7_wig_74 : decode cX7_wig 74 = .ok (.invokestatic 198, 3) := by decide +kernel
theorem dX7_wig_77 : decode cX7_wig 77 = .ok (.istore 5, 2) := by decide +kernel
theorem dX7_wig_79 : decode cX7_wig 79 = .ok (.iload 5, 2) := by decide +kernel
theorem dX7_wig_81 : decode cX7_wig 81 = .ok (.iload_n 3, 1) := by decide +kernel
theorem dX7_wig_82 : decode cX7_wig 82 = .ok (.if_icmp .ge 21, 3) := by decide +kernel
theorem dX7_wig_85 : decode cX7_wig 85 = .ok (.aload_n 0, 1) := by decide +kernel
theorem dX7_wig_86 : decode cX7_wig 86 = .ok (.iload 4, 2) := by decide +kernel
theorem dX7_wig_88 : decode cX7_wig 88 = .ok (.invokevirtual 203, 3) := by decide +kernel
theorem dX7_wig_91 : decode cX7_wig 91 = .ok (.iload_n 1, 1) := by decide +kernel
theorem dX7_wig_92 : decode cX7_wig 92 = .ok (.iand, 1) := by decide +kernel
theorem dX7_wig_93 : decode cX7_wig 93 = .ok (.iload_n 1, 1) := by decide +kernel
theorem dX7_wig_94 : decode cX7_wig 94 = .ok (.if_icmp .ne 9, 3) := by decide +kernel
theorem dX7_wig_97 : decode cX7_wig 97 = .ok (.iload 4, 2) := by decide +kernel
theorem dX7_wig_99 : decode cX7_wig 99 = .ok (.istore_n 2, 1) := by decide +kernel
theorem dX7_wig_100 : decode cX7_wig 100 = .ok (.iload 5, 2) := by decide +kernel
theorem dX7_wig_102 : decode cX7_wig 102 = .ok (.istore_n 3, 1) := by decide +kernel
theorem dX7_wig_103 : decode cX7_wig 103 = .ok (.iinc 4 1, 3) := by decide +kernel
theorem dX7_wig_106 : decode cX7_wig 106 = .ok (.goto (-48), 3) := by decide +kernel
theorem dX7_wig_109 : decode cX7_wig 109 = .ok (.iload_n 2, 1) := by decide +kernel
theorem dX7_wig_110 : decode cX7_wig 110 = .ok (.ireturn, 1) := by decide +kernel
theorem dX7_odds_0 : decode cX7_odds 0 = .ok (.iload_n 1, 1) := by decide +kernel
theorem dX7_odds_1 : decode cX7_odds 1 = .ok (.iconst 0, 1) := by decide +kernel
theorem dX7_odds_2 : decode cX7_odds 2 = .ok (.bipush 10, 2) := by decide +kernel
theorem dX7_odds_4 : decode cX7_odds 4 = .ok (.invokestatic 64, 3) := by decide +kernel
theorem dX7_odds_7 : decode cX7_odds 7 = .ok (.ifCond .eq 33, 3) := by decide +kernel
theorem dX7_odds_10 : decode cX7_odds 10 = .ok (.iload_n 2, 1) := by decide +kernel
theorem dX7_odds_11 : decode cX7_odds 11 = .ok (.iconst 0, 1) := by decide +kernel
theorem dX7_odds_12 : decode cX7_odds 12 = .ok (.bipush 7, 2) := by decide +kernel
theorem dX7_odds_14 : decode cX7_odds 14 = .ok (.invokestatic 64, 3) := by decide +kernel
theorem dX7_odds_17 : decode cX7_odds 17 = .ok (.ifCond .eq 23, 3) := by decide +kernel
theorem dX7_odds_20 : decode cX7_odds 20 = .ok (.iload_n 3, 1) := by decide +kernel
theorem dX7_odds_21 : decode cX7_odds 21 = .ok (.iconst 0, 1) := by decide +kernel
theorem dX7_odds_22 : decode cX7_odds 22 = .ok (.bipush 7, 2) := by decide +kernel
theorem dX7_odds_24 : decode cX7_odds 24 = .ok (.invokestatic 64, 3) := by decide +kernel
theorem dX7_odds_27 : decode cX7_odds 27 = .ok (.ifCond .eq 13, 3) := by decide +kernel
theorem dX7_odds_30 : decode cX7_odds 30 = .ok (.iload 4, 2) := by decide +kernel
theorem dX7_odds_32 : decode cX7_odds 32 = .ok (.iconst 0, 1) := by decide +kernel
theorem dX7_odds_33 : decode cX7_odds 33 = .ok (.iconst 1, 1) := by decide +kernel
theorem dX7_odds_34 : decode cX7_odds 34 = .ok (.invokestatic 64, 3) := by decide +kernel
theorem dX7_odds_37 : decode cX7_odds 37 = .ok (.ifCond .ne 5, 3) := by decide +kernel
theorem dX7_odds_40 : decode cX7_odds 40 = .ok (.iconst (-1), 1) := by decide +kernel
theorem dX7_odds_41 : decode cX7_odds 41 = .ok (.ireturn, 1) := by decide +kernel
theorem dX7_odds_42 : decode cX7_odds 42 = .ok (.iconst 0, 1) := by decide +kernel
theorem dX7_odds_43 : decode cX7_odds 43 = .ok (.istore 5, 2) := by decide +kernel
theorem dX7_odds_45 : decode cX7_odds 45 = .ok (.iload_n 2, 1) := by decide +kernel
theorem dX7_odds_46 : decode cX7_odds 46 = .ok (.iload_n 3, 1) := by decide +kernel
theorem dX7_odds_47 : decode cX7_odds 47 = .ok (.if_icmp .gt 27, 3) := by decide +kernel
theorem dX7_odds_50 : decode cX7_odds 50 = .ok (.iload_n 3, 1) := by decide +kernel
theorem dX7_odds_51 : decode cX7_odds 51 = .ok (.iload_n 2, 1) := by decide +kernel
theorem dX7_odds_52 : decode cX7_odds 52 = .ok (.invokestatic 206, 3) := by decide +kernel
theorem dX7_odds_55 : decode cX7_odds 55 = .ok (.iload_n 1, 1) := by decide +kernel
theorem dX7_odds_56 : decode cX7_odds 56 = .ok (.iload_n 2, 1) := by decide +kernel
theorem dX7_odds_57 : decode cX7_odds 57 = .ok (.invokestatic 209, 3) := by decide +kernel
theorem dX7_odds_60 : decode cX7_odds 60 = .ok (.imul, 1) := by decide +kernel
theorem dX7_odds_61 : decode cX7_odds 61 = .ok (.bipush 10, 2) := by decide +kernel
theorem dX7_odds_63 : decode cX7_odds 63 = .ok (.iload_n 1, 1) := by decide +kernel
theorem dX7_odds_64 : decode cX7_odds 64 = .ok (.isub, 1) := by decide +kernel
theorem dX7_odds_65 : decode cX7_odds 65 = .ok (.iload_n 3, 1) := by decide +kernel
theorem dX7_odds_66 : decode cX7_odds 66 = .ok (.iload_n 2, 1) := by decide +kernel
theorem dX7_odds_67 : decode cX7_odds 67 = .ok (.isub, 1) := by decide +kernel
theorem dX7_odds_68 : decode cX7_odds 68 = .ok (.invokestatic 209, 3) := by decide +kernel
theorem dX7_odds_71 : decode cX7_odds 71 = .ok (.imul, 1) := by decide +kernel
theorem dX7_odds_72 : decode cX7_odds 72 = .ok (.istore 5, 2) := by decide +kernel
theorem dX7_odds_74 : decode cX7_odds 74 = .ok (.bipush 10, 2) := by decide +kernel
theorem dX7_odds_76 : decode cX7_odds 76 = .ok (.iload_n 3, 1) := by decide +kernel
theorem dX7_odds_77 : decode cX7_odds 77 = .ok (.invokestatic 209, 3) := by decide +kernel
theorem dX7_odds_80 : decode cX7_odds 80 = .ok (.istore 6, 2) := by decide +kernel
theorem dX7_odds_82 : decode cX7_odds 82 = .ok (.iload 5, 2) := by decide +kernel
theorem dX7_odds_84 : decode cX7_odds 84 = .ok (.iload 6, 2) := by decide +kernel
theorem dX7_odds_86 : decode cX7_odds 86 = .ok (.invokestatic 212, 3) := by decide +kernel
theorem dX7_odds_89 : decode cX7_odds 89 = .ok (.istore 7, 2) := by decide +kernel
theorem dX7_odds_91 : decode cX7_odds 91 = .ok (.iload 7, 2) := by decide +kernel
theorem dX7_odds_93 : decode cX7_odds 93 = .ok (.ifCond .gt 5, 3) := by decide +kernel
theorem dX7_odds_96 : decode cX7_odds 96 = .ok (.iconst (-1), 1) := by decide +kernel
theorem dX7_odds_97 : decode cX7_odds 97 = .ok (.ireturn, 1) := by decide +kernel
theorem dX7_odds_98 : decode cX7_odds 98 = .ok (.iload 4, 2) := by decide +kernel
theorem dX7_odds_100 : decode cX7_odds 100 = .ok (.ifCond .ne 8, 3) := by decide +kernel
theorem dX7_odds_103 : decode cX7_odds 103 = .ok (.iload 5, 2) := by decide +kernel
theorem dX7_odds_105 : decode cX7_odds 105 = .ok (.goto 5, 3) := by decide +kernel
theorem dX7_odds_108 : decode cX7_odds 108 = .ok (.iload 6, 2) := by decide +kernel
theorem dX7_odds_110 : decode cX7_odds 110 = .ok (.iload 7, 2) := by decide +kernel
theorem dX7_odds_112 : decode cX7_odds 112 = .ok (.idiv, 1) := by decide +kernel
theorem dX7_odds_113 : decode cX7_odds 113 = .ok (.ireturn, 1) := by decide +kernel
theorem dX7_saw_0 : decode cX7_saw 0 = .ok (.iload_n 1, 1) := by decide +kernel
theorem dX7_saw_1 : decode cX7_saw 1 = .ok (.invokestatic 133, 3) := by decide +kernel
theorem dX7_saw_4 : decode cX7_saw 4 = .ok (.ifCond .ne 5, 3) := by decide +kernel
theorem dX7_saw_7 : decode cX7_saw 7 = .ok (.iconst (-1), 1) := by decide +kernel
theorem dX7_saw_8 : decode cX7_saw 8 = .ok (.ireturn, 1) := by decide +kernel
theorem dX7_saw_9 : decode cX7_saw 9 = .ok (.aload_n 0, 1) := by decide +kernel
theorem dX7_saw_10 : decode cX7_saw 10 = .ok (.getfield 39, 3) := by decide +kernel
theorem dX7_saw_13 : decode cX7_saw 13 = .ok (.getfield 215, 3) := by decide +kernel
theorem dX7_saw_16 : decode cX7_saw 16 = .ok (.iconst 4, 1) := by decide +kernel
theorem dX7_saw_17 : decode cX7_saw 17 = .ok (.if_icmp .lt 6, 3) := by decide +kernel
theorem dX7_saw_20 : decode cX7_saw 20 = .ok (.bipush (-3), 2) := by decide +kernel
theorem dX7_saw_22 : decode cX7_saw 22 = .ok (.ireturn, 1) := by decide +kernel
theorem dX7_saw_23 : decode cX7_saw 23 = .ok (.aload_n 0, 1) := by decide +kernel
theorem dX7_saw_24 : decode cX7_saw 24 = .ok (.getfield 39, 3) := by decide +kernel
theorem dX7_saw_27 : decode cX7_saw 27 = .ok (.getfield 218, 3) := by decide +kernel
theorem dX7_saw_30 : decode cX7_saw 30 = .ok (.aload_n 0, 1) := by decide +kernel
theorem dX7_saw_31 : decode cX7_saw 31 = .ok (.getfield 39, 3) := by decide +kernel
theorem dX7_saw_34 : decode cX7_saw 34 = .ok (.getfield 215, 3) := by decide +kernel
theorem dX7_saw_37 : decode cX7_saw 37 = .ok (.iload_n 1, 1) := by decide +kernel
theorem dX7_saw_38 : decode cX7_saw 38 = .ok (.iastore, 1) := by decide +kernel
theorem dX7_saw_39 : decode cX7_saw 39 = .ok (.aload_n 0, 1) := by decide +kernel
theorem dX7_saw_40 : decode cX7_saw 40 = .ok (.getfield 39, 3) := by decide +kernel
theorem dX7_saw_43 : decode cX7_saw 43 = .ok (.dup, 1) := by decide +kernel
theorem dX7_saw_44 : decode cX7_saw 44 = .ok (.getfield 215, 3) := by decide +kernel
theorem dX7_saw_47 : decode cX7_saw 47 = .ok (.iconst 1, 1) := by decide +kernel
theorem dX7_saw_48 : decode cX7_saw 48 = .ok (.iadd, 1) := by decide +kernel
theorem dX7_saw_49 : decode cX7_saw 49 = .ok (.putfield 215, 3) := by decide +kernel
theorem dX7_saw_52 : decode cX7_saw 52 = .ok (.aload_n 0, 1) := by decide +kernel
theorem dX7_saw_53 : decode cX7_saw 53 = .ok (.getfield 39, 3) := by decide +kernel
theorem dX7_saw_56 : decode cX7_saw 56 = .ok (.getfield 215, 3) := by decide +kernel
theorem dX7_saw_59 : decode cX7_saw 59 = .ok (.ireturn, 1) := by decide +kernel
theorem dX7_lock_0 : decode cX7_lock 0 = .ok (.iload_n 1, 1) := by decide +kernel
theorem dX7_lock_1 : decode cX7_lock 1 = .ok (.lookupswitch 37 #[(0, 27), (1, 32)], 27) := by decide +kernel
theorem dX7_lock_28 : decode cX7_lock 28 = .ok (.aload_n 0, 1) := by decide +kernel
theorem dX7_lock_29 : decode cX7_lock 29 = .ok (.invokevirtual 221, 3) := by decide +kernel
theorem dX7_lock_32 : decode cX7_lock 32 = .ok (.ireturn, 1) := by decide +kernel
theorem dX7_lock_33 : decode cX7_lock 33 = .ok (.aload_n 0, 1) := by decide +kernel
theorem dX7_lock_34 : decode cX7_lock 34 = .ok (.invokevirtual 224, 3) := by decide +kernel
theorem dX7_lock_37 : decode cX7_lock 37 = .ok (.ireturn, 1) := by decide +kernel
theorem dX7_lock_38 : decode cX7_lock 38 = .ok (.iconst (-1), 1) := by decide +kernel
theorem dX7_lock_39 : decode cX7_lock 39 = .ok (.ireturn, 1) := by decide +kernel
theorem dX7_hears_0 : decode cX7_hears 0 = .ok (.iload_n 1, 1) := by decide +kernel
theorem dX7_hears_1 : decode cX7_hears 1 = .ok (.invokestatic 133, 3) := by decide +kernel
theorem dX7_hears_4 : decode cX7_hears 4 = .ok (.ifCond .eq 13, 3) := by decide +kernel
theorem dX7_hears_7 : decode cX7_hears 7 = .ok (.iload_n 2, 1) := by decide +kernel
theorem dX7_hears_8 : decode cX7_hears 8 = .ok (.iconst 0, 1) := by decide +kernel
theorem dX7_hears_9 : decode cX7_hears 9 = .ok (.bipush 60, 2) := by decide +kernel
theorem dX7_hears_11 : decode cX7_hears 11 = .ok (.invokestatic 64, 3) := by decide +kernel
theorem dX7_hears_14 : decode cX7_hears 14 = .ok (.ifCond .ne 5, 3) := by decide +kernel
theorem dX7_hears_17 : decode cX7_hears 17 = .ok (.iconst (-1), 1) := by decide +kernel
theorem dX7_hears_18 : decode cX7_hears 18 = .ok (.ireturn, 1) := by decide +kernel
theorem dX7_hears_19 : decode cX7_hears 19 = .ok (.aload_n 0, 1) := by decide +kernel
theorem dX7_hears_20 : decode cX7_hears 20 = .ok (.getfield 39, 3) := by decide +kernel
theorem dX7_hears_23 : decode cX7_hears 23 = .ok (.getfield 227, 3) := by decide +kernel
theorem dX7_hears_26 : decode cX7_hears 26 = .ok (.iconst 4, 1) := by decide +kernel
theorem dX7_hears_27 : decode cX7_hears 27 = .ok (.if_icmp .lt 6, 3) := by decide +kernel
theorem dX7_hears_30 : decode cX7_hears 30 = .ok (.bipush (-3), 2) := by decide +kernel
theorem dX7_hears_32 : decode cX7_hears 32 = .ok (.ireturn, 1) := by decide +kernel
theorem dX7_hears_33 : decode cX7_hears 33 = .ok (.aload_n 0, 1) := by decide +kernel
theorem dX7_hears_34 : decode cX7_hears 34 = .ok (.getfield 39, 3) := by decide +kernel
theorem dX7_hears_37 : decode cX7_hears 37 = .ok (.getfield 230, 3) := by decide +kernel
theorem dX7_hears_40 : decode cX7_hears 40 = .ok (.aload_n 0, 1) := by decide +kernel
theorem dX7_hears_41 : decode cX7_hears 41 = .ok (.getfield 39, 3) := by decide +kernel
theorem dX7_hears_44 : decode cX7_hears 44 = .ok (.getfield 227, 3) := by decide +kernel
theorem dX7_hears_47 : decode cX7_hears 47 = .ok (.iload_n 1, 1) := by decide +kernel
theorem dX7_hears_48 : decode cX7_hears 48 = .ok (.iastore, 1) := by decide +kernel
theorem dX7_hears_49 : decode cX7_hears 49 = .ok (.aload_n 0, 1) := by decide +kernel
theorem dX7_hears_50 : decode cX7_hears 50 = .ok (.getfield 39, 3) := by decide +kernel
theorem dX7_hears_53 : decode cX7_hears 53 = .ok (.getfield 233, 3) := by decide +kernel
theorem dX7_hears_56 : decode cX7_hears 56 = .ok (.aload_n 0, 1) := by decide +kernel
theorem dX7_hears_57 : decode cX7_hears 57 = .ok (.getfield 39, 3) := by decide +kernel
theorem dX7_hears_60 : decode cX7_hears 60 = .ok (.getfield 227, 3) := by decide +kernel
theorem dX7_hears_63 : decode cX7_hears 63 = .ok (.iload_n 2, 1) := by decide +kernel
theorem dX7_hears_64 : decode cX7_hears 64 = .ok (.iastore, 1) := by decide +kernel
theorem dX7_hears_65 : decode cX7_hears 65 = .ok (.aload_n 0, 1) := by decide +kernel
theorem dX7_hears_66 : decode cX7_hears 66 = .ok (.getfield 39, 3) := by decide +kernel
theorem dX7_hears_69 : decode cX7_hears 69 = .ok (.dup, 1) := by decide +kernel
theorem dX7_hears_70 : decode cX7_hears 70 = .ok (.getfield 227, 3) := by decide +kernel
theorem dX7_hears_73 : decode cX7_hears 73 = .ok (.iconst 1, 1) := by decide +kernel
theorem dX7_hears_74 : decode cX7_hears 74 = .ok (.iadd, 1) := by decide +kernel
theorem dX7_hears_75 : decode cX7_hears 75 = .ok (.putfield 227, 3) := by decide +kernel
theorem dX7_hears_78 : decode cX7_hears 78 = .ok (.aload_n 0, 1) := by decide +kernel
theorem dX7_hears_79 : decode cX7_hears 79 = .ok (.getfield 39, 3) := by decide +kernel
theorem dX7_hears_82 : decode cX7_hears 82 = .ok (.getfield 227, 3) := by decide +kernel
theorem dX7_hears_85 : decode cX7_hears 85 = .ok (.ireturn, 1) := by decide +kernel
theorem dX7_sets_0 : decode cX7_sets 0 = .ok (.iload_n 1, 1) := by decide +kernel
theorem dX7_sets_1 : decode cX7_sets 1 = .ok (.iconst 0, 1) := by decide +kernel
theorem dX7_sets_2 : decode cX7_sets 2 = .ok (.iconst 3, 1) := by decide +kernel
theorem dX7_sets_3 : decode cX7_sets 3 = .ok (.invokestatic 64, 3) := by decide +kernel
theorem dX7_sets_6 : decode cX7_sets 6 = .ok (.ifCond .ne 5, 3) := by decide +kernel
theorem dX7_sets_9 : decode cX7_sets 9 = .ok (.iconst (-1), 1) := by decide +kernel
theorem dX7_sets_10 : decode cX7_sets 10 = .ok (.ireturn, 1) := by decide +kernel
theorem dX7_sets_11 : decode cX7_sets 11 = .ok (.aload_n 0, 1) := by decide +kernel
theorem dX7_sets_12 : decode cX7_sets 12 = .ok (.invokevirtual 236, 3) := by decide +kernel
theorem dX7_sets_15 : decode cX7_sets 15 = .ok (.iconst 1, 1) := by decide +kernel
theorem dX7_sets_16 : decode cX7_sets 16 = .ok (.aload_n 0, 1) := by decide +kernel
theorem dX7_sets_17 : decode cX7_sets 17 = .ok (.getfield 53, 3) := by decide +kernel
theorem dX7_sets_20 : decode cX7_sets 20 = .ok (.getfield 192, 3) := by decide +kernel
theorem dX7_sets_23 : decode cX7_sets 23 = .ok (.ishl, 1) := by decide +kernel
theorem dX7_sets_24 : decode cX7_sets 24 = .ok (.iconst 1, 1) := by decide +kernel
theorem dX7_sets_25 : decode cX7_sets 25 = .ok (.isub, 1) := by decide +kernel
theorem dX7_sets_26 : decode cX7_sets 26 = .ok (.istore_n 2, 1) := by decide +kernel
theorem dX7_sets_27 : decode cX7_sets 27 = .ok (.iconst 0, 1) := by decide +kernel
theorem dX7_sets_28 : decode cX7_sets 28 = .ok (.istore_n 3, 1) := by decide +kernel
theorem dX7_sets_29 : decode cX7_sets 29 = .ok (.bipush (-9), 2) := by decide +kernel
theorem dX7_sets_31 : decode cX7_sets 31 = .ok (.istore 4, 2) := by decide +kernel
theorem dX7_sets_33 : decode cX7_sets 33 = .ok (.iload_n 2, 1) := by decide +kernel
theorem dX7_sets_34 : decode cX7_sets 34 = .ok (.istore 5, 2) := by decide +kernel
theorem dX7_sets_36 : decode cX7_sets 36 = .ok (.iconst 0, 1) := by decide +kernel
theorem dX7_sets_37 : decode cX7_sets 37 = .ok (.istore 6, 2) := by decide +kernel
theorem dX7_sets_39 : decode cX7_sets 39 = .ok (.iconst 0, 1) := by decide +kernel
theorem dX7_sets_40 : decode cX7_sets 40 = .ok (.istore 7, 2) := by decide +kernel
theorem dX7_sets_42 : decode cX7_sets 42 = .ok (.iload 7, 2) := by decide +kernel
theorem dX7_sets_44 : decode cX7_sets 44 = .ok (.iload_n 2, 1) := by decide +kernel
theorem dX7_sets_45 : decode cX7_sets 45 = .ok (.if_icmp .gt 48, 3) := by decide +kernel
theorem dX7_sets_48 : decode cX7_sets 48 = .ok (.aload_n 0, 1) := by decide +kernel
theorem dX7_sets_49 : decode cX7_sets 49 = .ok (.iload 7, 2) := by decide +kernel
theorem dX7_sets_51 : decode cX7_sets 51 = .ok (.invokevirtual 239, 3) := by decide +kernel
theorem dX7_sets_54 : decode cX7_sets 54 = .ok (.ifCond .eq 33, 3) := by decide +kernel
theorem dX7_sets_57 : decode cX7_sets 57 = .ok (.iload_n 3, 1) := by decide +kernel
theorem dX7_sets_58 : decode cX7_sets 58 = .ok (.ifCond .ne 8, 3) := by decide +kernel
theorem dX7_sets_61 : decode cX7_sets 61 = .ok (.iload 7, 2) := by decide +kernel
theorem dX7_sets_63 : decode cX7_sets 63 = .ok (.goto 5, 3) := by decide +kernel
theorem dX7_sets_66 : decode cX7_sets 66 = .ok (.iload 4, 2) := by decide +kernel
theorem dX7_sets_68 : decode cX7_sets 68 = .ok (.istore 4, 2) := by decide +kernel
theorem dX7_sets_70 : decode cX7_sets 70 = .ok (.iload 5, 2) := by decide +kernel
theorem dX7_sets_72 : decode cX7_sets 72 = .ok (.iload 7, 2) := by decide +kernel
theorem dX7_sets_74 : decode cX7_sets 74 = .ok (.iand, 1) := by decide +kernel
theorem dX7_sets_75 : decode cX7_sets 75 = .ok (.istore 5, 2) := by decide +kernel
theorem dX7_sets_77 : decode cX7_sets 77 = .ok (.iload 6, 2) := by decide +kernel
theorem dX7_sets_79 : decode cX7_sets 79 = .ok (.iload 7, 2) := by decide +kernel
theorem dX7_sets_81 : decode cX7_sets 81 = .ok (.ior, 1) := by decide +kernel
theorem dX7_sets_82 : decode cX7_sets 82 = .ok (.istore 6, 2) := by decide +kernel
theorem dX7_sets_84 : decode cX7_sets 84 = .ok (.iinc 3 1, 3) := by decide +kernel
theorem dX7_sets_87 : decode cX7_sets 87 = .ok (.iinc 7 1, 3) := by decide +kernel
theorem dX7_sets_90 : decode cX7_sets 90 = .ok (.goto (-48), 3) := by decide +kernel
theorem dX7_sets_93 : decode cX7_sets 93 = .ok (.iload_n 1, 1) := by decide +kernel
theorem dX7_sets_94 : decode cX7_sets 94 = .ok (.ifCond .ne 5, 3) := by decide +kernel
theorem dX7_sets_97 : decode cX7_sets 97 = .ok (.iload_n 3, 1) := by decide +kernel
theorem dX7_sets_98 : decode cX7_sets 98 = .ok (.ireturn, 1) := by decide +kernel
theorem dX7_sets_99 : decode cX7_sets 99 = .ok (.iload_n 3, 1) := by decide +kernel
theorem dX7_sets_100 : decode cX7_sets 100 = .ok (.ifCond .eq 8, 3) := by decide +kernel
theorem dX7_sets_103 : decode cX7_sets 103 = .ok (.iload_n 1, 1) := by decide +kernel
theorem dX7_sets_104 : decode cX7_sets 104 = .ok (.iconst 1, 1) := by decide +kernel
theorem dX7_sets_105 : decode cX7_sets 105 = .ok (.if_icmp .ne 6, 3) := by decide +kernel
theorem dX7_sets_108 : decode cX7_sets 108 = .ok (.iload 4, 2) := by decide +kernel
theorem dX7_sets_110 : decode cX7_sets 110 = .ok (.ireturn, 1) := by decide +kernel
theorem dX7_sets_111 : decode cX7_sets 111 = .ok (.iload_n 1, 1) := by decide +kernel
theorem dX7_sets_112 : decode cX7_sets 112 = .ok (.iconst 2, 1) := by decide +kernel
theorem dX7_sets_113 : decode cX7_sets 113 = .ok (.if_icmp .ne 8, 3) := by decide +kernel
theorem dX7_sets_116 : decode cX7_sets 116 = .ok (.iload 5, 2) := by decide +kernel
theorem dX7_sets_118 : decode cX7_sets 118 = .ok (.goto 9, 3) := by decide +kernel
theorem dX7_sets_121 : decode cX7_sets 121 = .ok (.iload_n 2, 1) := by decide +kernel
theorem dX7_sets_122 : decode cX7_sets 122 = .ok (.iload 6, 2) := by decide +kernel
theorem dX7_sets_124 : decode cX7_sets 124 = .ok (.iconst (-1), 1) := by decide +kernel
theorem dX7_sets_125 : decode cX7_sets 125 = .ok (.ixor, 1) := by decide +kernel
theorem dX7_sets_126 : decode cX7_sets 126 = .ok (.iand, 1) := by decide +kernel
theorem dX7_sets_127 : decode cX7_sets 127 = .ok (.ireturn, 1) := by decide +kernel
theorem dX7_forget_0 : decode cX7_forget 0 = .ok (.aload_n 0, 1) := by decide +kernel
theorem dX7_forget_1 : decode cX7_forget 1 = .ok (.getfield 39, 3) := by decide +kernel
theorem dX7_forget_4 : decode cX7_forget 4 = .ok (.getfield 215, 3) := by decide +kernel
theorem dX7_forget_7 : decode cX7_forget 7 = .ok (.aload_n 0, 1) := by decide +kernel
theorem dX7_forget_8 : decode cX7_forget 8 = .ok (.getfield 39, 3) := by decide +kernel
theorem dX7_forget_11 : decode cX7_forget 11 = .ok (.getfield 227, 3) := by decide +kernel
theorem dX7_forget_14 : decode cX7_forget 14 = .ok (.iadd, 1) := by decide +kernel
theorem dX7_forget_15 : decode cX7_forget 15 = .ok (.istore_n 1, 1) := by decide +kernel
theorem dX7_forget_16 : decode cX7_forget 16 = .ok (.aload_n 0, 1) := by decide +kernel
theorem dX7_forget_17 : decode cX7_forget 17 = .ok (.getfield 39, 3) := by decide +kernel
theorem dX7_forget_20 : decode cX7_forget 20 = .ok (.invokevirtual 95, 3) := by decide +kernel
theorem dX7_forget_23 : decode cX7_forget 23 = .ok (.iload_n 1, 1) := by decide +kernel
theorem dX7_forget_24 : decode cX7_forget 24 = .ok (.ireturn, 1) := by decide +kernel
theorem dX7_mark_0 : decode cX7_mark 0 = .ok (.aload_n 0, 1) := by decide +kernel
theorem dX7_mark_1 : decode cX7_mark 1 = .ok (.iload_n 2, 1) := by decide +kernel
theorem dX7_mark_2 : decode cX7_mark 2 = .ok (.invokevirtual 98, 3) := by decide +kernel
theorem dX7_mark_5 : decode cX7_mark 5 = .ok (.ifCond .ne 6, 3) := by decide +kernel
theorem dX7_mark_8 : decode cX7_mark 8 = .ok (.ldc 242, 2) := by decide +kernel
theorem dX7_mark_10 : decode cX7_mark 10 = .ok (.ireturn, 1) := by decide +kernel
theorem dX7_mark_11 : decode cX7_mark 11 = .ok (.iload_n 1, 1) := by decide +kernel
theorem dX7_mark_12 : decode cX7_mark 12 = .ok (.tableswitch 76 0 5 #[40, 46, 52, 58, 64, 70], 40) := by decide +kernel
theorem dX7_mark_52 : decode cX7_mark 52 = .ok (.aload_n 0, 1) := by decide +kernel
theorem dX7_mark_53 : decode cX7_mark 53 = .ok (.iload_n 2, 1) := by decide +kernel
theorem dX7_mark_54 : decode cX7_mark 54 = .ok (.invokevirtual 243, 3) := by decide +kernel
theorem dX7_mark_57 : decode cX7_mark 57 = .ok (.ireturn, 1) := by decide +kernel
theorem dX7_mark_58 : decode cX7_mark 58 = .ok (.aload_n 0, 1) := by decide +kernel
theorem dX7_mark_59 : decode cX7_mark 59 = .ok (.iload_n 2, 1) := by decide +kernel
theorem dX7_mark_60 : decode cX7_mark 60 = .ok (.invokevirtual 246, 3) := by decide +kernel
theorem dX7_mark_63 : decode cX7_mark 63 = .ok (.ireturn, 1) := by decide +kernel
theorem dX7_mark_64 : decode cX7_mark 64 = .ok (.aload_n 0, 1) := by decide +kernel
theorem dX7_mark_65 : decode cX7_mark 65 = .ok (.iload_n 2, 1) := by decide +kernel
theorem dX7_mark_66 : decode cX7_mark 66 = .ok (.invokevirtual 249, 3) := by decide +kernel
theorem dX7_mark_69 : decode cX7_mark 69 = .ok (.ireturn, 1) := by decide +kernel
theorem dX7_mark_70 : decode cX7_mark 70 = .ok (.aload_n 0, 1) := by decide +kernel
theorem dX7_mark_71 : decode cX7_mark 71 = .ok (.iload_n 2, 1) := by decide +kernel
theorem dX7_mark_72 : decode cX7_mark 72 = .ok (.invokevirtual 252, 3) := by decide +kernel
theorem dX7_mark_75 : decode cX7_mark 75 = .ok (.ireturn, 1) := by decide +kernel
theorem dX7_mark_76 : decode cX7_mark 76 = .ok (.aload_n 0, 1) := by decide +kernel
theorem dX7_mark_77 : decode cX7_mark 77 = .ok (.iload_n 2, 1) := by decide +kernel
theorem dX7_mark_78 : decode cX7_mark 78 = .ok (.invokevirtual 255, 3) := by decide +kernel
theorem dX7_mark_81 : decode cX7_mark 81 = .ok (.ireturn, 1) := by decide +kernel
theorem dX7_mark_82 : decode cX7_mark 82 = .ok (.aload_n 0, 1) := by decide +kernel
theorem dX7_mark_83 : decode cX7_mark 83 = .ok (.iload_n 2, 1) := by decide +kernel
theorem dX7_mark_84 : decode cX7_mark 84 = .ok (.invokevirtual 258, 3) := by decide +kernel
theorem dX7_mark_87 : decode cX7_mark 87 = .ok (.ireturn, 1) := by decide +kernel
theorem dX7_mark_88 : decode cX7_mark 88 = .ok (.ldc 242, 2) := by decide +kernel
theorem dX7_mark_90 : decode cX7_mark 90 = .ok (.ireturn, 1) := by decide +kernel
theorem dX7_keep_0 : decode cX7_keep 0 = .ok (.iload_n 1, 1) := by decide +kernel
theorem dX7_keep_1 : decode cX7_keep 1 = .ok (.iconst 0, 1) := by decide +kernel
theorem dX7_keep_2 : decode cX7_keep 2 = .ok (.iconst 1, 1) := by decide +kernel
theorem dX7_keep_3 : decode cX7_keep 3 = .ok (.invokestatic 64, 3) := by decide +kernel
theorem dX7_keep_6 : decode cX7_keep 6 = .ok (.ifCond .ne 5, 3) := by decide +kernel
theorem dX7_keep_9 : decode cX7_keep 9 = .ok (.iconst (-1), 1) := by decide +kernel
theorem dX7_keep_10 : decode cX7_keep 10 = .ok (.ireturn, 1) := by decide +kernel
theorem dX7_keep_11 : decode cX7_keep 11 = .ok (.aload_n 0, 1) := by decide +kernel
theorem dX7_keep_12 : decode cX7_keep 12 = .ok (.getfield 28, 3) := by decide +kernel
theorem dX7_keep_15 : decode cX7_keep 15 = .ok (.iload_n 1, 1) := by decide +kernel
theorem dX7_keep_16 : decode cX7_keep 16 = .ok (.aaload, 1) := by decide +kernel
theorem dX7_keep_17 : decode cX7_keep 17 = .ok (.aload_n 0, 1) := by decide +kernel
theorem dX7_keep_18 : decode cX7_keep 18 = .ok (.getfield 24, 3) := by decide +kernel
theorem dX7_keep_21 : decode cX7_keep 21 = .ok (.invokevirtual 261, 3) := by decide +kernel
theorem dX7_keep_24 : decode cX7_keep 24 = .ok (.aload_n 0, 1) := by decide +kernel
theorem dX7_keep_25 : decode cX7_keep 25 = .ok (.getfield 32, 3) := by decide +kernel
theorem dX7_keep_28 : decode cX7_keep 28 = .ok (.iload_n 1, 1) := by decide +kernel
theorem dX7_keep_29 : decode cX7_keep 29 = .ok (.iconst 1, 1) := by decide +kernel
theorem dX7_keep_30 : decode cX7_keep 30 = .ok (.bastore, 1) := by decide +kernel
theorem dX7_keep_31 : decode cX7_keep 31 = .ok (.aload_n 0, 1) := by decide +kernel
theorem dX7_keep_32 : decode cX7_keep 32 = .ok (.getfield 24, 3) := by decide +kernel
theorem dX7_keep_35 : decode cX7_keep 35 = .ok (.getfield 102, 3) := by decide +kernel
theorem dX7_keep_38 : decode cX7_keep 38 = .ok (.getfield 139, 3) := by decide +kernel
theorem dX7_keep_41 : decode cX7_keep 41 = .ok (.ireturn, 1) := by decide +kernel
theorem dX7_back_0 : decode cX7_back 0 = .ok (.iload_n 1, 1) := by decide +kernel
theorem dX7_back_1 : decode cX7_back 1 = .ok (.iconst 0, 1) := by decide +kernel
theorem dX7_back_2 : decode cX7_back 2 = .ok (.iconst 1, 1) := by decide +kernel
theorem dX7_back_3 : decode cX7_back 3 = .ok (.invokestatic 64, 3) := by decide +kernel
theorem dX7_back_6 : decode cX7_back 6 = .ok (.ifCond .ne 5, 3) := by decide +kernel
theorem dX7_back_9 : decode cX7_back 9 = .ok (.iconst (-1), 1) := by decide +kernel
theorem dX7_back_10 : decode cX7_back 10 = .ok (.ireturn, 1) := by decide +kernel
theorem dX7_back_11 : decode cX7_back 11 = .ok (.aload_n 0, 1) := by decide +kernel
theorem dX7_back_12 : decode cX7_back 12 = .ok (.getfield 32, 3) := by decide +kernel
theorem dX7_back_15 : decode cX7_back 15 = .ok (.iload_n 1, 1) := by decide +kernel
theorem dX7_back_16 : decode cX7_back 16 = .ok (.baload, 1) := by decide +kernel
theorem dX7_back_17 : decode cX7_back 17 = .ok (.ifCond .ne 6, 3) := by decide +kernel
theorem dX7_back_20 : decode cX7_back 20 = .ok (.bipush (-2), 2) := by decide +kernel
theorem dX7_back_22 : decode cX7_back 22 = .ok (.ireturn, 1) := by decide +kernel
theorem dX7_back_23 : decode cX7_back 23 = .ok (.aload_n 0, 1) := by decide +kernel
theorem dX7_back_24 : decode cX7_back 24 = .ok (.getfield 24, 3) := by decide +kernel
theorem dX7_back_27 : decode cX7_back 27 = .ok (.aload_n 0, 1) := by decide +kernel
theorem dX7_back_28 : decode cX7_back 28 = .ok (.getfield 28, 3) := by decide +kernel
theorem dX7_back_31 : decode cX7_back 31 = .ok (.iload_n 1, 1) := by decide +kernel
theorem dX7_back_32 : decode cX7_back 32 = .ok (.aaload, 1) := by decide +kernel
theorem dX7_back_33 : decode cX7_back 33 = .ok (.invokevirtual 261, 3) := by decide +kernel
theorem dX7_back_36 : decode cX7_back 36 = .ok (.aload_n 0, 1) := by decide +kernel
theorem dX7_back_37 : decode cX7_back 37 = .ok (.getfield 24, 3) := by decide +kernel
theorem dX7_back_40 : decode cX7_back 40 = .ok (.getfield 102, 3) := by decide +kernel
theorem dX7_back_43 : decode cX7_back 43 = .ok (.getfield 139, 3) := by decide +kernel
theorem dX7_back_46 : decode cX7_back 46 = .ok (.ireturn, 1) := by decide +kernel
theorem dX7_count_0 : decode cX7_count 0 = .ok (.iload_n 1, 1) := by decide +kernel
theorem dX7_count_1 : decode cX7_count 1 = .ok (.tableswitch 87 0 5 #[39, 47, 55, 63, 71, 79], 39) := by decide +kernel
theorem dX7_count_40 : decode cX7_count 40 = .ok (.aload_n 0, 1) := by decide +kernel
theorem dX7_count_41 : decode cX7_count 41 = .ok (.getfield 53, 3) := by decide +kernel
theorem dX7_count_44 : decode cX7_count 44 = .ok (.getfield 192, 3) := by decide +kernel
theorem dX7_count_47 : decode cX7_count 47 = .ok (.ireturn, 1) := by decide +kernel
theorem dX7_count_48 : decode cX7_count 48 = .ok (.aload_n 0, 1) := by decide +kernel
theorem dX7_count_49 : decode cX7_count 49 = .ok (.getfield 53, 3) := by decide +kernel
theorem dX7_count_52 : decode cX7_count 52 = .ok (.getfield 264, 3) := by decide +kernel
theorem dX7_count_55 : decode cX7_count 55 = .ok (.ireturn, 1) := by decide +kernel
theorem dX7_count_56 : decode cX7_count 56 = .ok (.aload_n 0, 1) := by decide +kernel
theorem dX7_count_57 : decode cX7_count 57 = .ok (.getfield 39, 3) := by decide +kernel
theorem dX7_count_60 : decode cX7_count 60 = .ok (.getfield 215, 3) := by decide +kernel
theorem dX7_count_63 : decode cX7_count 63 = .ok (.ireturn, 1) := by decide +kernel
theorem dX7_count_64 : decode cX7_count 64 = .ok (.aload_n 0, 1) := by decide +kernel
theorem dX7_count_65 : decode cX7_count 65 = .ok (.getfield 39, 3) := by decide +kernel
theorem dX7_count_68 : decode cX7_count 68 = .ok (.getfield 227, 3) := by decide +kernel
theorem dX7_count_71 : decode cX7_count 71 = .ok (.ireturn, 1) := by decide +kernel
theorem dX7_count_72 : decode cX7_count 72 = .ok (.aload_n 0, 1) := by decide +kernel
theorem dX7_count_73 : decode cX7_count 73 = .ok (.getfield 24, 3) := by decide +kernel
theorem dX7_count_76 : decode cX7_count 76 = .ok (.getfield 160, 3) := by decide +kernel
theorem dX7_count_79 : decode cX7_count 79 = .ok (.ireturn, 1) := by decide +kernel
theorem dX7_count_80 : decode cX7_count 80 = .ok (.aload_n 0, 1) := by decide +kernel
theorem dX7_count_81 : decode cX7_count 81 = .ok (.getfield 20, 3) := by decide +kernel
theorem dX7_count_84 : decode cX7_count 84 = .ok (.getfield 68, 3) := by decide +kernel
theorem dX7_count_87 : decode cX7_count 87 = .ok (.ireturn, 1) := by decide +kernel
theorem dX7_count_88 : decode cX7_count 88 = .ok (.iconst (-1), 1) := by decide +kernel
theorem dX7_count_89 : decode cX7_count 89 = .ok (.ireturn, 1) := by decide +kernel
theorem dX7_trace_0 : decode cX7_trace 0 = .ok (.aload_n 0, 1) := by decide +kernel
theorem dX7_trace_1 : decode cX7_trace 1 = .ok (.getfield 267, 3) := by decide +kernel
theorem dX7_trace_4 : decode cX7_trace 4 = .ok (.lreturn, 1) := by decide +kernel
theorem dX7_within_0 : decode cX7_within 0 = .ok (.iload_n 1, 1) := by decide +kernel
theorem dX7_within_1 : decode cX7_within 1 = .ok (.iload_n 0, 1) := by decide +kernel
theorem dX7_within_2 : decode cX7_within 2 = .ok (.if_icmp .gt 12, 3) := by decide +kernel
theorem dX7_within_5 : decode cX7_within 5 = .ok (.iload_n 0, 1) := by decide +kernel
theorem dX7_within_6 : decode cX7_within 6 = .ok (.iload_n 2, 1) := by decide +kernel
theorem dX7_within_7 : decode cX7_within 7 = .ok (.if_icmp .gt 7, 3) := by decide +kernel
theorem dX7_within_10 : decode cX7_within 10 = .ok (.iconst 1, 1) := by decide +kernel
theorem dX7_within_11 : decode cX7_within 11 = .ok (.goto 4, 3) := by decide +kernel
theorem dX7_within_14 : decode cX7_within 14 = .ok (.iconst 0, 1) := by decide +kernel
theorem dX7_within_15 : decode cX7_within 15 = .ok (.ireturn, 1) := by decide +kernel
theorem dX7_isThought_0 : decode cX7_isThought 0 = .ok (.iload_n 0, 1) := by decide +kernel
theorem dX7_isThought_1 : decode cX7_isThought 1 = .ok (.iconst 0, 1) := by decide +kernel
theorem dX7_isThought_2 : decode cX7_isThought 2 = .ok (.bipush 9, 2) := by decide +kernel
theorem dX7_isThought_4 : decode cX7_isThought 4 = .ok (.invokestatic 64, 3) := by decide +kernel
theorem dX7_isThought_7 : decode cX7_isThought 7 = .ok (.ireturn, 1) := by decide +kernel
theorem dX7_isJar_0 : decode cX7_isJar 0 = .ok (.iload_n 0, 1) := by decide +kernel
theorem dX7_isJar_1 : decode cX7_isJar 1 = .ok (.iconst 0, 1) := by decide +kernel
theorem dX7_isJar_2 : decode cX7_isJar 2 = .ok (.iconst 3, 1) := by decide +kernel
theorem dX7_isJar_3 : decode cX7_isJar 3 = .ok (.invokestatic 64, 3) := by decide +kernel
theorem dX7_isJar_6 : decode cX7_isJar 6 = .ok (.ireturn, 1) := by decide +kernel
theorem dX7_isOne_0 : decode cX7_isOne 0 = .ok (.iload_n 1, 1) := by decide +kernel
theorem dX7_isOne_1 : decode cX7_isOne 1 = .ok (.iconst 0, 1) := by decide +kernel
theorem dX7_isOne_2 : decode cX7_isOne 2 = .ok (.aload_n 0, 1) := by decide +kernel
theorem dX7_isOne_3 : decode cX7_isOne 3 = .ok (.getfield 53, 3) := by decide +kernel
theorem dX7_isOne_6 : decode cX7_isOne 6 = .ok (.getfield 192, 3) := by decide +kernel
theorem dX7_isOne_9 : decode cX7_isOne 9 = .ok (.iconst 1, 1) := by decide +kernel
theorem dX7_isOne_10 : decode cX7_isOne 10 = .ok (.isub, 1) := by decide +kernel
theorem dX7_isOne_11 : decode cX7_isOne 11 = .ok (.invokestatic 64, 3) := by decide +kernel
theorem dX7_isOne_14 : decode cX7_isOne 14 = .ok (.ireturn, 1) := by decide +kernel
theorem dX7_has_0 : decode cX7_has 0 = .ok (.iload_n 0, 1) := by decide +kernel
theorem dX7_has_1 : decode cX7_has 1 = .ok (.iload_n 1, 1) := by decide +kernel
theorem dX7_has_2 : decode cX7_has 2 = .ok (.ishr, 1) := by decide +kernel
theorem dX7_has_3 : decode cX7_has 3 = .ok (.iconst 1, 1) := by decide +kernel
theorem dX7_has_4 : decode cX7_has 4 = .ok (.iand, 1) := by decide +kernel
theorem dX7_has_5 : decode cX7_has 5 = .ok (.ifCond .eq 7, 3) := by decide +kernel
theorem dX7_has_8 : decode cX7_has 8 = .ok (.iconst 1, 1) := by decide +kernel
theorem dX7_has_9 : decode cX7_has 9 = .ok (.goto 4, 3) := by decide +kernel
theorem dX7_has_12 : decode cX7_has 12 = .ok (.iconst 0, 1) := by decide +kernel
theorem dX7_has_13 : decode cX7_has 13 = .ok (.ireturn, 1) := by decide +kernel
theorem dX7_mostOf_0 : decode cX7_mostOf 0 = .ok (.bipush (-9), 2) := by decide +kernel
theorem dX7_mostOf_2 : decode cX7_mostOf 2 = .ok (.istore_n 1, 1) := by decide +kernel
theorem dX7_mostOf_3 : decode cX7_mostOf 3 = .ok (.iconst 0, 1) := by decide +kernel
theorem dX7_mostOf_4 : decode cX7_mostOf 4 = .ok (.istore_n 2, 1) := by decide +kernel
theorem dX7_mostOf_5 : decode cX7_mostOf 5 = .ok (.iconst 0, 1) := by decide +kernel
theorem dX7_mostOf_6 : decode cX7_mostOf 6 = .ok (.istore_n 3, 1) := by decide +kernel
theorem dX7_mostOf_7 : decode cX7_mostOf 7 = .ok (.iload_n 3, 1) := by decide +kernel
theorem dX7_mostOf_8 : decode cX7_mostOf 8 = .ok (.aload_n 0, 1) := by decide +kernel
theorem dX7_mostOf_9 : decode cX7_mostOf 9 = .ok (.arraylength, 1) := by decide +kernel
theorem dX7_mostOf_10 : decode cX7_mostOf 10 = .ok (.if_icmp .ge 22, 3) := by decide +kernel
theorem dX7_mostOf_13 : decode cX7_mostOf 13 = .ok (.aload_n 0, 1) := by decide +kernel
theorem dX7_mostOf_14 : decode cX7_mostOf 14 = .ok (.iload_n 3, 1) := by decide +kernel
theorem dX7_mostOf_15 : decode cX7_mostOf 15 = .ok (.iaload, 1) := by decide +kernel
theorem dX7_mostOf_16 : decode cX7_mostOf 16 = .ok (.iload_n 2, 1) := by decide +kernel
theorem dX7_mostOf_17 : decode cX7_mostOf 17 = .ok (.if_icmp .le 9, 3) := by decide +kernel
theorem dX7_mostOf_20 : decode cX7_mostOf 20 = .ok (.aload_n 0, 1) := by decide +kernel
theorem dX7_mostOf_21 : decode cX7_mostOf 21 = .ok (.iload_n 3, 1) := by decide +kernel
theorem dX7_mostOf_22 : decode cX7_mostOf 22 = .ok (.iaload, 1) := by decide +kernel
theorem dX7_mostOf_23 : decode cX7_mostOf 23 = .ok (.istore_n 2, 1) := by decide +kernel
theorem dX7_mostOf_24 : decode cX7_mostOf 24 = .ok (.iload_n 3, 1) := by decide +kernel
theorem dX7_mostOf_25 : decode cX7_mostOf 25 = .ok (.istore_n 1, 1) := by decide +kernel
theorem dX7_mostOf_26 : decode cX7_mostOf 26 = .ok (.iinc 3 1, 3) := by decide +kernel
theorem dX7_mostOf_29 : decode cX7_mostOf 29 = .ok (.goto (-22), 3) := by decide +kernel
theorem dX7_mostOf_32 : decode cX7_mostOf 32 = .ok (.iload_n 1, 1) := by decide +kernel
theorem dX7_mostOf_33 : decode cX7_mostOf 33 = .ok (.ireturn, 1) := by decide +kernel
theorem dX7_mostIn_0 : decode cX7_mostIn 0 = .ok (.iconst 0, 1) := by decide +kernel
theorem dX7_mostIn_1 : decode cX7_mostIn 1 = .ok (.istore_n 2, 1) := by decide +kernel
theorem dX7_mostIn_2 : decode cX7_mostIn 2 = .ok (.iload_n 2, 1) := by decide +kernel
theorem dX7_mostIn_3 : decode cX7_mostIn 3 = .ok (.bipush 10, 2) := by decide +kernel
theorem dX7_mostIn_5 : decode cX7_mostIn 5 = .ok (.if_icmp .ge 27, 3) := by decide +kernel
theorem dX7_mostIn_8 : decode cX7_mostIn 8 = .ok (.aload_n 0, 1) := by decide +kernel
theorem dX7_mostIn_9 : decode cX7_mostIn 9 = .ok (.getfield 57, 3) := by decide +kernel
theorem dX7_mostIn_12 : decode cX7_mostIn 12 = .ok (.iload_n 2, 1) := by decide +kernel
theorem dX7_mostIn_13 : decode cX7_mostIn 13 = .ok (.aload_n 0, 1) := by decide +kernel
theorem dX7_mostIn_14 : decode cX7_mostIn 14 = .ok (.getfield 24, 3) := by decide +kernel
theorem dX7_mostIn_17 : decode cX7_mostIn 17 = .ok (.getfield 102, 3) := by decide +kernel
theorem dX7_mostIn_20 : decode cX7_mostIn 20 = .ok (.iload_n 1, 1) := by decide +kernel
theorem dX7_mostIn_21 : decode cX7_mostIn 21 = .ok (.iload_n 2, 1) := by decide +kernel
theorem dX7_mostIn_22 : decode cX7_mostIn 22 = .ok (.invokevirtual 136, 3) := by decide +kernel
theorem dX7_mostIn_25 : decode cX7_mostIn 25 = .ok (.iastore, 1) := by decide +kernel
theorem dX7_mostIn_26 : decode cX7_mostIn 26 = .ok (.iinc 2 1, 3) := by decide +kernel
theorem dX7_mostIn_29 : decode cX7_mostIn 29 = .ok (.goto (-27), 3) := by decide +kernel
theorem dX7_mostIn_32 : decode cX7_mostIn 32 = .ok (.aload_n 0, 1) := by decide +kernel
theorem dX7_mostIn_33 : decode cX7_mostIn 33 = .ok (.getfield 57, 3) := by decide +kernel
theorem dX7_mostIn_36 : decode cX7_mostIn 36 = .ok (.invokestatic 271, 3) := by decide +kernel
theorem dX7_mostIn_39 : decode cX7_mostIn 39 = .ok (.ireturn, 1) := by decide +kernel
theorem dX7_layersOfAll_0 : decode cX7_layersOfAll 0 = .ok (.iconst 0, 1) := by decide +kernel
theorem dX7_layersOfAll_1 : decode cX7_layersOfAll 1 = .ok (.istore_n 1, 1) := by decide +kernel
theorem dX7_layersOfAll_2 : decode cX7_layersOfAll 2 = .ok (.iconst 0, 1) := by decide +kernel
theorem dX7_layersOfAll_3 : decode cX7_layersOfAll 3 = .ok (.istore_n 2, 1) := by decide +kernel
theorem dX7_layersOfAll_4 : decode cX7_layersOfAll 4 = .ok (.iload_n 2, 1) := by decide +kernel
theorem dX7_layersOfAll_5 : decode cX7_layersOfAll 5 = .ok (.aload_n 0, 1) := by decide +kernel
theorem dX7_layersOfAll_6 : decode cX7_layersOfAll 6 = .ok (.getfield 53, 3) := by decide +kernel
theorem dX7_layersOfAll_9 : decode cX7_layersOfAll 9 = .ok (.getfield 192, 3) := by decide +kernel
theorem dX7_layersOfAll_12 : decode cX7_layersOfAll 12 = .ok (.if_icmp .ge 24, 3) := by decide +kernel
theorem dX7_layersOfAll_15 : decode cX7_layersOfAll 15 = .ok (.iload_n 1, 1) := by decide +kernel
theorem dX7_layersOfAll_16 : decode cX7_layersOfAll 16 = .ok (.aload_n 0, 1) := by decide +kernel
theorem dX7_layersOfAll_17 : decode cX7_layersOfAll 17 = .ok (.getfield 24, 3) := by decide +kernel
theorem dX7_layersOfAll_20 : decode cX7_layersOfAll 20 = .ok (.getfield 102, 3) := by decide +kernel
theorem dX7_layersOfAll_23 : decode cX7_layersOfAll 23 = .ok (.getfield 112, 3) := by decide +kernel
theorem dX7_layersOfAll_26 : decode cX7_layersOfAll 26 = .ok (.iload_n 2, 1) := by decide +kernel
theorem dX7_layersOfAll_27 : decode cX7_layersOfAll 27 = .ok (.iaload, 1) := by decide +kernel
theorem dX7_layersOfAll_28 : decode cX7_layersOfAll 28 = .ok (.iadd, 1) := by decide +kernel
theorem dX7_layersOfAll_29 : decode cX7_layersOfAll 29 = .ok (.istore_n 1, 1) := by decide +kernel
theorem dX7_layersOfAll_30 : decode cX7_layersOfAll 30 = .ok (.iinc 2 1, 3) := by decide +kernel
theorem dX7_layersOfAll_33 : decode cX7_layersOfAll 33 = .ok (.goto (-29), 3) := by decide +kernel
theorem dX7_layersOfAll_36 : decode cX7_layersOfAll 36 = .ok (.iload_n 1, 1) := by decide +kernel
theorem dX7_layersOfAll_37 : decode cX7_layersOfAll 37 = .ok (.ireturn, 1) := by decide +kernel
theorem dX7_sweptIntoAll_0 : decode cX7_sweptIntoAll 0 = .ok (.iconst 0, 1) := by decide +kernel
theorem dX7_sweptIntoAll_1 : decode cX7_sweptIntoAll 1 = .ok (.istore_n 1, 1) := by decide +kernel
theorem dX7_sweptIntoAll_2 : decode cX7_sweptIntoAll 2 = .ok (.iconst 0, 1) := by decide +kernel
theorem dX7_sweptIntoAll_3 : decode cX7_sweptIntoAll 3 = .ok (.istore_n 2, 1) := by decide +kernel
theorem dX7_sweptIntoAll_4 : decode cX7_sweptIntoAll 4 = .ok (.iload_n 2, 1) := by decide +kernel
theorem dX7_sweptIntoAll_5 : decode cX7_sweptIntoAll 5 = .ok (.iconst 4, 1) := by decide +kernel
theorem dX7_sweptIntoAll_6 : decode cX7_sweptIntoAll 6 = .ok (.if_icmp .ge 23, 3) := by decide +kernel
theorem dX7_sweptIntoAll_9 : decode cX7_sweptIntoAll 9 = .ok (.iload_n 1, 1) := by decide +kernel
theorem dX7_sweptIntoAll_10 : decode cX7_sweptIntoAll 10 = .ok (.aload_n 0, 1) := by decide +kernel
theorem dX7_sweptIntoAll_11 : decode cX7_sweptIntoAll 11 = .ok (.getfield 24, 3) := by decide +kernel
theorem dX7_sweptIntoAll_14 : decode cX7_sweptIntoAll 14 = .ok (.getfield 102, 3) := by decide +kernel
theorem dX7_sweptIntoAll_17 : decode cX7_sweptIntoAll 17 = .ok (.iload_n 2, 1) := by decide +kernel
theorem dX7_sweptIntoAll_18 : decode cX7_sweptIntoAll 18 = .ok (.invokevirtual 153, 3) := by decide +kernel
theorem dX7_sweptIntoAll_21 : decode cX7_sweptIntoAll 21 = .ok (.iadd, 1) := by decide +kernel
theorem dX7_sweptIntoAll_22 : decode cX7_sweptIntoAll 22 = .ok (.istore_n 1, 1) := by decide +kernel
theorem dX7_sweptIntoAll_23 : decode cX7_sweptIntoAll 23 = .ok (.iinc 2 1, 3) := by decide +kernel
theorem dX7_sweptIntoAll_26 : decode cX7_sweptIntoAll 26 = .ok (.goto (-22), 3) := by decide +kernel
theorem dX7_sweptIntoAll_29 : decode cX7_sweptIntoAll 29 = .ok (.iload_n 1, 1) := by decide +kernel
theorem dX7_sweptIntoAll_30 : decode cX7_sweptIntoAll 30 = .ok (.ireturn, 1) := by decide +kernel
theorem dX7_blushes_0 : decode cX7_blushes 0 = .ok (.iconst 0, 1) := by decide +kernel
theorem dX7_blushes_1 : decode cX7_blushes 1 = .ok (.istore_n 2, 1) := by decide +kernel
theorem dX7_blushes_2 : decode cX7_blushes 2 = .ok (.iconst 0, 1) := by decide +kernel
theorem dX7_blushes_3 : decode cX7_blushes 3 = .ok (.istore_n 3, 1) := by decide +kernel
theorem dX7_blushes_4 : decode cX7_blushes 4 = .ok (.iload_n 3, 1) := by decide +kernel
theorem dX7_blushes_5 : decode cX7_blushes 5 = .ok (.aload_n 0, 1) := by decide +kernel
theorem dX7_blushes_6 : decode cX7_blushes 6 = .ok (.getfield 53, 3) := by decide +kernel
theorem dX7_blushes_9 : decode cX7_blushes 9 = .ok (.getfield 192, 3) := by decide +kernel
theorem dX7_blushes_12 : decode cX7_blushes 12 = .ok (.if_icmp .ge 38, 3) := by decide +kernel
theorem dX7_blushes_15 : decode cX7_blushes 15 = .ok (.aload_n 0, 1) := by decide +kernel
theorem dX7_blushes_16 : decode cX7_blushes 16 = .ok (.getfield 24, 3) := by decide +kernel
theorem dX7_blushes_19 : decode cX7_blushes 19 = .ok (.getfield 102, 3) := by decide +kernel
theorem dX7_blushes_22 : decode cX7_blushes 22 = .ok (.iload_n 1, 1) := by decide +kernel
theorem dX7_blushes_23 : decode cX7_blushes 23 = .ok (.aload_n 0, 1) := by decide +kernel
theorem dX7_blushes_24 : decode cX7_blushes 24 = .ok (.getfield 53, 3) := by decide +kernel
theorem dX7_blushes_27 : decode cX7_blushes 27 = .ok (.getfield 106, 3) := by decide +kernel
theorem dX7_blushes_30 : decode cX7_blushes 30 = .ok (.iload_n 3, 1) := by decide +kernel
theorem dX7_blushes_31 : decode cX7_blushes 31 = .ok (.iaload, 1) := by decide +kernel
theorem dX7_blushes_32 : decode cX7_blushes 32 = .ok (.invokevirtual 136, 3) := by decide +kernel
theorem dX7_blushes_35 : decode cX7_blushes 35 = .ok (.ifCond .le 9, 3) := by decide +kernel
theorem dX7_blushes_38 : decode cX7_blushes 38 = .ok (.iload_n 2, 1) := by decide +kernel
theorem dX7_blushes_39 : decode cX7_blushes 39 = .ok (.iconst 1, 1) := by decide +kernel
theorem dX7_blushes_40 : decode cX7_blushes 40 = .ok (.iload_n 3, 1) := by decide +kernel
theorem dX7_blushes_41 : decode cX7_blushes 41 = .ok (.ishl, 1) := by decide +kernel
theorem dX7_blushes_42 : decode cX7_blushes 42 = .ok (.ior, 1) := by decide +kernel
theorem dX7_blushes_43 : decode cX7_blushes 43 = .ok (.istore_n 2, 1) := by decide +kernel
theorem dX7_blushes_44 : decode cX7_blushes 44 = .ok (.iinc 3 1, 3) := by decide +kernel
theorem dX7_blushes_47 : decode cX7_blushes 47 = .ok (.goto (-43), 3) := by decide +kernel
theorem dX7_blushes_50 : decode cX7_blushes 50 = .ok (.iload_n 2, 1) := by decide +kernel
theorem dX7_blushes_51 : decode cX7_blushes 51 = .ok (.ireturn, 1) := by decide +kernel
theorem dX7_thoughtsOf_0 : decode cX7_thoughtsOf 0 = .ok (.iconst 0, 1) := by decide +kernel
theorem dX7_thoughtsOf_1 : decode cX7_thoughtsOf 1 = .ok (.istore_n 2, 1) := by decide +kernel
theorem dX7_thoughtsOf_2 : decode cX7_thoughtsOf 2 = .ok (.iconst 0, 1) := by decide +kernel
theorem dX7_thoughtsOf_3 : decode cX7_thoughtsOf 3 = .ok (.istore_n 3, 1) := by decide +kernel
theorem dX7_thoughtsOf_4 : decode cX7_thoughtsOf 4 = .ok (.iload_n 3, 1) := by decide +kernel
theorem dX7_thoughtsOf_5 : decode cX7_thoughtsOf 5 = .ok (.aload_n 0, 1) := by decide +kernel
theorem dX7_thoughtsOf_6 : decode cX7_thoughtsOf 6 = .ok (.getfield 53, 3) := by decide +kernel
theorem dX7_thoughtsOf_9 : decode cX7_thoughtsOf 9 = .ok (.getfield 192, 3) := by decide +kernel
theorem dX7_thoughtsOf_12 : decode cX7_thoughtsOf 12 = .ok (.if_icmp .ge 26, 3) := by decide +kernel
theorem dX7_thoughtsOf_15 : decode cX7_thoughtsOf 15 = .ok (.iload_n 1, 1) := by decide +kernel
theorem dX7_thoughtsOf_16 : decode cX7_thoughtsOf 16 = .ok (.iload_n 3, 1) := by decide +kernel
theorem dX7_thoughtsOf_17 : decode cX7_thoughtsOf 17 = .ok (.invokestatic 275, 3) := by decide +kernel
theorem dX7_thoughtsOf_20 : decode cX7_thoughtsOf 20 = .ok (.ifCond .eq 12, 3) := by decide +kernel
theorem dX7_thoughtsOf_23 : decode cX7_thoughtsOf 23 = .ok (.iload_n 2, 1) := by decide +kernel
theorem dX7_thoughtsOf_24 : decode cX7_thoughtsOf 24 = .ok (.aload_n 0, 1) := by decide +kernel
theorem dX7_thoughtsOf_25 : decode cX7_thoughtsOf 25 = .ok (.getfield 61, 3) := by decide +kernel
theorem dX7_thoughtsOf_28 : decode cX7_thoughtsOf 28 = .ok (.iload_n 3, 1) := by decide +kernel
theorem dX7_thoughtsOf_29 : decode cX7_thoughtsOf 29 = .ok (.iaload, 1) := by decide +kernel
theorem dX7_thoughtsOf_30 : decode cX7_thoughtsOf 30 = .ok (.ior, 1) := by decide +kernel
theorem dX7_thoughtsOf_31 : decode cX7_thoughtsOf 31 = .ok (.istore_n 2, 1) := by decide +kernel
theorem dX7_thoughtsOf_32 : decode cX7_thoughtsOf 32 = .ok (.iinc 3 1, 3) := by decide +kernel
theorem dX7_thoughtsOf_35 : decode cX7_thoughtsOf 35 = .ok (.goto (-31), 3) := by decide +kernel
theorem dX7_thoughtsOf_38 : decode cX7_thoughtsOf 38 = .ok (.iload_n 2, 1) := by decide +kernel
theorem dX7_thoughtsOf_39 : decode cX7_thoughtsOf 39 = .ok (.ireturn, 1) := by decide +kernel
theorem dX7_power_0 : decode cX7_power 0 = .ok (.iconst 1, 1) := by decide +kernel
theorem dX7_power_1 : decode cX7_power 1 = .ok (.istore_n 2, 1) := by decide +kernel
theorem dX7_power_2 : decode cX7_power 2 = .ok (.iconst 0, 1) := by decide +kernel
theorem dX7_power_3 : decode cX7_power 3 = .ok (.istore_n 3, 1) := by decide +kernel
theorem dX7_power_4 : decode cX7_power 4 = .ok (.iload_n 3, 1) := by decide +kernel
theorem dX7_power_5 : decode cX7_power 5 = .ok (.iload_n 1, 1) := by decide +kernel
theorem dX7_power_6 : decode cX7_power 6 = .ok (.if_icmp .ge 13, 3) := by decide +kernel
theorem dX7_power_9 : decode cX7_power 9 = .ok (.iload_n 2, 1) := by decide +kernel
theorem dX7_power_10 : decode cX7_power 10 = .ok (.iload_n 0, 1) := by decide +kernel
theorem dX7_power_11 : decode cX7_power 11 = .ok (.imul, 1) := by decide +kernel
theorem dX7_power_12 : decode cX7_power 12 = .ok (.istore_n 2, 1) := by decide +kernel
theorem dX7_power_13 : decode cX7_power 13 = .ok (.iinc 3 1, 3) := by decide +kernel
theorem dX7_power_16 : decode cX7_power 16 = .ok (.goto (-12), 3) := by decide +kernel
theorem dX7_power_19 : decode cX7_power 19 = .ok (.iload_n 2, 1) := by decide +kernel
theorem dX7_power_20 : decode cX7_power 20 = .ok (.ireturn, 1) := by decide +kernel
theorem dX7_choose_0 : decode cX7_choose 0 = .ok (.iconst 1, 1) := by decide +kernel
theorem dX7_choose_1 : decode cX7_choose 1 = .ok (.istore_n 2, 1) := by decide +kernel
theorem dX7_choose_2 : decode cX7_choose 2 = .ok (.iconst 1, 1) := by decide +kernel
theorem dX7_choose_3 : decode cX7_choose 3 = .ok (.istore_n 3, 1) := by decide +kernel
theorem dX7_choose_4 : decode cX7_choose 4 = .ok (.iload_n 3, 1) := by decide +kernel
theorem dX7_choose_5 : decode cX7_choose 5 = .ok (.iload_n 1, 1) := by decide +kernel
theorem dX7_choose_6 : decode cX7_choose 6 = .ok (.if_icmp .gt 19, 3) := by decide +kernel
theorem dX7_choose_9 : decode cX7_choose 9 = .ok (.iload_n 2, 1) := by decide +kernel
theorem dX7_choose_10 : decode cX7_choose 10 = .ok (.iload_n 0, 1) := by decide +kernel
theorem dX7_choose_11 : decode cX7_choose 11 = .ok (.iload_n 1, 1) := by decide +kernel
theorem dX7_choose_12 : decode cX7_choose 12 = .ok (.isub, 1) := by decide +kernel
theorem dX7_choose_13 : decode cX7_choose 13 = .ok (.iload_n 3, 1) := by decide +kernel
theorem dX7_choose_14 : decode cX7_choose 14 = .ok (.iadd, 1) := by decide +kernel
theorem dX7_choose_15 : decode cX7_choose 15 = .ok (.imul, 1) := by decide +kernel
theorem dX7_choose_16 : decode cX7_choose 16 = .ok (.iload_n 3, 1) := by decide +kernel
theorem dX7_choose_17 : decode cX7_choose 17 = .ok (.idiv, 1) := by decide +kernel
theorem dX7_choose_18 : decode cX7_choose 18 = .ok (.istore_n 2, 1) := by decide +kernel
theorem dX7_choose_19 : decode cX7_choose 19 = .ok (.iinc 3 1, 3) := by decide +kernel
theorem dX7_choose_22 : decode cX7_choose 22 = .ok (.goto (-18), 3) := by decide +kernel
