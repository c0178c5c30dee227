theorem dX0_init_0 : decode cX0_init 0 = .ok (.aload_n 0, 1) := by decide +kernel
theorem dX0_init_1 : decode cX0_init 1 = .ok (.invokespecial 3, 3) := by decide +kernel
theorem dX0_init_4 : decode cX0_init 4 = .ok (.aload_n 0, 1) := by decide +kernel
theorem dX0_init_5 : decode cX0_init 5 = .ok (.iconst 4, 1) := by decide +kernel
theorem dX0_init_6 : decode cX0_init 6 = .ok (.newarray .int, 2) := by decide +kernel
theorem dX0_init_8 : decode cX0_init 8 = .ok (.putfield 9, 3) := by decide +kernel
theorem dX0_init_11 : decode cX0_init 11 = .ok (.aload_n 0, 1) := by decide +kernel
theorem dX0_init_12 : decode cX0_init 12 = .ok (.iconst 4, 1) := by decide +kernel
theorem dX0_init_13 : decode cX0_init 13 = .ok (.newarray .int, 2) := by decide +kernel
theorem dX0_init_15 : decode cX0_init 15 = .ok (.putfield 15, 3) := by decide +kernel
theorem dX0_init_18 : decode cX0_init 18 = .ok (.aload_n 0, 1) := by decide +kernel
theorem dX0_init_19 : decode cX0_init 19 = .ok (.iconst 4, 1) := by decide +kernel
theorem dX0_init_20 : decode cX0_init 20 = .ok (.newarray .int, 2) := by decide +kernel
theorem dX0_init_22 : decode cX0_init 22 = .ok (.putfield 18, 3) := by decide +kernel
theorem dX0_init_25 : decode cX0_init 25 = .ok (.return_, 1) := by decide +kernel
theorem dX0_drop_0 : decode cX0_drop 0 = .ok (.aload_n 0, 1) := by decide +kernel
theorem dX0_drop_1 : decode cX0_drop 1 = .ok (.iconst 0, 1) := by decide +kernel
theorem dX0_drop_2 : decode cX0_drop 2 = .ok (.putfield 21, 3) := by decide +kernel
theorem dX0_drop_5 : decode cX0_drop 5 = .ok (.aload_n 0, 1) := by decide +kernel
theorem dX0_drop_6 : decode cX0_drop 6 = .ok (.iconst 0, 1) := by decide +kernel
theorem dX0_drop_7 : decode cX0_drop 7 = .ok (.putfield 25, 3) := by decide +kernel
theorem dX0_drop_10 : decode cX0_drop 10 = .ok (.return_, 1) := by decide +kernel
theorem dX0_fitAt_0 : decode cX0_fitAt 0 = .ok (.iload_n 3, 1) := by decide +kernel
theorem dX0_fitAt_1 : decode cX0_fitAt 1 = .ok (.aload_n 0, 1) := by decide +kernel
theorem dX0_fitAt_2 : decode cX0_fitAt 2 = .ok (.getfield 21, 3) := by decide +kernel
theorem dX0_fitAt_5 : decode cX0_fitAt 5 = .ok (.iadd, 1) := by decide +kernel
theorem dX0_fitAt_6 : decode cX0_fitAt 6 = .ok (.aload_n 1, 1) := by decide +kernel
theorem dX0_fitAt_7 : decode cX0_fitAt 7 = .ok (.getfield 28, 3) := by decide +kernel
theorem dX0_fitAt_10 : decode cX0_fitAt 10 = .ok (.iload_n 2, 1) := by decide +kernel
theorem dX0_fitAt_11 : decode cX0_fitAt 11 = .ok (.iaload, 1) := by decide +kernel
theorem dX0_fitAt_12 : decode cX0_fitAt 12 = .ok (.if_icmp .le 5, 3) := by decide +kernel
theorem dX0_fitAt_15 : decode cX0_fitAt 15 = .ok (.iconst 0, 1) := by decide +kernel
theorem dX0_fitAt_16 : decode cX0_fitAt 16 = .ok (.ireturn, 1) := by decide +kernel
theorem dX0_fitAt_17 : decode cX0_fitAt 17 = .ok (.iconst 0, 1) := by decide +kernel
theorem dX0_fitAt_18 : decode cX0_fitAt 18 = .ok (.istore 4, 2) := by decide +kernel
theorem dX0_fitAt_20 : decode cX0_fitAt 20 = .ok (.iload 4, 2) := by decide +kernel
theorem dX0_fitAt_22 : decode cX0_fitAt 22 = .ok (.aload_n 0, 1) := by decide +kernel
theorem dX0_fitAt_23 : decode cX0_fitAt 23 = .ok (.getfield 21, 3) := by decide +kernel
theorem dX0_fitAt_26 : decode cX0_fitAt 26 = .ok (.if_icmp .ge 30, 3) := by decide +kernel
theorem dX0_fitAt_29 : decode cX0_fitAt 29 = .ok (.aload_n 1, 1) := by decide +kernel
theorem dX0_fitAt_30 : decode cX0_fitAt 30 = .ok (.iload_n 2, 1) := by decide +kernel
theorem dX0_fitAt_31 : decode cX0_fitAt 31 = .ok (.iload_n 3, 1) := by decide +kernel
theorem dX0_fitAt_32 : decode cX0_fitAt 32 = .ok (.iload 4, 2) := by decide +kernel
theorem dX0_fitAt_34 : decode cX0_fitAt 34 = .ok (.iadd, 1) := by decide +kernel
theorem dX0_fitAt_35 : decode cX0_fitAt 35 = .ok (.invokevirtual 33, 3) := by decide +kernel
theorem dX0_fitAt_38 : decode cX0_fitAt 38 = .ok (.aload_n 0, 1) := by decide +kernel
theorem dX0_fitAt_39 : decode cX0_fitAt 39 = .ok (.getfield 9, 3) := by decide +kernel
theorem dX0_fitAt_42 : decode cX0_fitAt 42 = .ok (.iload 4, 2) := by decide +kernel
theorem dX0_fitAt_44 : decode cX0_fitAt 44 = .ok (.iaload, 1) := by decide +kernel
theorem dX0_fitAt_45 : decode cX0_fitAt 45 = .ok (.if_icmp .eq 5, 3) := by decide +kernel
theorem dX0_fitAt_48 : decode cX0_fitAt 48 = .ok (.iconst 0, 1) := by decide +kernel
theorem dX0_fitAt_49 : decode cX0_fitAt 49 = .ok (.ireturn, 1) := by decide +kernel
theorem dX0_fitAt_50 : decode cX0_fitAt 50 = .ok (.iinc 4 1, 3) := by decide +kernel
theorem dX0_fitAt_53 : decode cX0_fitAt 53 = .ok (.goto (-33), 3) := by decide +kernel
theorem dX0_fitAt_56 : decode cX0_fitAt 56 = .ok (.iconst 1, 1) := by decide +kernel
theorem dX0_fitAt_57 : decode cX0_fitAt 57 = .ok (.ireturn, 1) := by decide +kernel
theorem dX1_init_0 : decode cX1_init 0 = .ok (.aload_n 0, 1) := by decide +kernel
theorem dX1_init_1 : decode cX1_init 1 = .ok (.invokespecial 3, 3) := by decide +kernel
theorem dX1_init_4 : decode cX1_init 4 = .ok (.aload_n 0, 1) := by decide +kernel
theorem dX1_init_5 : decode cX1_init 5 = .ok (.iconst 5, 1) := by decide +kernel
theorem dX1_init_6 : decode cX1_init 6 = .ok (.newarray .int, 2) := by decide +kernel
theorem dX1_init_8 : decode cX1_init 8 = .ok (.putfield 9, 3) := by decide +kernel
theorem dX1_init_11 : decode cX1_init 11 = .ok (.aload_n 0, 1) := by decide +kernel
theorem dX1_init_12 : decode cX1_init 12 = .ok (.iconst 5, 1) := by decide +kernel
theorem dX1_init_13 : decode cX1_init 13 = .ok (.newarray .int, 2) := by decide +kernel
theorem dX1_init_15 : decode cX1_init 15 = .ok (.putfield 15, 3) := by decide +kernel
theorem dX1_init_18 : decode cX1_init 18 = .ok (.aload_n 0, 1) := by decide +kernel
theorem dX1_init_19 : decode cX1_init 19 = .ok (.bipush 60, 2) := by decide +kernel
theorem dX1_init_21 : decode cX1_init 21 = .ok (.newarray .int, 2) := by decide +kernel
theorem dX1_init_23 : decode cX1_init 23 = .ok (.putfield 18, 3) := by decide +kernel
theorem dX1_init_26 : decode cX1_init 26 = .ok (.aload_n 0, 1) := by decide +kernel
theorem dX1_init_27 : decode cX1_init 27 = .ok (.bipush 40, 2) := by decide +kernel
theorem dX1_init_29 : decode cX1_init 29 = .ok (.newarray .int, 2) := by decide +kernel
theorem dX1_init_31 : decode cX1_init 31 = .ok (.putfield 21, 3) := by decide +kernel
theorem dX1_init_34 : decode cX1_init 34 = .ok (.aload_n 0, 1) := by decide +kernel
theorem dX1_init_35 : decode cX1_init 35 = .ok (.getfield 15, 3) := by decide +kernel
theorem dX1_init_38 : decode cX1_init 38 = .ok (.bipush (-9), 2) := by decide +kernel
theorem dX1_init_40 : decode cX1_init 40 = .ok (.invokestatic 24, 3) := by decide +kernel
theorem dX1_init_43 : decode cX1_init 43 = .ok (.return_, 1) := by decide +kernel
theorem dX1_begin_0 : decode cX1_begin 0 = .ok (.aload_n 0, 1) := by decide +kernel
theorem dX1_begin_1 : decode cX1_begin 1 = .ok (.iconst 0, 1) := by decide +kernel
theorem dX1_begin_2 : decode cX1_begin 2 = .ok (.putfield 30, 3) := by decide +kernel
theorem dX1_begin_5 : decode cX1_begin 5 = .ok (.aload_n 0, 1) := by decide +kernel
theorem dX1_begin_6 : decode cX1_begin 6 = .ok (.iload_n 1, 1) := by decide +kernel
theorem dX1_begin_7 : decode cX1_begin 7 = .ok (.putfield 34, 3) := by decide +kernel
theorem dX1_begin_10 : decode cX1_begin 10 = .ok (.aload_n 0, 1) := by decide +kernel
theorem dX1_begin_11 : decode cX1_begin 11 = .ok (.getfield 9, 3) := by decide +kernel
theorem dX1_begin_14 : decode cX1_begin 14 = .ok (.iconst 0, 1) := by decide +kernel
theorem dX1_begin_15 : decode cX1_begin 15 = .ok (.invokestatic 24, 3) := by decide +kernel
theorem dX1_begin_18 : decode cX1_begin 18 = .ok (.aload_n 0, 1) := by decide +kernel
theorem dX1_begin_19 : decode cX1_begin 19 = .ok (.getfield 15, 3) := by decide +kernel
theorem dX1_begin_22 : decode cX1_begin 22 = .ok (.bipush (-9), 2) := by decide +kernel
theorem dX1_begin_24 : decode cX1_begin 24 = .ok (.invokestatic 24, 3) := by decide +kernel
theorem dX1_begin_27 : decode cX1_begin 27 = .ok (.aload_n 0, 1) := by decide +kernel
theorem dX1_begin_28 : decode cX1_begin 28 = .ok (.getfield 21, 3) := by decide +kernel
theorem dX1_begin_31 : decode cX1_begin 31 = .ok (.iconst 0, 1) := by decide +kernel
theorem dX1_begin_32 : decode cX1_begin 32 = .ok (.invokestatic 24, 3) := by decide +kernel
theorem dX1_begin_35 : decode cX1_begin 35 = .ok (.return_, 1) := by decide +kernel
theorem dX1_copyFrom_0 : decode cX1_copyFrom 0 = .ok (.aload_n 0, 1) := by decide +kernel
theorem dX1_copyFrom_1 : decode cX1_copyFrom 1 = .ok (.aload_n 1, 1) := by decide +kernel
theorem dX1_copyFrom_2 : decode cX1_copyFrom 2 = .ok (.getfield 30, 3) := by decide +kernel
theorem dX1_copyFrom_5 : decode cX1_copyFrom 5 = .ok (.putfield 30, 3) := by decide +kernel
theorem dX1_copyFrom_8 : decode cX1_copyFrom 8 = .ok (.aload_n 0, 1) := by decide +kernel
theorem dX1_copyFrom_9 : decode cX1_copyFrom 9 = .ok (.aload_n 1, 1) := by decide +kernel
theorem dX1_copyFrom_10 : decode cX1_copyFrom 10 = .ok (.getfield 34, 3) := by decide +kernel
theorem dX1_copyFrom_13 : decode cX1_copyFrom 13 = .ok (.putfield 34, 3) := by decide +kernel
theorem dX1_copyFrom_16 : decode cX1_copyFrom 16 = .ok (.aload_n 1, 1) := by decide +kernel
theorem dX1_copyFrom_17 : decode cX1_copyFrom 17 = .ok (.getfield 9, 3) := by decide +kernel
theorem dX1_copyFrom_20 : decode cX1_copyFrom 20 = .ok (.iconst 0, 1) := by decide +kernel
theorem dX1_copyFrom_21 : decode cX1_copyFrom 21 = .ok (.aload_n 0, 1) := by decide +kernel
theorem dX1_copyFrom_22 : decode cX1_copyFrom 22 = .ok (.getfield 9, 3) := by decide +kernel
theorem dX1_copyFrom_25 : decode cX1_copyFrom 25 = .ok (.iconst 0, 1) := by decide +kernel
theorem dX1_copyFrom_26 : decode cX1_copyFrom 26 = .ok (.aload_n 0, 1) := by decide +kernel
theorem dX1_copyFrom_27 : decode cX1_copyFrom 27 = .ok (.getfield 9, 3) := by decide +kernel
theorem dX1_copyFrom_30 : decode cX1_copyFrom 30 = .ok (.arraylength, 1) := by decide +kernel
theorem dX1_copyFrom_31 : decode cX1_copyFrom 31 = .ok (.invokestatic 37, 3) := by decide +kernel
theorem dX1_copyFrom_34 : decode cX1_copyFrom 34 = .ok (.aload_n 1, 1) := by decide +kernel
theorem dX1_copyFrom_35 : decode cX1_copyFrom 35 = .ok (.getfield 15, 3) := by decide +kernel
theorem dX1_copyFrom_38 : decode cX1_copyFrom 38 = .ok (.iconst 0, 1) := by decide +kernel
theorem dX1_copyFrom_39 : decode cX1_copyFrom 39 = .ok (.aload_n 0, 1) := by decide +kernel
theorem dX1_copyFrom_40 : decode cX1_copyFrom 40 = .ok (.getfield 15, 3) := by decide +kernel
theorem dX1_copyFrom_43 : decode cX1_copyFrom 43 = .ok (.iconst 0, 1) := by decide +kernel
theorem dX1_copyFrom_44 : decode cX1_copyFrom 44 = .ok (.aload_n 0, 1) := by decide +kernel
theorem dX1_copyFrom_45 : decode cX1_copyFrom 45 = .ok (.getfield 15, 3) := by decide +kernel
theorem dX1_copyFrom_48 : decode cX1_copyFrom 48 = .ok (.arraylength, 1) := by decide +kernel
theorem dX1_copyFrom_49 : decode cX1_copyFrom 49 = .ok (.invokestatic 37, 3) := by decide +kernel
theorem dX1_copyFrom_52 : decode cX1_copyFrom 52 = .ok (.aload_n 1, 1) := by decide +kernel
theorem dX1_copyFrom_53 : decode cX1_copyFrom 53 = .ok (.getfield 18, 3) := by decide +kernel
theorem dX1_copyFrom_56 : decode cX1_copyFrom 56 = .ok (.iconst 0, 1) := by decide +kernel
theorem dX1_copyFrom_57 : decode cX1_copyFrom 57 = .ok (.aload_n 0, 1) := by decide +kernel
theorem dX1_copyFrom_58 : decode cX1_copyFrom 58 = .ok (.getfield 18, 3) := by decide +kernel
theorem dX1_copyFrom_61 : decode cX1_copyFrom 61 = .ok (.iconst 0, 1) := by decide +kernel
theorem dX1_copyFrom_62 : decode cX1_copyFrom 62 = .ok (.aload_n 0, 1) := by decide +kernel
theorem dX1_copyFrom_63 : decode cX1_copyFrom 63 = .ok (.getfield 18, 3) := by decide +kernel
theorem dX1_copyFrom_66 : decode cX1_copyFrom 66 = .ok (.arraylength, 1) := by decide +kernel
theorem dX1_copyFrom_67 : decode cX1_copyFrom 67 = .ok (.invokestatic 37, 3) := by decide +kernel
theorem dX1_copyFrom_70 : decode cX1_copyFrom 70 = .ok (.aload_n 1, 1) := by decide +kernel
theorem dX1_copyFrom_71 : decode cX1_copyFrom 71 = .ok (.getfield 21, 3) := by decide +kernel
theorem dX1_copyFrom_74 : decode cX1_copyFrom 74 = .ok (.iconst 0, 1) := by decide +kernel
theorem dX1_copyFrom_75 : decode cX1_copyFrom 75 = .ok (.aload_n 0, 1) := by decide +kernel
theorem dX1_copyFrom_76 : decode cX1_copyFrom 76 = .ok (.getfield 21, 3) := by decide +kernel
theorem dX1_copyFrom_79 : decode cX1_copyFrom 79 = .ok (.iconst 0, 1) := by decide +kernel
theorem dX1_copyFrom_80 : decode cX1_copyFrom 80 = .ok (.aload_n 0, 1) := by decide +kernel
theorem dX1_copyFrom_81 : decode cX1_copyFrom 81 = .ok (.getfield 21, 3) := by decide +kernel
theorem dX1_copyFrom_84 : decode cX1_copyFrom 84 = .ok (.arraylength, 1) := by decide +kernel
theorem dX1_copyFrom_85 : decode cX1_copyFrom 85 = .ok (.invokestatic 37, 3) := by decide +kernel
theorem dX1_copyFrom_88 : decode cX1_copyFrom 88 = .ok (.return_, 1) := by decide +kernel
theorem dX1_layerAt_0 : decode cX1_layerAt 0 = .ok (.aload_n 0, 1) := by decide +kernel
theorem dX1_layerAt_1 : decode cX1_layerAt 1 = .ok (.getfield 18, 3) := by decide +kernel
theorem dX1_layerAt_4 : decode cX1_layerAt 4 = .ok (.iload_n 1, 1) := by decide +kernel
theorem dX1_layerAt_5 : decode cX1_layerAt 5 = .ok (.bipush 12, 2) := by decide +kernel
theorem dX1_layerAt_7 : decode cX1_layerAt 7 = .ok (.imul, 1) := by decide +kernel
theorem dX1_layerAt_8 : decode cX1_layerAt 8 = .ok (.iload_n 2, 1) := by decide +kernel
theorem dX1_layerAt_9 : decode cX1_layerAt 9 = .ok (.iadd, 1) := by decide +kernel
theorem dX1_layerAt_10 : decode cX1_layerAt 10 = .ok (.iaload, 1) := by decide +kernel
theorem dX1_layerAt_11 : decode cX1_layerAt 11 = .ok (.ireturn, 1) := by decide +kernel
theorem dX1_sweptOf_0 : decode cX1_sweptOf 0 = .ok (.aload_n 0, 1) := by decide +kernel
theorem dX1_sweptOf_1 : decode cX1_sweptOf 1 = .ok (.getfield 21, 3) := by decide +kernel
theorem dX1_sweptOf_4 : decode cX1_sweptOf 4 = .ok (.iload_n 1, 1) := by decide +kernel
theorem dX1_sweptOf_5 : decode cX1_sweptOf 5 = .ok (.bipush 10, 2) := by decide +kernel
theorem dX1_sweptOf_7 : decode cX1_sweptOf 7 = .ok (.imul, 1) := by decide +kernel
theorem dX1_sweptOf_8 : decode cX1_sweptOf 8 = .ok (.iload_n 2, 1) := by decide +kernel
theorem dX1_sweptOf_9 : decode cX1_sweptOf 9 = .ok (.iadd, 1) := by decide +kernel
theorem dX1_sweptOf_10 : decode cX1_sweptOf 10 = .ok (.iaload, 1) := by decide +kernel
theorem dX1_sweptOf_11 : decode cX1_sweptOf 11 = .ok (.ireturn, 1) := by decide +kernel
theorem dX1_thoughtAhead_0 : decode cX1_thoughtAhead 0 = .ok (.iload_n 3, 1) := by decide +kernel
theorem dX1_thoughtAhead_1 : decode cX1_thoughtAhead 1 = .ok (.ifCond .ne 21, 3) := by decide +kernel
theorem dX1_thoughtAhead_4 : decode cX1_thoughtAhead 4 = .ok (.aload_n 0, 1) := by decide +kernel
theorem dX1_thoughtAhead_5 : decode cX1_thoughtAhead 5 = .ok (.getfield 15, 3) := by decide +kernel
theorem dX1_thoughtAhead_8 : decode cX1_thoughtAhead 8 = .ok (.iload_n 2, 1) := by decide +kernel
theorem dX1_thoughtAhead_9 : decode cX1_thoughtAhead 9 = .ok (.iaload, 1) := by decide +kernel
theorem dX1_thoughtAhead_10 : decode cX1_thoughtAhead 10 = .ok (.bipush (-9), 2) := by decide +kernel
theorem dX1_thoughtAhead_12 : decode cX1_thoughtAhead 12 = .ok (.if_icmp .eq 10, 3) := by decide +kernel
theorem dX1_thoughtAhead_15 : decode cX1_thoughtAhead 15 = .ok (.aload_n 0, 1) := by decide +kernel
theorem dX1_thoughtAhead_16 : decode cX1_thoughtAhead 16 = .ok (.getfield 15, 3) := by decide +kernel
theorem dX1_thoughtAhead_19 : decode cX1_thoughtAhead 19 = .ok (.iload_n 2, 1) := by decide +kernel
theorem dX1_thoughtAhead_20 : decode cX1_thoughtAhead 20 = .ok (.iaload, 1) := by decide +kernel
theorem dX1_thoughtAhead_21 : decode cX1_thoughtAhead 21 = .ok (.ireturn, 1) := by decide +kernel
theorem dX1_thoughtAhead_22 : decode cX1_thoughtAhead 22 = .ok (.aload_n 1, 1) := by decide +kernel
theorem dX1_thoughtAhead_23 : decode cX1_thoughtAhead 23 = .ok (.iload_n 2, 1) := by decide +kernel
theorem dX1_thoughtAhead_24 : decode cX1_thoughtAhead 24 = .ok (.aload_n 0, 1) := by decide +kernel
theorem dX1_thoughtAhead_25 : decode cX1_thoughtAhead 25 = .ok (.getfield 30, 3) := by decide +kernel
theorem dX1_thoughtAhead_28 : decode cX1_thoughtAhead 28 = .ok (.iload_n 3, 1) := by decide +kernel
theorem dX1_thoughtAhead_29 : decode cX1_thoughtAhead 29 = .ok (.iadd, 1) := by decide +kernel
theorem dX1_thoughtAhead_30 : decode cX1_thoughtAhead 30 = .ok (.invokevirtual 43, 3) := by decide +kernel
theorem dX1_thoughtAhead_33 : decode cX1_thoughtAhead 33 = .ok (.ireturn, 1) := by decide +kernel
theorem dX1_passDay_0 : decode cX1_passDay 0 = .ok (.iconst 0, 1) := by decide +kernel
theorem dX1_passDay_1 : decode cX1_passDay 1 = .ok (.istore_n 2, 1) := by decide +kernel
theorem dX1_passDay_2 : decode cX1_passDay 2 = .ok (.iload_n 2, 1) := by decide +kernel
theorem dX1_passDay_3 : decode cX1_passDay 3 = .ok (.aload_n 1, 1) := by decide +kernel
theorem dX1_passDay_4 : decode cX1_passDay 4 = .ok (.getfield 49, 3) := by decide +kernel
theorem dX1_passDay_7 : decode cX1_passDay 7 = .ok (.if_icmp .ge 71, 3) := by decide +kernel
theorem dX1_passDay_10 : decode cX1_passDay 10 = .ok (.aload_n 0, 1) := by decide +kernel
theorem dX1_passDay_11 : decode cX1_passDay 11 = .ok (.aload_n 1, 1) := by decide +kernel
theorem dX1_passDay_12 : decode cX1_passDay 12 = .ok (.iload_n 2, 1) := by decide +kernel
theorem dX1_passDay_13 : decode cX1_passDay 13 = .ok (.iconst 0, 1) := by decide +kernel
theorem dX1_passDay_14 : decode cX1_passDay 14 = .ok (.invokevirtual 52, 3) := by decide +kernel
theorem dX1_passDay_17 : decode cX1_passDay 17 = .ok (.istore_n 3, 1) := by decide +kernel
theorem dX1_passDay_18 : decode cX1_passDay 18 = .ok (.aload_n 0, 1) := by decide +kernel
theorem dX1_passDay_19 : decode cX1_passDay 19 = .ok (.getfield 15, 3) := by decide +kernel
theorem dX1_passDay_22 : decode cX1_passDay 22 = .ok (.iload_n 2, 1) := by decide +kernel
theorem dX1_passDay_23 : decode cX1_passDay 23 = .ok (.bipush (-9), 2) := by decide +kernel
theorem dX1_passDay_25 : decode cX1_passDay 25 = .ok (.iastore, 1) := by decide +kernel
theorem dX1_passDay_26 : decode cX1_passDay 26 = .ok (.aload_n 0, 1) := by decide +kernel
theorem dX1_passDay_27 : decode cX1_passDay 27 = .ok (.getfield 9, 3) := by decide +kernel
theorem dX1_passDay_30 : decode cX1_passDay 30 = .ok (.iload_n 2, 1) := by decide +kernel
theorem dX1_passDay_31 : decode cX1_passDay 31 = .ok (.iaload, 1) := by decide +kernel
theorem dX1_passDay_32 : decode cX1_passDay 32 = .ok (.aload_n 1, 1) := by decide +kernel
theorem dX1_passDay_33 : decode cX1_passDay 33 = .ok (.getfield 56, 3) := by decide +kernel
theorem dX1_passDay_36 : decode cX1_passDay 36 = .ok (.if_icmp .lt 9, 3) := by decide +kernel
theorem dX1_passDay_39 : decode cX1_passDay 39 = .ok (.aload_n 0, 1) := by decide +kernel
theorem dX1_passDay_40 : decode cX1_passDay 40 = .ok (.iload_n 2, 1) := by decide +kernel
theorem dX1_passDay_41 : decode cX1_passDay 41 = .ok (.iconst 1, 1) := by decide +kernel
theorem dX1_passDay_42 : decode cX1_passDay 42 = .ok (.invokevirtual 59, 3) := by decide +kernel
theorem dX1_passDay_45 : decode cX1_passDay 45 = .ok (.aload_n 0, 1) := by decide +kernel
theorem dX1_passDay_46 : decode cX1_passDay 46 = .ok (.getfield 18, 3) := by decide +kernel
theorem dX1_passDay_49 : decode cX1_passDay 49 = .ok (.iload_n 2, 1) := by decide +kernel
theorem dX1_passDay_50 : decode cX1_passDay 50 = .ok (.bipush 12, 2) := by decide +kernel
theorem dX1_passDay_52 : decode cX1_passDay 52 = .ok (.imul, 1) := by decide +kernel
theorem dX1_passDay_53 : decode cX1_passDay 53 = .ok (.aload_n 0, 1) := by decide +kernel
theorem dX1_passDay_54 : decode cX1_passDay 54 = .ok (.getfield 9, 3) := by decide +kernel
theorem dX1_passDay_57 : decode cX1_passDay 57 = .ok (.iload_n 2, 1) := by decide +kernel
theorem dX1_passDay_58 : decode cX1_passDay 58 = .ok (.iaload, 1) := by decide +kernel
theorem dX1_passDay_59 : decode cX1_passDay 59 = .ok (.iadd, 1) := by decide +kernel
theorem dX1_passDay_60 : decode cX1_passDay 60 = .ok (.iload_n 3, 1) := by decide +kernel
theorem dX1_passDay_61 : decode cX1_passDay 61 = .ok (.iastore, 1) := by decide +kernel
theorem dX1_passDay_62 : decode cX1_passDay 62 = .ok (.aload_n 0, 1) := by decide +kernel
theorem dX1_passDay_63 : decode cX1_passDay 63 = .ok (.getfield 9, 3) := by decide +kernel
theorem dX1_passDay_66 : decode cX1_passDay 66 = .ok (.iload_n 2, 1) := by decide +kernel
theorem dX1_passDay_67 : decode cX1_passDay 67 = .ok (.dup2, 1) := by decide +kernel
theorem dX1_passDay_68 : decode cX1_passDay 68 = .ok (.iaload, 1) := by decide +kernel
theorem dX1_passDay_69 : decode cX1_passDay 69 = .ok (.iconst 1, 1) := by decide +kernel
theorem dX1_passDay_70 : decode cX1_passDay 70 = .ok (.iadd, 1) := by decide +kernel
theorem dX1_passDay_71 : decode cX1_passDay 71 = .ok (.iastore, 1) := by decide +kernel
theorem dX1_passDay_72 : decode cX1_passDay 72 = .ok (.iinc 2 1, 3) := by decide +kernel
theorem dX1_passDay_75 : decode cX1_passDay 75 = .ok (.goto (-73), 3) := by decide +kernel
theorem dX1_passDay_78 : decode cX1_passDay 78 = .ok (.aload_n 0, 1) := by decide +kernel
theorem dX1_passDay_79 : decode cX1_passDay 79 = .ok (.dup, 1) := by decide +kernel
theorem dX1_passDay_80 : decode cX1_passDay 80 = .ok (.getfield 30, 3) := by decide +kernel
theorem dX1_passDay_83 : decode cX1_passDay 83 = .ok (.iconst 1, 1) := by decide +kernel
theorem dX1_passDay_84 : decode cX1_passDay 84 = .ok (.iadd, 1) := by decide +kernel
theorem dX1_passDay_85 : decode cX1_passDay 85 = .ok (.putfield 30, 3) := by decide +kernel
theorem dX1_passDay_88 : decode cX1_passDay 88 = .ok (.return_, 1) := by decide +kernel
theorem dX1_sweep_0 : decode cX1_sweep 0 = .ok (.iconst 0, 1) := by decide +kernel
theorem dX1_sweep_1 : decode cX1_sweep 1 = .ok (.istore_n 3, 1) := by decide +kernel
theorem dX1_sweep_2 : decode cX1_sweep 2 = .ok (.iload_n 3, 1) := by decide +kernel
theorem dX1_sweep_3 : decode cX1_sweep 3 = .ok (.iload_n 2, 1) := by decide +kernel
theorem dX1_sweep_4 : decode cX1_sweep 4 = .ok (.if_icmp .ge 46, 3) := by decide +kernel
theorem dX1_sweep_7 : decode cX1_sweep 7 = .ok (.aload_n 0, 1) := by decide +kernel
theorem dX1_sweep_8 : decode cX1_sweep 8 = .ok (.getfield 34, 3) := by decide +kernel
theorem dX1_sweep_11 : decode cX1_sweep 11 = .ok (.bipush 10, 2) := by decide +kernel
theorem dX1_sweep_13 : decode cX1_sweep 13 = .ok (.imul, 1) := by decide +kernel
theorem dX1_sweep_14 : decode cX1_sweep 14 = .ok (.aload_n 0, 1) := by decide +kernel
theorem dX1_sweep_15 : decode cX1_sweep 15 = .ok (.iload_n 1, 1) := by decide +kernel
theorem dX1_sweep_16 : decode cX1_sweep 16 = .ok (.iload_n 3, 1) := by decide +kernel
theorem dX1_sweep_17 : decode cX1_sweep 17 = .ok (.invokevirtual 63, 3) := by decide +kernel
theorem dX1_sweep_20 : decode cX1_sweep 20 = .ok (.iadd, 1) := by decide +kernel
theorem dX1_sweep_21 : decode cX1_sweep 21 = .ok (.istore 4, 2) := by decide +kernel
theorem dX1_sweep_23 : decode cX1_sweep 23 = .ok (.aload_n 0, 1) := by decide +kernel
theorem dX1_sweep_24 : decode cX1_sweep 24 = .ok (.getfield 21, 3) := by decide +kernel
theorem dX1_sweep_27 : decode cX1_sweep 27 = .ok (.iload 4, 2) := by decide +kernel
theorem dX1_sweep_29 : decode cX1_sweep 29 = .ok (.aload_n 0, 1) := by decide +kernel
theorem dX1_sweep_30 : decode cX1_sweep 30 = .ok (.getfield 21, 3) := by decide +kernel
theorem dX1_sweep_33 : decode cX1_sweep 33 = .ok (.iload 4, 2) := by decide +kernel
theorem dX1_sweep_35 : decode cX1_sweep 35 = .ok (.iaload, 1) := by decide +kernel
theorem dX1_sweep_36 : decode cX1_sweep 36 = .ok (.iconst 1, 1) := by decide +kernel
theorem dX1_sweep_37 : decode cX1_sweep 37 = .ok (.iadd, 1) := by decide +kernel
theorem dX1_sweep_38 : decode cX1_sweep 38 = .ok (.bipush 99, 2) := by decide +kernel
theorem dX1_sweep_40 : decode cX1_sweep 40 = .ok (.invokestatic 66, 3) := by decide +kernel
theorem dX1_sweep_43 : decode cX1_sweep 43 = .ok (.iastore, 1) := by decide +kernel
theorem dX1_sweep_44 : decode cX1_sweep 44 = .ok (.iinc 3 1, 3) := by decide +kernel
theorem dX1_sweep_47 : decode cX1_sweep 47 = .ok (.goto (-45), 3) := by decide +kernel
theorem dX1_sweep_50 : decode cX1_sweep 50 = .ok (.aload_n 0, 1) := by decide +kernel
theorem dX1_sweep_51 : decode cX1_sweep 51 = .ok (.iload_n 1, 1) := by decide +kernel
theorem dX1_sweep_52 : decode cX1_sweep 52 = .ok (.iload_n 2, 1) := by decide +kernel
theorem dX1_sweep_53 : decode cX1_sweep 53 = .ok (.invokevirtual 59, 3) := by decide +kernel
theorem dX1_sweep_56 : decode cX1_sweep 56 = .ok (.return_, 1) := by decide +kernel
theorem dX1_dropTips_0 : decode cX1_dropTips 0 = .ok (.iload_n 1, 1) := by decide +kernel
theorem dX1_dropTips_1 : decode cX1_dropTips 1 = .ok (.bipush 12, 2) := by decide +kernel
theorem dX1_dropTips_3 : decode cX1_dropTips 3 = .ok (.imul, 1) := by decide +kernel
theorem dX1_dropTips_4 : decode cX1_dropTips 4 = .ok (.istore_n 3, 1) := by decide +kernel
theorem dX1_dropTips_5 : decode cX1_dropTips 5 = .ok (.aload_n 0, 1) := by decide +kernel
theorem dX1_dropTips_6 : decode cX1_dropTips 6 = .ok (.getfield 9, 3) := by decide +kernel
theorem dX1_dropTips_9 : decode cX1_dropTips 9 = .ok (.iload_n 1, 1) := by decide +kernel
theorem dX1_dropTips_10 : decode cX1_dropTips 10 = .ok (.dup2, 1) := by decide +kernel
theorem dX1_dropTips_11 : decode cX1_dropTips 11 = .ok (.iaload, 1) := by decide +kernel
theorem dX1_dropTips_12 : decode cX1_dropTips 12 = .ok (.iload_n 2, 1) := by decide +kernel
theorem dX1_dropTips_13 : decode cX1_dropTips 13 = .ok (.isub, 1) := by decide +kernel
theorem dX1_dropTips_14 : decode cX1_dropTips 14 = .ok (.iastore, 1) := by decide +kernel
theorem dX1_dropTips_15 : decode cX1_dropTips 15 = .ok (.iconst 0, 1) := by decide +kernel
theorem dX1_dropTips_16 : decode cX1_dropTips 16 = .ok (.istore 4, 2) := by decide +kernel
theorem dX1_dropTips_18 : decode cX1_dropTips 18 = .ok (.iload 4, 2) := by decide +kernel
theorem dX1_dropTips_20 : decode cX1_dropTips 20 = .ok (.aload_n 0, 1) := by decide +kernel
theorem dX1_dropTips_21 : decode cX1_dropTips 21 = .ok (.getfield 9, 3) := by decide +kernel
theorem dX1_dropTips_24 : decode cX1_dropTips 24 = .ok (.iload_n 1, 1) := by decide +kernel
theorem dX1_dropTips_25 : decode cX1_dropTips 25 = .ok (.iaload, 1) := by decide +kernel
theorem dX1_dropTips_26 : decode cX1_dropTips 26 = .ok (.if_icmp .ge 29, 3) := by decide +kernel
theorem dX1_dropTips_29 : decode cX1_dropTips 29 = .ok (.aload_n 0, 1) := by decide +kernel
theorem dX1_dropTips_30 : decode cX1_dropTips 30 = .ok (.getfield 18, 3) := by decide +kernel
theorem dX1_dropTips_33 : decode cX1_dropTips 33 = .ok (.iload_n 3, 1) := by decide +kernel
theorem dX1_dropTips_34 : decode cX1_dropTips 34 = .ok (.iload 4, 2) := by decide +kernel
theorem dX1_dropTips_36 : decode cX1_dropTips 36 = .ok (.iadd, 1) := by decide +kernel
theorem dX1_dropTips_37 : decode cX1_dropTips 37 = .ok (.aload_n 0, 1) := by decide +kernel
theorem dX1_dropTips_38 : decode cX1_dropTips 38 = .ok (.getfield 18, 3) := by decide +kernel
theorem dX1_dropTips_41 : decode cX1_dropTips 41 = .ok (.iload_n 3, 1) := by decide +kernel
theorem dX1_dropTips_42 : decode cX1_dropTips 42 = .ok (.iload_n 2, 1) := by decide +kernel
theorem dX1_dropTips_43 : decode cX1_dropTips 43 = .ok (.iadd, 1) := by decide +kernel
theorem dX1_dropTips_44 : decode cX1_dropTips 44 = .ok (.iload 4, 2) := by decide +kernel
theorem dX1_dropTips_46 : decode cX1_dropTips 46 = .ok (.iadd, 1) := by decide +kernel
theorem dX1_dropTips_47 : decode cX1_dropTips 47 = .ok (.iaload, 1) := by decide +kernel
theorem dX1_dropTips_48 : decode cX1_dropTips 48 = .ok (.iastore, 1) := by decide +kernel
theorem dX1_dropTips_49 : decode cX1_dropTips 49 = .ok (.iinc 4 1, 3) := by decide +kernel
theorem dX1_dropTips_52 : decode cX1_dropTips 52 = .ok (.goto (-34), 3) := by decide +kernel
theorem dX1_dropTips_55 : decode cX1_dropTips 55 = .ok (.return_, 1) := by decide +kernel
theorem dX1_pourOut_0 : decode cX1_pourOut 0 = .ok (.iconst 0, 1) := by decide +kernel
theorem dX1_pourOut_1 : decode cX1_pourOut 1 = .ok (.istore_n 2, 1) := by decide +kernel
theorem dX1_pourOut_2 : decode cX1_pourOut 2 = .ok (.iload_n 2, 1) := by decide +kernel
theorem dX1_pourOut_3 : decode cX1_pourOut 3 = .ok (.bipush 10, 2) := by decide +kernel
theorem dX1_pourOut_5 : decode cX1_pourOut 5 = .ok (.if_icmp .ge 21, 3) := by decide +kernel
theorem dX1_pourOut_8 : decode cX1_pourOut 8 = .ok (.aload_n 0, 1) := by decide +kernel
theorem dX1_pourOut_9 : decode cX1_pourOut 9 = .ok (.getfield 21, 3) := by decide +kernel
theorem dX1_pourOut_12 : decode cX1_pourOut 12 = .ok (.iload_n 1, 1) := by decide +kernel
theorem dX1_pourOut_13 : decode cX1_pourOut 13 = .ok (.bipush 10, 2) := by decide +kernel
theorem dX1_pourOut_15 : decode cX1_pourOut 15 = .ok (.imul, 1) := by decide +kernel
theorem dX1_pourOut_16 : decode cX1_pourOut 16 = .ok (.iload_n 2, 1) := by decide +kernel
theorem dX1_pourOut_17 : decode cX1_pourOut 17 = .ok (.iadd, 1) := by decide +kernel
theorem dX1_pourOut_18 : decode cX1_pourOut 18 = .ok (.iconst 0, 1) := by decide +kernel
theorem dX1_pourOut_19 : decode cX1_pourOut 19 = .ok (.iastore, 1) := by decide +kernel
theorem dX1_pourOut_20 : decode cX1_pourOut 20 = .ok (.iinc 2 1, 3) := by decide +kernel
theorem dX1_pourOut_23 : decode cX1_pourOut 23 = .ok (.goto (-21), 3) := by decide +kernel
theorem dX1_pourOut_26 : decode cX1_pourOut 26 = .ok (.return_, 1) := by decide +kernel
theorem dX1_layersOf_0 : decode cX1_layersOf 0 = .ok (.iconst 0, 1) := by decide +kernel
theorem dX1_layersOf_1 : decode cX1_layersOf 1 = .ok (.istore_n 3, 1) := by decide +kernel
theorem dX1_layersOf_2 : decode cX1_layersOf 2 = .ok (.iconst 0, 1) := by decide +kernel
theorem dX1_layersOf_3 : decode cX1_layersOf 3 = .ok (.istore 4, 2) := by decide +kernel
theorem dX1_layersOf_5 : decode cX1_layersOf 5 = .ok (.iload 4, 2) := by decide +kernel
theorem dX1_layersOf_7 : decode cX1_layersOf 7 = .ok (.aload_n 0, 1) := by decide +kernel
theorem dX1_layersOf_8 : decode cX1_layersOf 8 = .ok (.getfield 9, 3) := by decide +kernel
theorem dX1_layersOf_11 : decode cX1_layersOf 11 = .ok (.iload_n 1, 1) := by decide +kernel
theorem dX1_layersOf_12 : decode cX1_layersOf 12 = .ok (.iaload, 1) := by decide +kernel
theorem dX1_layersOf_13 : decode cX1_layersOf 13 = .ok (.if_icmp .ge 23, 3) := by decide +kernel
theorem dX1_layersOf_16 : decode cX1_layersOf 16 = .ok (.aload_n 0, 1) := by decide +kernel
theorem dX1_layersOf_17 : decode cX1_layersOf 17 = .ok (.iload_n 1, 1) := by decide +kernel
theorem dX1_layersOf_18 : decode cX1_layersOf 18 = .ok (.iload 4, 2) := by decide +kernel
theorem dX1_layersOf_20 : decode cX1_layersOf 20 = .ok (.invokevirtual 63, 3) := by decide +kernel
theorem dX1_layersOf_23 : decode cX1_layersOf 23 = .ok (.iload_n 2, 1) := by decide +kernel
theorem dX1_layersOf_24 : decode cX1_layersOf 24 = .ok (.if_icmp .ne 6, 3) := by decide +kernel
theorem dX1_layersOf_27 : decode cX1_layersOf 27 = .ok (.iinc 3 1, 3) := by decide +kernel
theorem dX1_layersOf_30 : decode cX1_layersOf 30 = .ok (.iinc 4 1, 3) := by decide +kernel
theorem dX1_layersOf_33 : decode cX1_layersOf 33 = .ok (.goto (-28), 3) := by decide +kernel
theorem dX1_layersOf_36 : decode cX1_layersOf 36 = .ok (.iload_n 3, 1) := by decide +kernel
theorem dX1_layersOf_37 : decode cX1_layersOf 37 = .ok (.ireturn, 1) := by decide +kernel
theorem dX1_thoughtsIn_0 : decode cX1_thoughtsIn 0 = .ok (.iconst 0, 1) := by decide +kernel
theorem dX1_thoughtsIn_1 : decode cX1_thoughtsIn 1 = .ok (.istore_n 2, 1) := by decide +kernel
theorem dX1_thoughtsIn_2 : decode cX1_thoughtsIn 2 = .ok (.iconst 0, 1) := by decide +kernel
theorem dX1_thoughtsIn_3 : decode cX1_thoughtsIn 3 = .ok (.istore_n 3, 1) := by decide +kernel
theorem dX1_thoughtsIn_4 : decode cX1_thoughtsIn 4 = .ok (.iload_n 3, 1) := by decide +kernel
theorem dX1_thoughtsIn_5 : decode cX1_thoughtsIn 5 = .ok (.aload_n 0, 1) := by decide +kernel
theorem dX1_thoughtsIn_6 : decode cX1_thoughtsIn 6 = .ok (.getfield 9, 3) := by decide +kernel
theorem dX1_thoughtsIn_9 : decode cX1_thoughtsIn 9 = .ok (.iload_n 1, 1) := by decide +kernel
theorem dX1_thoughtsIn_10 : decode cX1_thoughtsIn 10 = .ok (.iaload, 1) := by decide +kernel
theorem dX1_thoughtsIn_11 : decode cX1_thoughtsIn 11 = .ok (.if_icmp .ge 20, 3) := by decide +kernel
theorem dX1_thoughtsIn_14 : decode cX1_thoughtsIn 14 = .ok (.iload_n 2, 1) := by decide +kernel
theorem dX1_thoughtsIn_15 : decode cX1_thoughtsIn 15 = .ok (.iconst 1, 1) := by decide +kernel
theorem dX1_thoughtsIn_16 : decode cX1_thoughtsIn 16 = .ok (.aload_n 0, 1) := by decide +kernel
theorem dX1_thoughtsIn_17 : decode cX1_thoughtsIn 17 = .ok (.iload_n 1, 1) := by decide +kernel
theorem dX1_thoughtsIn_18 : decode cX1_thoughtsIn 18 = .ok (.iload_n 3, 1) := by decide +kernel
theorem dX1_thoughtsIn_19 : decode cX1_thoughtsIn 19 = .ok (.invokevirtual 63, 3) := by decide +kernel
theorem dX1_thoughtsIn_22 : decode cX1_thoughtsIn 22 = .ok (.ishl, 1) := by decide +kernel
theorem dX1_thoughtsIn_23 : decode cX1_thoughtsIn 23 = .ok (.ior, 1) := by decide +kernel
theorem dX1_thoughtsIn_24 : decode cX1_thoughtsIn 24 = .ok (.istore_n 2, 1) := by decide +kernel
theorem dX1_thoughtsIn_25 : decode cX1_thoughtsIn 25 = .ok (.iinc 3 1, 3) := by decide +kernel
theorem dX1_thoughtsIn_28 : decode cX1_thoughtsIn 28 = .ok (.goto (-24), 3) := by decide +kernel
theorem dX1_thoughtsIn_31 : decode cX1_thoughtsIn 31 = .ok (.iload_n 2, 1) := by decide +kernel
theorem dX1_thoughtsIn_32 : decode cX1_thoughtsIn 32 = .ok (.ireturn, 1) := by decide +kernel
theorem dX1_rootOf_0 : decode cX1_rootOf 0 = .ok (.aload_n 0, 1) := by decide +kernel
theorem dX1_rootOf_1 : decode cX1_rootOf 1 = .ok (.getfield 9, 3) := by decide +kernel
theorem dX1_rootOf_4 : decode cX1_rootOf 4 = .ok (.iload_n 1, 1) := by decide +kernel
theorem dX1_rootOf_5 : decode cX1_rootOf 5 = .ok (.iaload, 1) := by decide +kernel
theorem dX1_rootOf_6 : decode cX1_rootOf 6 = .ok (.ifCond .le 19, 3) := by decide +kernel
theorem dX1_rootOf_9 : decode cX1_rootOf 9 = .ok (.aload_n 0, 1) := by decide +kernel
theorem dX1_rootOf_10 : decode cX1_rootOf 10 = .ok (.iload_n 1, 1) := by decide +kernel
theorem dX1_rootOf_11 : decode cX1_rootOf 11 = .ok (.aload_n 0, 1) := by decide +kernel
theorem dX1_rootOf_12 : decode cX1_rootOf 12 = .ok (.getfield 9, 3) := by decide +kernel
theorem dX1_rootOf_15 : decode cX1_rootOf 15 = .ok (.iload_n 1, 1) := by decide +kernel
theorem dX1_rootOf_16 : decode cX1_rootOf 16 = .ok (.iaload, 1) := by decide +kernel
theorem dX1_rootOf_17 : decode cX1_rootOf 17 = .ok (.iconst 1, 1) := by decide +kernel
theorem dX1_rootOf_18 : decode cX1_rootOf 18 = .ok (.isub, 1) := by decide +kernel
theorem dX1_rootOf_19 : decode cX1_rootOf 19 = .ok (.invokevirtual 63, 3) := by decide +kernel
theorem dX1_rootOf_22 : decode cX1_rootOf 22 = .ok (.goto 4, 3) := by decide +kernel
theorem dX1_rootOf_25 : decode cX1_rootOf 25 = .ok (.iconst (-1), 1) := by decide +kernel
theorem dX1_rootOf_26 : decode cX1_rootOf 26 = .ok (.ireturn, 1) := by decide +kernel
theorem dX1_sweptInto_0 : decode cX1_sweptInto 0 = .ok (.iconst 0, 1) := by decide +kernel
theorem dX1_sweptInto_1 : decode cX1_sweptInto 1 = .ok (.istore_n 2, 1) := by decide +kernel
theorem dX1_sweptInto_2 : decode cX1_sweptInto 2 = .ok (.iconst 0, 1) := by decide +kernel
theorem dX1_sweptInto_3 : decode cX1_sweptInto 3 = .ok (.istore_n 3, 1) := by decide +kernel
theorem dX1_sweptInto_4 : decode cX1_sweptInto 4 = .ok (.iload_n 3, 1) := by decide +kernel
theorem dX1_sweptInto_5 : decode cX1_sweptInto 5 = .ok (.bipush 10, 2) := by decide +kernel
theorem dX1_sweptInto_7 : decode cX1_sweptInto 7 = .ok (.if_icmp .ge 18, 3) := by decide +kernel
theorem dX1_sweptInto_10 : decode cX1_sweptInto 10 = .ok (.iload_n 2, 1) := by decide +kernel
theorem dX1_sweptInto_11 : decode cX1_sweptInto 11 = .ok (.aload_n 0, 1) := by decide +kernel
theorem dX1_sweptInto_12 : decode cX1_sweptInto 12 = .ok (.iload_n 1, 1) := by decide +kernel
theorem dX1_sweptInto_13 : decode cX1_sweptInto 13 = .ok (.iload_n 3, 1) := by decide +kernel
theorem dX1_sweptInto_14 : decode cX1_sweptInto 14 = .ok (.invokevirtual 71, 3) := by decide +kernel
theorem dX1_sweptInto_17 : decode cX1_sweptInto 17 = .ok (.iadd, 1) := by decide +kernel
theorem dX1_sweptInto_18 : decode cX1_sweptInto 18 = .ok (.istore_n 2, 1) := by decide +kernel
theorem dX1_sweptInto_19 : decode cX1_sweptInto 19 = .ok (.iinc 3 1, 3) := by decide +kernel
theorem dX1_sweptInto_22 : decode cX1_sweptInto 22 = .ok (.goto (-18), 3) := by decide +kernel
theorem dX1_sweptInto_25 : decode cX1_sweptInto 25 = .ok (.iload_n 2, 1) := by decide +kernel
theorem dX1_sweptInto_26 : decode cX1_sweptInto 26 = .ok (.ireturn, 1) := by decide +kernel
theorem dX2_init_0 : decode cX2_init 0 = .ok (.aload_n 0, 1) := by decide +kernel
theorem dX2_init_1 : decode cX2_init 1 = .ok (.invokespecial 3, 3) := by decide +kernel
theorem dX2_init_4 : decode cX2_init 4 = .ok (.aload_n 0, 1) := by decide +kernel
theorem dX2_init_5 : decode cX2_init 5 = .ok (.new 9, 3) := by decide +kernel
theorem dX2_init_8 : decode cX2_init 8 = .ok (.dup, 1) := by decide +kernel
theorem dX2_init_9 : decode cX2_init 9 = .ok (.invokespecial 11, 3) := by decide +kernel
theorem dX2_init_12 : decode cX2_init 12 = .ok (.putfield 12, 3) := by decide +kernel
theorem dX2_init_15 : decode cX2_init 15 = .ok (.aload_n 0, 1) := by decide +kernel
theorem dX2_init_16 : decode cX2_init 16 = .ok (.new 18, 3) := by decide +kernel
theorem dX2_init_19 : decode cX2_init 19 = .ok (.dup, 1) := by decide +kernel
theorem dX2_init_20 : decode cX2_init 20 = .ok (.invokespecial 20, 3) := by decide +kernel
theorem dX2_init_23 : decode cX2_init 23 = .ok (.putfield 21, 3) := by decide +kernel
theorem dX2_init_26 : decode cX2_init 26 = .ok (.return_, 1) := by decide +kernel
theorem dX2_tellAll_0 : decode cX2_tellAll 0 = .ok (.aload_n 0, 1) := by decide +kernel
theorem dX2_tellAll_1 : decode cX2_tellAll 1 = .ok (.getfield 21, 3) := by decide +kernel
theorem dX2_tellAll_4 : decode cX2_tellAll 4 = .ok (.invokevirtual 25, 3) := by decide +kernel
theorem dX2_tellAll_7 : decode cX2_tellAll 7 = .ok (.aload_n 0, 1) := by decide +kernel
theorem dX2_tellAll_8 : decode cX2_tellAll 8 = .ok (.iconst 0, 1) := by decide +kernel
theorem dX2_tellAll_9 : decode cX2_tellAll 9 = .ok (.putfield 28, 3) := by decide +kernel
theorem dX2_tellAll_12 : decode cX2_tellAll 12 = .ok (.aload_n 0, 1) := by decide +kernel
theorem dX2_tellAll_13 : decode cX2_tellAll 13 = .ok (.iconst 0, 1) := by decide +kernel
theorem dX2_tellAll_14 : decode cX2_tellAll 14 = .ok (.putfield 32, 3) := by decide +kernel
theorem dX2_tellAll_17 : decode cX2_tellAll 17 = .ok (.aload_n 0, 1) := by decide +kernel
theorem dX2_tellAll_18 : decode cX2_tellAll 18 = .ok (.iconst 0, 1) := by decide +kernel
theorem dX2_tellAll_19 : decode cX2_tellAll 19 = .ok (.putfield 35, 3) := by decide +kernel
theorem dX2_tellAll_22 : decode cX2_tellAll 22 = .ok (.aload_n 0, 1) := by decide +kernel
theorem dX2_tellAll_23 : decode cX2_tellAll 23 = .ok (.invokevirtual 39, 3) := by decide +kernel
theorem dX2_tellAll_26 : decode cX2_tellAll 26 = .ok (.iconst 0, 1) := by decide +kernel
theorem dX2_tellAll_27 : decode cX2_tellAll 27 = .ok (.istore_n 1, 1) := by decide +kernel
theorem dX2_tellAll_28 : decode cX2_tellAll 28 = .ok (.iload_n 1, 1) := by decide +kernel
theorem dX2_tellAll_29 : decode cX2_tellAll 29 = .ok (.bipush 120, 2) := by decide +kernel
theorem dX2_tellAll_31 : decode cX2_tellAll 31 = .ok (.if_icmp .ge 43, 3) := by decide +kernel
theorem dX2_tellAll_34 : decode cX2_tellAll 34 = .ok (.aload_n 0, 1) := by decide +kernel
theorem dX2_tellAll_35 : decode cX2_tellAll 35 = .ok (.getfield 42, 3) := by decide +kernel
theorem dX2_tellAll_38 : decode cX2_tellAll 38 = .ok (.ifCond .eq 36, 3) := by decide +kernel
theorem dX2_tellAll_41 : decode cX2_tellAll 41 = .ok (.aload_n 0, 1) := by decide +kernel
theorem dX2_tellAll_42 : decode cX2_tellAll 42 = .ok (.invokevirtual 45, 3) := by decide +kernel
theorem dX2_tellAll_45 : decode cX2_tellAll 45 = .ok (.ifCond .eq 11, 3) := by decide +kernel
theorem dX2_tellAll_48 : decode cX2_tellAll 48 = .ok (.aload_n 0, 1) := by decide +kernel
theorem dX2_tellAll_49 : decode cX2_tellAll 49 = .ok (.getfield 42, 3) := by decide +kernel
theorem dX2_tellAll_52 : decode cX2_tellAll 52 = .ok (.iconst 3, 1) := by decide +kernel
theorem dX2_tellAll_53 : decode cX2_tellAll 53 = .ok (.if_icmp .eq 11, 3) := by decide +kernel
theorem dX2_tellAll_56 : decode cX2_tellAll 56 = .ok (.bipush (-10), 2) := by decide +kernel
theorem dX2_tellAll_58 : decode cX2_tellAll 58 = .ok (.aload_n 0, 1) := by decide +kernel
theorem dX2_tellAll_59 : decode cX2_tellAll 59 = .ok (.getfield 49, 3) := by decide +kernel
theorem dX2_tellAll_62 : decode cX2_tellAll 62 = .ok (.isub, 1) := by decide +kernel
theorem dX2_tellAll_63 : decode cX2_tellAll 63 = .ok (.ireturn, 1) := by decide +kernel
theorem dX2_tellAll_64 : decode cX2_tellAll 64 = .ok (.aload_n 0, 1) := by decide +kernel
theorem dX2_tellAll_65 : decode cX2_tellAll 65 = .ok (.invokevirtual 39, 3) := by decide +kernel
theorem dX2_tellAll_68 : decode cX2_tellAll 68 = .ok (.iinc 1 1, 3) := by decide +kernel
theorem dX2_tellAll_71 : decode cX2_tellAll 71 = .ok (.goto (-43), 3) := by decide +kernel
theorem dX2_tellAll_74 : decode cX2_tellAll 74 = .ok (.iload_n 1, 1) := by decide +kernel
theorem dX2_tellAll_75 : decode cX2_tellAll 75 = .ok (.ireturn, 1) := by decide +kernel
theorem dX2_tellItem_0 : decode cX2_tellItem 0 = .ok (.aload_n 0, 1) := by decide +kernel
theorem dX2_tellItem_1 : decode cX2_tellItem 1 = .ok (.getfield 52, 3) := by decide +kernel
theorem dX2_tellItem_4 : decode cX2_tellItem 4 = .ok (.istore_n 1, 1) := by decide +kernel
theorem dX2_tellItem_5 : decode cX2_tellItem 5 = .ok (.aload_n 0, 1) := by decide +kernel
theorem dX2_tellItem_6 : decode cX2_tellItem 6 = .ok (.getfield 42, 3) := by decide +kernel
theorem dX2_tellItem_9 : decode cX2_tellItem 9 = .ok (.iconst 1, 1) := by decide +kernel
theorem dX2_tellItem_10 : decode cX2_tellItem 10 = .ok (.if_icmp .ne 11, 3) := by decide +kernel
theorem dX2_tellItem_13 : decode cX2_tellItem 13 = .ok (.aload_n 0, 1) := by decide +kernel
theorem dX2_tellItem_14 : decode cX2_tellItem 14 = .ok (.iload_n 1, 1) := by decide +kernel
theorem dX2_tellItem_15 : decode cX2_tellItem 15 = .ok (.invokevirtual 55, 3) := by decide +kernel
theorem dX2_tellItem_18 : decode cX2_tellItem 18 = .ok (.ifCond .ne 5, 3) := by decide +kernel
theorem dX2_tellItem_21 : decode cX2_tellItem 21 = .ok (.iconst 0, 1) := by decide +kernel
theorem dX2_tellItem_22 : decode cX2_tellItem 22 = .ok (.ireturn, 1) := by decide +kernel
theorem dX2_tellItem_23 : decode cX2_tellItem 23 = .ok (.aload_n 0, 1) := by decide +kernel
theorem dX2_tellItem_24 : decode cX2_tellItem 24 = .ok (.invokevirtual 39, 3) := by decide +kernel
theorem dX2_tellItem_27 : decode cX2_tellItem 27 = .ok (.iload_n 1, 1) := by decide +kernel
theorem dX2_tellItem_28 : decode cX2_tellItem 28 = .ok (.lookupswitch 45 #[(109, 40), (112, 28)], 28) := by decide +kernel
theorem dX2_tellItem_56 : decode cX2_tellItem 56 = .ok (.aload_n 0, 1) := by decide +kernel
theorem dX2_tellItem_57 : decode cX2_tellItem 57 = .ok (.aload_n 0, 1) := by decide +kernel
theorem dX2_tellItem_58 : decode cX2_tellItem 58 = .ok (.getfield 21, 3) := by decide +kernel
theorem dX2_tellItem_61 : decode cX2_tellItem 61 = .ok (.getfield 59, 3) := by decide +kernel
theorem dX2_tellItem_64 : decode cX2_tellItem 64 = .ok (.invokevirtual 62, 3) := by decide +kernel
theorem dX2_tellItem_67 : decode cX2_tellItem 67 = .ok (.ireturn, 1) := by decide +kernel
theorem dX2_tellItem_68 : decode cX2_tellItem 68 = .ok (.aload_n 0, 1) := by decide +kernel
theorem dX2_tellItem_69 : decode cX2_tellItem 69 = .ok (.invokevirtual 65, 3) := by decide +kernel
theorem dX2_tellItem_72 : decode cX2_tellItem 72 = .ok (.ireturn, 1) := by decide +kernel
theorem dX2_tellItem_73 : decode cX2_tellItem 73 = .ok (.aload_n 0, 1) := by decide +kernel
theorem dX2_tellItem_74 : decode cX2_tellItem 74 = .ok (.invokevirtual 68, 3) := by decide +kernel
theorem dX2_tellItem_77 : decode cX2_tellItem 77 = .ok (.ireturn, 1) := by decide +kernel
theorem dX2_mayBegin_0 : decode cX2_mayBegin 0 = .ok (.iload_n 1, 1) := by decide +kernel
theorem dX2_mayBegin_1 : decode cX2_mayBegin 1 = .ok (.lookupswitch 78 #[(106, 65), (109, 52), (112, 35)], 35) := by decide +kernel
theorem dX2_mayBegin_36 : decode cX2_mayBegin 36 = .ok (.aload_n 0, 1) := by decide +kernel
theorem dX2_mayBegin_37 : decode cX2_mayBegin 37 = .ok (.getfield 21, 3) := by decide +kernel
theorem dX2_mayBegin_40 : decode cX2_mayBegin 40 = .ok (.getfield 59, 3) := by decide +kernel
theorem dX2_mayBegin_43 : decode cX2_mayBegin 43 = .ok (.iconst 5, 1) := by decide +kernel
theorem dX2_mayBegin_44 : decode cX2_mayBegin 44 = .ok (.if_icmp .ge 7, 3) := by decide +kernel
theorem dX2_mayBegin_47 : decode cX2_mayBegin 47 = .ok (.iconst 1, 1) := by decide +kernel
theorem dX2_mayBegin_48 : decode cX2_mayBegin 48 = .ok (.goto 4, 3) := by decide +kernel
theorem dX2_mayBegin_51 : decode cX2_mayBegin 51 = .ok (.iconst 0, 1) := by decide +kernel
theorem dX2_mayBegin_52 : decode cX2_mayBegin 52 = .ok (.ireturn, 1) := by decide +kernel
theorem dX2_mayBegin_53 : decode cX2_mayBegin 53 = .ok (.aload_n 0, 1) := by decide +kernel
theorem dX2_mayBegin_54 : decode cX2_mayBegin 54 = .ok (.getfield 28, 3) := by decide +kernel
theorem dX2_mayBegin_57 : decode cX2_mayBegin 57 = .ok (.ifCond .ne 7, 3) := by decide +kernel
theorem dX2_mayBegin_60 : decode cX2_mayBegin 60 = .ok (.iconst 1, 1) := by decide +kernel
theorem dX2_mayBegin_61 : decode cX2_mayBegin 61 = .ok (.goto 4, 3) := by decide +kernel
theorem dX2_mayBegin_64 : decode cX2_mayBegin 64 = .ok (.iconst 0, 1) := by decide +kernel
theorem dX2_mayBegin_65 : decode cX2_mayBegin 65 = .ok (.ireturn, 1) := by decide +kernel
theorem dX2_mayBegin_66 : decode cX2_mayBegin 66 = .ok (.aload_n 0, 1) := by decide +kernel
theorem dX2_mayBegin_67 : decode cX2_mayBegin 67 = .ok (.getfield 32, 3) := by decide +kernel
theorem dX2_mayBegin_70 : decode cX2_mayBegin 70 = .ok (.ifCond .ne 7, 3) := by decide +kernel
theorem dX2_mayBegin_73 : decode cX2_mayBegin 73 = .ok (.iconst 1, 1) := by decide +kernel
theorem dX2_mayBegin_74 : decode cX2_mayBegin 74 = .ok (.goto 4, 3) := by decide +kernel
theorem dX2_mayBegin_77 : decode cX2_mayBegin 77 = .ok (.iconst 0, 1) := by decide +kernel
theorem dX2_mayBegin_78 : decode cX2_mayBegin 78 = .ok (.ireturn, 1) := by decide +kernel
theorem dX2_mayBegin_79 : decode cX2_mayBegin 79 = .ok (.iconst 0, 1) := by decide +kernel
theorem dX2_mayBegin_80 : decode cX2_mayBegin 80 = .ok (.ireturn, 1) := by decide +kernel
theorem dX2_tellOne_0 : decode cX2_tellOne 0 = .ok (.aload_n 0, 1) := by decide +kernel
theorem dX2_tellOne_1 : decode cX2_tellOne 1 = .ok (.iconst 0, 1) := by decide +kernel
theorem dX2_tellOne_2 : decode cX2_tellOne 2 = .ok (.bipush 9, 2) := by decide +kernel
theorem dX2_tellOne_4 : decode cX2_tellOne 4 = .ok (.invokevirtual 71, 3) := by decide +kernel
theorem dX2_tellOne_7 : decode cX2_tellOne 7 = .ok (.ifCond .ne 5, 3) := by decide +kernel
theorem dX2_tellOne_10 : decode cX2_tellOne 10 = .ok (.iconst 0, 1) := by decide +kernel
theorem dX2_tellOne_11 : decode cX2_tellOne 11 = .ok (.ireturn, 1) := by decide +kernel
theorem dX2_tellOne_12 : decode cX2_tellOne 12 = .ok (.aload_n 0, 1) := by decide +kernel
theorem dX2_tellOne_13 : decode cX2_tellOne 13 = .ok (.getfield 21, 3) := by decide +kernel
theorem dX2_tellOne_16 : decode cX2_tellOne 16 = .ok (.getfield 75, 3) := by decide +kernel
theorem dX2_tellOne_19 : decode cX2_tellOne 19 = .ok (.iload_n 1, 1) := by decide +kernel
theorem dX2_tellOne_20 : decode cX2_tellOne 20 = .ok (.aload_n 0, 1) := by decide +kernel
theorem dX2_tellOne_21 : decode cX2_tellOne 21 = .ok (.getfield 52, 3) := by decide +kernel
theorem dX2_tellOne_24 : decode cX2_tellOne 24 = .ok (.iastore, 1) := by decide +kernel
theorem dX2_tellOne_25 : decode cX2_tellOne 25 = .ok (.aload_n 0, 1) := by decide +kernel
theorem dX2_tellOne_26 : decode cX2_tellOne 26 = .ok (.invokevirtual 39, 3) := by decide +kernel
theorem dX2_tellOne_29 : decode cX2_tellOne 29 = .ok (.iconst 0, 1) := by decide +kernel
theorem dX2_tellOne_30 : decode cX2_tellOne 30 = .ok (.istore_n 2, 1) := by decide +kernel
theorem dX2_tellOne_31 : decode cX2_tellOne 31 = .ok (.iload_n 2, 1) := by decide +kernel
theorem dX2_tellOne_32 : decode cX2_tellOne 32 = .ok (.bipush 7, 2) := by decide +kernel
theorem dX2_tellOne_34 : decode cX2_tellOne 34 = .ok (.if_icmp .ge 41, 3) := by decide +kernel
theorem dX2_tellOne_37 : decode cX2_tellOne 37 = .ok (.aload_n 0, 1) := by decide +kernel
theorem dX2_tellOne_38 : decode cX2_tellOne 38 = .ok (.iconst 0, 1) := by decide +kernel
theorem dX2_tellOne_39 : decode cX2_tellOne 39 = .ok (.bipush 9, 2) := by decide +kernel
theorem dX2_tellOne_41 : decode cX2_tellOne 41 = .ok (.invokevirtual 71, 3) := by decide +kernel
theorem dX2_tellOne_44 : decode cX2_tellOne 44 = .ok (.ifCond .eq 31, 3) := by decide +kernel
theorem dX2_tellOne_47 : decode cX2_tellOne 47 = .ok (.aload_n 0, 1) := by decide +kernel
theorem dX2_tellOne_48 : decode cX2_tellOne 48 = .ok (.getfield 21, 3) := by decide +kernel
theorem dX2_tellOne_51 : decode cX2_tellOne 51 = .ok (.getfield 79, 3) := by decide +kernel
theorem dX2_tellOne_54 : decode cX2_tellOne 54 = .ok (.iload_n 1, 1) := by decide +kernel
theorem dX2_tellOne_55 : decode cX2_tellOne 55 = .ok (.bipush 7, 2) := by decide +kernel
theorem dX2_tellOne_57 : decode cX2_tellOne 57 = .ok (.imul, 1) := by decide +kernel
theorem dX2_tellOne_58 : decode cX2_tellOne 58 = .ok (.iload_n 2, 1) := by decide +kernel
theorem dX2_tellOne_59 : decode cX2_tellOne 59 = .ok (.iadd, 1) := by decide +kernel
theorem dX2_tellOne_60 : decode cX2_tellOne 60 = .ok (.aload_n 0, 1) := by decide +kernel
theorem dX2_tellOne_61 : decode cX2_tellOne 61 = .ok (.getfield 52, 3) := by decide +kernel
theorem dX2_tellOne_64 : decode cX2_tellOne 64 = .ok (.iastore, 1) := by decide +kernel
theorem dX2_tellOne_65 : decode cX2_tellOne 65 = .ok (.iinc 2 1, 3) := by decide +kernel
theorem dX2_tellOne_68 : decode cX2_tellOne 68 = .ok (.aload_n 0, 1) := by decide +kernel
theorem dX2_tellOne_69 : decode cX2_tellOne 69 = .ok (.invokevirtual 39, 3) := by decide +kernel
theorem dX2_tellOne_72 : decode cX2_tellOne 72 = .ok (.goto (-41), 3) := by decide +kernel
theorem dX2_tellOne_75 : decode cX2_tellOne 75 = .ok (.aload_n 0, 1) := by decide +kernel
theorem dX2_tellOne_76 : decode cX2_tellOne 76 = .ok (.getfield 21, 3) := by decide +kernel
theorem dX2_tellOne_79 : decode cX2_tellOne 79 = .ok (.getfield 82, 3) := by decide +kernel
theorem dX2_tellOne_82 : decode cX2_tellOne 82 = .ok (.iload_n 1, 1) := by decide +kernel
theorem dX2_tellOne_83 : decode cX2_tellOne 83 = .ok (.iload_n 2, 1) := by decide +kernel
theorem dX2_tellOne_84 : decode cX2_tellOne 84 = .ok (.iastore, 1) := by decide +kernel
theorem dX2_tellOne_85 : decode cX2_tellOne 85 = .ok (.aload_n 0, 1) := by decide +kernel
theorem dX2_tellOne_86 : decode cX2_tellOne 86 = .ok (.getfield 21, 3) := by decide +kernel
theorem dX2_tellOne_89 : decode cX2_tellOne 89 = .ok (.dup, 1) := by decide +kernel
theorem dX2_tellOne_90 : decode cX2_tellOne 90 = .ok (.getfield 59, 3) := by decide +kernel
theorem dX2_tellOne_93 : decode cX2_tellOne 93 = .ok (.iconst 1, 1) := by decide +kernel
theorem dX2_tellOne_94 : decode cX2_tellOne 94 = .ok (.iadd, 1) := by decide +kernel
theorem dX2_tellOne_95 : decode cX2_tellOne 95 = .ok (.putfield 59, 3) := by decide +kernel
theorem dX2_tellOne_98 : decode cX2_tellOne 98 = .ok (.iload_n 2, 1) := by decide +kernel
theorem dX2_tellOne_99 : decode cX2_tellOne 99 = .ok (.ifCond .le 7, 3) := by decide +kernel
theorem dX2_tellOne_102 : decode cX2_tellOne 102 = .ok (.iconst 1, 1) := by decide +kernel
theorem dX2_tellOne_103 : decode cX2_tellOne 103 = .ok (.goto 4, 3) := by decide +kernel
theorem dX2_tellOne_106 : decode cX2_tellOne 106 = .ok (.iconst 0, 1) := by decide +kernel
theorem dX2_tellOne_107 : decode cX2_tellOne 107 = .ok (.ireturn, 1) := by decide +kernel
theorem dX2_tellLongest_0 : decode cX2_tellLongest 0 = .ok (.aload_n 0, 1) := by decide +kernel
theorem dX2_tellLongest_1 : decode cX2_tellLongest 1 = .ok (.iconst 1, 1) := by decide +kernel
theorem dX2_tellLongest_2 : decode cX2_tellLongest 2 = .ok (.bipush 12, 2) := by decide +kernel
theorem dX2_tellLongest_4 : decode cX2_tellLongest 4 = .ok (.invokevirtual 71, 3) := by decide +kernel
theorem dX2_tellLongest_7 : decode cX2_tellLongest 7 = .ok (.ifCond .ne 5, 3) := by decide +kernel
theorem dX2_tellLongest_10 : decode cX2_tellLongest 10 = .ok (.iconst 0, 1) := by decide +kernel
theorem dX2_tellLongest_11 : decode cX2_tellLongest 11 = .ok (.ireturn, 1) := by decide +kernel
theorem dX2_tellLongest_12 : decode cX2_tellLongest 12 = .ok (.aload_n 0, 1) := by decide +kernel
theorem dX2_tellLongest_13 : decode cX2_tellLongest 13 = .ok (.getfield 21, 3) := by decide +kernel
theorem dX2_tellLongest_16 : decode cX2_tellLongest 16 = .ok (.aload_n 0, 1) := by decide +kernel
theorem dX2_tellLongest_17 : decode cX2_tellLongest 17 = .ok (.getfield 52, 3) := by decide +kernel
theorem dX2_tellLongest_20 : decode cX2_tellLongest 20 = .ok (.putfield 85, 3) := by decide +kernel
theorem dX2_tellLongest_23 : decode cX2_tellLongest 23 = .ok (.aload_n 0, 1) := by decide +kernel
theorem dX2_tellLongest_24 : decode cX2_tellLongest 24 = .ok (.iconst 1, 1) := by decide +kernel
theorem dX2_tellLongest_25 : decode cX2_tellLongest 25 = .ok (.putfield 28, 3) := by decide +kernel
theorem dX2_tellLongest_28 : decode cX2_tellLongest 28 = .ok (.aload_n 0, 1) := by decide +kernel
theorem dX2_tellLongest_29 : decode cX2_tellLongest 29 = .ok (.invokevirtual 39, 3) := by decide +kernel
theorem dX2_tellLongest_32 : decode cX2_tellLongest 32 = .ok (.iconst 1, 1) := by decide +kernel
theorem dX2_tellLongest_33 : decode cX2_tellLongest 33 = .ok (.ireturn, 1) := by decide +kernel
theorem dX2_tellChair_0 : decode cX2_tellChair 0 = .ok (.aload_n 0, 1) := by decide +kernel
theorem dX2_tellChair_1 : decode cX2_tellChair 1 = .ok (.iconst 0, 1) := by decide +kernel
theorem dX2_tellChair_2 : decode cX2_tellChair 2 = .ok (.iconst 3, 1) := by decide +kernel
theorem dX2_tellChair_3 : decode cX2_tellChair 3 = .ok (.invokevirtual 71, 3) := by decide +kernel
theorem dX2_tellChair_6 : decode cX2_tellChair 6 = .ok (.ifCond .ne 5, 3) := by decide +kernel
theorem dX2_tellChair_9 : decode cX2_tellChair 9 = .ok (.iconst 0, 1) := by decide +kernel
theorem dX2_tellChair_10 : decode cX2_tellChair 10 = .ok (.ireturn, 1) := by decide +kernel
theorem dX2_tellChair_11 : decode cX2_tellChair 11 = .ok (.aload_n 0, 1) := by decide +kernel
theorem dX2_tellChair_12 : decode cX2_tellChair 12 = .ok (.getfield 21, 3) := by decide +kernel
theorem dX2_tellChair_15 : decode cX2_tellChair 15 = .ok (.aload_n 0, 1) := by decide +kernel
theorem dX2_tellChair_16 : decode cX2_tellChair 16 = .ok (.getfield 52, 3) := by decide +kernel
theorem dX2_tellChair_19 : decode cX2_tellChair 19 = .ok (.putfield 88, 3) := by decide +kernel
theorem dX2_tellChair_22 : decode cX2_tellChair 22 = .ok (.aload_n 0, 1) := by decide +kernel
theorem dX2_tellChair_23 : decode cX2_tellChair 23 = .ok (.iconst 1, 1) := by decide +kernel
theorem dX2_tellChair_24 : decode cX2_tellChair 24 = .ok (.putfield 32, 3) := by decide +kernel
theorem dX2_tellChair_27 : decode cX2_tellChair 27 = .ok (.aload_n 0, 1) := by decide +kernel
theorem dX2_tellChair_28 : decode cX2_tellChair 28 = .ok (.invokevirtual 39, 3) := by decide +kernel
theorem dX2_tellChair_31 : decode cX2_tellChair 31 = .ok (.iconst 1, 1) := by decide +kernel
theorem dX2_tellChair_32 : decode cX2_tellChair 32 = .ok (.ireturn, 1) := by decide +kernel
theorem dX2_isNumber_0 : decode cX2_isNumber 0 = .ok (.aload_n 0, 1) := by decide +kernel
theorem dX2_isNumber_1 : decode cX2_isNumber 1 = .ok (.getfield 42, 3) := by decide +kernel
theorem dX2_isNumber_4 : decode cX2_isNumber 4 = .ok (.iconst 2, 1) := by decide +kernel
theorem dX2_isNumber_5 : decode cX2_isNumber 5 = .ok (.if_icmp .ne 19, 3) := by decide +kernel
theorem dX2_isNumber_8 : decode cX2_isNumber 8 = .ok (.aload_n 0, 1) := by decide +kernel
theorem dX2_isNumber_9 : decode cX2_isNumber 9 = .ok (.getfield 52, 3) := by decide +kernel
theorem dX2_isNumber_12 : decode cX2_isNumber 12 = .ok (.iload_n 1, 1) := by decide +kernel
theorem dX2_isNumber_13 : decode cX2_isNumber 13 = .ok (.iload_n 2, 1) := by decide +kernel
theorem dX2_isNumber_14 : decode cX2_isNumber 14 = .ok (.invokestatic 91, 3) := by decide +kernel
theorem dX2_isNumber_17 : decode cX2_isNumber 17 = .ok (.ifCond .eq 7, 3) := by decide +kernel
theorem dX2_isNumber_20 : decode cX2_isNumber 20 = .ok (.iconst 1, 1) := by decide +kernel
theorem dX2_isNumber_21 : decode cX2_isNumber 21 = .ok (.goto 4, 3) := by decide +kernel
theorem dX2_isNumber_24 : decode cX2_isNumber 24 = .ok (.iconst 0, 1) := by decide +kernel
theorem dX2_isNumber_25 : decode cX2_isNumber 25 = .ok (.ireturn, 1) := by decide +kernel
theorem dX2_advance_0 : decode cX2_advance 0 = .ok (.aload_n 0, 1) := by decide +kernel
theorem dX2_advance_1 : decode cX2_advance 1 = .ok (.getfield 35, 3) := by decide +kernel
theorem dX2_advance_4 : decode cX2_advance 4 = .ok (.aload_n 0, 1) := by decide +kernel
theorem dX2_advance_5 : decode cX2_advance 5 = .ok (.getfield 12, 3) := by decide +kernel
theorem dX2_advance_8 : decode cX2_advance 8 = .ok (.getfield 95, 3) := by decide +kernel
theorem dX2_advance_11 : decode cX2_advance 11 = .ok (.if_icmp .ge 33, 3) := by decide +kernel
theorem dX2_advance_14 : decode cX2_advance 14 = .ok (.aload_n 0, 1) := by decide +kernel
theorem dX2_advance_15 : decode cX2_advance 15 = .ok (.getfield 12, 3) := by decide +kernel
theorem dX2_advance_18 : decode cX2_advance 18 = .ok (.getfield 98, 3) := by decide +kernel
theorem dX2_advance_21 : decode cX2_advance 21 = .ok (.aload_n 0, 1) := by decide +kernel
theorem dX2_advance_22 : decode cX2_advance 22 = .ok (.getfield 35, 3) := by decide +kernel
theorem dX2_advance_25 : decode cX2_advance 25 = .ok (.iaload, 1) := by decide +kernel
theorem dX2_advance_26 : decode cX2_advance 26 = .ok (.bipush 32, 2) := by decide +kernel
theorem dX2_advance_28 : decode cX2_advance 28 = .ok (.if_icmp .ne 16, 3) := by decide +kernel
theorem dX2_advance_31 : decode cX2_advance 31 = .ok (.aload_n 0, 1) := by decide +kernel
theorem dX2_advance_32 : decode cX2_advance 32 = .ok (.dup, 1) := by decide +kernel
theorem dX2_advance_33 : decode cX2_advance 33 = .ok (.getfield 35, 3) := by decide +kernel
theorem dX2_advance_36 : decode cX2_advance 36 = .ok (.iconst 1, 1) := by decide +kernel
theorem dX2_advance_37 : decode cX2_advance 37 = .ok (.iadd, 1) := by decide +kernel
theorem dX2_advance_38 : decode cX2_advance 38 = .ok (.putfield 35, 3) := by decide +kernel
theorem dX2_advance_41 : decode cX2_advance 41 = .ok (.goto (-41), 3) := by decide +kernel
theorem dX2_advance_44 : decode cX2_advance 44 = .ok (.aload_n 0, 1) := by decide +kernel
theorem dX2_advance_45 : decode cX2_advance 45 = .ok (.aload_n 0, 1) := by decide +kernel
theorem dX2_advance_46 : decode cX2_advance 46 = .ok (.getfield 35, 3) := by decide +kernel
theorem dX2_advance_49 : decode cX2_advance 49 = .ok (.putfield 49, 3) := by decide +kernel
theorem dX2_advance_52 : decode cX2_advance 52 = .ok (.aload_n 0, 1) := by decide +kernel
theorem dX2_advance_53 : decode cX2_advance 53 = .ok (.getfield 35, 3) := by decide +kernel
theorem dX2_advance_56 : decode cX2_advance 56 = .ok (.aload_n 0, 1) := by decide +kernel
theorem dX2_advance_57 : decode cX2_advance 57 = .ok (.getfield 12, 3) := by decide +kernel
theorem dX2_advance_60 : decode cX2_advance 60 = .ok (.getfield 95, 3) := by decide +kernel
theorem dX2_advance_63 : decode cX2_advance 63 = .ok (.if_icmp .lt 11, 3) := by decide +kernel
theorem dX2_advance_66 : decode cX2_advance 66 = .ok (.aload_n 0, 1) := by decide +kernel
theorem dX2_advance_67 : decode cX2_advance 67 = .ok (.iconst 0, 1) := by decide +kernel
theorem dX2_advance_68 : decode cX2_advance 68 = .ok (.putfield 42, 3) := by decide +kernel
theorem dX2_advance_71 : decode cX2_advance 71 = .ok (.goto 93, 3) := by decide +kernel
theorem dX2_advance_74 : decode cX2_advance 74 = .ok (.aload_n 0, 1) := by decide +kernel
theorem dX2_advance_75 : decode cX2_advance 75 = .ok (.getfield 12, 3) := by decide +kernel
theorem dX2_advance_78 : decode cX2_advance 78 = .ok (.getfield 98, 3) := by decide +kernel
theorem dX2_advance_81 : decode cX2_advance 81 = .ok (.aload_n 0, 1) := by decide +kernel
theorem dX2_advance_82 : decode cX2_advance 82 = .ok (.getfield 35, 3) := by decide +kernel
theorem dX2_advance_85 : decode cX2_advance 85 = .ok (.iaload, 1) := by decide +kernel
theorem dX2_advance_86 : decode cX2_advance 86 = .ok (.bipush 59, 2) := by decide +kernel
theorem dX2_advance_88 : decode cX2_advance 88 = .ok (.if_icmp .ne 21, 3) := by decide +kernel
theorem dX2_advance_91 : decode cX2_advance 91 = .ok (.aload_n 0, 1) := by decide +kernel
theorem dX2_advance_92 : decode cX2_advance 92 = .ok (.dup, 1) := by decide +kernel
theorem dX2_advance_93 : decode cX2_advance 93 = .ok (.getfield 35, 3) := by decide +kernel
theorem dX2_advance_96 : decode cX2_advance 96 = .ok (.iconst 1, 1) := by decide +kernel
theorem dX2_advance_97 : decode cX2_advance 97 = .ok (.iadd, 1) := by decide +kernel
theorem dX2_advance_98 : decode cX2_advance 98 = .ok (.putfield 35, 3) := by decide +kernel
theorem dX2_advance_101 : decode cX2_advance 101 = .ok (.aload_n 0, 1) := by decide +kernel
theorem dX2_advance_102 : decode cX2_advance 102 = .ok (.iconst 3, 1) := by decide +kernel
theorem dX2_advance_103 : decode cX2_advance 103 = .ok (.putfield 42, 3) := by decide +kernel
theorem dX2_advance_106 : decode cX2_advance 106 = .ok (.goto 58, 3) := by decide +kernel
theorem dX2_advance_109 : decode cX2_advance 109 = .ok (.aload_n 0, 1) := by decide +kernel
theorem dX2_advance_110 : decode cX2_advance 110 = .ok (.getfield 12, 3) := by decide +kernel
theorem dX2_advance_113 : decode cX2_advance 113 = .ok (.getfield 98, 3) := by decide +kernel
theorem dX2_advance_116 : decode cX2_advance 116 = .ok (.aload_n 0, 1) := by decide +kernel
theorem dX2_advance_117 : decode cX2_advance 117 = .ok (.getfield 35, 3) := by decide +kernel
theorem dX2_advance_120 : decode cX2_advance 120 = .ok (.iaload, 1) := by decide +kernel
theorem dX2_advance_121 : decode cX2_advance 121 = .ok (.invokestatic 101, 3) := by decide +kernel
theorem dX2_advance_124 : decode cX2_advance 124 = .ok (.ifCond .eq 10, 3) := by decide +kernel
theorem dX2_advance_127 : decode cX2_advance 127 = .ok (.aload_n 0, 1) := by decide +kernel
theorem dX2_advance_128 : decode cX2_advance 128 = .ok (.invokevirtual 104, 3) := by decide +kernel
theorem dX2_advance_131 : decode cX2_advance 131 = .ok (.goto 33, 3) := by decide +kernel
theorem dX2_advance_134 : decode cX2_advance 134 = .ok (.aload_n 0, 1) := by decide +kernel
theorem dX2_advance_135 : decode cX2_advance 135 = .ok (.getfield 12, 3) := by decide +kernel
theorem dX2_advance_138 : decode cX2_advance 138 = .ok (.getfield 98, 3) := by decide +kernel
theorem dX2_advance_141 : decode cX2_advance 141 = .ok (.aload_n 0, 1) := by decide +kernel
theorem dX2_advance_142 : decode cX2_advance 142 = .ok (.getfield 35, 3) := by decide +kernel
theorem dX2_advance_145 : decode cX2_advance 145 = .ok (.iaload, 1) := by decide +kernel
theorem dX2_advance_146 : decode cX2_advance 146 = .ok (.invokestatic 107, 3) := by decide +kernel
theorem dX2_advance_149 : decode cX2_advance 149 = .ok (.ifCond .eq 10, 3) := by decide +kernel
theorem dX2_advance_152 : decode cX2_advance 152 = .ok (.aload_n 0, 1) := by decide +kernel
theorem dX2_advance_153 : decode cX2_advance 153 = .ok (.invokevirtual 110, 3) := by decide +kernel
theorem dX2_advance_156 : decode cX2_advance 156 = .ok (.goto 8, 3) := by decide +kernel
theorem dX2_advance_159 : decode cX2_advance 159 = .ok (.aload_n 0, 1) := by decide +kernel
theorem dX2_advance_160 : decode cX2_advance 160 = .ok (.iconst 4, 1) := by decide +kernel
theorem dX2_advance_161 : decode cX2_advance 161 = .ok (.putfield 42, 3) := by decide +kernel
theorem dX2_advance_164 : decode cX2_advance 164 = .ok (.return_, 1) := by decide +kernel
theorem dX2_scanLetters_0 : decode cX2_scanLetters 0 = .ok (.aload_n 0, 1) := by decide +kernel
theorem dX2_scanLetters_1 : decode cX2_scanLetters 1 = .ok (.aload_n 0, 1) := by decide +kernel
theorem dX2_scanLetters_2 : decode cX2_scanLetters 2 = .ok (.getfield 12, 3) := by decide +kernel
theorem dX2_scanLetters_5 : decode cX2_scanLetters 5 = .ok (.getfield 98, 3) := by decide +kernel
theorem dX2_scanLetters_8 : decode cX2_scanLetters 8 = .ok (.aload_n 0, 1) := by decide +kernel
theorem dX2_scanLetters_9 : decode cX2_scanLetters 9 = .ok (.getfield 49, 3) := by decide +kernel
theorem dX2_scanLetters_12 : decode cX2_scanLetters 12 = .ok (.iaload, 1) := by decide +kernel
theorem dX2_scanLetters_13 : decode cX2_scanLetters 13 = .ok (.putfield 52, 3) := by decide +kernel
theorem dX2_scanLetters_16 : decode cX2_scanLetters 16 = .ok (.aload_n 0, 1) := by decide +kernel
theorem dX2_scanLetters_17 : decode cX2_scanLetters 17 = .ok (.getfield 35, 3) := by decide +kernel
theorem dX2_scanLetters_20 : decode cX2_scanLetters 20 = .ok (.aload_n 0, 1) := by decide +kernel
theorem dX2_scanLetters_21 : decode cX2_scanLetters 21 = .ok (.getfield 12, 3) := by decide +kernel
theorem dX2_scanLetters_24 : decode cX2_scanLetters 24 = .ok (.getfield 95, 3) := by decide +kernel
theorem dX2_scanLetters_27 : decode cX2_scanLetters 27 = .ok (.if_icmp .ge 34, 3) := by decide +kernel
theorem dX2_scanLetters_30 : decode cX2_scanLetters 30 = .ok (.aload_n 0, 1) := by decide +kernel
theorem dX2_scanLetters_31 : decode cX2_scanLetters 31 = .ok (.getfield 12, 3) := by decide +kernel
theorem dX2_scanLetters_34 : decode cX2_scanLetters 34 = .ok (.getfield 98, 3) := by decide +kernel
theorem dX2_scanLetters_37 : decode cX2_scanLetters 37 = .ok (.aload_n 0, 1) := by decide +kernel
theorem dX2_scanLetters_38 : decode cX2_scanLetters 38 = .ok (.getfield 35, 3) := by decide +kernel
theorem dX2_scanLetters_41 : decode cX2_scanLetters 41 = .ok (.iaload, 1) := by decide +kernel
theorem dX2_scanLetters_42 : decode cX2_scanLetters 42 = .ok (.invokestatic 101, 3) := by decide +kernel
theorem dX2_scanLetters_45 : decode cX2_scanLetters 45 = .ok (.ifCond .eq 16, 3) := by decide +kernel
theorem dX2_scanLetters_48 : decode cX2_scanLetters 48 = .ok (.aload_n 0, 1) := by decide +kernel
theorem dX2_scanLetters_49 : decode cX2_scanLetters 49 = .ok (.dup, 1) := by decide +kernel
theorem dX2_scanLetters_50 : decode cX2_scanLetters 50 = .ok (.getfield 35, 3) := by decide +kernel
theorem dX2_scanLetters_53 : decode cX2_scanLetters 53 = .ok (.iconst 1, 1) := by decide +kernel
theorem dX2_scanLetters_54 : decode cX2_scanLetters 54 = .ok (.iadd, 1) := by decide +kernel
theorem dX2_scanLetters_55 : decode cX2_scanLetters 55 = .ok (.putfield 35, 3) := by decide +kernel
theorem dX2_scanLetters_58 : decode cX2_scanLetters 58 = .ok (.goto (-42), 3) := by decide +kernel
theorem dX2_scanLetters_61 : decode cX2_scanLetters 61 = .ok (.aload_n 0, 1) := by decide +kernel
theorem dX2_scanLetters_62 : decode cX2_scanLetters 62 = .ok (.aload_n 0, 1) := by decide +kernel
theorem dX2_scanLetters_63 : decode cX2_scanLetters 63 = .ok (.getfield 35, 3) := by decide +kernel
theorem dX2_scanLetters_66 : decode cX2_scanLetters 66 = .ok (.aload_n 0, 1) := by decide +kernel
theorem dX2_scanLetters_67 : decode cX2_scanLetters 67 = .ok (.getfield 49, 3) := by decide +kernel
theorem dX2_scanLetters_70 : decode cX2_scanLetters 70 = .ok (.isub, 1) := by decide +kernel
theorem dX2_scanLetters_71 : decode cX2_scanLetters 71 = .ok (.iconst 1, 1) := by decide +kernel
theorem dX2_scanLetters_72 : decode cX2_scanLetters 72 = .ok (.if_icmp .ne 7, 3) := by decide +kernel
theorem dX2_scanLetters_75 : decode cX2_scanLetters 75 = .ok (.iconst 1, 1) := by decide +kernel
theorem dX2_scanLetters_76 : decode cX2_scanLetters 76 = .ok (.goto 4, 3) := by decide +kernel
theorem dX2_scanLetters_79 : decode cX2_scanLetters 79 = .ok (.iconst 4, 1) := by decide +kernel
theorem dX2_scanLetters_80 : decode cX2_scanLetters 80 = .ok (.putfield 42, 3) := by decide +kernel
theorem dX2_scanLetters_83 : decode cX2_scanLetters 83 = .ok (.return_, 1) := by decide +kernel
theorem dX2_scanNumber_0 : decode cX2_scanNumber 0 = .ok (.aload_n 0, 1) := by decide +kernel
theorem dX2_scanNumber_1 : decode cX2_scanNumber 1 = .ok (.iconst 0, 1) := by decide +kernel
theorem dX2_scanNumber_2 : decode cX2_scanNumber 2 = .ok (.putfield 52, 3) := by decide +kernel
theorem dX2_scanNumber_5 : decode cX2_scanNumber 5 = .ok (.aload_n 0, 1) := by decide +kernel
theorem dX2_scanNumber_6 : decode cX2_scanNumber 6 = .ok (.getfield 35, 3) := by decide +kernel
theorem dX2_scanNumber_9 : decode cX2_scanNumber 9 = .ok (.aload_n 0, 1) := by decide +kernel
theorem dX2_scanNumber_10 : decode cX2_scanNumber 10 = .ok (.getfield 12, 3) := by decide +kernel
theorem dX2_scanNumber_13 : decode cX2_scanNumber 13 = .ok (.getfield 95, 3) := by decide +kernel
theorem dX2_scanNumber_16 : decode cX2_scanNumber 16 = .ok (.if_icmp .ge 66, 3) := by decide +kernel
theorem dX2_scanNumber_19 : decode cX2_scanNumber 19 = .ok (.aload_n 0, 1) := by decide +kernel
theorem dX2_scanNumber_20 : decode cX2_scanNumber 20 = .ok (.getfield 12, 3) := by decide +kernel
theorem dX2_scanNumber_23 : decode cX2_scanNumber 23 = .ok (.getfield 98, 3) := by decide +kernel
theorem dX2_scanNumber_26 : decode cX2_scanNumber 26 = .ok (.aload_n 0, 1) := by decide +kernel
theorem dX2_scanNumber_27 : decode cX2_scanNumber 27 = .ok (.getfield 35, 3) := by decide +kernel
theorem dX2_scanNumber_30 : decode cX2_scanNumber 30 = .ok (.iaload, 1) := by decide +kernel
theorem dX2_scanNumber_31 : decode cX2_scanNumber 31 = .ok (.invokestatic 107, 3) := by decide +kernel
theorem dX2_scanNumber_34 : decode cX2_scanNumber 34 = .ok (.ifCond .eq 48, 3) := by decide +kernel
theorem dX2_scanNumber_37 : decode cX2_scanNumber 37 = .ok (.aload_n 0, 1) := by decide +kernel
theorem dX2_scanNumber_38 : decode cX2_scanNumber 38 = .ok (.aload_n 0, 1) := by decide +kernel
theorem dX2_scanNumber_39 : decode cX2_scanNumber 39 = .ok (.getfield 52, 3) := by decide +kernel
theorem dX2_scanNumber_42 : decode cX2_scanNumber 42 = .ok (.bipush 10, 2) := by decide +kernel
theorem dX2_scanNumber_44 : decode cX2_scanNumber 44 = .ok (.imul, 1) := by decide +kernel
theorem dX2_scanNumber_45 : decode cX2_scanNumber 45 = .ok (.aload_n 0, 1) := by decide +kernel
theorem dX2_scanNumber_46 : decode cX2_scanNumber 46 = .ok (.getfield 12, 3) := by decide +kernel
theorem dX2_scanNumber_49 : decode cX2_scanNumber 49 = .ok (.getfield 98, 3) := by decide +kernel
theorem dX2_scanNumber_52 : decode cX2_scanNumber 52 = .ok (.aload_n 0, 1) := by decide +kernel
theorem dX2_scanNumber_53 : decode cX2_scanNumber 53 = .ok (.getfield 35, 3) := by decide +kernel
theorem dX2_scanNumber_56 : decode cX2_scanNumber 56 = .ok (.iaload, 1) := by decide +kernel
theorem dX2_scanNumber_57 : decode cX2_scanNumber 57 = .ok (.iadd, 1) := by decide +kernel
theorem dX2_scanNumber_58 : decode cX2_scanNumber 58 = .ok (.bipush 48, 2) := by decide +kernel
theorem dX2_scanNumber_60 : decode cX2_scanNumber 60 = .ok (.isub, 1) := by decide +kernel
theorem dX2_scanNumber_61 : decode cX2_scanNumber 61 = .ok (.bipush 100, 2) := by decide +kernel
theorem dX2_scanNumber_63 : decode cX2_scanNumber 63 = .ok (.invokestatic 113, 3) := by decide +kernel
theorem dX2_scanNumber_66 : decode cX2_scanNumber 66 = .ok (.putfield 52, 3) := by decide +kernel
theorem dX2_scanNumber_69 : decode cX2_scanNumber 69 = .ok (.aload_n 0, 1) := by decide +kernel
theorem dX2_scanNumber_70 : decode cX2_scanNumber 70 = .ok (.dup, 1) := by decide +kernel
theorem dX2_scanNumber_71 : decode cX2_scanNumber 71 = .ok (.getfield 35, 3) := by decide +kernel
theorem dX2_scanNumber_74 : decode cX2_scanNumber 74 = .ok (.iconst 1, 1) := by decide +kernel
theorem dX2_scanNumber_75 : decode cX2_scanNumber 75 = .ok (.iadd, 1) := by decide +kernel
theorem dX2_scanNumber_76 : decode cX2_scanNumber 76 = .ok (.putfield 35, 3) := by decide +kernel
theorem dX2_scanNumber_79 : decode cX2_scanNumber 79 = .ok (.goto (-74), 3) := by decide +kernel
theorem dX2_scanNumber_82 : decode cX2_scanNumber 82 = .ok (.aload_n 0, 1) := by decide +kernel
theorem dX2_scanNumber_83 : decode cX2_scanNumber 83 = .ok (.getfield 12, 3) := by decide +kernel
theorem dX2_scanNumber_86 : decode cX2_scanNumber 86 = .ok (.getfield 98, 3) := by decide +kernel
theorem dX2_scanNumber_89 : decode cX2_scanNumber 89 = .ok (.aload_n 0, 1) := by decide +kernel
theorem dX2_scanNumber_90 : decode cX2_scanNumber 90 = .ok (.getfield 49, 3) := by decide +kernel
theorem dX2_scanNumber_93 : decode cX2_scanNumber 93 = .ok (.iaload, 1) := by decide +kernel
theorem dX2_scanNumber_94 : decode cX2_scanNumber 94 = .ok (.bipush 48, 2) := by decide +kernel
theorem dX2_scanNumber_96 : decode cX2_scanNumber 96 = .ok (.if_icmp .ne 20, 3) := by decide +kernel
theorem dX2_scanNumber_99 : decode cX2_scanNumber 99 = .ok (.aload_n 0, 1) := by decide +kernel
theorem dX2_scanNumber_100 : decode cX2_scanNumber 100 = .ok (.getfield 35, 3) := by decide +kernel
theorem dX2_scanNumber_103 : decode cX2_scanNumber 103 = .ok (.aload_n 0, 1) := by decide +kernel
theorem dX2_scanNumber_104 : decode cX2_scanNumber 104 = .ok (.getfield 49, 3) := by decide +kernel
theorem dX2_scanNumber_107 : decode cX2_scanNumber 107 = .ok (.isub, 1) := by decide +kernel
theorem dX2_scanNumber_108 : decode cX2_scanNumber 108 = .ok (.iconst 1, 1) := by decide +kernel
theorem dX2_scanNumber_109 : decode cX2_scanNumber 109 = .ok (.if_icmp .le 7, 3) := by decide +kernel
theorem dX2_scanNumber_112 : decode cX2_scanNumber 112 = .ok (.iconst 1, 1) := by decide +kernel
theorem dX2_scanNumber_113 : decode cX2_scanNumber 113 = .ok (.goto 4, 3) := by decide +kernel
theorem dX2_scanNumber_116 : decode cX2_scanNumber 116 = .ok (.iconst 0, 1) := by decide +kernel
theorem dX2_scanNumber_117 : decode cX2_scanNumber 117 = .ok (.istore_n 1, 1) := by decide +kernel
theorem dX2_scanNumber_118 : decode cX2_scanNumber 118 = .ok (.aload_n 0, 1) := by decide +kernel
theorem dX2_scanNumber_119 : decode cX2_scanNumber 119 = .ok (.iload_n 1, 1) := by decide +kernel
theorem dX2_scanNumber_120 : decode cX2_scanNumber 120 = .ok (.ifCond .ne 12, 3) := by decide +kernel
theorem dX2_scanNumber_123 : decode cX2_scanNumber 123 = .ok (.aload_n 0, 1) := by decide +kernel
theorem dX2_scanNumber_124 : decode cX2_scanNumber 124 = .ok (.getfield 52, 3) := by decide +kernel
theorem dX2_scanNumber_127 : decode cX2_scanNumber 127 = .ok (.bipush 99, 2) := by decide +kernel
theorem dX2_scanNumber_129 : decode cX2_scanNumber 129 = .ok (.if_icmp .le 7, 3) := by decide +kernel
theorem dX2_scanNumber_132 : decode cX2_scanNumber 132 = .ok (.iconst 4, 1) := by decide +kernel
theorem dX2_scanNumber_133 : decode cX2_scanNumber 133 = .ok (.goto 4, 3) := by decide +kernel
theorem dX2_scanNumber_136 : decode cX2_scanNumber 136 = .ok (.iconst 2, 1) := by decide +kernel
theorem dX2_scanNumber_137 : decode cX2_scanNumber 137 = .ok (.putfield 42, 3) := by decide +kernel
theorem dX2_scanNumber_140 : decode cX2_scanNumber 140 = .ok (.return_, 1) := by decide +kernel
theorem dX2_isSmallLetter_0 : decode cX2_isSmallLetter 0 = .ok (.bipush 97, 2) := by decide +kernel
theorem dX2_isSmallLetter_2 : decode cX2_isSmallLetter 2 = .ok (.iload_n 0, 1) := by decide +kernel
theorem dX2_isSmallLetter_3 : decode cX2_isSmallLetter 3 = .ok (.if_icmp .gt 13, 3) := by decide +kernel
theorem dX2_isSmallLetter_6 : decode cX2_isSmallLetter 6 = .ok (.iload_n 0, 1) := by decide +kernel
theorem dX2_isSmallLetter_7 : decode cX2_isSmallLetter 7 = .ok (.bipush 122, 2) := by decide +kernel
theorem dX2_isSmallLetter_9 : decode cX2_isSmallLetter 9 = .ok (.if_icmp .gt 7, 3) := by decide +kernel
theorem dX2_isSmallLetter_12 : decode cX2_isSmallLetter 12 = .ok (.iconst 1, 1) := by decide +kernel
theorem dX2_isSmallLetter_13 : decode cX2_isSmallLetter 13 = .ok (.goto 4, 3) := by decide +kernel
theorem dX2_isSmallLetter_16 : decode cX2_isSmallLetter 16 = .ok (.iconst 0, 1) := by decide +kernel
theorem dX2_isSmallLetter_17 : decode cX2_isSmallLetter 17 = .ok (.ireturn, 1) := by decide +kernel
theorem dX2_isDigit_0 : decode cX2_isDigit 0 = .ok (.bipush 48, 2) := by decide +kernel
theorem dX2_isDigit_2 : decode cX2_isDigit 2 = .ok (.iload_n 0, 1) := by decide +kernel
theorem dX2_isDigit_3 : decode cX2_isDigit 3 = .ok (.if_icmp .gt 13, 3) := by decide +kernel
theorem dX2_isDigit_6 : decode cX2_isDigit 6 = .ok (.iload_n 0, 1) := by decide +kernel
theorem dX2_isDigit_7 : decode cX2_isDigit 7 = .ok (.bipush 57, 2) := by decide +kernel
theorem dX2_isDigit_9 : decode cX2_isDigit 9 = .ok (.if_icmp .gt 7, 3) := by decide +kernel
theorem dX2_isDigit_12 : decode cX2_isDigit 12 = .ok (.iconst 1, 1) := by decide +kernel
theorem dX2_isDigit_13 : decode cX2_isDigit 13 = .ok (.goto 4, 3) := by decide +kernel
theorem dX2_isDigit_16 : decode cX2_isDigit 16 = .ok (.iconst 0, 1) := by decide +kernel
theorem dX2_isDigit_17 : decode cX2_isDigit 17 = .ok (.ireturn, 1) := by decide +kernel
theorem dX3_init_0 : decode cX3_init 0 = .ok (.aload_n 0, 1) := by decide +kernel
theorem dX3_init_1 : decode cX3_init 1 = .ok (.invokespecial 3, 3) := by decide +kernel
theorem dX3_init_4 : decode cX3_init 4 = .ok (.aload_n 0, 1) := by decide +kernel
theorem dX3_init_5 : decode cX3_init 5 = .ok (.bipush 10, 2) := by decide +kernel
theorem dX3_init_7 : decode cX3_init 7 = .ok (.newarray .int, 2) := by decide +kernel
theorem dX3_init_9 : decode cX3_init 9 = .ok (.putfield 9, 3) := by decide +kernel
theorem dX3_init_12 : decode cX3_init 12 = .ok (.aload_n 0, 1) := by decide +kernel
theorem dX3_init_13 : decode cX3_init 13 = .ok (.bipush 10, 2) := by decide +kernel
theorem dX3_init_15 : decode cX3_init 15 = .ok (.newarray .int, 2) := by decide +kernel
theorem dX3_init_17 : decode cX3_init 17 = .ok (.putfield 15, 3) := by decide +kernel
theorem dX3_init_20 : decode cX3_init 20 = .ok (.aload_n 0, 1) := by decide +kernel
theorem dX3_init_21 : decode cX3_init 21 = .ok (.bipush 32, 2) := by decide +kernel
theorem dX3_init_23 : decode cX3_init 23 = .ok (.newarray .int, 2) := by decide +kernel
theorem dX3_init_25 : decode cX3_init 25 = .ok (.putfield 18, 3) := by decide +kernel
theorem dX3_init_28 : decode cX3_init 28 = .ok (.aload_n 0, 1) := by decide +kernel
theorem dX3_init_29 : decode cX3_init 29 = .ok (.bipush 13, 2) := by decide +kernel
theorem dX3_init_31 : decode cX3_init 31 = .ok (.newarray .int, 2) := by decide +kernel
theorem dX3_init_33 : decode cX3_init 33 = .ok (.putfield 21, 3) := by decide +kernel
theorem dX3_init_36 : decode cX3_init 36 = .ok (.aload_n 0, 1) := by decide +kernel
theorem dX3_init_37 : decode cX3_init 37 = .ok (.bipush 13, 2) := by decide +kernel
theorem dX3_init_39 : decode cX3_init 39 = .ok (.newarray .int, 2) := by decide +kernel
theorem dX3_init_41 : decode cX3_init 41 = .ok (.putfield 24, 3) := by decide +kernel
theorem dX3_init_44 : decode cX3_init 44 = .ok (.return_, 1) := by decide +kernel
theorem dX3_grow_0 : decode cX3_grow 0 = .ok (.aload_n 0, 1) := by decide +kernel
theorem dX3_grow_1 : decode cX3_grow 1 = .ok (.aload_n 1, 1) := by decide +kernel
theorem dX3_grow_2 : decode cX3_grow 2 = .ok (.getfield 27, 3) := by decide +kernel
theorem dX3_grow_5 : decode cX3_grow 5 = .ok (.putfield 33, 3) := by decide +kernel
theorem dX3_grow_8 : decode cX3_grow 8 = .ok (.aload_n 0, 1) := by decide +kernel
theorem dX3_grow_9 : decode cX3_grow 9 = .ok (.aload_n 2, 1) := by decide +kernel
theorem dX3_grow_10 : decode cX3_grow 10 = .ok (.getfield 34, 3) := by decide +kernel
theorem dX3_grow_13 : decode cX3_grow 13 = .ok (.iload_n 3, 1) := by decide +kernel
theorem dX3_grow_14 : decode cX3_grow 14 = .ok (.iaload, 1) := by decide +kernel
theorem dX3_grow_15 : decode cX3_grow 15 = .ok (.putfield 39, 3) := by decide +kernel
theorem dX3_grow_18 : decode cX3_grow 18 = .ok (.aload_n 0, 1) := by decide +kernel
theorem dX3_grow_19 : decode cX3_grow 19 = .ok (.aload_n 0, 1) := by decide +kernel
theorem dX3_grow_20 : decode cX3_grow 20 = .ok (.getfield 39, 3) := by decide +kernel
theorem dX3_grow_23 : decode cX3_grow 23 = .ok (.iload 4, 2) := by decide +kernel
theorem dX3_grow_25 : decode cX3_grow 25 = .ok (.iadd, 1) := by decide +kernel
theorem dX3_grow_26 : decode cX3_grow 26 = .ok (.putfield 42, 3) := by decide +kernel
theorem dX3_grow_29 : decode cX3_grow 29 = .ok (.iconst 0, 1) := by decide +kernel
theorem dX3_grow_30 : decode cX3_grow 30 = .ok (.istore 5, 2) := by decide +kernel
theorem dX3_grow_32 : decode cX3_grow 32 = .ok (.iload 5, 2) := by decide +kernel
theorem dX3_grow_34 : decode cX3_grow 34 = .ok (.aload_n 0, 1) := by decide +kernel
theorem dX3_grow_35 : decode cX3_grow 35 = .ok (.getfield 39, 3) := by decide +kernel
theorem dX3_grow_38 : decode cX3_grow 38 = .ok (.if_icmp .ge 23, 3) := by decide +kernel
theorem dX3_grow_41 : decode cX3_grow 41 = .ok (.aload_n 0, 1) := by decide +kernel
theorem dX3_grow_42 : decode cX3_grow 42 = .ok (.getfield 18, 3) := by decide +kernel
theorem dX3_grow_45 : decode cX3_grow 45 = .ok (.iload 5, 2) := by decide +kernel
theorem dX3_grow_47 : decode cX3_grow 47 = .ok (.aload_n 2, 1) := by decide +kernel
theorem dX3_grow_48 : decode cX3_grow 48 = .ok (.iload_n 3, 1) := by decide +kernel
theorem dX3_grow_49 : decode cX3_grow 49 = .ok (.iload 5, 2) := by decide +kernel
theorem dX3_grow_51 : decode cX3_grow 51 = .ok (.invokevirtual 45, 3) := by decide +kernel
theorem dX3_grow_54 : decode cX3_grow 54 = .ok (.iastore, 1) := by decide +kernel
theorem dX3_grow_55 : decode cX3_grow 55 = .ok (.iinc 5 1, 3) := by decide +kernel
theorem dX3_grow_58 : decode cX3_grow 58 = .ok (.goto (-26), 3) := by decide +kernel
theorem dX3_grow_61 : decode cX3_grow 61 = .ok (.iconst 0, 1) := by decide +kernel
theorem dX3_grow_62 : decode cX3_grow 62 = .ok (.istore 5, 2) := by decide +kernel
theorem dX3_grow_64 : decode cX3_grow 64 = .ok (.iload 5, 2) := by decide +kernel
theorem dX3_grow_66 : decode cX3_grow 66 = .ok (.iload 4, 2) := by decide +kernel
theorem dX3_grow_68 : decode cX3_grow 68 = .ok (.if_icmp .ge 29, 3) := by decide +kernel
theorem dX3_grow_71 : decode cX3_grow 71 = .ok (.aload_n 0, 1) := by decide +kernel
theorem dX3_grow_72 : decode cX3_grow 72 = .ok (.getfield 18, 3) := by decide +kernel
theorem dX3_grow_75 : decode cX3_grow 75 = .ok (.aload_n 0, 1) := by decide +kernel
theorem dX3_grow_76 : decode cX3_grow 76 = .ok (.getfield 39, 3) := by decide +kernel
theorem dX3_grow_79 : decode cX3_grow 79 = .ok (.iload 5, 2) := by decide +kernel
theorem dX3_grow_81 : decode cX3_grow 81 = .ok (.iadd, 1) := by decide +kernel
theorem dX3_grow_82 : decode cX3_grow 82 = .ok (.aload_n 2, 1) := by decide +kernel
theorem dX3_grow_83 : decode cX3_grow 83 = .ok (.aload_n 1, 1) := by decide +kernel
theorem dX3_grow_84 : decode cX3_grow 84 = .ok (.iload_n 3, 1) := by decide +kernel
theorem dX3_grow_85 : decode cX3_grow 85 = .ok (.iload 5, 2) := by decide +kernel
theorem dX3_grow_87 : decode cX3_grow 87 = .ok (.invokevirtual 49, 3) := by decide +kernel
theorem dX3_grow_90 : decode cX3_grow 90 = .ok (.iastore, 1) := by decide +kernel
theorem dX3_grow_91 : decode cX3_grow 91 = .ok (.iinc 5 1, 3) := by decide +kernel
theorem dX3_grow_94 : decode cX3_grow 94 = .ok (.goto (-30), 3) := by decide +kernel
theorem dX3_grow_97 : decode cX3_grow 97 = .ok (.return_, 1) := by decide +kernel
theorem dX3_firstFailingEvening_0 : decode cX3_firstFailingEvening 0 = .ok (.aload_n 0, 1) := by decide +kernel
theorem dX3_firstFailingEvening_1 : decode cX3_firstFailingEvening 1 = .ok (.getfield 21, 3) := by decide +kernel
theorem dX3_firstFailingEvening_4 : decode cX3_firstFailingEvening 4 = .ok (.sipush 1000, 3) := by decide +kernel
theorem dX3_firstFailingEvening_7 : decode cX3_firstFailingEvening 7 = .ok (.invokestatic 53, 3) := by decide +kernel
theorem dX3_firstFailingEvening_10 : decode cX3_firstFailingEvening 10 = .ok (.aload_n 0, 1) := by decide +kernel
theorem dX3_firstFailingEvening_11 : decode cX3_firstFailingEvening 11 = .ok (.getfield 21, 3) := by decide +kernel
theorem dX3_firstFailingEvening_14 : decode cX3_firstFailingEvening 14 = .ok (.aload_n 0, 1) := by decide +kernel
theorem dX3_firstFailingEvening_15 : decode cX3_firstFailingEvening 15 = .ok (.getfield 39, 3) := by decide +kernel
theorem dX3_firstFailingEvening_18 : decode cX3_firstFailingEvening 18 = .ok (.iconst 0, 1) := by decide +kernel
theorem dX3_firstFailingEvening_19 : decode cX3_firstFailingEvening 19 = .ok (.iastore, 1) := by decide +kernel
theorem dX3_firstFailingEvening_20 : decode cX3_firstFailingEvening 20 = .ok (.iconst 1, 1) := by decide +kernel
theorem dX3_firstFailingEvening_21 : decode cX3_firstFailingEvening 21 = .ok (.istore 4, 2) := by decide +kernel
theorem dX3_firstFailingEvening_23 : decode cX3_firstFailingEvening 23 = .ok (.iload 4, 2) := by decide +kernel
theorem dX3_firstFailingEvening_25 : decode cX3_firstFailingEvening 25 = .ok (.iload_n 2, 1) := by decide +kernel
theorem dX3_firstFailingEvening_26 : decode cX3_firstFailingEvening 26 = .ok (.if_icmp .gt 90, 3) := by decide +kernel
theorem dX3_firstFailingEvening_29 : decode cX3_firstFailingEvening 29 = .ok (.aload_n 0, 1) := by decide +kernel
theorem dX3_firstFailingEvening_30 : decode cX3_firstFailingEvening 30 = .ok (.getfield 24, 3) := by decide +kernel
theorem dX3_firstFailingEvening_33 : decode cX3_firstFailingEvening 33 = .ok (.sipush 1000, 3) := by decide +kernel
theorem dX3_firstFailingEvening_36 : decode cX3_firstFailingEvening 36 = .ok (.invokestatic 53, 3) := by decide +kernel
theorem dX3_firstFailingEvening_39 : decode cX3_firstFailingEvening 39 = .ok (.iconst 0, 1) := by decide +kernel
theorem dX3_firstFailingEvening_40 : decode cX3_firstFailingEvening 40 = .ok (.istore 5, 2) := by decide +kernel
theorem dX3_firstFailingEvening_42 : decode cX3_firstFailingEvening 42 = .ok (.iload 5, 2) := by decide +kernel
theorem dX3_firstFailingEvening_44 : decode cX3_firstFailingEvening 44 = .ok (.bipush 12, 2) := by decide +kernel
theorem dX3_firstFailingEvening_46 : decode cX3_firstFailingEvening 46 = .ok (.if_icmp .gt 32, 3) := by decide +kernel
theorem dX3_firstFailingEvening_49 : decode cX3_firstFailingEvening 49 = .ok (.aload_n 0, 1) := by decide +kernel
theorem dX3_firstFailingEvening_50 : decode cX3_firstFailingEvening 50 = .ok (.getfield 21, 3) := by decide +kernel
theorem dX3_firstFailingEvening_53 : decode cX3_firstFailingEvening 53 = .ok (.iload 5, 2) := by decide +kernel
theorem dX3_firstFailingEvening_55 : decode cX3_firstFailingEvening 55 = .ok (.iaload, 1) := by decide +kernel
theorem dX3_firstFailingEvening_56 : decode cX3_firstFailingEvening 56 = .ok (.sipush 1000, 3) := by decide +kernel
theorem dX3_firstFailingEvening_59 : decode cX3_firstFailingEvening 59 = .ok (.if_icmp .ge 13, 3) := by decide +kernel
theorem dX3_firstFailingEvening_62 : decode cX3_firstFailingEvening 62 = .ok (.aload_n 0, 1) := by decide +kernel
theorem dX3_firstFailingEvening_63 : decode cX3_firstFailingEvening 63 = .ok (.iload 4, 2) := by decide +kernel
theorem dX3_firstFailingEvening_65 : decode cX3_firstFailingEvening 65 = .ok (.iload 5, 2) := by decide +kernel
theorem dX3_firstFailingEvening_67 : decode cX3_firstFailingEvening 67 = .ok (.iload_n 1, 1) := by decide +kernel
theorem dX3_firstFailingEvening_68 : decode cX3_firstFailingEvening 68 = .ok (.iload_n 3, 1) := by decide +kernel
theorem dX3_firstFailingEvening_69 : decode cX3_firstFailingEvening 69 = .ok (.invokevirtual 59, 3) := by decide +kernel
theorem dX3_firstFailingEvening_72 : decode cX3_firstFailingEvening 72 = .ok (.iinc 5 1, 3) := by decide +kernel
theorem dX3_firstFailingEvening_75 : decode cX3_firstFailingEvening 75 = .ok (.goto (-33), 3) := by decide +kernel
theorem dX3_firstFailingEvening_78 : decode cX3_firstFailingEvening 78 = .ok (.aload_n 0, 1) := by decide +kernel
theorem dX3_firstFailingEvening_79 : decode cX3_firstFailingEvening 79 = .ok (.getfield 21, 3) := by decide +kernel
theorem dX3_firstFailingEvening_82 : decode cX3_firstFailingEvening 82 = .ok (.astore 5, 2) := by decide +kernel
theorem dX3_firstFailingEvening_84 : decode cX3_firstFailingEvening 84 = .ok (.aload_n 0, 1) := by decide +kernel
theorem dX3_firstFailingEvening_85 : decode cX3_firstFailingEvening 85 = .ok (.aload_n 0, 1) := by decide +kernel
theorem dX3_firstFailingEvening_86 : decode cX3_firstFailingEvening 86 = .ok (.getfield 24, 3) := by decide +kernel
theorem dX3_firstFailingEvening_89 : decode cX3_firstFailingEvening 89 = .ok (.putfield 21, 3) := by decide +kernel
theorem dX3_firstFailingEvening_92 : decode cX3_firstFailingEvening 92 = .ok (.aload_n 0, 1) := by decide +kernel
theorem dX3_firstFailingEvening_93 : decode cX3_firstFailingEvening 93 = .ok (.aload 5, 2) := by decide +kernel
theorem dX3_firstFailingEvening_95 : decode cX3_firstFailingEvening 95 = .ok (.putfield 24, 3) := by decide +kernel
theorem dX3_firstFailingEvening_98 : decode cX3_firstFailingEvening 98 = .ok (.aload_n 0, 1) := by decide +kernel
theorem dX3_firstFailingEvening_99 : decode cX3_firstFailingEvening 99 = .ok (.invokevirtual 63, 3) := by decide +kernel
theorem dX3_firstFailingEvening_102 : decode cX3_firstFailingEvening 102 = .ok (.bipush (-9), 2) := by decide +kernel
theorem dX3_firstFailingEvening_104 : decode cX3_firstFailingEvening 104 = .ok (.if_icmp .ne 6, 3) := by decide +kernel
theorem dX3_firstFailingEvening_107 : decode cX3_firstFailingEvening 107 = .ok (.iload 4, 2) := by decide +kernel
theorem dX3_firstFailingEvening_109 : decode cX3_firstFailingEvening 109 = .ok (.ireturn, 1) := by decide +kernel
theorem dX3_firstFailingEvening_110 : decode cX3_firstFailingEvening 110 = .ok (.iinc 4 1, 3) := by decide +kernel
theorem dX3_firstFailingEvening_113 : decode cX3_firstFailingEvening 113 = .ok (.goto (-90), 3) := by decide +kernel
theorem dX3_firstFailingEvening_116 : decode cX3_firstFailingEvening 116 = .ok (.bipush (-9), 2) := by decide +kernel
theorem dX3_firstFailingEvening_118 : decode cX3_firstFailingEvening 118 = .ok (.ireturn, 1) := by decide +kernel
theorem dX3_spend_0 : decode cX3_spend 0 = .ok (.iload_n 2, 1) := by decide +kernel
theorem dX3_spend_1 : decode cX3_spend 1 = .ok (.iconst 1, 1) := by decide +kernel
theorem dX3_spend_2 : decode cX3_spend 2 = .ok (.iadd, 1) := by decide +kernel
theorem dX3_spend_3 : decode cX3_spend 3 = .ok (.aload_n 0, 1) := by decide +kernel
theorem dX3_spend_4 : decode cX3_spend 4 = .ok (.getfield 33, 3) := by decide +kernel
theorem dX3_spend_7 : decode cX3_spend 7 = .ok (.invokestatic 67, 3) := by decide +kernel
theorem dX3_spend_10 : decode cX3_spend 10 = .ok (.istore 5, 2) := by decide +kernel
theorem dX3_spend_12 : decode cX3_spend 12 = .ok (.aload_n 0, 1) := by decide +kernel
theorem dX3_spend_13 : decode cX3_spend 13 = .ok (.getfield 39, 3) := by decide +kernel
theorem dX3_spend_16 : decode cX3_spend 16 = .ok (.iload_n 1, 1) := by decide +kernel
theorem dX3_spend_17 : decode cX3_spend 17 = .ok (.iadd, 1) := by decide +kernel
theorem dX3_spend_18 : decode cX3_spend 18 = .ok (.istore 6, 2) := by decide +kernel
theorem dX3_spend_20 : decode cX3_spend 20 = .ok (.iload 5, 2) := by decide +kernel
theorem dX3_spend_22 : decode cX3_spend 22 = .ok (.istore 7, 2) := by decide +kernel
theorem dX3_spend_24 : decode cX3_spend 24 = .ok (.iload 7, 2) := by decide +kernel
theorem dX3_spend_26 : decode cX3_spend 26 = .ok (.ifCond .lt 80, 3) := by decide +kernel
theorem dX3_spend_29 : decode cX3_spend 29 = .ok (.iload 7, 2) := by decide +kernel
theorem dX3_spend_31 : decode cX3_spend 31 = .ok (.iload 5, 2) := by decide +kernel
theorem dX3_spend_33 : decode cX3_spend 33 = .ok (.if_icmp .ge 20, 3) := by decide +kernel
theorem dX3_spend_36 : decode cX3_spend 36 = .ok (.aload_n 0, 1) := by decide +kernel
theorem dX3_spend_37 : decode cX3_spend 37 = .ok (.getfield 18, 3) := by decide +kernel
theorem dX3_spend_40 : decode cX3_spend 40 = .ok (.iload 6, 2) := by decide +kernel
theorem dX3_spend_42 : decode cX3_spend 42 = .ok (.iload 7, 2) := by decide +kernel
theorem dX3_spend_44 : decode cX3_spend 44 = .ok (.isub, 1) := by decide +kernel
theorem dX3_spend_45 : decode cX3_spend 45 = .ok (.iconst 1, 1) := by decide +kernel
theorem dX3_spend_46 : decode cX3_spend 46 = .ok (.isub, 1) := by decide +kernel
theorem dX3_spend_47 : decode cX3_spend 47 = .ok (.iaload, 1) := by decide +kernel
theorem dX3_spend_48 : decode cX3_spend 48 = .ok (.iload_n 3, 1) := by decide +kernel
theorem dX3_spend_49 : decode cX3_spend 49 = .ok (.if_icmp .ne 4, 3) := by decide +kernel
theorem dX3_spend_52 : decode cX3_spend 52 = .ok (.return_, 1) := by decide +kernel
theorem dX3_spend_53 : decode cX3_spend 53 = .ok (.iload 7, 2) := by decide +kernel
theorem dX3_spend_55 : decode cX3_spend 55 = .ok (.iload 4, 2) := by decide +kernel
theorem dX3_spend_57 : decode cX3_spend 57 = .ok (.if_icmp .gt 43, 3) := by decide +kernel
theorem dX3_spend_60 : decode cX3_spend 60 = .ok (.iload 7, 2) := by decide +kernel
theorem dX3_spend_62 : decode cX3_spend 62 = .ok (.iload 5, 2) := by decide +kernel
theorem dX3_spend_64 : decode cX3_spend 64 = .ok (.if_icmp .ge 7, 3) := by decide +kernel
theorem dX3_spend_67 : decode cX3_spend 67 = .ok (.iconst 1, 1) := by decide +kernel
theorem dX3_spend_68 : decode cX3_spend 68 = .ok (.goto 4, 3) := by decide +kernel
theorem dX3_spend_71 : decode cX3_spend 71 = .ok (.iconst 0, 1) := by decide +kernel
theorem dX3_spend_72 : decode cX3_spend 72 = .ok (.istore 8, 2) := by decide +kernel
theorem dX3_spend_74 : decode cX3_spend 74 = .ok (.aload_n 0, 1) := by decide +kernel
theorem dX3_spend_75 : decode cX3_spend 75 = .ok (.getfield 24, 3) := by decide +kernel
theorem dX3_spend_78 : decode cX3_spend 78 = .ok (.iload 7, 2) := by decide +kernel
theorem dX3_spend_80 : decode cX3_spend 80 = .ok (.aload_n 0, 1) := by decide +kernel
theorem dX3_spend_81 : decode cX3_spend 81 = .ok (.getfield 24, 3) := by decide +kernel
theorem dX3_spend_84 : decode cX3_spend 84 = .ok (.iload 7, 2) := by decide +kernel
theorem dX3_spend_86 : decode cX3_spend 86 = .ok (.iaload, 1) := by decide +kernel
theorem dX3_spend_87 : decode cX3_spend 87 = .ok (.aload_n 0, 1) := by decide +kernel
theorem dX3_spend_88 : decode cX3_spend 88 = .ok (.getfield 21, 3) := by decide +kernel
theorem dX3_spend_91 : decode cX3_spend 91 = .ok (.iload_n 2, 1) := by decide +kernel
theorem dX3_spend_92 : decode cX3_spend 92 = .ok (.iaload, 1) := by decide +kernel
theorem dX3_spend_93 : decode cX3_spend 93 = .ok (.iload 8, 2) := by decide +kernel
theorem dX3_spend_95 : decode cX3_spend 95 = .ok (.iadd, 1) := by decide +kernel
theorem dX3_spend_96 : decode cX3_spend 96 = .ok (.invokestatic 67, 3) := by decide +kernel
theorem dX3_spend_99 : decode cX3_spend 99 = .ok (.iastore, 1) := by decide +kernel
theorem dX3_spend_100 : decode cX3_spend 100 = .ok (.iinc 7 (-1), 3) := by decide +kernel
theorem dX3_spend_103 : decode cX3_spend 103 = .ok (.goto (-79), 3) := by decide +kernel
theorem dX3_spend_106 : decode cX3_spend 106 = .ok (.return_, 1) := by decide +kernel
theorem dX3_fewestCuts_0 : decode cX3_fewestCuts 0 = .ok (.sipush 1000, 3) := by decide +kernel
theorem dX3_fewestCuts_3 : decode cX3_fewestCuts 3 = .ok (.istore_n 1, 1) := by decide +kernel
theorem dX3_fewestCuts_4 : decode cX3_fewestCuts 4 = .ok (.iconst 0, 1) := by decide +kernel
theorem dX3_fewestCuts_5 : decode cX3_fewestCuts 5 = .ok (.istore_n 2, 1) := by decide +kernel
theorem dX3_fewestCuts_6 : decode cX3_fewestCuts 6 = .ok (.iload_n 2, 1) := by decide +kernel
theorem dX3_fewestCuts_7 : decode cX3_fewestCuts 7 = .ok (.bipush 12, 2) := by decide +kernel
theorem dX3_fewestCuts_9 : decode cX3_fewestCuts 9 = .ok (.if_icmp .gt 20, 3) := by decide +kernel
theorem dX3_fewestCuts_12 : decode cX3_fewestCuts 12 = .ok (.iload_n 1, 1) := by decide +kernel
theorem dX3_fewestCuts_13 : decode cX3_fewestCuts 13 = .ok (.aload_n 0, 1) := by decide +kernel
theorem dX3_fewestCuts_14 : decode cX3_fewestCuts 14 = .ok (.getfield 21, 3) := by decide +kernel
theorem dX3_fewestCuts_17 : decode cX3_fewestCuts 17 = .ok (.iload_n 2, 1) := by decide +kernel
theorem dX3_fewestCuts_18 : decode cX3_fewestCuts 18 = .ok (.iaload, 1) := by decide +kernel
theorem dX3_fewestCuts_19 : decode cX3_fewestCuts 19 = .ok (.invokestatic 67, 3) := by decide +kernel
theorem dX3_fewestCuts_22 : decode cX3_fewestCuts 22 = .ok (.istore_n 1, 1) := by decide +kernel
theorem dX3_fewestCuts_23 : decode cX3_fewestCuts 23 = .ok (.iinc 2 1, 3) := by decide +kernel
theorem dX3_fewestCuts_26 : decode cX3_fewestCuts 26 = .ok (.goto (-20), 3) := by decide +kernel
theorem dX3_fewestCuts_29 : decode cX3_fewestCuts 29 = .ok (.iload_n 1, 1) := by decide +kernel
theorem dX3_fewestCuts_30 : decode cX3_fewestCuts 30 = .ok (.sipush 1000, 3) := by decide +kernel
theorem dX3_fewestCuts_33 : decode cX3_fewestCuts 33 = .ok (.if_icmp .ge 7, 3) := by decide +kernel
theorem dX3_fewestCuts_36 : decode cX3_fewestCuts 36 = .ok (.iload_n 1, 1) := by decide +kernel
theorem dX3_fewestCuts_37 : decode cX3_fewestCuts 37 = .ok (.goto 5, 3) := by decide +kernel
theorem dX3_fewestCuts_40 : decode cX3_fewestCuts 40 = .ok (.bipush (-9), 2) := by decide +kernel
theorem dX3_fewestCuts_42 : decode cX3_fewestCuts 42 = .ok (.ireturn, 1) := by decide +kernel
theorem dX3_fewestDays_0 : decode cX3_fewestDays 0 = .ok (.aload_n 0, 1) := by decide +kernel
theorem dX3_fewestDays_1 : decode cX3_fewestDays 1 = .ok (.invokevirtual 72, 3) := by decide +kernel
theorem dX3_fewestDays_4 : decode cX3_fewestDays 4 = .ok (.iconst 0, 1) := by decide +kernel
theorem dX3_fewestDays_5 : decode cX3_fewestDays 5 = .ok (.istore_n 2, 1) := by decide +kernel
theorem dX3_fewestDays_6 : decode cX3_fewestDays 6 = .ok (.iload_n 2, 1) := by decide +kernel
theorem dX3_fewestDays_7 : decode cX3_fewestDays 7 = .ok (.aload_n 0, 1) := by decide +kernel
theorem dX3_fewestDays_8 : decode cX3_fewestDays 8 = .ok (.getfield 42, 3) := by decide +kernel
theorem dX3_fewestDays_11 : decode cX3_fewestDays 11 = .ok (.aload_n 0, 1) := by decide +kernel
theorem dX3_fewestDays_12 : decode cX3_fewestDays 12 = .ok (.getfield 39, 3) := by decide +kernel
theorem dX3_fewestDays_15 : decode cX3_fewestDays 15 = .ok (.isub, 1) := by decide +kernel
theorem dX3_fewestDays_16 : decode cX3_fewestDays 16 = .ok (.if_icmp .gt 20, 3) := by decide +kernel
theorem dX3_fewestDays_19 : decode cX3_fewestDays 19 = .ok (.aload_n 0, 1) := by decide +kernel
theorem dX3_fewestDays_20 : decode cX3_fewestDays 20 = .ok (.iload_n 1, 1) := by decide +kernel
theorem dX3_fewestDays_21 : decode cX3_fewestDays 21 = .ok (.iload_n 2, 1) := by decide +kernel
theorem dX3_fewestDays_22 : decode cX3_fewestDays 22 = .ok (.invokevirtual 75, 3) := by decide +kernel
theorem dX3_fewestDays_25 : decode cX3_fewestDays 25 = .ok (.ifCond .eq 5, 3) := by decide +kernel
theorem dX3_fewestDays_28 : decode cX3_fewestDays 28 = .ok (.iload_n 2, 1) := by decide +kernel
theorem dX3_fewestDays_29 : decode cX3_fewestDays 29 = .ok (.ireturn, 1) := by decide +kernel
theorem dX3_fewestDays_30 : decode cX3_fewestDays 30 = .ok (.iinc 2 1, 3) := by decide +kernel
theorem dX3_fewestDays_33 : decode cX3_fewestDays 33 = .ok (.goto (-27), 3) := by decide +kernel
theorem dX3_fewestDays_36 : decode cX3_fewestDays 36 = .ok (.bipush (-9), 2) := by decide +kernel
theorem dX3_fewestDays_38 : decode cX3_fewestDays 38 = .ok (.ireturn, 1) := by decide +kernel
theorem dX3_countWhatIsLeft_0 : decode cX3_countWhatIsLeft 0 = .ok (.aload_n 0, 1) := by decide +kernel
theorem dX3_countWhatIsLeft_1 : decode cX3_countWhatIsLeft 1 = .ok (.getfield 9, 3) := by decide +kernel
theorem dX3_countWhatIsLeft_4 : decode cX3_countWhatIsLeft 4 = .ok (.iconst 0, 1) := by decide +kernel
theorem dX3_countWhatIsLeft_5 : decode cX3_countWhatIsLeft 5 = .ok (.invokestatic 53, 3) := by decide +kernel
theorem dX3_countWhatIsLeft_8 : decode cX3_countWhatIsLeft 8 = .ok (.aload_n 0, 1) := by decide +kernel
theorem dX3_countWhatIsLeft_9 : decode cX3_countWhatIsLeft 9 = .ok (.getfield 15, 3) := by decide +kernel
theorem dX3_countWhatIsLeft_12 : decode cX3_countWhatIsLeft 12 = .ok (.iconst 0, 1) := by decide +kernel
theorem dX3_countWhatIsLeft_13 : decode cX3_countWhatIsLeft 13 = .ok (.invokestatic 53, 3) := by decide +kernel
theorem dX3_countWhatIsLeft_16 : decode cX3_countWhatIsLeft 16 = .ok (.aload_n 0, 1) := by decide +kernel
theorem dX3_countWhatIsLeft_17 : decode cX3_countWhatIsLeft 17 = .ok (.getfield 42, 3) := by decide +kernel
theorem dX3_countWhatIsLeft_20 : decode cX3_countWhatIsLeft 20 = .ok (.aload_n 0, 1) := by decide +kernel
theorem dX3_countWhatIsLeft_21 : decode cX3_countWhatIsLeft 21 = .ok (.getfield 42, 3) := by decide +kernel
theorem dX3_countWhatIsLeft_24 : decode cX3_countWhatIsLeft 24 = .ok (.aload_n 0, 1) := by decide +kernel
theorem dX3_countWhatIsLeft_25 : decode cX3_countWhatIsLeft 25 = .ok (.getfield 33, 3) := by decide +kernel
theorem dX3_countWhatIsLeft_28 : decode cX3_countWhatIsLeft 28 = .ok (.invokestatic 67, 3) := by decide +kernel
theorem dX3_countWhatIsLeft_31 : decode cX3_countWhatIsLeft 31 = .ok (.isub, 1) := by decide +kernel
theorem dX3_countWhatIsLeft_32 : decode cX3_countWhatIsLeft 32 = .ok (.istore_n 1, 1) := by decide +kernel
theorem dX3_countWhatIsLeft_33 : decode cX3_countWhatIsLeft 33 = .ok (.iload_n 1, 1) := by decide +kernel
theorem dX3_countWhatIsLeft_34 : decode cX3_countWhatIsLeft 34 = .ok (.aload_n 0, 1) := by decide +kernel
theorem dX3_countWhatIsLeft_35 : decode cX3_countWhatIsLeft 35 = .ok (.getfield 42, 3) := by decide +kernel
theorem dX3_countWhatIsLeft_38 : decode cX3_countWhatIsLeft 38 = .ok (.if_icmp .ge 47, 3) := by decide +kernel
theorem dX3_countWhatIsLeft_41 : decode cX3_countWhatIsLeft 41 = .ok (.aload_n 0, 1) := by decide +kernel
theorem dX3_countWhatIsLeft_42 : decode cX3_countWhatIsLeft 42 = .ok (.getfield 9, 3) := by decide +kernel
theorem dX3_countWhatIsLeft_45 : decode cX3_countWhatIsLeft 45 = .ok (.aload_n 0, 1) := by decide +kernel
theorem dX3_countWhatIsLeft_46 : decode cX3_countWhatIsLeft 46 = .ok (.getfield 18, 3) := by decide +kernel
theorem dX3_countWhatIsLeft_49 : decode cX3_countWhatIsLeft 49 = .ok (.iload_n 1, 1) := by decide +kernel
theorem dX3_countWhatIsLeft_50 : decode cX3_countWhatIsLeft 50 = .ok (.iaload, 1) := by decide +kernel
theorem dX3_countWhatIsLeft_51 : decode cX3_countWhatIsLeft 51 = .ok (.dup2, 1) := by decide +kernel
theorem dX3_countWhatIsLeft_52 : decode cX3_countWhatIsLeft 52 = .ok (.iaload, 1) := by decide +kernel
theorem dX3_countWhatIsLeft_53 : decode cX3_countWhatIsLeft 53 = .ok (.iconst 1, 1) := by decide +kernel
theorem dX3_countWhatIsLeft_54 : decode cX3_countWhatIsLeft 54 = .ok (.iadd, 1) := by decide +kernel
theorem dX3_countWhatIsLeft_55 : decode cX3_countWhatIsLeft 55 = .ok (.iastore, 1) := by decide +kernel
theorem dX3_countWhatIsLeft_56 : decode cX3_countWhatIsLeft 56 = .ok (.iload_n 1, 1) := by decide +kernel
theorem dX3_countWhatIsLeft_57 : decode cX3_countWhatIsLeft 57 = .ok (.aload_n 0, 1) := by decide +kernel
theorem dX3_countWhatIsLeft_58 : decode cX3_countWhatIsLeft 58 = .ok (.getfield 39, 3) := by decide +kernel
theorem dX3_countWhatIsLeft_61 : decode cX3_countWhatIsLeft 61 = .ok (.if_icmp .lt 18, 3) := by decide +kernel
theorem dX3_countWhatIsLeft_64 : decode cX3_countWhatIsLeft 64 = .ok (.aload_n 0, 1) := by decide +kernel
theorem dX3_countWhatIsLeft_65 : decode cX3_countWhatIsLeft 65 = .ok (.getfield 15, 3) := by decide +kernel
theorem dX3_countWhatIsLeft_68 : decode cX3_countWhatIsLeft 68 = .ok (.aload_n 0, 1) := by decide +kernel
theorem dX3_countWhatIsLeft_69 : decode cX3_countWhatIsLeft 69 = .ok (.getfield 18, 3) := by decide +kernel
theorem dX3_countWhatIsLeft_72 : decode cX3_countWhatIsLeft 72 = .ok (.iload_n 1, 1) := by decide +kernel
theorem dX3_countWhatIsLeft_73 : decode cX3_countWhatIsLeft 73 = .ok (.iaload, 1) := by decide +kernel
theorem dX3_countWhatIsLeft_74 : decode cX3_countWhatIsLeft 74 = .ok (.dup2, 1) := by decide +kernel
theorem dX3_countWhatIsLeft_75 : decode cX3_countWhatIsLeft 75 = .ok (.iaload, 1) := by decide +kernel
theorem dX3_countWhatIsLeft_76 : decode cX3_countWhatIsLeft 76 = .ok (.iconst 1, 1) := by decide +kernel
theorem dX3_countWhatIsLeft_77 : decode cX3_countWhatIsLeft 77 = .ok (.iadd, 1) := by decide +kernel
theorem dX3_countWhatIsLeft_78 : decode cX3_countWhatIsLeft 78 = .ok (.iastore, 1) := by decide +kernel
theorem dX3_countWhatIsLeft_79 : decode cX3_countWhatIsLeft 79 = .ok (.iinc 1 1, 3) := by decide +kernel
theorem dX3_countWhatIsLeft_82 : decode cX3_countWhatIsLeft 82 = .ok (.goto (-49), 3) := by decide +kernel
theorem dX3_countWhatIsLeft_85 : decode cX3_countWhatIsLeft 85 = .ok (.return_, 1) := by decide +kernel
theorem dX3_suffices_0 : decode cX3_suffices 0 = .ok (.aload_n 0, 1) := by decide +kernel
theorem dX3_suffices_1 : decode cX3_suffices 1 = .ok (.getfield 9, 3) := by decide +kernel
theorem dX3_suffices_4 : decode cX3_suffices 4 = .ok (.iload_n 1, 1) := by decide +kernel
theorem dX3_suffices_5 : decode cX3_suffices 5 = .ok (.iaload, 1) := by decide +kernel
theorem dX3_suffices_6 : decode cX3_suffices 6 = .ok (.iload_n 2, 1) := by decide +kernel
theorem dX3_suffices_7 : decode cX3_suffices 7 = .ok (.iadd, 1) := by decide +kernel
theorem dX3_suffices_8 : decode cX3_suffices 8 = .ok (.istore_n 3, 1) := by decide +kernel
theorem dX3_suffices_9 : decode cX3_suffices 9 = .ok (.iconst 0, 1) := by decide +kernel
theorem dX3_suffices_10 : decode cX3_suffices 10 = .ok (.istore 4, 2) := by decide +kernel
theorem dX3_suffices_12 : decode cX3_suffices 12 = .ok (.iconst 0, 1) := by decide +kernel
theorem dX3_suffices_13 : decode cX3_suffices 13 = .ok (.istore 5, 2) := by decide +kernel
theorem dX3_suffices_15 : decode cX3_suffices 15 = .ok (.iconst 0, 1) := by decide +kernel
theorem dX3_suffices_16 : decode cX3_suffices 16 = .ok (.istore 6, 2) := by decide +kernel
theorem dX3_suffices_18 : decode cX3_suffices 18 = .ok (.iload 6, 2) := by decide +kernel
theorem dX3_suffices_20 : decode cX3_suffices 20 = .ok (.bipush 10, 2) := by decide +kernel
theorem dX3_suffices_22 : decode cX3_suffices 22 = .ok (.if_icmp .ge 65, 3) := by decide +kernel
theorem dX3_suffices_25 : decode cX3_suffices 25 = .ok (.iload 6, 2) := by decide +kernel
theorem dX3_suffices_27 : decode cX3_suffices 27 = .ok (.iload_n 1, 1) := by decide +kernel
theorem dX3_suffices_28 : decode cX3_suffices 28 = .ok (.if_icmp .eq 53, 3) := by decide +kernel
theorem dX3_suffices_31 : decode cX3_suffices 31 = .ok (.iconst 0, 1) := by decide +kernel
theorem dX3_suffices_32 : decode cX3_suffices 32 = .ok (.aload_n 0, 1) := by decide +kernel
theorem dX3_suffices_33 : decode cX3_suffices 33 = .ok (.getfield 9, 3) := by decide +kernel
theorem dX3_suffices_36 : decode cX3_suffices 36 = .ok (.iload 6, 2) := by decide +kernel
theorem dX3_suffices_38 : decode cX3_suffices 38 = .ok (.iaload, 1) := by decide +kernel
theorem dX3_suffices_39 : decode cX3_suffices 39 = .ok (.iload_n 3, 1) := by decide +kernel
theorem dX3_suffices_40 : decode cX3_suffices 40 = .ok (.isub, 1) := by decide +kernel
theorem dX3_suffices_41 : decode cX3_suffices 41 = .ok (.iconst 1, 1) := by decide +kernel
theorem dX3_suffices_42 : decode cX3_suffices 42 = .ok (.iadd, 1) := by decide +kernel
theorem dX3_suffices_43 : decode cX3_suffices 43 = .ok (.invokestatic 79, 3) := by decide +kernel
theorem dX3_suffices_46 : decode cX3_suffices 46 = .ok (.istore 7, 2) := by decide +kernel
theorem dX3_suffices_48 : decode cX3_suffices 48 = .ok (.iload 7, 2) := by decide +kernel
theorem dX3_suffices_50 : decode cX3_suffices 50 = .ok (.aload_n 0, 1) := by decide +kernel
theorem dX3_suffices_51 : decode cX3_suffices 51 = .ok (.getfield 15, 3) := by decide +kernel
theorem dX3_suffices_54 : decode cX3_suffices 54 = .ok (.iload 6, 2) := by decide +kernel
theorem dX3_suffices_56 : decode cX3_suffices 56 = .ok (.iaload, 1) := by decide +kernel
theorem dX3_suffices_57 : decode cX3_suffices 57 = .ok (.if_icmp .le 5, 3) := by decide +kernel
theorem dX3_suffices_60 : decode cX3_suffices 60 = .ok (.iconst 0, 1) := by decide +kernel
theorem dX3_suffices_61 : decode cX3_suffices 61 = .ok (.ireturn, 1) := by decide +kernel
theorem dX3_suffices_62 : decode cX3_suffices 62 = .ok (.iload 4, 2) := by decide +kernel
theorem dX3_suffices_64 : decode cX3_suffices 64 = .ok (.iload 7, 2) := by decide +kernel
theorem dX3_suffices_66 : decode cX3_suffices 66 = .ok (.iadd, 1) := by decide +kernel
theorem dX3_suffices_67 : decode cX3_suffices 67 = .ok (.istore 4, 2) := by decide +kernel
theorem dX3_suffices_69 : decode cX3_suffices 69 = .ok (.iload 5, 2) := by decide +kernel
theorem dX3_suffices_71 : decode cX3_suffices 71 = .ok (.aload_n 0, 1) := by decide +kernel
theorem dX3_suffices_72 : decode cX3_suffices 72 = .ok (.getfield 15, 3) := by decide +kernel
theorem dX3_suffices_75 : decode cX3_suffices 75 = .ok (.iload 6, 2) := by decide +kernel
theorem dX3_suffices_77 : decode cX3_suffices 77 = .ok (.iaload, 1) := by decide +kernel
theorem dX3_suffices_78 : decode cX3_suffices 78 = .ok (.iadd, 1) := by decide +kernel
theorem dX3_suffices_79 : decode cX3_suffices 79 = .ok (.istore 5, 2) := by decide +kernel
theorem dX3_suffices_81 : decode cX3_suffices 81 = .ok (.iinc 6 1, 3) := by decide +kernel
theorem dX3_suffices_84 : decode cX3_suffices 84 = .ok (.goto (-66), 3) := by decide +kernel
theorem dX3_suffices_87 : decode cX3_suffices 87 = .ok (.iload 4, 2) := by decide +kernel
theorem dX3_suffices_89 : decode cX3_suffices 89 = .ok (.iload_n 2, 1) := by decide +kernel
theorem dX3_suffices_90 : decode cX3_suffices 90 = .ok (.if_icmp .gt 13, 3) := by decide +kernel
theorem dX3_suffices_93 : decode cX3_suffices 93 = .ok (.iload_n 2, 1) := by decide +kernel
theorem dX3_suffices_94 : decode cX3_suffices 94 = .ok (.iload 5, 2) := by decide +kernel
theorem dX3_suffices_96 : decode cX3_suffices 96 = .ok (.if_icmp .gt 7, 3) := by decide +kernel
theorem dX3_suffices_99 : decode cX3_suffices 99 = .ok (.iconst 1, 1) := by decide +kernel
theorem dX3_suffices_100 : decode cX3_suffices 100 = .ok (.goto 4, 3) := by decide +kernel
theorem dX3_suffices_103 : decode cX3_suffices 103 = .ok (.iconst 0, 1) := by decide +kernel
theorem dX3_suffices_104 : decode cX3_suffices 104 = .ok (.ireturn, 1) := by decide +kernel
theorem dX4_init_0 : decode cX4_init 0 = .ok (.aload_n 0, 1) := by decide +kernel
theorem dX4_init_1 : decode cX4_init 1 = .ok (.invokespecial 3, 3) := by decide +kernel
theorem dX4_init_4 : decode cX4_init 4 = .ok (.aload_n 0, 1) := by decide +kernel
theorem dX4_init_5 : decode cX4_init 5 = .ok (.bipush 120, 2) := by decide +kernel
theorem dX4_init_7 : decode cX4_init 7 = .ok (.newarray .int, 2) := by decide +kernel
theorem dX4_init_9 : decode cX4_init 9 = .ok (.putfield 9, 3) := by decide +kernel
theorem dX4_init_12 : decode cX4_init 12 = .ok (.return_, 1) := by decide +kernel
theorem dX5_init_0 : decode cX5_init 0 = .ok (.aload_n 0, 1) := by decide +kernel
theorem dX5_init_1 : decode cX5_init 1 = .ok (.invokespecial 3, 3) := by decide +kernel
theorem dX5_init_4 : decode cX5_init 4 = .ok (.aload_n 0, 1) := by decide +kernel
theorem dX5_init_5 : decode cX5_init 5 = .ok (.new 9, 3) := by decide +kernel
theorem dX5_init_8 : decode cX5_init 8 = .ok (.dup, 1) := by decide +kernel
theorem dX5_init_9 : decode cX5_init 9 = .ok (.invokespecial 11, 3) := by decide +kernel
theorem dX5_init_12 : decode cX5_init 12 = .ok (.putfield 12, 3) := by decide +kernel
theorem dX5_init_15 : decode cX5_init 15 = .ok (.aload_n 0, 1) := by decide +kernel
theorem dX5_init_16 : decode cX5_init 16 = .ok (.bipush 10, 2) := by decide +kernel
theorem dX5_init_18 : decode cX5_init 18 = .ok (.anewarray 9, 3) := by decide +kernel
theorem dX5_init_21 : decode cX5_init 21 = .ok (.putfield 18, 3) := by decide +kernel
theorem dX5_init_24 : decode cX5_init 24 = .ok (.iconst 0, 1) := by decide +kernel
theorem dX5_init_25 : decode cX5_init 25 = .ok (.istore_n 1, 1) := by decide +kernel
theorem dX5_init_26 : decode cX5_init 26 = .ok (.iload_n 1, 1) := by decide +kernel
theorem dX5_init_27 : decode cX5_init 27 = .ok (.bipush 10, 2) := by decide +kernel
theorem dX5_init_29 : decode cX5_init 29 = .ok (.if_icmp .ge 22, 3) := by decide +kernel
theorem dX5_init_32 : decode cX5_init 32 = .ok (.aload_n 0, 1) := by decide +kernel
theorem dX5_init_33 : decode cX5_init 33 = .ok (.getfield 18, 3) := by decide +kernel
theorem dX5_init_36 : decode cX5_init 36 = .ok (.iload_n 1, 1) := by decide +kernel
theorem dX5_init_37 : decode cX5_init 37 = .ok (.new 9, 3) := by decide +kernel
theorem dX5_init_40 : decode cX5_init 40 = .ok (.dup, 1) := by decide +kernel
theorem dX5_init_41 : decode cX5_init 41 = .ok (.invokespecial 11, 3) := by decide +kernel
theorem dX5_init_44 : decode cX5_init 44 = .ok (.aastore, 1) := by decide +kernel
theorem dX5_init_45 : decode cX5_init 45 = .ok (.iinc 1 1, 3) := by decide +kernel
theorem dX5_init_48 : decode cX5_init 48 = .ok (.goto (-22), 3) := by decide +kernel
theorem dX5_init_51 : decode cX5_init 51 = .ok (.return_, 1) := by decide +kernel
theorem dX5_begin_0 : decode cX5_begin 0 = .ok (.aload_n 0, 1) := by decide +kernel
theorem dX5_begin_1 : decode cX5_begin 1 = .ok (.getfield 12, 3) := by decide +kernel
theorem dX5_begin_4 : decode cX5_begin 4 = .ok (.iload_n 1, 1) := by decide +kernel
theorem dX5_begin_5 : decode cX5_begin 5 = .ok (.invokevirtual 22, 3) := by decide +kernel
theorem dX5_begin_8 : decode cX5_begin 8 = .ok (.aload_n 0, 1) := by decide +kernel
theorem dX5_begin_9 : decode cX5_begin 9 = .ok (.iconst 0, 1) := by decide +kernel
theorem dX5_begin_10 : decode cX5_begin 10 = .ok (.putfield 26, 3) := by decide +kernel
theorem dX5_begin_13 : decode cX5_begin 13 = .ok (.return_, 1) := by decide +kernel
theorem dX5_remember_0 : decode cX5_remember 0 = .ok (.aload_n 0, 1) := by decide +kernel
theorem dX5_remember_1 : decode cX5_remember 1 = .ok (.getfield 26, 3) := by decide +kernel
theorem dX5_remember_4 : decode cX5_remember 4 = .ok (.bipush 10, 2) := by decide +kernel
theorem dX5_remember_6 : decode cX5_remember 6 = .ok (.if_icmp .lt 7, 3) := by decide +kernel
theorem dX5_remember_9 : decode cX5_remember 9 = .ok (.aload_n 0, 1) := by decide +kernel
theorem dX5_remember_10 : decode cX5_remember 10 = .ok (.invokevirtual 30, 3) := by decide +kernel
theorem dX5_remember_13 : decode cX5_remember 13 = .ok (.aload_n 0, 1) := by decide +kernel
theorem dX5_remember_14 : decode cX5_remember 14 = .ok (.getfield 18, 3) := by decide +kernel
theorem dX5_remember_17 : decode cX5_remember 17 = .ok (.aload_n 0, 1) := by decide +kernel
theorem dX5_remember_18 : decode cX5_remember 18 = .ok (.getfield 26, 3) := by decide +kernel
theorem dX5_remember_21 : decode cX5_remember 21 = .ok (.aaload, 1) := by decide +kernel
theorem dX5_remember_22 : decode cX5_remember 22 = .ok (.aload_n 0, 1) := by decide +kernel
theorem dX5_remember_23 : decode cX5_remember 23 = .ok (.getfield 12, 3) := by decide +kernel
theorem dX5_remember_26 : decode cX5_remember 26 = .ok (.invokevirtual 33, 3) := by decide +kernel
theorem dX5_remember_29 : decode cX5_remember 29 = .ok (.aload_n 0, 1) := by decide +kernel
theorem dX5_remember_30 : decode cX5_remember 30 = .ok (.dup, 1) := by decide +kernel
theorem dX5_remember_31 : decode cX5_remember 31 = .ok (.getfield 26, 3) := by decide +kernel
theorem dX5_remember_34 : decode cX5_remember 34 = .ok (.iconst 1, 1) := by decide +kernel
theorem dX5_remember_35 : decode cX5_remember 35 = .ok (.iadd, 1) := by decide +kernel
theorem dX5_remember_36 : decode cX5_remember 36 = .ok (.putfield 26, 3) := by decide +kernel
theorem dX5_remember_39 : decode cX5_remember 39 = .ok (.return_, 1) := by decide +kernel
theorem dX5_loseOldest_0 : decode cX5_loseOldest 0 = .ok (.aload_n 0, 1) := by decide +kernel
theorem dX5_loseOldest_1 : decode cX5_loseOldest 1 = .ok (.getfield 18, 3) := by decide +kernel
theorem dX5_loseOldest_4 : decode cX5_loseOldest 4 = .ok (.iconst 0, 1) := by decide +kernel
theorem dX5_loseOldest_5 : decode cX5_loseOldest 5 = .ok (.aaload, 1) := by decide +kernel
theorem dX5_loseOldest_6 : decode cX5_loseOldest 6 = .ok (.astore_n 1, 1) := by decide +kernel
theorem dX5_loseOldest_7 : decode cX5_loseOldest 7 = .ok (.iconst 1, 1) := by decide +kernel
theorem dX5_loseOldest_8 : decode cX5_loseOldest 8 = .ok (.istore_n 2, 1) := by decide +kernel
theorem dX5_loseOldest_9 : decode cX5_loseOldest 9 = .ok (.iload_n 2, 1) := by decide +kernel
theorem dX5_loseOldest_10 : decode cX5_loseOldest 10 = .ok (.bipush 10, 2) := by decide +kernel
theorem dX5_loseOldest_12 : decode cX5_loseOldest 12 = .ok (.if_icmp .ge 23, 3) := by decide +kernel
theorem dX5_loseOldest_15 : decode cX5_loseOldest 15 = .ok (.aload_n 0, 1) := by decide +kernel
theorem dX5_loseOldest_16 : decode cX5_loseOldest 16 = .ok (.getfield 18, 3) := by decide +kernel
theorem dX5_loseOldest_19 : decode cX5_loseOldest 19 = .ok (.iload_n 2, 1) := by decide +kernel
theorem dX5_loseOldest_20 : decode cX5_loseOldest 20 = .ok (.iconst 1, 1) := by decide +kernel
theorem dX5_loseOldest_21 : decode cX5_loseOldest 21 = .ok (.isub, 1) := by decide +kernel
theorem dX5_loseOldest_22 : decode cX5_loseOldest 22 = .ok (.aload_n 0, 1) := by decide +kernel
theorem dX5_loseOldest_23 : decode cX5_loseOldest 23 = .ok (.getfield 18, 3) := by decide +kernel
theorem dX5_loseOldest_26 : decode cX5_loseOldest 26 = .ok (.iload_n 2, 1) := by decide +kernel
theorem dX5_loseOldest_27 : decode cX5_loseOldest 27 = .ok (.aaload, 1) := by decide +kernel
theorem dX5_loseOldest_28 : decode cX5_loseOldest 28 = .ok (.aastore, 1) := by decide +kernel
theorem dX5_loseOldest_29 : decode cX5_loseOldest 29 = .ok (.iinc 2 1, 3) := by decide +kernel
theorem dX5_loseOldest_32 : decode cX5_loseOldest 32 = .ok (.goto (-23), 3) := by decide +kernel
theorem dX5_loseOldest_35 : decode cX5_loseOldest 35 = .ok (.aload_n 0, 1) := by decide +kernel
theorem dX5_loseOldest_36 : decode cX5_loseOldest 36 = .ok (.getfield 18, 3) := by decide +kernel
theorem dX5_loseOldest_39 : decode cX5_loseOldest 39 = .ok (.bipush 9, 2) := by decide +kernel
theorem dX5_loseOldest_41 : decode cX5_loseOldest 41 = .ok (.aload_n 1, 1) := by decide +kernel
theorem dX5_loseOldest_42 : decode cX5_loseOldest 42 = .ok (.aastore, 1) := by decide +kernel
theorem dX5_loseOldest_43 : decode cX5_loseOldest 43 = .ok (.aload_n 0, 1) := by decide +kernel
theorem dX5_loseOldest_44 : decode cX5_loseOldest 44 = .ok (.bipush 9, 2) := by decide +kernel
theorem dX5_loseOldest_46 : decode cX5_loseOldest 46 = .ok (.putfield 26, 3) := by decide +kernel
theorem dX5_loseOldest_49 : decode cX5_loseOldest 49 = .ok (.return_, 1) := by decide +kernel
theorem dX5_goBack_0 : decode cX5_goBack 0 = .ok (.aload_n 0, 1) := by decide +kernel
theorem dX5_goBack_1 : decode cX5_goBack 1 = .ok (.getfield 26, 3) := by decide +kernel
theorem dX5_goBack_4 : decode cX5_goBack 4 = .ok (.ifCond .le 29, 3) := by decide +kernel
theorem dX5_goBack_7 : decode cX5_goBack 7 = .ok (.aload_n 0, 1) := by decide +kernel
theorem dX5_goBack_8 : decode cX5_goBack 8 = .ok (.dup, 1) := by decide +kernel
theorem dX5_goBack_9 : decode cX5_goBack 9 = .ok (.getfield 26, 3) := by decide +kernel
theorem dX5_goBack_12 : decode cX5_goBack 12 = .ok (.iconst 1, 1) := by decide +kernel
theorem dX5_goBack_13 : decode cX5_goBack 13 = .ok (.isub, 1) := by decide +kernel
theorem dX5_goBack_14 : decode cX5_goBack 14 = .ok (.putfield 26, 3) := by decide +kernel
theorem dX5_goBack_17 : decode cX5_goBack 17 = .ok (.aload_n 0, 1) := by decide +kernel
theorem dX5_goBack_18 : decode cX5_goBack 18 = .ok (.getfield 12, 3) := by decide +kernel
theorem dX5_goBack_21 : decode cX5_goBack 21 = .ok (.aload_n 0, 1) := by decide +kernel
theorem dX5_goBack_22 : decode cX5_goBack 22 = .ok (.getfield 18, 3) := by decide +kernel
theorem dX5_goBack_25 : decode cX5_goBack 25 = .ok (.aload_n 0, 1) := by decide +kernel
theorem dX5_goBack_26 : decode cX5_goBack 26 = .ok (.getfield 26, 3) := by decide +kernel
theorem dX5_goBack_29 : decode cX5_goBack 29 = .ok (.aaload, 1) := by decide +kernel
