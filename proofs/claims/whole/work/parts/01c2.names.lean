theorem dX5_endByHand_46 : decode cX5_endByHand 46 = .ok (.aload_n 0, 1) := by decide +kernel
theorem dX5_endByHand_47 : decode cX5_endByHand 47 = .ok (.getfield 17, 3) := by decide +kernel
theorem dX5_endByHand_50 : decode cX5_endByHand 50 = .ok (.iload_n 3, 1) := by decide +kernel
theorem dX5_endByHand_51 : decode cX5_endByHand 51 = .ok (.iaload, 1) := by decide +kernel
theorem dX5_endByHand_52 : decode cX5_endByHand 52 = .ok (.ireturn, 1) := by decide +kernel
set_option maxRecDepth 20000 in
theorem ggX5_worstTime_X5_failedOnes : GoodIn wsX5_worstTime wsX5_failedOnes := goodIn_r _ [13, 3, 4, 29, 30, 31, 32, 33, 34, 35, 36, 37, 38, 39, 40, 41, 42, 43] (by decide +kernel) (by decide +kernel)
set_option maxRecDepth 20000 in
theorem gX5_worstTime_X5_failedOnes : GoodIn wsX5_worstTime (wsV RX5 55 RX5 yX5_failedOnes wsX5_failedOnes) := goodIn_app (goodIn_of _ (by decide +kernel)) ggX5_worstTime_X5_failedOnes
set_option maxRecDepth 20000 in
theorem ggX5_worstTime_X5_timeToShut : GoodIn wsX5_worstTime wsX5_timeToShut := goodIn_r _ [17, 18, 3, 19, 4, 20, 2, 5, 6, 7, 8, 21, 22, 23, 24, 25, 26, 27, 12, 28, 29, 30, 31, 32, 33, 34, 35, 36, 37, 38, 39, 40, 41, 42, 43] (by decide +kernel) (by decide +kernel)
set_option maxRecDepth 20000 in
theorem gX5_worstTime_X5_timeToShut : GoodIn wsX5_worstTime (wsV RX5 59 RX5 yX5_timeToShut wsX5_timeToShut) := goodIn_app (goodIn_of _ (by decide +kernel)) ggX5_worstTime_X5_timeToShut
theorem dX5_worstTime_0 : decode cX5_worstTime 0 = .ok (.aload_n 0, 1) := by decide +kernel
theorem dX5_worstTime_1 : decode cX5_worstTime 1 = .ok (.invokevirtual 55, 3) := by decide +kernel
theorem dX5_worstTime_4 : decode cX5_worstTime 4 = .ok (.aload_n 0, 1) := by decide +kernel
theorem dX5_worstTime_5 : decode cX5_worstTime 5 = .ok (.getfield 21, 3) := by decide +kernel
theorem dX5_worstTime_8 : decode cX5_worstTime 8 = .ok (.if_icmp .ne 11, 3) := by decide +kernel
theorem dX5_worstTime_11 : decode cX5_worstTime 11 = .ok (.aload_n 0, 1) := by decide +kernel
theorem dX5_worstTime_12 : decode cX5_worstTime 12 = .ok (.iload_n 1, 1) := by decide +kernel
theorem dX5_worstTime_13 : decode cX5_worstTime 13 = .ok (.ldc 45, 2) := by decide +kernel
theorem dX5_worstTime_15 : decode cX5_worstTime 15 = .ok (.invokevirtual 59, 3) := by decide +kernel
theorem dX5_worstTime_18 : decode cX5_worstTime 18 = .ok (.ireturn, 1) := by decide +kernel
theorem dX5_worstTime_19 : decode cX5_worstTime 19 = .ok (.iconst 0, 1) := by decide +kernel
theorem dX5_worstTime_20 : decode cX5_worstTime 20 = .ok (.istore_n 2, 1) := by decide +kernel
theorem dX5_worstTime_21 : decode cX5_worstTime 21 = .ok (.iconst 0, 1) := by decide +kernel
theorem dX5_worstTime_22 : decode cX5_worstTime 22 = .ok (.istore_n 3, 1) := by decide +kernel
theorem dX5_worstTime_23 : decode cX5_worstTime 23 = .ok (.iload_n 3, 1) := by decide +kernel
theorem dX5_worstTime_24 : decode cX5_worstTime 24 = .ok (.bipush 6, 2) := by decide +kernel
theorem dX5_worstTime_26 : decode cX5_worstTime 26 = .ok (.if_icmp .ge 58, 3) := by decide +kernel
theorem dX5_worstTime_29 : decode cX5_worstTime 29 = .ok (.aload_n 0, 1) := by decide +kernel
theorem dX5_worstTime_30 : decode cX5_worstTime 30 = .ok (.getfield 11, 3) := by decide +kernel
theorem dX5_worstTime_33 : decode cX5_worstTime 33 = .ok (.iload_n 3, 1) := by decide +kernel
theorem dX5_worstTime_34 : decode cX5_worstTime 34 = .ok (.aaload, 1) := by decide +kernel
theorem dX5_worstTime_35 : decode cX5_worstTime 35 = .ok (.astore 4, 2) := by decide +kernel
theorem dX5_worstTime_37 : decode cX5_worstTime 37 = .ok (.aload 4, 2) := by decide +kernel
theorem dX5_worstTime_39 : decode cX5_worstTime 39 = .ok (.ifnull 39, 3) := by decide +kernel
theorem dX5_worstTime_42 : decode cX5_worstTime 42 = .ok (.aload 4, 2) := by decide +kernel
theorem dX5_worstTime_44 : decode cX5_worstTime 44 = .ok (.getfield 29, 3) := by decide +kernel
theorem dX5_worstTime_47 : decode cX5_worstTime 47 = .ok (.ifCond .eq 6, 3) := by decide +kernel
theorem dX5_worstTime_50 : decode cX5_worstTime 50 = .ok (.goto 28, 3) := by decide +kernel
theorem dX5_worstTime_53 : decode cX5_worstTime 53 = .ok (.aload_n 0, 1) := by decide +kernel
theorem dX5_worstTime_54 : decode cX5_worstTime 54 = .ok (.iload_n 1, 1) := by decide +kernel
theorem dX5_worstTime_55 : decode cX5_worstTime 55 = .ok (.iload_n 3, 1) := by decide +kernel
theorem dX5_worstTime_56 : decode cX5_worstTime 56 = .ok (.invokevirtual 59, 3) := by decide +kernel
theorem dX5_worstTime_59 : decode cX5_worstTime 59 = .ok (.istore 5, 2) := by decide +kernel
theorem dX5_worstTime_61 : decode cX5_worstTime 61 = .ok (.iload 5, 2) := by decide +kernel
theorem dX5_worstTime_63 : decode cX5_worstTime 63 = .ok (.ldc 45, 2) := by decide +kernel
theorem dX5_worstTime_65 : decode cX5_worstTime 65 = .ok (.if_icmp .ne 6, 3) := by decide +kernel
theorem dX5_worstTime_68 : decode cX5_worstTime 68 = .ok (.ldc 45, 2) := by decide +kernel
theorem dX5_worstTime_70 : decode cX5_worstTime 70 = .ok (.ireturn, 1) := by decide +kernel
theorem dX5_worstTime_71 : decode cX5_worstTime 71 = .ok (.iload_n 2, 1) := by decide +kernel
theorem dX5_worstTime_72 : decode cX5_worstTime 72 = .ok (.iload 5, 2) := by decide +kernel
theorem dX5_worstTime_74 : decode cX5_worstTime 74 = .ok (.invokestatic 50, 3) := by decide +kernel
theorem dX5_worstTime_77 : decode cX5_worstTime 77 = .ok (.istore_n 2, 1) := by decide +kernel
theorem dX5_worstTime_78 : decode cX5_worstTime 78 = .ok (.iinc 3 1, 3) := by decide +kernel
theorem dX5_worstTime_81 : decode cX5_worstTime 81 = .ok (.goto (-58), 3) := by decide +kernel
theorem dX5_worstTime_84 : decode cX5_worstTime 84 = .ok (.iload_n 2, 1) := by decide +kernel
theorem dX5_worstTime_85 : decode cX5_worstTime 85 = .ok (.ireturn, 1) := by decide +kernel
theorem dX6_init_0 : decode cX6_init 0 = .ok (.aload_n 0, 1) := by decide +kernel
theorem dX6_init_1 : decode cX6_init 1 = .ok (.invokespecial 3, 3) := by decide +kernel
theorem dX6_init_4 : decode cX6_init 4 = .ok (.aload_n 0, 1) := by decide +kernel
theorem dX6_init_5 : decode cX6_init 5 = .ok (.bipush 8, 2) := by decide +kernel
theorem dX6_init_7 : decode cX6_init 7 = .ok (.newarray .int, 2) := by decide +kernel
theorem dX6_init_9 : decode cX6_init 9 = .ok (.putfield 9, 3) := by decide +kernel
theorem dX6_init_12 : decode cX6_init 12 = .ok (.aload_n 0, 1) := by decide +kernel
theorem dX6_init_13 : decode cX6_init 13 = .ok (.bipush 8, 2) := by decide +kernel
theorem dX6_init_15 : decode cX6_init 15 = .ok (.bipush 8, 2) := by decide +kernel
theorem dX6_init_17 : decode cX6_init 17 = .ok (.multianewarray 15 2, 4) := by decide +kernel
theorem dX6_init_21 : decode cX6_init 21 = .ok (.putfield 17, 3) := by decide +kernel
theorem dX6_init_24 : decode cX6_init 24 = .ok (.aload_n 0, 1) := by decide +kernel
theorem dX6_init_25 : decode cX6_init 25 = .ok (.bipush 8, 2) := by decide +kernel
theorem dX6_init_27 : decode cX6_init 27 = .ok (.bipush 8, 2) := by decide +kernel
theorem dX6_init_29 : decode cX6_init 29 = .ok (.multianewarray 15 2, 4) := by decide +kernel
theorem dX6_init_33 : decode cX6_init 33 = .ok (.putfield 20, 3) := by decide +kernel
theorem dX6_init_36 : decode cX6_init 36 = .ok (.aload_n 0, 1) := by decide +kernel
theorem dX6_init_37 : decode cX6_init 37 = .ok (.iconst 0, 1) := by decide +kernel
theorem dX6_init_38 : decode cX6_init 38 = .ok (.putfield 23, 3) := by decide +kernel
theorem dX6_init_41 : decode cX6_init 41 = .ok (.return_, 1) := by decide +kernel
set_option maxRecDepth 20000 in
theorem ggX6_add_X6_headOf : GoodIn wsX6_add wsX6_headOf := goodIn_r _ [13, 14, 15, 16, 12, 17, 2, 18, 19, 20, 21] (by decide +kernel) (by decide +kernel)
set_option maxRecDepth 20000 in
theorem gX6_add_X6_headOf : GoodIn wsX6_add (wsV RX6 33 RX6 yX6_headOf wsX6_headOf) := goodIn_app (goodIn_of _ (by decide +kernel)) ggX6_add_X6_headOf
theorem dX6_add_0 : decode cX6_add 0 = .ok (.aload_n 0, 1) := by decide +kernel
theorem dX6_add_1 : decode cX6_add 1 = .ok (.getfield 23, 3) := by decide +kernel
theorem dX6_add_4 : decode cX6_add 4 = .ok (.istore 4, 2) := by decide +kernel
theorem dX6_add_6 : decode cX6_add 6 = .ok (.aload_n 2, 1) := by decide +kernel
theorem dX6_add_7 : decode cX6_add 7 = .ok (.iload_n 3, 1) := by decide +kernel
theorem dX6_add_8 : decode cX6_add 8 = .ok (.aload_n 0, 1) := by decide +kernel
theorem dX6_add_9 : decode cX6_add 9 = .ok (.getfield 17, 3) := by decide +kernel
theorem dX6_add_12 : decode cX6_add 12 = .ok (.iload 4, 2) := by decide +kernel
theorem dX6_add_14 : decode cX6_add 14 = .ok (.aaload, 1) := by decide +kernel
theorem dX6_add_15 : decode cX6_add 15 = .ok (.iconst 0, 1) := by decide +kernel
theorem dX6_add_16 : decode cX6_add 16 = .ok (.bipush 8, 2) := by decide +kernel
theorem dX6_add_18 : decode cX6_add 18 = .ok (.invokestatic 27, 3) := by decide +kernel
theorem dX6_add_21 : decode cX6_add 21 = .ok (.aload_n 0, 1) := by decide +kernel
theorem dX6_add_22 : decode cX6_add 22 = .ok (.getfield 9, 3) := by decide +kernel
theorem dX6_add_25 : decode cX6_add 25 = .ok (.iload 4, 2) := by decide +kernel
theorem dX6_add_27 : decode cX6_add 27 = .ok (.iload_n 1, 1) := by decide +kernel
theorem dX6_add_28 : decode cX6_add 28 = .ok (.iastore, 1) := by decide +kernel
theorem dX6_add_29 : decode cX6_add 29 = .ok (.iconst 0, 1) := by decide +kernel
theorem dX6_add_30 : decode cX6_add 30 = .ok (.istore 5, 2) := by decide +kernel
theorem dX6_add_32 : decode cX6_add 32 = .ok (.iload 5, 2) := by decide +kernel
theorem dX6_add_34 : decode cX6_add 34 = .ok (.bipush 8, 2) := by decide +kernel
theorem dX6_add_36 : decode cX6_add 36 = .ok (.if_icmp .ge 27, 3) := by decide +kernel
theorem dX6_add_39 : decode cX6_add 39 = .ok (.aload_n 0, 1) := by decide +kernel
theorem dX6_add_40 : decode cX6_add 40 = .ok (.getfield 20, 3) := by decide +kernel
theorem dX6_add_43 : decode cX6_add 43 = .ok (.iload 5, 2) := by decide +kernel
theorem dX6_add_45 : decode cX6_add 45 = .ok (.aaload, 1) := by decide +kernel
theorem dX6_add_46 : decode cX6_add 46 = .ok (.iload 4, 2) := by decide +kernel
theorem dX6_add_48 : decode cX6_add 48 = .ok (.aload_n 0, 1) := by decide +kernel
theorem dX6_add_49 : decode cX6_add 49 = .ok (.iload 4, 2) := by decide +kernel
theorem dX6_add_51 : decode cX6_add 51 = .ok (.iload 5, 2) := by decide +kernel
theorem dX6_add_53 : decode cX6_add 53 = .ok (.invokevirtual 33, 3) := by decide +kernel
theorem dX6_add_56 : decode cX6_add 56 = .ok (.iastore, 1) := by decide +kernel
theorem dX6_add_57 : decode cX6_add 57 = .ok (.iinc 5 1, 3) := by decide +kernel
theorem dX6_add_60 : decode cX6_add 60 = .ok (.goto (-28), 3) := by decide +kernel
theorem dX6_add_63 : decode cX6_add 63 = .ok (.aload_n 0, 1) := by decide +kernel
theorem dX6_add_64 : decode cX6_add 64 = .ok (.dup, 1) := by decide +kernel
theorem dX6_add_65 : decode cX6_add 65 = .ok (.getfield 23, 3) := by decide +kernel
theorem dX6_add_68 : decode cX6_add 68 = .ok (.iconst 1, 1) := by decide +kernel
theorem dX6_add_69 : decode cX6_add 69 = .ok (.iadd, 1) := by decide +kernel
theorem dX6_add_70 : decode cX6_add 70 = .ok (.putfield 23, 3) := by decide +kernel
theorem dX6_add_73 : decode cX6_add 73 = .ok (.iload 4, 2) := by decide +kernel
theorem dX6_add_75 : decode cX6_add 75 = .ok (.ireturn, 1) := by decide +kernel
set_option maxRecDepth 20000 in
theorem ggX6_headOf_X6_areAlike : GoodIn wsX6_headOf wsX6_areAlike := goodIn_r _ [5, 6, 7, 8, 9, 10] (by decide +kernel) (by decide +kernel)
set_option maxRecDepth 20000 in
theorem gX6_headOf_X6_areAlike : GoodIn wsX6_headOf (wsV RX6 37 RX6 yX6_areAlike wsX6_areAlike) := goodIn_app (goodIn_of _ (by decide +kernel)) ggX6_headOf_X6_areAlike
theorem dX6_headOf_0 : decode cX6_headOf 0 = .ok (.iconst 0, 1) := by decide +kernel
theorem dX6_headOf_1 : decode cX6_headOf 1 = .ok (.istore_n 3, 1) := by decide +kernel
theorem dX6_headOf_2 : decode cX6_headOf 2 = .ok (.iload_n 3, 1) := by decide +kernel
theorem dX6_headOf_3 : decode cX6_headOf 3 = .ok (.iload_n 1, 1) := by decide +kernel
theorem dX6_headOf_4 : decode cX6_headOf 4 = .ok (.if_icmp .ge 19, 3) := by decide +kernel
theorem dX6_headOf_7 : decode cX6_headOf 7 = .ok (.aload_n 0, 1) := by decide +kernel
theorem dX6_headOf_8 : decode cX6_headOf 8 = .ok (.iload_n 3, 1) := by decide +kernel
theorem dX6_headOf_9 : decode cX6_headOf 9 = .ok (.iload_n 1, 1) := by decide +kernel
theorem dX6_headOf_10 : decode cX6_headOf 10 = .ok (.iload_n 2, 1) := by decide +kernel
theorem dX6_headOf_11 : decode cX6_headOf 11 = .ok (.invokevirtual 37, 3) := by decide +kernel
theorem dX6_headOf_14 : decode cX6_headOf 14 = .ok (.ifCond .ne 9, 3) := by decide +kernel
theorem dX6_headOf_17 : decode cX6_headOf 17 = .ok (.iinc 3 1, 3) := by decide +kernel
theorem dX6_headOf_20 : decode cX6_headOf 20 = .ok (.goto (-18), 3) := by decide +kernel
theorem dX6_headOf_23 : decode cX6_headOf 23 = .ok (.iload_n 3, 1) := by decide +kernel
theorem dX6_headOf_24 : decode cX6_headOf 24 = .ok (.ireturn, 1) := by decide +kernel
theorem dX6_areAlike_0 : decode cX6_areAlike 0 = .ok (.iconst 0, 1) := by decide +kernel
theorem dX6_areAlike_1 : decode cX6_areAlike 1 = .ok (.istore 4, 2) := by decide +kernel
theorem dX6_areAlike_3 : decode cX6_areAlike 3 = .ok (.iload 4, 2) := by decide +kernel
theorem dX6_areAlike_5 : decode cX6_areAlike 5 = .ok (.iload_n 3, 1) := by decide +kernel
theorem dX6_areAlike_6 : decode cX6_areAlike 6 = .ok (.if_icmp .gt 32, 3) := by decide +kernel
theorem dX6_areAlike_9 : decode cX6_areAlike 9 = .ok (.aload_n 0, 1) := by decide +kernel
theorem dX6_areAlike_10 : decode cX6_areAlike 10 = .ok (.getfield 17, 3) := by decide +kernel
theorem dX6_areAlike_13 : decode cX6_areAlike 13 = .ok (.iload_n 1, 1) := by decide +kernel
theorem dX6_areAlike_14 : decode cX6_areAlike 14 = .ok (.aaload, 1) := by decide +kernel
theorem dX6_areAlike_15 : decode cX6_areAlike 15 = .ok (.iload 4, 2) := by decide +kernel
theorem dX6_areAlike_17 : decode cX6_areAlike 17 = .ok (.iaload, 1) := by decide +kernel
theorem dX6_areAlike_18 : decode cX6_areAlike 18 = .ok (.aload_n 0, 1) := by decide +kernel
theorem dX6_areAlike_19 : decode cX6_areAlike 19 = .ok (.getfield 17, 3) := by decide +kernel
theorem dX6_areAlike_22 : decode cX6_areAlike 22 = .ok (.iload_n 2, 1) := by decide +kernel
theorem dX6_areAlike_23 : decode cX6_areAlike 23 = .ok (.aaload, 1) := by decide +kernel
theorem dX6_areAlike_24 : decode cX6_areAlike 24 = .ok (.iload 4, 2) := by decide +kernel
theorem dX6_areAlike_26 : decode cX6_areAlike 26 = .ok (.iaload, 1) := by decide +kernel
theorem dX6_areAlike_27 : decode cX6_areAlike 27 = .ok (.if_icmp .eq 5, 3) := by decide +kernel
theorem dX6_areAlike_30 : decode cX6_areAlike 30 = .ok (.iconst 0, 1) := by decide +kernel
theorem dX6_areAlike_31 : decode cX6_areAlike 31 = .ok (.ireturn, 1) := by decide +kernel
theorem dX6_areAlike_32 : decode cX6_areAlike 32 = .ok (.iinc 4 1, 3) := by decide +kernel
theorem dX6_areAlike_35 : decode cX6_areAlike 35 = .ok (.goto (-32), 3) := by decide +kernel
theorem dX6_areAlike_38 : decode cX6_areAlike 38 = .ok (.iconst 1, 1) := by decide +kernel
theorem dX6_areAlike_39 : decode cX6_areAlike 39 = .ok (.ireturn, 1) := by decide +kernel
theorem dX6_groupsAt_0 : decode cX6_groupsAt 0 = .ok (.iconst 0, 1) := by decide +kernel
theorem dX6_groupsAt_1 : decode cX6_groupsAt 1 = .ok (.istore_n 2, 1) := by decide +kernel
theorem dX6_groupsAt_2 : decode cX6_groupsAt 2 = .ok (.iconst 0, 1) := by decide +kernel
theorem dX6_groupsAt_3 : decode cX6_groupsAt 3 = .ok (.istore_n 3, 1) := by decide +kernel
theorem dX6_groupsAt_4 : decode cX6_groupsAt 4 = .ok (.iload_n 3, 1) := by decide +kernel
theorem dX6_groupsAt_5 : decode cX6_groupsAt 5 = .ok (.aload_n 0, 1) := by decide +kernel
theorem dX6_groupsAt_6 : decode cX6_groupsAt 6 = .ok (.getfield 23, 3) := by decide +kernel
theorem dX6_groupsAt_9 : decode cX6_groupsAt 9 = .ok (.if_icmp .ge 24, 3) := by decide +kernel
theorem dX6_groupsAt_12 : decode cX6_groupsAt 12 = .ok (.aload_n 0, 1) := by decide +kernel
theorem dX6_groupsAt_13 : decode cX6_groupsAt 13 = .ok (.getfield 20, 3) := by decide +kernel
theorem dX6_groupsAt_16 : decode cX6_groupsAt 16 = .ok (.iload_n 1, 1) := by decide +kernel
theorem dX6_groupsAt_17 : decode cX6_groupsAt 17 = .ok (.aaload, 1) := by decide +kernel
theorem dX6_groupsAt_18 : decode cX6_groupsAt 18 = .ok (.iload_n 3, 1) := by decide +kernel
theorem dX6_groupsAt_19 : decode cX6_groupsAt 19 = .ok (.iaload, 1) := by decide +kernel
theorem dX6_groupsAt_20 : decode cX6_groupsAt 20 = .ok (.iload_n 3, 1) := by decide +kernel
theorem dX6_groupsAt_21 : decode cX6_groupsAt 21 = .ok (.if_icmp .ne 6, 3) := by decide +kernel
theorem dX6_groupsAt_24 : decode cX6_groupsAt 24 = .ok (.iinc 2 1, 3) := by decide +kernel
theorem dX6_groupsAt_27 : decode cX6_groupsAt 27 = .ok (.iinc 3 1, 3) := by decide +kernel
theorem dX6_groupsAt_30 : decode cX6_groupsAt 30 = .ok (.goto (-26), 3) := by decide +kernel
theorem dX6_groupsAt_33 : decode cX6_groupsAt 33 = .ok (.iload_n 2, 1) := by decide +kernel
theorem dX6_groupsAt_34 : decode cX6_groupsAt 34 = .ok (.ireturn, 1) := by decide +kernel
theorem dX6_weightOfGroup_0 : decode cX6_weightOfGroup 0 = .ok (.iconst 0, 1) := by decide +kernel
theorem dX6_weightOfGroup_1 : decode cX6_weightOfGroup 1 = .ok (.istore_n 3, 1) := by decide +kernel
theorem dX6_weightOfGroup_2 : decode cX6_weightOfGroup 2 = .ok (.iload_n 2, 1) := by decide +kernel
theorem dX6_weightOfGroup_3 : decode cX6_weightOfGroup 3 = .ok (.istore 4, 2) := by decide +kernel
theorem dX6_weightOfGroup_5 : decode cX6_weightOfGroup 5 = .ok (.iload 4, 2) := by decide +kernel
theorem dX6_weightOfGroup_7 : decode cX6_weightOfGroup 7 = .ok (.aload_n 0, 1) := by decide +kernel
theorem dX6_weightOfGroup_8 : decode cX6_weightOfGroup 8 = .ok (.getfield 23, 3) := by decide +kernel
theorem dX6_weightOfGroup_11 : decode cX6_weightOfGroup 11 = .ok (.if_icmp .ge 32, 3) := by decide +kernel
theorem dX6_weightOfGroup_14 : decode cX6_weightOfGroup 14 = .ok (.aload_n 0, 1) := by decide +kernel
theorem dX6_weightOfGroup_15 : decode cX6_weightOfGroup 15 = .ok (.getfield 20, 3) := by decide +kernel
theorem dX6_weightOfGroup_18 : decode cX6_weightOfGroup 18 = .ok (.iload_n 1, 1) := by decide +kernel
theorem dX6_weightOfGroup_19 : decode cX6_weightOfGroup 19 = .ok (.aaload, 1) := by decide +kernel
theorem dX6_weightOfGroup_20 : decode cX6_weightOfGroup 20 = .ok (.iload 4, 2) := by decide +kernel
theorem dX6_weightOfGroup_22 : decode cX6_weightOfGroup 22 = .ok (.iaload, 1) := by decide +kernel
theorem dX6_weightOfGroup_23 : decode cX6_weightOfGroup 23 = .ok (.iload_n 2, 1) := by decide +kernel
theorem dX6_weightOfGroup_24 : decode cX6_weightOfGroup 24 = .ok (.if_icmp .ne 13, 3) := by decide +kernel
theorem dX6_weightOfGroup_27 : decode cX6_weightOfGroup 27 = .ok (.iload_n 3, 1) := by decide +kernel
theorem dX6_weightOfGroup_28 : decode cX6_weightOfGroup 28 = .ok (.aload_n 0, 1) := by decide +kernel
theorem dX6_weightOfGroup_29 : decode cX6_weightOfGroup 29 = .ok (.getfield 9, 3) := by decide +kernel
theorem dX6_weightOfGroup_32 : decode cX6_weightOfGroup 32 = .ok (.iload 4, 2) := by decide +kernel
theorem dX6_weightOfGroup_34 : decode cX6_weightOfGroup 34 = .ok (.iaload, 1) := by decide +kernel
theorem dX6_weightOfGroup_35 : decode cX6_weightOfGroup 35 = .ok (.iadd, 1) := by decide +kernel
theorem dX6_weightOfGroup_36 : decode cX6_weightOfGroup 36 = .ok (.istore_n 3, 1) := by decide +kernel
theorem dX6_weightOfGroup_37 : decode cX6_weightOfGroup 37 = .ok (.iinc 4 1, 3) := by decide +kernel
theorem dX6_weightOfGroup_40 : decode cX6_weightOfGroup 40 = .ok (.goto (-35), 3) := by decide +kernel
theorem dX6_weightOfGroup_43 : decode cX6_weightOfGroup 43 = .ok (.iload_n 3, 1) := by decide +kernel
theorem dX6_weightOfGroup_44 : decode cX6_weightOfGroup 44 = .ok (.ireturn, 1) := by decide +kernel
theorem dX6_allWeights_0 : decode cX6_allWeights 0 = .ok (.iconst 0, 1) := by decide +kernel
theorem dX6_allWeights_1 : decode cX6_allWeights 1 = .ok (.istore_n 1, 1) := by decide +kernel
theorem dX6_allWeights_2 : decode cX6_allWeights 2 = .ok (.iconst 0, 1) := by decide +kernel
theorem dX6_allWeights_3 : decode cX6_allWeights 3 = .ok (.istore_n 2, 1) := by decide +kernel
theorem dX6_allWeights_4 : decode cX6_allWeights 4 = .ok (.iload_n 2, 1) := by decide +kernel
theorem dX6_allWeights_5 : decode cX6_allWeights 5 = .ok (.aload_n 0, 1) := by decide +kernel
theorem dX6_allWeights_6 : decode cX6_allWeights 6 = .ok (.getfield 23, 3) := by decide +kernel
theorem dX6_allWeights_9 : decode cX6_allWeights 9 = .ok (.if_icmp .ge 18, 3) := by decide +kernel
theorem dX6_allWeights_12 : decode cX6_allWeights 12 = .ok (.iload_n 1, 1) := by decide +kernel
theorem dX6_allWeights_13 : decode cX6_allWeights 13 = .ok (.aload_n 0, 1) := by decide +kernel
theorem dX6_allWeights_14 : decode cX6_allWeights 14 = .ok (.getfield 9, 3) := by decide +kernel
theorem dX6_allWeights_17 : decode cX6_allWeights 17 = .ok (.iload_n 2, 1) := by decide +kernel
theorem dX6_allWeights_18 : decode cX6_allWeights 18 = .ok (.iaload, 1) := by decide +kernel
theorem dX6_allWeights_19 : decode cX6_allWeights 19 = .ok (.iadd, 1) := by decide +kernel
theorem dX6_allWeights_20 : decode cX6_allWeights 20 = .ok (.istore_n 1, 1) := by decide +kernel
theorem dX6_allWeights_21 : decode cX6_allWeights 21 = .ok (.iinc 2 1, 3) := by decide +kernel
theorem dX6_allWeights_24 : decode cX6_allWeights 24 = .ok (.goto (-20), 3) := by decide +kernel
theorem dX6_allWeights_27 : decode cX6_allWeights 27 = .ok (.iload_n 1, 1) := by decide +kernel
theorem dX6_allWeights_28 : decode cX6_allWeights 28 = .ok (.ireturn, 1) := by decide +kernel
theorem dX6_firstAbove_0 : decode cX6_firstAbove 0 = .ok (.iconst 0, 1) := by decide +kernel
theorem dX6_firstAbove_1 : decode cX6_firstAbove 1 = .ok (.istore_n 2, 1) := by decide +kernel
theorem dX6_firstAbove_2 : decode cX6_firstAbove 2 = .ok (.iload_n 2, 1) := by decide +kernel
theorem dX6_firstAbove_3 : decode cX6_firstAbove 3 = .ok (.bipush 8, 2) := by decide +kernel
theorem dX6_firstAbove_5 : decode cX6_firstAbove 5 = .ok (.if_icmp .ge 39, 3) := by decide +kernel
theorem dX6_firstAbove_8 : decode cX6_firstAbove 8 = .ok (.iconst 0, 1) := by decide +kernel
theorem dX6_firstAbove_9 : decode cX6_firstAbove 9 = .ok (.istore_n 3, 1) := by decide +kernel
theorem dX6_firstAbove_10 : decode cX6_firstAbove 10 = .ok (.iload_n 3, 1) := by decide +kernel
theorem dX6_firstAbove_11 : decode cX6_firstAbove 11 = .ok (.aload_n 0, 1) := by decide +kernel
theorem dX6_firstAbove_12 : decode cX6_firstAbove 12 = .ok (.getfield 23, 3) := by decide +kernel
theorem dX6_firstAbove_15 : decode cX6_firstAbove 15 = .ok (.if_icmp .ge 23, 3) := by decide +kernel
theorem dX6_firstAbove_18 : decode cX6_firstAbove 18 = .ok (.aload_n 0, 1) := by decide +kernel
theorem dX6_firstAbove_19 : decode cX6_firstAbove 19 = .ok (.getfield 17, 3) := by decide +kernel
theorem dX6_firstAbove_22 : decode cX6_firstAbove 22 = .ok (.iload_n 3, 1) := by decide +kernel
theorem dX6_firstAbove_23 : decode cX6_firstAbove 23 = .ok (.aaload, 1) := by decide +kernel
theorem dX6_firstAbove_24 : decode cX6_firstAbove 24 = .ok (.iload_n 2, 1) := by decide +kernel
theorem dX6_firstAbove_25 : decode cX6_firstAbove 25 = .ok (.iaload, 1) := by decide +kernel
theorem dX6_firstAbove_26 : decode cX6_firstAbove 26 = .ok (.iload_n 1, 1) := by decide +kernel
theorem dX6_firstAbove_27 : decode cX6_firstAbove 27 = .ok (.if_icmp .le 5, 3) := by decide +kernel
theorem dX6_firstAbove_30 : decode cX6_firstAbove 30 = .ok (.iload_n 2, 1) := by decide +kernel
theorem dX6_firstAbove_31 : decode cX6_firstAbove 31 = .ok (.ireturn, 1) := by decide +kernel
theorem dX6_firstAbove_32 : decode cX6_firstAbove 32 = .ok (.iinc 3 1, 3) := by decide +kernel
theorem dX6_firstAbove_35 : decode cX6_firstAbove 35 = .ok (.goto (-25), 3) := by decide +kernel
theorem dX6_firstAbove_38 : decode cX6_firstAbove 38 = .ok (.iinc 2 1, 3) := by decide +kernel
theorem dX6_firstAbove_41 : decode cX6_firstAbove 41 = .ok (.goto (-39), 3) := by decide +kernel
theorem dX6_firstAbove_44 : decode cX6_firstAbove 44 = .ok (.bipush 8, 2) := by decide +kernel
theorem dX6_firstAbove_46 : decode cX6_firstAbove 46 = .ok (.ireturn, 1) := by decide +kernel
set_option maxRecDepth 20000 in
theorem ggX7_init_J7_fill_53178 : GoodIn wsX7_init wsJ7_fill_53178 := goodIn_r _ [12] (by decide +kernel) (by decide +kernel)
set_option maxRecDepth 20000 in
theorem gX7_init_J7_fill_53178 : GoodIn wsX7_init (va_wsS RX7 23 yJ7_fill_53178 wsJ7_fill_53178) := goodIn_app (goodIn_of _ (by decide +kernel)) ggX7_init_J7_fill_53178
theorem dX7_init_0 : decode cX7_init 0 = .ok (.aload_n 0, 1) := by decide +kernel
theorem dX7_init_1 : decode cX7_init 1 = .ok (.invokespecial 3, 3) := by decide +kernel
theorem dX7_init_4 : decode cX7_init 4 = .ok (.aload_n 0, 1) := by decide +kernel
theorem dX7_init_5 : decode cX7_init 5 = .ok (.bipush 8, 2) := by decide +kernel
theorem dX7_init_7 : decode cX7_init 7 = .ok (.bipush 60, 2) := by decide +kernel
theorem dX7_init_9 : decode cX7_init 9 = .ok (.multianewarray 9 2, 4) := by decide +kernel
theorem dX7_init_13 : decode cX7_init 13 = .ok (.putfield 11, 3) := by decide +kernel
theorem dX7_init_16 : decode cX7_init 16 = .ok (.aload_n 0, 1) := by decide +kernel
theorem dX7_init_17 : decode cX7_init 17 = .ok (.bipush 8, 2) := by decide +kernel
theorem dX7_init_19 : decode cX7_init 19 = .ok (.newarray .int, 2) := by decide +kernel
theorem dX7_init_21 : decode cX7_init 21 = .ok (.putfield 16, 3) := by decide +kernel
theorem dX7_init_24 : decode cX7_init 24 = .ok (.aload_n 0, 1) := by decide +kernel
theorem dX7_init_25 : decode cX7_init 25 = .ok (.bipush 8, 2) := by decide +kernel
theorem dX7_init_27 : decode cX7_init 27 = .ok (.newarray .int, 2) := by decide +kernel
theorem dX7_init_29 : decode cX7_init 29 = .ok (.putfield 20, 3) := by decide +kernel
theorem dX7_init_32 : decode cX7_init 32 = .ok (.aload_n 0, 1) := by decide +kernel
theorem dX7_init_33 : decode cX7_init 33 = .ok (.getfield 20, 3) := by decide +kernel
theorem dX7_init_36 : decode cX7_init 36 = .ok (.iconst (-1), 1) := by decide +kernel
theorem dX7_init_37 : decode cX7_init 37 = .ok (.invokestatic 23, 3) := by decide +kernel
theorem dX7_init_40 : decode cX7_init 40 = .ok (.return_, 1) := by decide +kernel
theorem dX7_isMissing_0 : decode cX7_isMissing 0 = .ok (.aload_n 0, 1) := by decide +kernel
theorem dX7_isMissing_1 : decode cX7_isMissing 1 = .ok (.getfield 20, 3) := by decide +kernel
theorem dX7_isMissing_4 : decode cX7_isMissing 4 = .ok (.iload_n 1, 1) := by decide +kernel
theorem dX7_isMissing_5 : decode cX7_isMissing 5 = .ok (.iaload, 1) := by decide +kernel
theorem dX7_isMissing_6 : decode cX7_isMissing 6 = .ok (.iconst (-1), 1) := by decide +kernel
theorem dX7_isMissing_7 : decode cX7_isMissing 7 = .ok (.if_icmp .ne 7, 3) := by decide +kernel
theorem dX7_isMissing_10 : decode cX7_isMissing 10 = .ok (.iconst 1, 1) := by decide +kernel
theorem dX7_isMissing_11 : decode cX7_isMissing 11 = .ok (.goto 4, 3) := by decide +kernel
theorem dX7_isMissing_14 : decode cX7_isMissing 14 = .ok (.iconst 0, 1) := by decide +kernel
theorem dX7_isMissing_15 : decode cX7_isMissing 15 = .ok (.ireturn, 1) := by decide +kernel
set_option maxRecDepth 20000 in
theorem ggX7_lay_J7_fill_53178 : GoodIn wsX7_lay wsJ7_fill_53178 := goodIn_r _ [7] (by decide +kernel) (by decide +kernel)
set_option maxRecDepth 20000 in
theorem gX7_lay_J7_fill_53178 : GoodIn wsX7_lay (va_wsS RX7 23 yJ7_fill_53178 wsJ7_fill_53178) := goodIn_app (goodIn_of _ (by decide +kernel)) ggX7_lay_J7_fill_53178
theorem dX7_lay_0 : decode cX7_lay 0 = .ok (.aload_n 0, 1) := by decide +kernel
theorem dX7_lay_1 : decode cX7_lay 1 = .ok (.getfield 16, 3) := by decide +kernel
theorem dX7_lay_4 : decode cX7_lay 4 = .ok (.iload_n 1, 1) := by decide +kernel
theorem dX7_lay_5 : decode cX7_lay 5 = .ok (.iload_n 2, 1) := by decide +kernel
theorem dX7_lay_6 : decode cX7_lay 6 = .ok (.iastore, 1) := by decide +kernel
theorem dX7_lay_7 : decode cX7_lay 7 = .ok (.aload_n 0, 1) := by decide +kernel
theorem dX7_lay_8 : decode cX7_lay 8 = .ok (.getfield 20, 3) := by decide +kernel
theorem dX7_lay_11 : decode cX7_lay 11 = .ok (.iload_n 1, 1) := by decide +kernel
theorem dX7_lay_12 : decode cX7_lay 12 = .ok (.iload_n 3, 1) := by decide +kernel
theorem dX7_lay_13 : decode cX7_lay 13 = .ok (.iastore, 1) := by decide +kernel
theorem dX7_lay_14 : decode cX7_lay 14 = .ok (.aload_n 0, 1) := by decide +kernel
theorem dX7_lay_15 : decode cX7_lay 15 = .ok (.getfield 11, 3) := by decide +kernel
theorem dX7_lay_18 : decode cX7_lay 18 = .ok (.iload_n 1, 1) := by decide +kernel
theorem dX7_lay_19 : decode cX7_lay 19 = .ok (.aaload, 1) := by decide +kernel
theorem dX7_lay_20 : decode cX7_lay 20 = .ok (.iconst 0, 1) := by decide +kernel
theorem dX7_lay_21 : decode cX7_lay 21 = .ok (.invokestatic 23, 3) := by decide +kernel
theorem dX7_lay_24 : decode cX7_lay 24 = .ok (.return_, 1) := by decide +kernel
theorem dX7_takeAway_0 : decode cX7_takeAway 0 = .ok (.aload_n 0, 1) := by decide +kernel
theorem dX7_takeAway_1 : decode cX7_takeAway 1 = .ok (.getfield 20, 3) := by decide +kernel
theorem dX7_takeAway_4 : decode cX7_takeAway 4 = .ok (.iload_n 1, 1) := by decide +kernel
theorem dX7_takeAway_5 : decode cX7_takeAway 5 = .ok (.iaload, 1) := by decide +kernel
theorem dX7_takeAway_6 : decode cX7_takeAway 6 = .ok (.istore_n 2, 1) := by decide +kernel
theorem dX7_takeAway_7 : decode cX7_takeAway 7 = .ok (.aload_n 0, 1) := by decide +kernel
theorem dX7_takeAway_8 : decode cX7_takeAway 8 = .ok (.getfield 20, 3) := by decide +kernel
theorem dX7_takeAway_11 : decode cX7_takeAway 11 = .ok (.iload_n 1, 1) := by decide +kernel
theorem dX7_takeAway_12 : decode cX7_takeAway 12 = .ok (.iconst (-1), 1) := by decide +kernel
theorem dX7_takeAway_13 : decode cX7_takeAway 13 = .ok (.iastore, 1) := by decide +kernel
theorem dX7_takeAway_14 : decode cX7_takeAway 14 = .ok (.iload_n 2, 1) := by decide +kernel
theorem dX7_takeAway_15 : decode cX7_takeAway 15 = .ok (.ireturn, 1) := by decide +kernel
set_option maxRecDepth 20000 in
theorem ggX7_look_X7_isMissing : GoodIn wsX7_look wsX7_isMissing := goodIn_r _ [5, 6, 11, 12, 13] (by decide +kernel) (by decide +kernel)
set_option maxRecDepth 20000 in
theorem gX7_look_X7_isMissing : GoodIn wsX7_look (wsV RX7 29 RX7 yX7_isMissing wsX7_isMissing) := goodIn_app (goodIn_of _ (by decide +kernel)) ggX7_look_X7_isMissing
set_option maxRecDepth 20000 in
theorem ggX7_look_X7_hasPlaces : GoodIn wsX7_look wsX7_hasPlaces := goodIn_r _ [10, 6, 11, 12, 13] (by decide +kernel) (by decide +kernel)
set_option maxRecDepth 20000 in
theorem gX7_look_X7_hasPlaces : GoodIn wsX7_look (wsV RX7 33 RX7 yX7_hasPlaces wsX7_hasPlaces) := goodIn_app (goodIn_of _ (by decide +kernel)) ggX7_look_X7_hasPlaces
theorem dX7_look_0 : decode cX7_look 0 = .ok (.aload_n 0, 1) := by decide +kernel
theorem dX7_look_1 : decode cX7_look 1 = .ok (.iload_n 1, 1) := by decide +kernel
theorem dX7_look_2 : decode cX7_look 2 = .ok (.invokevirtual 29, 3) := by decide +kernel
theorem dX7_look_5 : decode cX7_look 5 = .ok (.ifCond .eq 5, 3) := by decide +kernel
theorem dX7_look_8 : decode cX7_look 8 = .ok (.iconst 1, 1) := by decide +kernel
theorem dX7_look_9 : decode cX7_look 9 = .ok (.ireturn, 1) := by decide +kernel
theorem dX7_look_10 : decode cX7_look 10 = .ok (.aload_n 0, 1) := by decide +kernel
theorem dX7_look_11 : decode cX7_look 11 = .ok (.iload_n 1, 1) := by decide +kernel
theorem dX7_look_12 : decode cX7_look 12 = .ok (.iload_n 2, 1) := by decide +kernel
theorem dX7_look_13 : decode cX7_look 13 = .ok (.iload_n 3, 1) := by decide +kernel
theorem dX7_look_14 : decode cX7_look 14 = .ok (.invokevirtual 33, 3) := by decide +kernel
theorem dX7_look_17 : decode cX7_look 17 = .ok (.ifCond .eq 7, 3) := by decide +kernel
theorem dX7_look_20 : decode cX7_look 20 = .ok (.iconst 0, 1) := by decide +kernel
theorem dX7_look_21 : decode cX7_look 21 = .ok (.goto 4, 3) := by decide +kernel
theorem dX7_look_24 : decode cX7_look 24 = .ok (.iconst 2, 1) := by decide +kernel
theorem dX7_look_25 : decode cX7_look 25 = .ok (.ireturn, 1) := by decide +kernel
set_option maxRecDepth 20000 in
theorem ggX7_lookAtBoth_X7_isMissing : GoodIn wsX7_lookAtBoth wsX7_isMissing := goodIn_r _ [6, 7, 12, 13, 14] (by decide +kernel) (by decide +kernel)
set_option maxRecDepth 20000 in
theorem gX7_lookAtBoth_X7_isMissing : GoodIn wsX7_lookAtBoth (wsV RX7 29 RX7 yX7_isMissing wsX7_isMissing) := goodIn_app (goodIn_of _ (by decide +kernel)) ggX7_lookAtBoth_X7_isMissing
set_option maxRecDepth 20000 in
theorem ggX7_lookAtBoth_X7_hasPlaces : GoodIn wsX7_lookAtBoth wsX7_hasPlaces := goodIn_r _ [11, 7, 12, 13, 14] (by decide +kernel) (by decide +kernel)
set_option maxRecDepth 20000 in
theorem gX7_lookAtBoth_X7_hasPlaces : GoodIn wsX7_lookAtBoth (wsV RX7 33 RX7 yX7_hasPlaces wsX7_hasPlaces) := goodIn_app (goodIn_of _ (by decide +kernel)) ggX7_lookAtBoth_X7_hasPlaces
theorem dX7_lookAtBoth_0 : decode cX7_lookAtBoth 0 = .ok (.aload_n 0, 1) := by decide +kernel
theorem dX7_lookAtBoth_1 : decode cX7_lookAtBoth 1 = .ok (.iload_n 1, 1) := by decide +kernel
theorem dX7_lookAtBoth_2 : decode cX7_lookAtBoth 2 = .ok (.invokevirtual 29, 3) := by decide +kernel
theorem dX7_lookAtBoth_5 : decode cX7_lookAtBoth 5 = .ok (.ifCond .ne 11, 3) := by decide +kernel
theorem dX7_lookAtBoth_8 : decode cX7_lookAtBoth 8 = .ok (.aload_n 0, 1) := by decide +kernel
theorem dX7_lookAtBoth_9 : decode cX7_lookAtBoth 9 = .ok (.iload_n 3, 1) := by decide +kernel
theorem dX7_lookAtBoth_10 : decode cX7_lookAtBoth 10 = .ok (.invokevirtual 29, 3) := by decide +kernel
theorem dX7_lookAtBoth_13 : decode cX7_lookAtBoth 13 = .ok (.ifCond .eq 5, 3) := by decide +kernel
theorem dX7_lookAtBoth_16 : decode cX7_lookAtBoth 16 = .ok (.iconst 1, 1) := by decide +kernel
theorem dX7_lookAtBoth_17 : decode cX7_lookAtBoth 17 = .ok (.ireturn, 1) := by decide +kernel
theorem dX7_lookAtBoth_18 : decode cX7_lookAtBoth 18 = .ok (.aload_n 0, 1) := by decide +kernel
theorem dX7_lookAtBoth_19 : decode cX7_lookAtBoth 19 = .ok (.getfield 16, 3) := by decide +kernel
theorem dX7_lookAtBoth_22 : decode cX7_lookAtBoth 22 = .ok (.iload_n 1, 1) := by decide +kernel
theorem dX7_lookAtBoth_23 : decode cX7_lookAtBoth 23 = .ok (.iaload, 1) := by decide +kernel
theorem dX7_lookAtBoth_24 : decode cX7_lookAtBoth 24 = .ok (.aload_n 0, 1) := by decide +kernel
theorem dX7_lookAtBoth_25 : decode cX7_lookAtBoth 25 = .ok (.getfield 16, 3) := by decide +kernel
theorem dX7_lookAtBoth_28 : decode cX7_lookAtBoth 28 = .ok (.iload_n 3, 1) := by decide +kernel
theorem dX7_lookAtBoth_29 : decode cX7_lookAtBoth 29 = .ok (.iaload, 1) := by decide +kernel
theorem dX7_lookAtBoth_30 : decode cX7_lookAtBoth 30 = .ok (.if_icmp .eq 5, 3) := by decide +kernel
theorem dX7_lookAtBoth_33 : decode cX7_lookAtBoth 33 = .ok (.iconst 5, 1) := by decide +kernel
theorem dX7_lookAtBoth_34 : decode cX7_lookAtBoth 34 = .ok (.ireturn, 1) := by decide +kernel
theorem dX7_lookAtBoth_35 : decode cX7_lookAtBoth 35 = .ok (.aload_n 0, 1) := by decide +kernel
theorem dX7_lookAtBoth_36 : decode cX7_lookAtBoth 36 = .ok (.iload_n 1, 1) := by decide +kernel
theorem dX7_lookAtBoth_37 : decode cX7_lookAtBoth 37 = .ok (.iload_n 2, 1) := by decide +kernel
theorem dX7_lookAtBoth_38 : decode cX7_lookAtBoth 38 = .ok (.iload 5, 2) := by decide +kernel
theorem dX7_lookAtBoth_40 : decode cX7_lookAtBoth 40 = .ok (.invokevirtual 33, 3) := by decide +kernel
theorem dX7_lookAtBoth_43 : decode cX7_lookAtBoth 43 = .ok (.ifCond .eq 19, 3) := by decide +kernel
theorem dX7_lookAtBoth_46 : decode cX7_lookAtBoth 46 = .ok (.aload_n 0, 1) := by decide +kernel
theorem dX7_lookAtBoth_47 : decode cX7_lookAtBoth 47 = .ok (.iload_n 3, 1) := by decide +kernel
theorem dX7_lookAtBoth_48 : decode cX7_lookAtBoth 48 = .ok (.iload 4, 2) := by decide +kernel
theorem dX7_lookAtBoth_50 : decode cX7_lookAtBoth 50 = .ok (.iload 5, 2) := by decide +kernel
theorem dX7_lookAtBoth_52 : decode cX7_lookAtBoth 52 = .ok (.invokevirtual 33, 3) := by decide +kernel
theorem dX7_lookAtBoth_55 : decode cX7_lookAtBoth 55 = .ok (.ifCond .eq 7, 3) := by decide +kernel
theorem dX7_lookAtBoth_58 : decode cX7_lookAtBoth 58 = .ok (.iconst 0, 1) := by decide +kernel
theorem dX7_lookAtBoth_59 : decode cX7_lookAtBoth 59 = .ok (.goto 4, 3) := by decide +kernel
theorem dX7_lookAtBoth_62 : decode cX7_lookAtBoth 62 = .ok (.iconst 2, 1) := by decide +kernel
theorem dX7_lookAtBoth_63 : decode cX7_lookAtBoth 63 = .ok (.ireturn, 1) := by decide +kernel
theorem dX7_hasPlaces_0 : decode cX7_hasPlaces 0 = .ok (.iload_n 3, 1) := by decide +kernel
theorem dX7_hasPlaces_1 : decode cX7_hasPlaces 1 = .ok (.ifCond .lt 23, 3) := by decide +kernel
theorem dX7_hasPlaces_4 : decode cX7_hasPlaces 4 = .ok (.iload_n 2, 1) := by decide +kernel
theorem dX7_hasPlaces_5 : decode cX7_hasPlaces 5 = .ok (.ifCond .lt 19, 3) := by decide +kernel
theorem dX7_hasPlaces_8 : decode cX7_hasPlaces 8 = .ok (.iload_n 2, 1) := by decide +kernel
theorem dX7_hasPlaces_9 : decode cX7_hasPlaces 9 = .ok (.aload_n 0, 1) := by decide +kernel
theorem dX7_hasPlaces_10 : decode cX7_hasPlaces 10 = .ok (.getfield 20, 3) := by decide +kernel
theorem dX7_hasPlaces_13 : decode cX7_hasPlaces 13 = .ok (.iload_n 1, 1) := by decide +kernel
theorem dX7_hasPlaces_14 : decode cX7_hasPlaces 14 = .ok (.iaload, 1) := by decide +kernel
theorem dX7_hasPlaces_15 : decode cX7_hasPlaces 15 = .ok (.iload_n 3, 1) := by decide +kernel
theorem dX7_hasPlaces_16 : decode cX7_hasPlaces 16 = .ok (.isub, 1) := by decide +kernel
theorem dX7_hasPlaces_17 : decode cX7_hasPlaces 17 = .ok (.if_icmp .gt 7, 3) := by decide +kernel
theorem dX7_hasPlaces_20 : decode cX7_hasPlaces 20 = .ok (.iconst 1, 1) := by decide +kernel
theorem dX7_hasPlaces_21 : decode cX7_hasPlaces 21 = .ok (.goto 4, 3) := by decide +kernel
theorem dX7_hasPlaces_24 : decode cX7_hasPlaces 24 = .ok (.iconst 0, 1) := by decide +kernel
theorem dX7_hasPlaces_25 : decode cX7_hasPlaces 25 = .ok (.ireturn, 1) := by decide +kernel
set_option maxRecDepth 20000 in
theorem ggX7_put_X7_narrowed : GoodIn wsX7_put wsX7_narrowed := goodIn_r _ [6] (by decide +kernel) (by decide +kernel)
set_option maxRecDepth 20000 in
theorem gX7_put_X7_narrowed : GoodIn wsX7_put (va_wsS RX7 37 yX7_narrowed wsX7_narrowed) := goodIn_app (goodIn_of _ (by decide +kernel)) ggX7_put_X7_narrowed
theorem dX7_put_0 : decode cX7_put 0 = .ok (.aload_n 0, 1) := by decide +kernel
theorem dX7_put_1 : decode cX7_put 1 = .ok (.getfield 11, 3) := by decide +kernel
theorem dX7_put_4 : decode cX7_put 4 = .ok (.iload_n 1, 1) := by decide +kernel
theorem dX7_put_5 : decode cX7_put 5 = .ok (.aaload, 1) := by decide +kernel
theorem dX7_put_6 : decode cX7_put 6 = .ok (.iload_n 2, 1) := by decide +kernel
theorem dX7_put_7 : decode cX7_put 7 = .ok (.aload_n 0, 1) := by decide +kernel
theorem dX7_put_8 : decode cX7_put 8 = .ok (.getfield 16, 3) := by decide +kernel
theorem dX7_put_11 : decode cX7_put 11 = .ok (.iload_n 1, 1) := by decide +kernel
theorem dX7_put_12 : decode cX7_put 12 = .ok (.iaload, 1) := by decide +kernel
theorem dX7_put_13 : decode cX7_put 13 = .ok (.iload_n 3, 1) := by decide +kernel
theorem dX7_put_14 : decode cX7_put 14 = .ok (.invokestatic 37, 3) := by decide +kernel
theorem dX7_put_17 : decode cX7_put 17 = .ok (.iastore, 1) := by decide +kernel
theorem dX7_put_18 : decode cX7_put 18 = .ok (.aload_n 0, 1) := by decide +kernel
theorem dX7_put_19 : decode cX7_put 19 = .ok (.getfield 11, 3) := by decide +kernel
theorem dX7_put_22 : decode cX7_put 22 = .ok (.iload_n 1, 1) := by decide +kernel
theorem dX7_put_23 : decode cX7_put 23 = .ok (.aaload, 1) := by decide +kernel
theorem dX7_put_24 : decode cX7_put 24 = .ok (.iload_n 2, 1) := by decide +kernel
theorem dX7_put_25 : decode cX7_put 25 = .ok (.iaload, 1) := by decide +kernel
theorem dX7_put_26 : decode cX7_put 26 = .ok (.ireturn, 1) := by decide +kernel
theorem dX7_narrowed_0 : decode cX7_narrowed 0 = .ok (.iload_n 0, 1) := by decide +kernel
theorem dX7_narrowed_1 : decode cX7_narrowed 1 = .ok (.ifCond .ne 6, 3) := by decide +kernel
theorem dX7_narrowed_4 : decode cX7_narrowed 4 = .ok (.iload_n 1, 1) := by decide +kernel
theorem dX7_narrowed_5 : decode cX7_narrowed 5 = .ok (.i2b, 1) := by decide +kernel
theorem dX7_narrowed_6 : decode cX7_narrowed 6 = .ok (.ireturn, 1) := by decide +kernel
theorem dX7_narrowed_7 : decode cX7_narrowed 7 = .ok (.iload_n 0, 1) := by decide +kernel
theorem dX7_narrowed_8 : decode cX7_narrowed 8 = .ok (.iconst 1, 1) := by decide +kernel
theorem dX7_narrowed_9 : decode cX7_narrowed 9 = .ok (.if_icmp .ne 8, 3) := by decide +kernel
theorem dX7_narrowed_12 : decode cX7_narrowed 12 = .ok (.iload_n 1, 1) := by decide +kernel
theorem dX7_narrowed_13 : decode cX7_narrowed 13 = .ok (.i2s, 1) := by decide +kernel
theorem dX7_narrowed_14 : decode cX7_narrowed 14 = .ok (.goto 4, 3) := by decide +kernel
theorem dX7_narrowed_17 : decode cX7_narrowed 17 = .ok (.iload_n 1, 1) := by decide +kernel
theorem dX7_narrowed_18 : decode cX7_narrowed 18 = .ok (.ireturn, 1) := by decide +kernel
theorem dX7_move_0 : decode cX7_move 0 = .ok (.aload_n 0, 1) := by decide +kernel
theorem dX7_move_1 : decode cX7_move 1 = .ok (.getfield 11, 3) := by decide +kernel
theorem dX7_move_4 : decode cX7_move 4 = .ok (.iload_n 1, 1) := by decide +kernel
theorem dX7_move_5 : decode cX7_move 5 = .ok (.aaload, 1) := by decide +kernel
theorem dX7_move_6 : decode cX7_move 6 = .ok (.iload_n 2, 1) := by decide +kernel
theorem dX7_move_7 : decode cX7_move 7 = .ok (.aload_n 0, 1) := by decide +kernel
theorem dX7_move_8 : decode cX7_move 8 = .ok (.getfield 11, 3) := by decide +kernel
theorem dX7_move_11 : decode cX7_move 11 = .ok (.iload_n 3, 1) := by decide +kernel
theorem dX7_move_12 : decode cX7_move 12 = .ok (.aaload, 1) := by decide +kernel
theorem dX7_move_13 : decode cX7_move 13 = .ok (.iload 4, 2) := by decide +kernel
theorem dX7_move_15 : decode cX7_move 15 = .ok (.iload 5, 2) := by decide +kernel
theorem dX7_move_17 : decode cX7_move 17 = .ok (.invokestatic 41, 3) := by decide +kernel
theorem dX7_move_20 : decode cX7_move 20 = .ok (.return_, 1) := by decide +kernel
set_option maxRecDepth 20000 in
theorem ggX7_areWithin_X11_within : GoodIn wsX7_areWithin wsX11_within := goodIn_r _ [4] (by decide +kernel) (by decide +kernel)
set_option maxRecDepth 20000 in
theorem gX7_areWithin_X11_within_n47 : GoodIn wsX7_areWithin (wsX11_within) := ggX7_areWithin_X11_within
theorem dX7_areWithin_0 : decode cX7_areWithin 0 = .ok (.iload_n 2, 1) := by decide +kernel
theorem dX7_areWithin_1 : decode cX7_areWithin 1 = .ok (.istore 5, 2) := by decide +kernel
theorem dX7_areWithin_3 : decode cX7_areWithin 3 = .ok (.iload 5, 2) := by decide +kernel
theorem dX7_areWithin_5 : decode cX7_areWithin 5 = .ok (.iload_n 2, 1) := by decide +kernel
theorem dX7_areWithin_6 : decode cX7_areWithin 6 = .ok (.iload_n 3, 1) := by decide +kernel
theorem dX7_areWithin_7 : decode cX7_areWithin 7 = .ok (.iadd, 1) := by decide +kernel
theorem dX7_areWithin_8 : decode cX7_areWithin 8 = .ok (.if_icmp .ge 29, 3) := by decide +kernel
theorem dX7_areWithin_11 : decode cX7_areWithin 11 = .ok (.aload_n 0, 1) := by decide +kernel
theorem dX7_areWithin_12 : decode cX7_areWithin 12 = .ok (.getfield 11, 3) := by decide +kernel
theorem dX7_areWithin_15 : decode cX7_areWithin 15 = .ok (.iload_n 1, 1) := by decide +kernel
theorem dX7_areWithin_16 : decode cX7_areWithin 16 = .ok (.aaload, 1) := by decide +kernel
theorem dX7_areWithin_17 : decode cX7_areWithin 17 = .ok (.iload 5, 2) := by decide +kernel
theorem dX7_areWithin_19 : decode cX7_areWithin 19 = .ok (.iaload, 1) := by decide +kernel
theorem dX7_areWithin_20 : decode cX7_areWithin 20 = .ok (.iconst 0, 1) := by decide +kernel
theorem dX7_areWithin_21 : decode cX7_areWithin 21 = .ok (.iload 4, 2) := by decide +kernel
theorem dX7_areWithin_23 : decode cX7_areWithin 23 = .ok (.invokestatic 47, 3) := by decide +kernel
theorem dX7_areWithin_26 : decode cX7_areWithin 26 = .ok (.ifCond .ne 5, 3) := by decide +kernel
theorem dX7_areWithin_29 : decode cX7_areWithin 29 = .ok (.iconst 0, 1) := by decide +kernel
theorem dX7_areWithin_30 : decode cX7_areWithin 30 = .ok (.ireturn, 1) := by decide +kernel
theorem dX7_areWithin_31 : decode cX7_areWithin 31 = .ok (.iinc 5 1, 3) := by decide +kernel
theorem dX7_areWithin_34 : decode cX7_areWithin 34 = .ok (.goto (-31), 3) := by decide +kernel
theorem dX7_areWithin_37 : decode cX7_areWithin 37 = .ok (.iconst 1, 1) := by decide +kernel
theorem dX7_areWithin_38 : decode cX7_areWithin 38 = .ok (.ireturn, 1) := by decide +kernel
theorem dX7_above_0 : decode cX7_above 0 = .ok (.iconst 0, 1) := by decide +kernel
theorem dX7_above_1 : decode cX7_above 1 = .ok (.istore 6, 2) := by decide +kernel
theorem dX7_above_3 : decode cX7_above 3 = .ok (.iload_n 2, 1) := by decide +kernel
theorem dX7_above_4 : decode cX7_above 4 = .ok (.istore 7, 2) := by decide +kernel
theorem dX7_above_6 : decode cX7_above 6 = .ok (.iload 7, 2) := by decide +kernel
theorem dX7_above_8 : decode cX7_above 8 = .ok (.iload_n 2, 1) := by decide +kernel
theorem dX7_above_9 : decode cX7_above 9 = .ok (.iload_n 3, 1) := by decide +kernel
theorem dX7_above_10 : decode cX7_above 10 = .ok (.iadd, 1) := by decide +kernel
theorem dX7_above_11 : decode cX7_above 11 = .ok (.if_icmp .ge 28, 3) := by decide +kernel
theorem dX7_above_14 : decode cX7_above 14 = .ok (.aload_n 0, 1) := by decide +kernel
theorem dX7_above_15 : decode cX7_above 15 = .ok (.getfield 11, 3) := by decide +kernel
theorem dX7_above_18 : decode cX7_above 18 = .ok (.iload_n 1, 1) := by decide +kernel
theorem dX7_above_19 : decode cX7_above 19 = .ok (.aaload, 1) := by decide +kernel
theorem dX7_above_20 : decode cX7_above 20 = .ok (.iload 7, 2) := by decide +kernel
theorem dX7_above_22 : decode cX7_above 22 = .ok (.iaload, 1) := by decide +kernel
theorem dX7_above_23 : decode cX7_above 23 = .ok (.i2l, 1) := by decide +kernel
theorem dX7_above_24 : decode cX7_above 24 = .ok (.lload 4, 2) := by decide +kernel
theorem dX7_above_26 : decode cX7_above 26 = .ok (.lcmp, 1) := by decide +kernel
theorem dX7_above_27 : decode cX7_above 27 = .ok (.ifCond .le 6, 3) := by decide +kernel
theorem dX7_above_30 : decode cX7_above 30 = .ok (.iinc 6 1, 3) := by decide +kernel
theorem dX7_above_33 : decode cX7_above 33 = .ok (.iinc 7 1, 3) := by decide +kernel
theorem dX7_above_36 : decode cX7_above 36 = .ok (.goto (-30), 3) := by decide +kernel
theorem dX7_above_39 : decode cX7_above 39 = .ok (.iload 6, 2) := by decide +kernel
theorem dX7_above_41 : decode cX7_above 41 = .ok (.ireturn, 1) := by decide +kernel
set_option maxRecDepth 20000 in
theorem ggX7_present_X7_isMissing : GoodIn wsX7_present wsX7_isMissing := goodIn_r _ [5, 6, 7, 8, 9] (by decide +kernel) (by decide +kernel)
set_option maxRecDepth 20000 in
theorem gX7_present_X7_isMissing : GoodIn wsX7_present (wsV RX7 29 RX7 yX7_isMissing wsX7_isMissing) := goodIn_app (goodIn_of _ (by decide +kernel)) ggX7_present_X7_isMissing
theorem dX7_present_0 : decode cX7_present 0 = .ok (.iconst 0, 1) := by decide +kernel
theorem dX7_present_1 : decode cX7_present 1 = .ok (.istore_n 1, 1) := by decide +kernel
theorem dX7_present_2 : decode cX7_present 2 = .ok (.iconst 0, 1) := by decide +kernel
theorem dX7_present_3 : decode cX7_present 3 = .ok (.istore_n 2, 1) := by decide +kernel
theorem dX7_present_4 : decode cX7_present 4 = .ok (.iload_n 2, 1) := by decide +kernel
theorem dX7_present_5 : decode cX7_present 5 = .ok (.bipush 8, 2) := by decide +kernel
theorem dX7_present_7 : decode cX7_present 7 = .ok (.if_icmp .ge 20, 3) := by decide +kernel
theorem dX7_present_10 : decode cX7_present 10 = .ok (.aload_n 0, 1) := by decide +kernel
theorem dX7_present_11 : decode cX7_present 11 = .ok (.iload_n 2, 1) := by decide +kernel
theorem dX7_present_12 : decode cX7_present 12 = .ok (.invokevirtual 29, 3) := by decide +kernel
theorem dX7_present_15 : decode cX7_present 15 = .ok (.ifCond .ne 6, 3) := by decide +kernel
theorem dX7_present_18 : decode cX7_present 18 = .ok (.iinc 1 1, 3) := by decide +kernel
theorem dX7_present_21 : decode cX7_present 21 = .ok (.iinc 2 1, 3) := by decide +kernel
theorem dX7_present_24 : decode cX7_present 24 = .ok (.goto (-20), 3) := by decide +kernel
theorem dX7_present_27 : decode cX7_present 27 = .ok (.iload_n 1, 1) := by decide +kernel
theorem dX7_present_28 : decode cX7_present 28 = .ok (.ireturn, 1) := by decide +kernel
set_option maxRecDepth 20000 in
theorem ggX8_init_X2_init : GoodIn wsX8_init wsX2_init := goodIn_r _ [4, 5, 6, 7, 8, 9, 10, 11, 12, 13, 14, 15, 16, 17, 18, 19, 20, 21, 22] (by decide +kernel) (by decide +kernel)
set_option maxRecDepth 20000 in
theorem gX8_init_X2_init : GoodIn wsX8_init (wsX2_init) := ggX8_init_X2_init
theorem dX8_init_0 : decode cX8_init 0 = .ok (.aload_n 0, 1) := by decide +kernel
theorem dX8_init_1 : decode cX8_init 1 = .ok (.iload_n 1, 1) := by decide +kernel
theorem dX8_init_2 : decode cX8_init 2 = .ok (.iconst 0, 1) := by decide +kernel
theorem dX8_init_3 : decode cX8_init 3 = .ok (.invokespecial 3, 3) := by decide +kernel
theorem dX8_init_6 : decode cX8_init 6 = .ok (.return_, 1) := by decide +kernel
theorem dX8_toldAs_0 : decode cX8_toldAs 0 = .ok (.iconst 3, 1) := by decide +kernel
theorem dX8_toldAs_1 : decode cX8_toldAs 1 = .ok (.ireturn, 1) := by decide +kernel
set_option maxRecDepth 20000 in
theorem ggX8_cost_X9_leave : GoodIn wsX8_cost wsX9_leave := goodIn_r _ [5, 6, 7, 16, 17] (by decide +kernel) (by decide +kernel)
set_option maxRecDepth 20000 in
theorem gX8_cost_X9_leave : GoodIn wsX8_cost (wsV RX8 9 RX9 yX9_leave wsX9_leave) := goodIn_app (goodIn_of _ (by decide +kernel)) ggX8_cost_X9_leave
set_option maxRecDepth 20000 in
theorem ggX8_cost_X2_cost : GoodIn wsX8_cost wsX2_cost := goodIn_r _ [13, 14, 15, 2, 3, 4, 5, 6, 7, 18, 19, 20, 21, 22, 23, 24, 25, 26, 27, 28, 29, 16, 17] (by decide +kernel) (by decide +kernel)
set_option maxRecDepth 20000 in
theorem gX8_cost_X2_cost_s15 : GoodIn wsX8_cost (va_wsSU RX8 15 yX2_cost wsX2_cost) := goodIn_app (goodIn_of _ (by decide +kernel)) ggX8_cost_X2_cost
theorem dX8_cost_0 : decode cX8_cost 0 = .ok (.aload_n 1, 1) := by decide +kernel
theorem dX8_cost_1 : decode cX8_cost 1 = .ok (.bipush 13, 2) := by decide +kernel
theorem dX8_cost_3 : decode cX8_cost 3 = .ok (.invokevirtual 9, 3) := by decide +kernel
theorem dX8_cost_6 : decode cX8_cost 6 = .ok (.aload_n 0, 1) := by decide +kernel
theorem dX8_cost_7 : decode cX8_cost 7 = .ok (.aload_n 1, 1) := by decide +kernel
theorem dX8_cost_8 : decode cX8_cost 8 = .ok (.invokespecial 15, 3) := by decide +kernel
theorem dX8_cost_11 : decode cX8_cost 11 = .ok (.sipush 1000, 3) := by decide +kernel
theorem dX8_cost_14 : decode cX8_cost 14 = .ok (.iadd, 1) := by decide +kernel
theorem dX8_cost_15 : decode cX8_cost 15 = .ok (.ireturn, 1) := by decide +kernel
set_option maxRecDepth 20000 in
theorem ggX8_mark_X9_leave : GoodIn wsX8_mark wsX9_leave := goodIn_r _ [5, 6, 7, 26, 27] (by decide +kernel) (by decide +kernel)
set_option maxRecDepth 20000 in
theorem gX8_mark_X9_leave : GoodIn wsX8_mark (wsV RX8 9 RX9 yX9_leave wsX9_leave) := goodIn_app (goodIn_of _ (by decide +kernel)) ggX8_mark_X9_leave
set_option maxRecDepth 20000 in
theorem ggX8_mark_X2_mark : GoodIn wsX8_mark wsX2_mark := goodIn_r _ [13, 14, 15, 2, 3, 4, 5, 6, 7, 28, 29, 30, 31, 32, 33, 34, 35, 36, 37, 38, 39, 26, 27] (by decide +kernel) (by decide +kernel)
set_option maxRecDepth 20000 in
theorem gX8_mark_X2_mark_s19 : GoodIn wsX8_mark (va_wsSU RX8 19 yX2_mark wsX2_mark) := goodIn_app (goodIn_of _ (by decide +kernel)) ggX8_mark_X2_mark
set_option maxRecDepth 20000 in
theorem ggX8_mark_X8_cost : GoodIn wsX8_mark wsX8_cost := goodIn_r _ [20, 1, 2, 3, 4, 5, 6, 7, 21, 22, 10, 23, 12, 24, 25, 15, 26, 27, 28, 29, 30, 31, 32, 33, 34, 35, 36, 37, 38, 39] (by decide +kernel) (by decide +kernel)
set_option maxRecDepth 20000 in
theorem gX8_mark_X8_cost : GoodIn wsX8_mark (wsV RX8 22 RX8 yX8_cost wsX8_cost) := goodIn_app (goodIn_of _ (by decide +kernel)) ggX8_mark_X8_cost
theorem dX8_mark_0 : decode cX8_mark 0 = .ok (.aload_n 1, 1) := by decide +kernel
theorem dX8_mark_1 : decode cX8_mark 1 = .ok (.bipush 22, 2) := by decide +kernel
theorem dX8_mark_3 : decode cX8_mark 3 = .ok (.invokevirtual 9, 3) := by decide +kernel
theorem dX8_mark_6 : decode cX8_mark 6 = .ok (.aload_n 0, 1) := by decide +kernel
theorem dX8_mark_7 : decode cX8_mark 7 = .ok (.aload_n 1, 1) := by decide +kernel
theorem dX8_mark_8 : decode cX8_mark 8 = .ok (.invokespecial 19, 3) := by decide +kernel
theorem dX8_mark_11 : decode cX8_mark 11 = .ok (.aload_n 0, 1) := by decide +kernel
theorem dX8_mark_12 : decode cX8_mark 12 = .ok (.aload_n 1, 1) := by decide +kernel
theorem dX8_mark_13 : decode cX8_mark 13 = .ok (.invokevirtual 22, 3) := by decide +kernel
theorem dX8_mark_16 : decode cX8_mark 16 = .ok (.isub, 1) := by decide +kernel
theorem dX8_mark_17 : decode cX8_mark 17 = .ok (.ireturn, 1) := by decide +kernel
theorem dX9_init_0 : decode cX9_init 0 = .ok (.aload_n 0, 1) := by decide +kernel
theorem dX9_init_1 : decode cX9_init 1 = .ok (.invokespecial 3, 3) := by decide +kernel
theorem dX9_init_4 : decode cX9_init 4 = .ok (.aload_n 0, 1) := by decide +kernel
theorem dX9_init_5 : decode cX9_init 5 = .ok (.bipush 16, 2) := by decide +kernel
theorem dX9_init_7 : decode cX9_init 7 = .ok (.newarray .int, 2) := by decide +kernel
theorem dX9_init_9 : decode cX9_init 9 = .ok (.putfield 9, 3) := by decide +kernel
theorem dX9_init_12 : decode cX9_init 12 = .ok (.aload_n 0, 1) := by decide +kernel
theorem dX9_init_13 : decode cX9_init 13 = .ok (.iconst 0, 1) := by decide +kernel
theorem dX9_init_14 : decode cX9_init 14 = .ok (.putfield 15, 3) := by decide +kernel
theorem dX9_init_17 : decode cX9_init 17 = .ok (.return_, 1) := by decide +kernel
theorem dX9_leave_0 : decode cX9_leave 0 = .ok (.aload_n 0, 1) := by decide +kernel
theorem dX9_leave_1 : decode cX9_leave 1 = .ok (.getfield 15, 3) := by decide +kernel
theorem dX9_leave_4 : decode cX9_leave 4 = .ok (.bipush 16, 2) := by decide +kernel
theorem dX9_leave_6 : decode cX9_leave 6 = .ok (.if_icmp .ge 23, 3) := by decide +kernel
theorem dX9_leave_9 : decode cX9_leave 9 = .ok (.aload_n 0, 1) := by decide +kernel
theorem dX9_leave_10 : decode cX9_leave 10 = .ok (.getfield 9, 3) := by decide +kernel
theorem dX9_leave_13 : decode cX9_leave 13 = .ok (.aload_n 0, 1) := by decide +kernel
theorem dX9_leave_14 : decode cX9_leave 14 = .ok (.getfield 15, 3) := by decide +kernel
theorem dX9_leave_17 : decode cX9_leave 17 = .ok (.iload_n 1, 1) := by decide +kernel
theorem dX9_leave_18 : decode cX9_leave 18 = .ok (.iastore, 1) := by decide +kernel
theorem dX9_leave_19 : decode cX9_leave 19 = .ok (.aload_n 0, 1) := by decide +kernel
theorem dX9_leave_20 : decode cX9_leave 20 = .ok (.dup, 1) := by decide +kernel
theorem dX9_leave_21 : decode cX9_leave 21 = .ok (.getfield 15, 3) := by decide +kernel
theorem dX9_leave_24 : decode cX9_leave 24 = .ok (.iconst 1, 1) := by decide +kernel
theorem dX9_leave_25 : decode cX9_leave 25 = .ok (.iadd, 1) := by decide +kernel
theorem dX9_leave_26 : decode cX9_leave 26 = .ok (.putfield 15, 3) := by decide +kernel
theorem dX9_leave_29 : decode cX9_leave 29 = .ok (.return_, 1) := by decide +kernel
set_option maxRecDepth 20000 in
theorem ggX10_init_X3_init : GoodIn wsX10_init wsX3_init := goodIn_r _ [4, 5, 6, 7, 8, 9, 10, 11, 12, 13, 14, 15, 16, 17, 18, 19, 20, 21, 22, 23, 24, 25, 26] (by decide +kernel) (by decide +kernel)
set_option maxRecDepth 20000 in
theorem gX10_init_X3_init : GoodIn wsX10_init (wsX3_init) := ggX10_init_X3_init
theorem dX10_init_0 : decode cX10_init 0 = .ok (.aload_n 0, 1) := by decide +kernel
theorem dX10_init_1 : decode cX10_init 1 = .ok (.iload_n 1, 1) := by decide +kernel
theorem dX10_init_2 : decode cX10_init 2 = .ok (.iload_n 2, 1) := by decide +kernel
theorem dX10_init_3 : decode cX10_init 3 = .ok (.invokespecial 3, 3) := by decide +kernel
theorem dX10_init_6 : decode cX10_init 6 = .ok (.return_, 1) := by decide +kernel
theorem dX10_toldAs_0 : decode cX10_toldAs 0 = .ok (.iconst 2, 1) := by decide +kernel
theorem dX10_toldAs_1 : decode cX10_toldAs 1 = .ok (.ireturn, 1) := by decide +kernel
set_option maxRecDepth 20000 in
theorem ggX10_cost_X9_leave : GoodIn wsX10_cost wsX9_leave := goodIn_r _ [5, 6, 7, 25, 26] (by decide +kernel) (by decide +kernel)
set_option maxRecDepth 20000 in
theorem gX10_cost_X9_leave : GoodIn wsX10_cost (wsV RX10 9 RX9 yX9_leave wsX9_leave) := goodIn_app (goodIn_of _ (by decide +kernel)) ggX10_cost_X9_leave
set_option maxRecDepth 20000 in
theorem ggX10_cost_X3_cost : GoodIn wsX10_cost wsX3_cost := goodIn_r _ [13, 14, 15, 16, 2, 3, 4, 5, 6, 7, 17, 18, 19, 20, 21, 22, 23, 24, 27, 28, 29, 30, 31, 32, 33, 34, 35, 36, 37, 38, 25, 26] (by decide +kernel) (by decide +kernel)
set_option maxRecDepth 20000 in
theorem gX10_cost_X3_cost_s15 : GoodIn wsX10_cost (va_wsSU RX10 15 yX3_cost wsX3_cost) := goodIn_app (goodIn_of _ (by decide +kernel)) ggX10_cost_X3_cost
theorem dX10_cost_0 : decode cX10_cost 0 = .ok (.aload_n 1, 1) := by decide +kernel
theorem dX10_cost_1 : decode cX10_cost 1 = .ok (.bipush 12, 2) := by decide +kernel
theorem dX10_cost_3 : decode cX10_cost 3 = .ok (.invokevirtual 9, 3) := by decide +kernel
theorem dX10_cost_6 : decode cX10_cost 6 = .ok (.aload_n 0, 1) := by decide +kernel
theorem dX10_cost_7 : decode cX10_cost 7 = .ok (.aload_n 1, 1) := by decide +kernel
theorem dX10_cost_8 : decode cX10_cost 8 = .ok (.invokespecial 15, 3) := by decide +kernel
theorem dX10_cost_11 : decode cX10_cost 11 = .ok (.iconst 2, 1) := by decide +kernel
theorem dX10_cost_12 : decode cX10_cost 12 = .ok (.idiv, 1) := by decide +kernel
theorem dX10_cost_13 : decode cX10_cost 13 = .ok (.ireturn, 1) := by decide +kernel
set_option maxRecDepth 20000 in
theorem ggX11_init_X7_init : GoodIn wsX11_init wsX7_init := goodIn_r _ [35, 36, 2, 3, 37, 38, 39, 40, 41, 42, 43, 44, 45, 94, 95, 96] (by decide +kernel) (by decide +kernel)
set_option maxRecDepth 20000 in
theorem gX11_init_X7_init : GoodIn wsX11_init (wsX7_init) := ggX11_init_X7_init
set_option maxRecDepth 20000 in
theorem ggX11_init_X6_init : GoodIn wsX11_init wsX6_init := goodIn_r _ [47, 48, 2, 3, 38, 49, 50, 51, 52, 53, 105, 106, 107, 108] (by decide +kernel) (by decide +kernel)
set_option maxRecDepth 20000 in
theorem gX11_init_X6_init_n18 : GoodIn wsX11_init (wsX6_init) := ggX11_init_X6_init
set_option maxRecDepth 20000 in
theorem ggX11_init_X0_init : GoodIn wsX11_init wsX0_init := goodIn_r _ [56, 57, 2, 3, 38, 58, 59, 60, 109, 110, 111] (by decide +kernel) (by decide +kernel)
set_option maxRecDepth 20000 in
theorem gX11_init_X0_init : GoodIn wsX11_init (wsX0_init) := ggX11_init_X0_init
set_option maxRecDepth 20000 in
theorem ggX11_init_X4_init : GoodIn wsX11_init wsX4_init := goodIn_r _ [63, 64, 2, 3, 65, 38, 66, 67, 68, 69, 70, 71, 72, 73, 74, 112, 113, 114, 115, 116, 117, 118] (by decide +kernel) (by decide +kernel)
set_option maxRecDepth 20000 in
theorem gX11_init_X4_init : GoodIn wsX11_init (wsX4_init) := ggX11_init_X4_init
set_option maxRecDepth 20000 in
theorem ggX11_init_X5_init : GoodIn wsX11_init wsX5_init := goodIn_r _ [76, 77, 2, 3, 78, 79, 38, 80, 81, 119, 120, 121] (by decide +kernel) (by decide +kernel)
set_option maxRecDepth 20000 in
theorem gX11_init_X5_init_n43 : GoodIn wsX11_init (wsX5_init) := ggX11_init_X5_init
set_option maxRecDepth 20000 in
theorem ggX11_init_X1_init : GoodIn wsX11_init wsX1_init := goodIn_r _ [83, 84, 2, 3, 38, 85, 86, 87, 88, 122, 123, 124, 125] (by decide +kernel) (by decide +kernel)
set_option maxRecDepth 20000 in
theorem gX11_init_X1_init_n50 : GoodIn wsX11_init (wsX1_init) := ggX11_init_X1_init
set_option maxRecDepth 20000 in
theorem ggX11_init_X9_init : GoodIn wsX11_init wsX9_init := goodIn_r _ [90, 91, 2, 3, 38, 92, 93, 126, 127] (by decide +kernel) (by decide +kernel)
set_option maxRecDepth 20000 in
theorem gX11_init_X9_init_n57 : GoodIn wsX11_init (wsX9_init) := ggX11_init_X9_init
theorem dX11_init_0 : decode cX11_init 0 = .ok (.aload_n 0, 1) := by decide +kernel
theorem dX11_init_1 : decode cX11_init 1 = .ok (.invokespecial 3, 3) := by decide +kernel
theorem dX11_init_4 : decode cX11_init 4 = .ok (.aload_n 0, 1) := by decide +kernel
theorem dX11_init_5 : decode cX11_init 5 = .ok (.new 9, 3) := by decide +kernel
theorem dX11_init_8 : decode cX11_init 8 = .ok (.dup, 1) := by decide +kernel
theorem dX11_init_9 : decode cX11_init 9 = .ok (.invokespecial 11, 3) := by decide +kernel
theorem dX11_init_12 : decode cX11_init 12 = .ok (.putfield 12, 3) := by decide +kernel
theorem dX11_init_15 : decode cX11_init 15 = .ok (.aload_n 0, 1) := by decide +kernel
theorem dX11_init_16 : decode cX11_init 16 = .ok (.new 16, 3) := by decide +kernel
theorem dX11_init_19 : decode cX11_init 19 = .ok (.dup, 1) := by decide +kernel
theorem dX11_init_20 : decode cX11_init 20 = .ok (.invokespecial 18, 3) := by decide +kernel
theorem dX11_init_23 : decode cX11_init 23 = .ok (.putfield 19, 3) := by decide +kernel
theorem dX11_init_26 : decode cX11_init 26 = .ok (.aload_n 0, 1) := by decide +kernel
theorem dX11_init_27 : decode cX11_init 27 = .ok (.new 23, 3) := by decide +kernel
theorem dX11_init_30 : decode cX11_init 30 = .ok (.dup, 1) := by decide +kernel
theorem dX11_init_31 : decode cX11_init 31 = .ok (.aload_n 0, 1) := by decide +kernel
theorem dX11_init_32 : decode cX11_init 32 = .ok (.getfield 19, 3) := by decide +kernel
theorem dX11_init_35 : decode cX11_init 35 = .ok (.invokespecial 25, 3) := by decide +kernel
theorem dX11_init_38 : decode cX11_init 38 = .ok (.putfield 28, 3) := by decide +kernel
theorem dX11_init_41 : decode cX11_init 41 = .ok (.aload_n 0, 1) := by decide +kernel
theorem dX11_init_42 : decode cX11_init 42 = .ok (.new 32, 3) := by decide +kernel
theorem dX11_init_45 : decode cX11_init 45 = .ok (.dup, 1) := by decide +kernel
theorem dX11_init_46 : decode cX11_init 46 = .ok (.aload_n 0, 1) := by decide +kernel
theorem dX11_init_47 : decode cX11_init 47 = .ok (.getfield 19, 3) := by decide +kernel
theorem dX11_init_50 : decode cX11_init 50 = .ok (.aload_n 0, 1) := by decide +kernel
theorem dX11_init_51 : decode cX11_init 51 = .ok (.getfield 28, 3) := by decide +kernel
theorem dX11_init_54 : decode cX11_init 54 = .ok (.invokespecial 34, 3) := by decide +kernel
theorem dX11_init_57 : decode cX11_init 57 = .ok (.putfield 37, 3) := by decide +kernel
theorem dX11_init_60 : decode cX11_init 60 = .ok (.aload_n 0, 1) := by decide +kernel
theorem dX11_init_61 : decode cX11_init 61 = .ok (.new 41, 3) := by decide +kernel
theorem dX11_init_64 : decode cX11_init 64 = .ok (.dup, 1) := by decide +kernel
theorem dX11_init_65 : decode cX11_init 65 = .ok (.invokespecial 43, 3) := by decide +kernel
theorem dX11_init_68 : decode cX11_init 68 = .ok (.putfield 44, 3) := by decide +kernel
theorem dX11_init_71 : decode cX11_init 71 = .ok (.aload_n 0, 1) := by decide +kernel
theorem dX11_init_72 : decode cX11_init 72 = .ok (.new 48, 3) := by decide +kernel
theorem dX11_init_75 : decode cX11_init 75 = .ok (.dup, 1) := by decide +kernel
theorem dX11_init_76 : decode cX11_init 76 = .ok (.invokespecial 50, 3) := by decide +kernel
theorem dX11_init_79 : decode cX11_init 79 = .ok (.putfield 51, 3) := by decide +kernel
theorem dX11_init_82 : decode cX11_init 82 = .ok (.aload_n 0, 1) := by decide +kernel
theorem dX11_init_83 : decode cX11_init 83 = .ok (.new 55, 3) := by decide +kernel
theorem dX11_init_86 : decode cX11_init 86 = .ok (.dup, 1) := by decide +kernel
theorem dX11_init_87 : decode cX11_init 87 = .ok (.invokespecial 57, 3) := by decide +kernel
theorem dX11_init_90 : decode cX11_init 90 = .ok (.putfield 58, 3) := by decide +kernel
theorem dX11_init_93 : decode cX11_init 93 = .ok (.aload_n 0, 1) := by decide +kernel
theorem dX11_init_94 : decode cX11_init 94 = .ok (.iconst 0, 1) := by decide +kernel
theorem dX11_init_95 : decode cX11_init 95 = .ok (.putfield 62, 3) := by decide +kernel
theorem dX11_init_98 : decode cX11_init 98 = .ok (.return_, 1) := by decide +kernel
set_option maxRecDepth 20000 in
theorem ggX11_sheet_X11_within : GoodIn wsX11_sheet wsX11_within := goodIn_r _ [6] (by decide +kernel) (by decide +kernel)
set_option maxRecDepth 20000 in
theorem gX11_sheet_X11_within : GoodIn wsX11_sheet (va_wsS RX11 66 yX11_within wsX11_within) := goodIn_app (goodIn_of _ (by decide +kernel)) ggX11_sheet_X11_within
set_option maxRecDepth 20000 in
theorem ggX11_sheet_X11_found : GoodIn wsX11_sheet wsX11_found := goodIn_r _ [10, 11, 12, 29, 30, 31, 32, 33, 34, 35, 36] (by decide +kernel) (by decide +kernel)
set_option maxRecDepth 20000 in
theorem gX11_sheet_X11_found : GoodIn wsX11_sheet (wsV RX11 71 RX11 yX11_found wsX11_found) := goodIn_app (goodIn_of _ (by decide +kernel)) ggX11_sheet_X11_found
set_option maxRecDepth 20000 in
theorem ggX11_sheet_X7_lay : GoodIn wsX11_sheet wsX7_lay := goodIn_r _ [17, 18, 19, 20, 21, 22, 23, 24, 37, 38, 39] (by decide +kernel) (by decide +kernel)
set_option maxRecDepth 20000 in
theorem gX11_sheet_X7_lay : GoodIn wsX11_sheet (wsV RX11 75 RX7 yX7_lay wsX7_lay) := goodIn_app (goodIn_of _ (by decide +kernel)) ggX11_sheet_X7_lay
set_option maxRecDepth 20000 in
theorem ggX11_sheet_X11_fine : GoodIn wsX11_sheet wsX11_fine := goodIn_r _ [28, 11, 29, 30, 31, 32, 33, 34, 35, 36] (by decide +kernel) (by decide +kernel)
set_option maxRecDepth 20000 in
theorem gX11_sheet_X11_fine : GoodIn wsX11_sheet (wsV RX11 79 RX11 yX11_fine wsX11_fine) := goodIn_app (goodIn_of _ (by decide +kernel)) ggX11_sheet_X11_fine
theorem dX11_sheet_0 : decode cX11_sheet 0 = .ok (.iload_n 1, 1) := by decide +kernel
theorem dX11_sheet_1 : decode cX11_sheet 1 = .ok (.iconst 0, 1) := by decide +kernel
theorem dX11_sheet_2 : decode cX11_sheet 2 = .ok (.bipush 7, 2) := by decide +kernel
theorem dX11_sheet_4 : decode cX11_sheet 4 = .ok (.invokestatic 66, 3) := by decide +kernel
theorem dX11_sheet_7 : decode cX11_sheet 7 = .ok (.ifCond .eq 18, 3) := by decide +kernel
theorem dX11_sheet_10 : decode cX11_sheet 10 = .ok (.iload_n 2, 1) := by decide +kernel
theorem dX11_sheet_11 : decode cX11_sheet 11 = .ok (.iconst 0, 1) := by decide +kernel
theorem dX11_sheet_12 : decode cX11_sheet 12 = .ok (.iconst 2, 1) := by decide +kernel
theorem dX11_sheet_13 : decode cX11_sheet 13 = .ok (.invokestatic 66, 3) := by decide +kernel
theorem dX11_sheet_16 : decode cX11_sheet 16 = .ok (.ifCond .eq 9, 3) := by decide +kernel
theorem dX11_sheet_19 : decode cX11_sheet 19 = .ok (.iload_n 3, 1) := by decide +kernel
theorem dX11_sheet_20 : decode cX11_sheet 20 = .ok (.bipush 60, 2) := by decide +kernel
theorem dX11_sheet_22 : decode cX11_sheet 22 = .ok (.if_icmp .le 6, 3) := by decide +kernel
theorem dX11_sheet_25 : decode cX11_sheet 25 = .ok (.ldc 70, 2) := by decide +kernel
theorem dX11_sheet_27 : decode cX11_sheet 27 = .ok (.ireturn, 1) := by decide +kernel
theorem dX11_sheet_28 : decode cX11_sheet 28 = .ok (.iload_n 3, 1) := by decide +kernel
theorem dX11_sheet_29 : decode cX11_sheet 29 = .ok (.ifCond .ge 9, 3) := by decide +kernel
theorem dX11_sheet_32 : decode cX11_sheet 32 = .ok (.aload_n 0, 1) := by decide +kernel
theorem dX11_sheet_33 : decode cX11_sheet 33 = .ok (.iconst 4, 1) := by decide +kernel
theorem dX11_sheet_34 : decode cX11_sheet 34 = .ok (.invokevirtual 71, 3) := by decide +kernel
theorem dX11_sheet_37 : decode cX11_sheet 37 = .ok (.ireturn, 1) := by decide +kernel
theorem dX11_sheet_38 : decode cX11_sheet 38 = .ok (.aload_n 0, 1) := by decide +kernel
theorem dX11_sheet_39 : decode cX11_sheet 39 = .ok (.getfield 12, 3) := by decide +kernel
theorem dX11_sheet_42 : decode cX11_sheet 42 = .ok (.iload_n 1, 1) := by decide +kernel
theorem dX11_sheet_43 : decode cX11_sheet 43 = .ok (.iload_n 2, 1) := by decide +kernel
theorem dX11_sheet_44 : decode cX11_sheet 44 = .ok (.iload_n 3, 1) := by decide +kernel
theorem dX11_sheet_45 : decode cX11_sheet 45 = .ok (.invokevirtual 75, 3) := by decide +kernel
theorem dX11_sheet_48 : decode cX11_sheet 48 = .ok (.aload_n 0, 1) := by decide +kernel
theorem dX11_sheet_49 : decode cX11_sheet 49 = .ok (.iload_n 3, 1) := by decide +kernel
theorem dX11_sheet_50 : decode cX11_sheet 50 = .ok (.invokevirtual 79, 3) := by decide +kernel
theorem dX11_sheet_53 : decode cX11_sheet 53 = .ok (.ireturn, 1) := by decide +kernel
set_option maxRecDepth 20000 in
theorem ggX11_set_X11_within : GoodIn wsX11_set wsX11_within := goodIn_r _ [6] (by decide +kernel) (by decide +kernel)
set_option maxRecDepth 20000 in
theorem gX11_set_X11_within : GoodIn wsX11_set (va_wsS RX11 66 yX11_within wsX11_within) := goodIn_app (goodIn_of _ (by decide +kernel)) ggX11_set_X11_within
set_option maxRecDepth 20000 in
theorem ggX11_set_X7_look : GoodIn wsX11_set wsX7_look := goodIn_r _ [11, 12, 13, 14, 10, 15, 16, 17, 18, 19, 20, 48, 49, 50] (by decide +kernel) (by decide +kernel)
set_option maxRecDepth 20000 in
theorem gX11_set_X7_look : GoodIn wsX11_set (wsV RX11 82 RX7 yX7_look wsX7_look) := goodIn_app (goodIn_of _ (by decide +kernel)) ggX11_set_X7_look
set_option maxRecDepth 20000 in
theorem ggX11_set_X11_found : GoodIn wsX11_set wsX11_found := goodIn_r _ [24, 25, 26, 40, 41, 42, 43, 44, 45, 46, 47] (by decide +kernel) (by decide +kernel)
set_option maxRecDepth 20000 in
theorem gX11_set_X11_found : GoodIn wsX11_set (wsV RX11 71 RX11 yX11_found wsX11_found) := goodIn_app (goodIn_of _ (by decide +kernel)) ggX11_set_X11_found
set_option maxRecDepth 20000 in
theorem ggX11_set_X7_put : GoodIn wsX11_set wsX7_put := goodIn_r _ [30, 31, 32, 33, 34, 10, 35, 48, 49, 50] (by decide +kernel) (by decide +kernel)
set_option maxRecDepth 20000 in
theorem gX11_set_X7_put : GoodIn wsX11_set (wsV RX11 86 RX7 yX7_put wsX7_put) := goodIn_app (goodIn_of _ (by decide +kernel)) ggX11_set_X7_put
set_option maxRecDepth 20000 in
theorem ggX11_set_X11_fine : GoodIn wsX11_set wsX11_fine := goodIn_r _ [39, 25, 40, 41, 42, 43, 44, 45, 46, 47] (by decide +kernel) (by decide +kernel)
set_option maxRecDepth 20000 in
theorem gX11_set_X11_fine : GoodIn wsX11_set (wsV RX11 79 RX11 yX11_fine wsX11_fine) := goodIn_app (goodIn_of _ (by decide +kernel)) ggX11_set_X11_fine
theorem dX11_set_0 : decode cX11_set 0 = .ok (.iload_n 1, 1) := by decide +kernel
theorem dX11_set_1 : decode cX11_set 1 = .ok (.iconst 0, 1) := by decide +kernel
theorem dX11_set_2 : decode cX11_set 2 = .ok (.bipush 7, 2) := by decide +kernel
theorem dX11_set_4 : decode cX11_set 4 = .ok (.invokestatic 66, 3) := by decide +kernel
theorem dX11_set_7 : decode cX11_set 7 = .ok (.ifCond .ne 6, 3) := by decide +kernel
theorem dX11_set_10 : decode cX11_set 10 = .ok (.ldc 70, 2) := by decide +kernel
theorem dX11_set_12 : decode cX11_set 12 = .ok (.ireturn, 1) := by decide +kernel
theorem dX11_set_13 : decode cX11_set 13 = .ok (.aload_n 0, 1) := by decide +kernel
theorem dX11_set_14 : decode cX11_set 14 = .ok (.getfield 12, 3) := by decide +kernel
theorem dX11_set_17 : decode cX11_set 17 = .ok (.iload_n 1, 1) := by decide +kernel
theorem dX11_set_18 : decode cX11_set 18 = .ok (.iload_n 2, 1) := by decide +kernel
theorem dX11_set_19 : decode cX11_set 19 = .ok (.iconst 1, 1) := by decide +kernel
theorem dX11_set_20 : decode cX11_set 20 = .ok (.invokevirtual 82, 3) := by decide +kernel
theorem dX11_set_23 : decode cX11_set 23 = .ok (.istore 4, 2) := by decide +kernel
theorem dX11_set_25 : decode cX11_set 25 = .ok (.iload 4, 2) := by decide +kernel
theorem dX11_set_27 : decode cX11_set 27 = .ok (.ifCond .eq 12, 3) := by decide +kernel
theorem dX11_set_30 : decode cX11_set 30 = .ok (.aload_n 0, 1) := by decide +kernel
theorem dX11_set_31 : decode cX11_set 31 = .ok (.iload 4, 2) := by decide +kernel
theorem dX11_set_33 : decode cX11_set 33 = .ok (.invokevirtual 71, 3) := by decide +kernel
theorem dX11_set_36 : decode cX11_set 36 = .ok (.goto 17, 3) := by decide +kernel
theorem dX11_set_39 : decode cX11_set 39 = .ok (.aload_n 0, 1) := by decide +kernel
theorem dX11_set_40 : decode cX11_set 40 = .ok (.aload_n 0, 1) := by decide +kernel
theorem dX11_set_41 : decode cX11_set 41 = .ok (.getfield 12, 3) := by decide +kernel
theorem dX11_set_44 : decode cX11_set 44 = .ok (.iload_n 1, 1) := by decide +kernel
theorem dX11_set_45 : decode cX11_set 45 = .ok (.iload_n 2, 1) := by decide +kernel
theorem dX11_set_46 : decode cX11_set 46 = .ok (.iload_n 3, 1) := by decide +kernel
theorem dX11_set_47 : decode cX11_set 47 = .ok (.invokevirtual 86, 3) := by decide +kernel
theorem dX11_set_50 : decode cX11_set 50 = .ok (.invokevirtual 79, 3) := by decide +kernel
theorem dX11_set_53 : decode cX11_set 53 = .ok (.ireturn, 1) := by decide +kernel
set_option maxRecDepth 20000 in
theorem ggX11_copy_X11_within : GoodIn wsX11_copy wsX11_within := goodIn_r _ [6] (by decide +kernel) (by decide +kernel)
set_option maxRecDepth 20000 in
theorem gX11_copy_X11_within : GoodIn wsX11_copy (va_wsS RX11 66 yX11_within wsX11_within) := goodIn_app (goodIn_of _ (by decide +kernel)) ggX11_copy_X11_within
set_option maxRecDepth 20000 in
theorem ggX11_copy_X7_lookAtBoth : GoodIn wsX11_copy wsX7_lookAtBoth := goodIn_r _ [11, 12, 13, 14, 15, 10, 16, 17, 18, 19, 20, 21, 49, 50, 51] (by decide +kernel) (by decide +kernel)
set_option maxRecDepth 20000 in
theorem gX11_copy_X7_lookAtBoth : GoodIn wsX11_copy (wsV RX11 89 RX7 yX7_lookAtBoth wsX7_lookAtBoth) := goodIn_app (goodIn_of _ (by decide +kernel)) ggX11_copy_X7_lookAtBoth
set_option maxRecDepth 20000 in
theorem ggX11_copy_X11_found : GoodIn wsX11_copy wsX11_found := goodIn_r _ [25, 26, 27, 41, 42, 43, 44, 45, 46, 47, 48] (by decide +kernel) (by decide +kernel)
set_option maxRecDepth 20000 in
theorem gX11_copy_X11_found : GoodIn wsX11_copy (wsV RX11 71 RX11 yX11_found wsX11_found) := goodIn_app (goodIn_of _ (by decide +kernel)) ggX11_copy_X11_found
set_option maxRecDepth 20000 in
theorem ggX11_copy_X7_move : GoodIn wsX11_copy wsX7_move := goodIn_r _ [31, 32, 33, 34, 35, 36, 49, 50, 51] (by decide +kernel) (by decide +kernel)
set_option maxRecDepth 20000 in
theorem gX11_copy_X7_move : GoodIn wsX11_copy (wsV RX11 93 RX7 yX7_move wsX7_move) := goodIn_app (goodIn_of _ (by decide +kernel)) ggX11_copy_X7_move
set_option maxRecDepth 20000 in
theorem ggX11_copy_X11_fine : GoodIn wsX11_copy wsX11_fine := goodIn_r _ [40, 26, 41, 42, 43, 44, 45, 46, 47, 48] (by decide +kernel) (by decide +kernel)
set_option maxRecDepth 20000 in
theorem gX11_copy_X11_fine : GoodIn wsX11_copy (wsV RX11 79 RX11 yX11_fine wsX11_fine) := goodIn_app (goodIn_of _ (by decide +kernel)) ggX11_copy_X11_fine
theorem dX11_copy_0 : decode cX11_copy 0 = .ok (.iload_n 1, 1) := by decide +kernel
theorem dX11_copy_1 : decode cX11_copy 1 = .ok (.iconst 0, 1) := by decide +kernel
theorem dX11_copy_2 : decode cX11_copy 2 = .ok (.bipush 7, 2) := by decide +kernel
theorem dX11_copy_4 : decode cX11_copy 4 = .ok (.invokestatic 66, 3) := by decide +kernel
theorem dX11_copy_7 : decode cX11_copy 7 = .ok (.ifCond .eq 13, 3) := by decide +kernel
theorem dX11_copy_10 : decode cX11_copy 10 = .ok (.iload_n 3, 1) := by decide +kernel
theorem dX11_copy_11 : decode cX11_copy 11 = .ok (.iconst 0, 1) := by decide +kernel
theorem dX11_copy_12 : decode cX11_copy 12 = .ok (.bipush 7, 2) := by decide +kernel
theorem dX11_copy_14 : decode cX11_copy 14 = .ok (.invokestatic 66, 3) := by decide +kernel
theorem dX11_copy_17 : decode cX11_copy 17 = .ok (.ifCond .ne 6, 3) := by decide +kernel
theorem dX11_copy_20 : decode cX11_copy 20 = .ok (.ldc 70, 2) := by decide +kernel
theorem dX11_copy_22 : decode cX11_copy 22 = .ok (.ireturn, 1) := by decide +kernel
theorem dX11_copy_23 : decode cX11_copy 23 = .ok (.aload_n 0, 1) := by decide +kernel
theorem dX11_copy_24 : decode cX11_copy 24 = .ok (.getfield 12, 3) := by decide +kernel
theorem dX11_copy_27 : decode cX11_copy 27 = .ok (.iload_n 1, 1) := by decide +kernel
theorem dX11_copy_28 : decode cX11_copy 28 = .ok (.iload_n 2, 1) := by decide +kernel
theorem dX11_copy_29 : decode cX11_copy 29 = .ok (.iload_n 3, 1) := by decide +kernel
theorem dX11_copy_30 : decode cX11_copy 30 = .ok (.iload 4, 2) := by decide +kernel
theorem dX11_copy_32 : decode cX11_copy 32 = .ok (.iload 5, 2) := by decide +kernel
theorem dX11_copy_34 : decode cX11_copy 34 = .ok (.invokevirtual 89, 3) := by decide +kernel
theorem dX11_copy_37 : decode cX11_copy 37 = .ok (.istore 6, 2) := by decide +kernel
theorem dX11_copy_39 : decode cX11_copy 39 = .ok (.iload 6, 2) := by decide +kernel
theorem dX11_copy_41 : decode cX11_copy 41 = .ok (.ifCond .eq 10, 3) := by decide +kernel
theorem dX11_copy_44 : decode cX11_copy 44 = .ok (.aload_n 0, 1) := by decide +kernel
theorem dX11_copy_45 : decode cX11_copy 45 = .ok (.iload 6, 2) := by decide +kernel
theorem dX11_copy_47 : decode cX11_copy 47 = .ok (.invokevirtual 71, 3) := by decide +kernel
theorem dX11_copy_50 : decode cX11_copy 50 = .ok (.ireturn, 1) := by decide +kernel
theorem dX11_copy_51 : decode cX11_copy 51 = .ok (.aload_n 0, 1) := by decide +kernel
theorem dX11_copy_52 : decode cX11_copy 52 = .ok (.getfield 12, 3) := by decide +kernel
theorem dX11_copy_55 : decode cX11_copy 55 = .ok (.iload_n 1, 1) := by decide +kernel
theorem dX11_copy_56 : decode cX11_copy 56 = .ok (.iload_n 2, 1) := by decide +kernel
theorem dX11_copy_57 : decode cX11_copy 57 = .ok (.iload_n 3, 1) := by decide +kernel
theorem dX11_copy_58 : decode cX11_copy 58 = .ok (.iload 4, 2) := by decide +kernel
theorem dX11_copy_60 : decode cX11_copy 60 = .ok (.iload 5, 2) := by decide +kernel
theorem dX11_copy_62 : decode cX11_copy 62 = .ok (.invokevirtual 93, 3) := by decide +kernel
theorem dX11_copy_65 : decode cX11_copy 65 = .ok (.aload_n 0, 1) := by decide +kernel
theorem dX11_copy_66 : decode cX11_copy 66 = .ok (.iload 5, 2) := by decide +kernel
theorem dX11_copy_68 : decode cX11_copy 68 = .ok (.invokevirtual 79, 3) := by decide +kernel
theorem dX11_copy_71 : decode cX11_copy 71 = .ok (.ireturn, 1) := by decide +kernel
set_option maxRecDepth 20000 in
theorem ggX11_drop_X11_within : GoodIn wsX11_drop wsX11_within := goodIn_r _ [6] (by decide +kernel) (by decide +kernel)
set_option maxRecDepth 20000 in
theorem gX11_drop_X11_within : GoodIn wsX11_drop (va_wsS RX11 66 yX11_within wsX11_within) := goodIn_app (goodIn_of _ (by decide +kernel)) ggX11_drop_X11_within
set_option maxRecDepth 20000 in
theorem ggX11_drop_X7_isMissing : GoodIn wsX11_drop wsX7_isMissing := goodIn_r _ [11, 12, 35, 36, 37] (by decide +kernel) (by decide +kernel)
set_option maxRecDepth 20000 in
theorem gX11_drop_X7_isMissing : GoodIn wsX11_drop (wsV RX11 97 RX7 yX7_isMissing wsX7_isMissing) := goodIn_app (goodIn_of _ (by decide +kernel)) ggX11_drop_X7_isMissing
set_option maxRecDepth 20000 in
theorem ggX11_drop_X11_found : GoodIn wsX11_drop wsX11_found := goodIn_r _ [16, 17, 18, 27, 28, 29, 30, 31, 32, 33, 34] (by decide +kernel) (by decide +kernel)
set_option maxRecDepth 20000 in
theorem gX11_drop_X11_found : GoodIn wsX11_drop (wsV RX11 71 RX11 yX11_found wsX11_found) := goodIn_app (goodIn_of _ (by decide +kernel)) ggX11_drop_X11_found
set_option maxRecDepth 20000 in
theorem ggX11_drop_X7_takeAway : GoodIn wsX11_drop wsX7_takeAway := goodIn_r _ [22, 12, 35, 36, 37] (by decide +kernel) (by decide +kernel)
set_option maxRecDepth 20000 in
theorem gX11_drop_X7_takeAway : GoodIn wsX11_drop (wsV RX11 101 RX7 yX7_takeAway wsX7_takeAway) := goodIn_app (goodIn_of _ (by decide +kernel)) ggX11_drop_X7_takeAway
set_option maxRecDepth 20000 in
theorem ggX11_drop_X11_fine : GoodIn wsX11_drop wsX11_fine := goodIn_r _ [26, 17, 27, 28, 29, 30, 31, 32, 33, 34] (by decide +kernel) (by decide +kernel)
set_option maxRecDepth 20000 in
theorem gX11_drop_X11_fine : GoodIn wsX11_drop (wsV RX11 79 RX11 yX11_fine wsX11_fine) := goodIn_app (goodIn_of _ (by decide +kernel)) ggX11_drop_X11_fine
theorem dX11_drop_0 : decode cX11_drop 0 = .ok (.iload_n 1, 1) := by decide +kernel
theorem dX11_drop_1 : decode cX11_drop 1 = .ok (.iconst 0, 1) := by decide +kernel
theorem dX11_drop_2 : decode cX11_drop 2 = .ok (.bipush 7, 2) := by decide +kernel
theorem dX11_drop_4 : decode cX11_drop 4 = .ok (.invokestatic 66, 3) := by decide +kernel
theorem dX11_drop_7 : decode cX11_drop 7 = .ok (.ifCond .ne 6, 3) := by decide +kernel
theorem dX11_drop_10 : decode cX11_drop 10 = .ok (.ldc 70, 2) := by decide +kernel
theorem dX11_drop_12 : decode cX11_drop 12 = .ok (.ireturn, 1) := by decide +kernel
theorem dX11_drop_13 : decode cX11_drop 13 = .ok (.aload_n 0, 1) := by decide +kernel
theorem dX11_drop_14 : decode cX11_drop 14 = .ok (.getfield 12, 3) := by decide +kernel
theorem dX11_drop_17 : decode cX11_drop 17 = .ok (.iload_n 1, 1) := by decide +kernel
theorem dX11_drop_18 : decode cX11_drop 18 = .ok (.invokevirtual 97, 3) := by decide +kernel
theorem dX11_drop_21 : decode cX11_drop 21 = .ok (.ifCond .eq 11, 3) := by decide +kernel
theorem dX11_drop_24 : decode cX11_drop 24 = .ok (.aload_n 0, 1) := by decide +kernel
theorem dX11_drop_25 : decode cX11_drop 25 = .ok (.iconst 1, 1) := by decide +kernel
theorem dX11_drop_26 : decode cX11_drop 26 = .ok (.invokevirtual 71, 3) := by decide +kernel
theorem dX11_drop_29 : decode cX11_drop 29 = .ok (.goto 15, 3) := by decide +kernel
theorem dX11_drop_32 : decode cX11_drop 32 = .ok (.aload_n 0, 1) := by decide +kernel
theorem dX11_drop_33 : decode cX11_drop 33 = .ok (.aload_n 0, 1) := by decide +kernel
theorem dX11_drop_34 : decode cX11_drop 34 = .ok (.getfield 12, 3) := by decide +kernel
theorem dX11_drop_37 : decode cX11_drop 37 = .ok (.iload_n 1, 1) := by decide +kernel
theorem dX11_drop_38 : decode cX11_drop 38 = .ok (.invokevirtual 101, 3) := by decide +kernel
theorem dX11_drop_41 : decode cX11_drop 41 = .ok (.invokevirtual 79, 3) := by decide +kernel
theorem dX11_drop_44 : decode cX11_drop 44 = .ok (.ireturn, 1) := by decide +kernel
set_option maxRecDepth 20000 in
theorem ggX11_world_X11_within : GoodIn wsX11_world wsX11_within := goodIn_r _ [12] (by decide +kernel) (by decide +kernel)
set_option maxRecDepth 20000 in
theorem gX11_world_X11_within : GoodIn wsX11_world (va_wsS RX11 66 yX11_within wsX11_within) := goodIn_app (goodIn_of _ (by decide +kernel)) ggX11_world_X11_within
set_option maxRecDepth 20000 in
theorem ggX11_world_X7_look : GoodIn wsX11_world wsX7_look := goodIn_r _ [17, 18, 19, 20, 16, 21, 22, 23, 24, 25, 26, 82, 83, 84] (by decide +kernel) (by decide +kernel)
set_option maxRecDepth 20000 in
theorem gX11_world_X7_look : GoodIn wsX11_world (wsV RX11 82 RX7 yX7_look wsX7_look) := goodIn_app (goodIn_of _ (by decide +kernel)) ggX11_world_X7_look
set_option maxRecDepth 20000 in
theorem ggX11_world_X11_found : GoodIn wsX11_world wsX11_found := goodIn_r _ [30, 31, 32, 63, 64, 65, 66, 67, 68, 69, 70] (by decide +kernel) (by decide +kernel)
set_option maxRecDepth 20000 in
theorem gX11_world_X11_found : GoodIn wsX11_world (wsV RX11 71 RX11 yX11_found wsX11_found) := goodIn_app (goodIn_of _ (by decide +kernel)) ggX11_world_X11_found
set_option maxRecDepth 20000 in
theorem ggX11_world_X7_areWithin : GoodIn wsX11_world wsX7_areWithin := goodIn_r _ [36, 37, 10, 11, 12, 82, 83, 84] (by decide +kernel) (by decide +kernel)
set_option maxRecDepth 20000 in
theorem gX11_world_X7_areWithin : GoodIn wsX11_world (wsV RX11 108 RX7 yX7_areWithin wsX7_areWithin) := goodIn_app (goodIn_of _ (by decide +kernel)) ggX11_world_X7_areWithin
set_option maxRecDepth 20000 in
theorem ggX11_world_X6_add : GoodIn wsX11_world wsX6_add := goodIn_r _ [42, 43, 44, 45, 46, 47, 48, 49, 50, 51, 52, 53, 41, 54, 55, 56, 57, 58, 71, 72, 73, 74] (by decide +kernel) (by decide +kernel)
set_option maxRecDepth 20000 in
theorem gX11_world_X6_add : GoodIn wsX11_world (wsV RX11 120 RX6 yX6_add wsX6_add) := goodIn_app (goodIn_of _ (by decide +kernel)) ggX11_world_X6_add
set_option maxRecDepth 20000 in
theorem ggX11_world_X11_fine : GoodIn wsX11_world wsX11_fine := goodIn_r _ [62, 31, 63, 64, 65, 66, 67, 68, 69, 70] (by decide +kernel) (by decide +kernel)
set_option maxRecDepth 20000 in
theorem gX11_world_X11_fine : GoodIn wsX11_world (wsV RX11 79 RX11 yX11_fine wsX11_fine) := goodIn_app (goodIn_of _ (by decide +kernel)) ggX11_world_X11_fine
theorem dX11_world_0 : decode cX11_world 0 = .ok (.iload_n 1, 1) := by decide +kernel
theorem dX11_world_1 : decode cX11_world 1 = .ok (.iconst 1, 1) := by decide +kernel
theorem dX11_world_2 : decode cX11_world 2 = .ok (.bipush 20, 2) := by decide +kernel
theorem dX11_world_4 : decode cX11_world 4 = .ok (.invokestatic 66, 3) := by decide +kernel
theorem dX11_world_7 : decode cX11_world 7 = .ok (.ifCond .eq 13, 3) := by decide +kernel
theorem dX11_world_10 : decode cX11_world 10 = .ok (.iload_n 2, 1) := by decide +kernel
theorem dX11_world_11 : decode cX11_world 11 = .ok (.iconst 0, 1) := by decide +kernel
theorem dX11_world_12 : decode cX11_world 12 = .ok (.bipush 7, 2) := by decide +kernel
theorem dX11_world_14 : decode cX11_world 14 = .ok (.invokestatic 66, 3) := by decide +kernel
theorem dX11_world_17 : decode cX11_world 17 = .ok (.ifCond .ne 6, 3) := by decide +kernel
theorem dX11_world_20 : decode cX11_world 20 = .ok (.ldc 70, 2) := by decide +kernel
theorem dX11_world_22 : decode cX11_world 22 = .ok (.ireturn, 1) := by decide +kernel
theorem dX11_world_23 : decode cX11_world 23 = .ok (.aload_n 0, 1) := by decide +kernel
theorem dX11_world_24 : decode cX11_world 24 = .ok (.getfield 19, 3) := by decide +kernel
theorem dX11_world_27 : decode cX11_world 27 = .ok (.getfield 104, 3) := by decide +kernel
theorem dX11_world_30 : decode cX11_world 30 = .ok (.bipush 8, 2) := by decide +kernel
theorem dX11_world_32 : decode cX11_world 32 = .ok (.if_icmp .lt 6, 3) := by decide +kernel
theorem dX11_world_35 : decode cX11_world 35 = .ok (.ldc 107, 2) := by decide +kernel
theorem dX11_world_37 : decode cX11_world 37 = .ok (.ireturn, 1) := by decide +kernel
theorem dX11_world_38 : decode cX11_world 38 = .ok (.aload_n 0, 1) := by decide +kernel
theorem dX11_world_39 : decode cX11_world 39 = .ok (.getfield 12, 3) := by decide +kernel
theorem dX11_world_42 : decode cX11_world 42 = .ok (.iload_n 2, 1) := by decide +kernel
theorem dX11_world_43 : decode cX11_world 43 = .ok (.iload_n 3, 1) := by decide +kernel
theorem dX11_world_44 : decode cX11_world 44 = .ok (.bipush 8, 2) := by decide +kernel
theorem dX11_world_46 : decode cX11_world 46 = .ok (.invokevirtual 82, 3) := by decide +kernel
theorem dX11_world_49 : decode cX11_world 49 = .ok (.istore 4, 2) := by decide +kernel
theorem dX11_world_51 : decode cX11_world 51 = .ok (.iload 4, 2) := by decide +kernel
theorem dX11_world_53 : decode cX11_world 53 = .ok (.ifCond .eq 10, 3) := by decide +kernel
theorem dX11_world_56 : decode cX11_world 56 = .ok (.aload_n 0, 1) := by decide +kernel
theorem dX11_world_57 : decode cX11_world 57 = .ok (.iload 4, 2) := by decide +kernel
theorem dX11_world_59 : decode cX11_world 59 = .ok (.invokevirtual 71, 3) := by decide +kernel
theorem dX11_world_62 : decode cX11_world 62 = .ok (.ireturn, 1) := by decide +kernel
theorem dX11_world_63 : decode cX11_world 63 = .ok (.aload_n 0, 1) := by decide +kernel
theorem dX11_world_64 : decode cX11_world 64 = .ok (.getfield 12, 3) := by decide +kernel
theorem dX11_world_67 : decode cX11_world 67 = .ok (.iload_n 2, 1) := by decide +kernel
theorem dX11_world_68 : decode cX11_world 68 = .ok (.iload_n 3, 1) := by decide +kernel
theorem dX11_world_69 : decode cX11_world 69 = .ok (.bipush 8, 2) := by decide +kernel
theorem dX11_world_71 : decode cX11_world 71 = .ok (.sipush 1000, 3) := by decide +kernel
theorem dX11_world_74 : decode cX11_world 74 = .ok (.invokevirtual 108, 3) := by decide +kernel
theorem dX11_world_77 : decode cX11_world 77 = .ok (.ifCond .ne 6, 3) := by decide +kernel
theorem dX11_world_80 : decode cX11_world 80 = .ok (.ldc 70, 2) := by decide +kernel
theorem dX11_world_82 : decode cX11_world 82 = .ok (.ireturn, 1) := by decide +kernel
theorem dX11_world_83 : decode cX11_world 83 = .ok (.aload_n 0, 1) := by decide +kernel
theorem dX11_world_84 : decode cX11_world 84 = .ok (.getfield 37, 3) := by decide +kernel
theorem dX11_world_87 : decode cX11_world 87 = .ok (.iconst 1, 1) := by decide +kernel
theorem dX11_world_88 : decode cX11_world 88 = .ok (.putfield 112, 3) := by decide +kernel
theorem dX11_world_91 : decode cX11_world 91 = .ok (.aload_n 0, 1) := by decide +kernel
theorem dX11_world_92 : decode cX11_world 92 = .ok (.aload_n 0, 1) := by decide +kernel
theorem dX11_world_93 : decode cX11_world 93 = .ok (.getfield 19, 3) := by decide +kernel
theorem dX11_world_96 : decode cX11_world 96 = .ok (.iload_n 1, 1) := by decide +kernel
theorem dX11_world_97 : decode cX11_world 97 = .ok (.aload_n 0, 1) := by decide +kernel
theorem dX11_world_98 : decode cX11_world 98 = .ok (.getfield 12, 3) := by decide +kernel
theorem dX11_world_101 : decode cX11_world 101 = .ok (.getfield 116, 3) := by decide +kernel
theorem dX11_world_104 : decode cX11_world 104 = .ok (.iload_n 2, 1) := by decide +kernel
theorem dX11_world_105 : decode cX11_world 105 = .ok (.aaload, 1) := by decide +kernel
theorem dX11_world_106 : decode cX11_world 106 = .ok (.iload_n 3, 1) := by decide +kernel
theorem dX11_world_107 : decode cX11_world 107 = .ok (.invokevirtual 120, 3) := by decide +kernel
theorem dX11_world_110 : decode cX11_world 110 = .ok (.invokevirtual 79, 3) := by decide +kernel
theorem dX11_world_113 : decode cX11_world 113 = .ok (.ireturn, 1) := by decide +kernel
set_option maxRecDepth 20000 in
theorem ggX11_river_X11_within : GoodIn wsX11_river wsX11_within := goodIn_r _ [9] (by decide +kernel) (by decide +kernel)
set_option maxRecDepth 20000 in
theorem gX11_river_X11_within : GoodIn wsX11_river (va_wsS RX11 66 yX11_within wsX11_within) := goodIn_app (goodIn_of _ (by decide +kernel)) ggX11_river_X11_within
theorem dX11_river_0 : decode cX11_river 0 = .ok (.iload_n 1, 1) := by decide +kernel
theorem dX11_river_1 : decode cX11_river 1 = .ok (.iconst 0, 1) := by decide +kernel
theorem dX11_river_2 : decode cX11_river 2 = .ok (.bipush 7, 2) := by decide +kernel
theorem dX11_river_4 : decode cX11_river 4 = .ok (.invokestatic 66, 3) := by decide +kernel
theorem dX11_river_7 : decode cX11_river 7 = .ok (.ifCond .eq 13, 3) := by decide +kernel
theorem dX11_river_10 : decode cX11_river 10 = .ok (.iload_n 2, 1) := by decide +kernel
theorem dX11_river_11 : decode cX11_river 11 = .ok (.iconst 0, 1) := by decide +kernel
theorem dX11_river_12 : decode cX11_river 12 = .ok (.bipush 100, 2) := by decide +kernel
theorem dX11_river_14 : decode cX11_river 14 = .ok (.invokestatic 66, 3) := by decide +kernel
theorem dX11_river_17 : decode cX11_river 17 = .ok (.ifCond .ne 6, 3) := by decide +kernel
theorem dX11_river_20 : decode cX11_river 20 = .ok (.ldc 70, 2) := by decide +kernel
theorem dX11_river_22 : decode cX11_river 22 = .ok (.ireturn, 1) := by decide +kernel
theorem dX11_river_23 : decode cX11_river 23 = .ok (.aload_n 0, 1) := by decide +kernel
theorem dX11_river_24 : decode cX11_river 24 = .ok (.getfield 28, 3) := by decide +kernel
theorem dX11_river_27 : decode cX11_river 27 = .ok (.getfield 124, 3) := by decide +kernel
theorem dX11_river_30 : decode cX11_river 30 = .ok (.iload_n 1, 1) := by decide +kernel
theorem dX11_river_31 : decode cX11_river 31 = .ok (.iaload, 1) := by decide +kernel
theorem dX11_river_32 : decode cX11_river 32 = .ok (.istore_n 3, 1) := by decide +kernel
theorem dX11_river_33 : decode cX11_river 33 = .ok (.aload_n 0, 1) := by decide +kernel
theorem dX11_river_34 : decode cX11_river 34 = .ok (.getfield 28, 3) := by decide +kernel
theorem dX11_river_37 : decode cX11_river 37 = .ok (.getfield 124, 3) := by decide +kernel
theorem dX11_river_40 : decode cX11_river 40 = .ok (.iload_n 1, 1) := by decide +kernel
theorem dX11_river_41 : decode cX11_river 41 = .ok (.iload_n 2, 1) := by decide +kernel
theorem dX11_river_42 : decode cX11_river 42 = .ok (.iastore, 1) := by decide +kernel
theorem dX11_river_43 : decode cX11_river 43 = .ok (.aload_n 0, 1) := by decide +kernel
theorem dX11_river_44 : decode cX11_river 44 = .ok (.getfield 37, 3) := by decide +kernel
theorem dX11_river_47 : decode cX11_river 47 = .ok (.iconst 1, 1) := by decide +kernel
theorem dX11_river_48 : decode cX11_river 48 = .ok (.putfield 112, 3) := by decide +kernel
theorem dX11_river_51 : decode cX11_river 51 = .ok (.iload_n 3, 1) := by decide +kernel
theorem dX11_river_52 : decode cX11_river 52 = .ok (.ireturn, 1) := by decide +kernel
set_option maxRecDepth 20000 in
theorem ggX11_rule_X11_within : GoodIn wsX11_rule wsX11_within := goodIn_r _ [9] (by decide +kernel) (by decide +kernel)
set_option maxRecDepth 20000 in
theorem gX11_rule_X11_within : GoodIn wsX11_rule (va_wsS RX11 66 yX11_within wsX11_within) := goodIn_app (goodIn_of _ (by decide +kernel)) ggX11_rule_X11_within
set_option maxRecDepth 20000 in
theorem ggX11_rule_X11_mayBeRule : GoodIn wsX11_rule wsX11_mayBeRule := goodIn_r _ [12, 6, 7, 8, 9] (by decide +kernel) (by decide +kernel)
set_option maxRecDepth 20000 in
theorem gX11_rule_X11_mayBeRule : GoodIn wsX11_rule (va_wsS RX11 128 yX11_mayBeRule wsX11_mayBeRule) := goodIn_app (goodIn_of _ (by decide +kernel)) ggX11_rule_X11_mayBeRule
theorem dX11_rule_0 : decode cX11_rule 0 = .ok (.iload_n 1, 1) := by decide +kernel
theorem dX11_rule_1 : decode cX11_rule 1 = .ok (.iconst 0, 1) := by decide +kernel
theorem dX11_rule_2 : decode cX11_rule 2 = .ok (.bipush 7, 2) := by decide +kernel
theorem dX11_rule_4 : decode cX11_rule 4 = .ok (.invokestatic 66, 3) := by decide +kernel
theorem dX11_rule_7 : decode cX11_rule 7 = .ok (.ifCond .eq 11, 3) := by decide +kernel
theorem dX11_rule_10 : decode cX11_rule 10 = .ok (.iload_n 1, 1) := by decide +kernel
theorem dX11_rule_11 : decode cX11_rule 11 = .ok (.iload_n 2, 1) := by decide +kernel
theorem dX11_rule_12 : decode cX11_rule 12 = .ok (.invokestatic 128, 3) := by decide +kernel
theorem dX11_rule_15 : decode cX11_rule 15 = .ok (.ifCond .ne 6, 3) := by decide +kernel
theorem dX11_rule_18 : decode cX11_rule 18 = .ok (.ldc 70, 2) := by decide +kernel
theorem dX11_rule_20 : decode cX11_rule 20 = .ok (.ireturn, 1) := by decide +kernel
theorem dX11_rule_21 : decode cX11_rule 21 = .ok (.aload_n 0, 1) := by decide +kernel
theorem dX11_rule_22 : decode cX11_rule 22 = .ok (.getfield 28, 3) := by decide +kernel
theorem dX11_rule_25 : decode cX11_rule 25 = .ok (.getfield 132, 3) := by decide +kernel
theorem dX11_rule_28 : decode cX11_rule 28 = .ok (.iload_n 1, 1) := by decide +kernel
theorem dX11_rule_29 : decode cX11_rule 29 = .ok (.iaload, 1) := by decide +kernel
theorem dX11_rule_30 : decode cX11_rule 30 = .ok (.istore_n 3, 1) := by decide +kernel
theorem dX11_rule_31 : decode cX11_rule 31 = .ok (.aload_n 0, 1) := by decide +kernel
theorem dX11_rule_32 : decode cX11_rule 32 = .ok (.getfield 28, 3) := by decide +kernel
theorem dX11_rule_35 : decode cX11_rule 35 = .ok (.getfield 132, 3) := by decide +kernel
theorem dX11_rule_38 : decode cX11_rule 38 = .ok (.iload_n 1, 1) := by decide +kernel
theorem dX11_rule_39 : decode cX11_rule 39 = .ok (.iload_n 2, 1) := by decide +kernel
theorem dX11_rule_40 : decode cX11_rule 40 = .ok (.iastore, 1) := by decide +kernel
theorem dX11_rule_41 : decode cX11_rule 41 = .ok (.aload_n 0, 1) := by decide +kernel
theorem dX11_rule_42 : decode cX11_rule 42 = .ok (.getfield 37, 3) := by decide +kernel
theorem dX11_rule_45 : decode cX11_rule 45 = .ok (.iconst 1, 1) := by decide +kernel
theorem dX11_rule_46 : decode cX11_rule 46 = .ok (.putfield 112, 3) := by decide +kernel
theorem dX11_rule_49 : decode cX11_rule 49 = .ok (.iload_n 3, 1) := by decide +kernel
theorem dX11_rule_50 : decode cX11_rule 50 = .ok (.ireturn, 1) := by decide +kernel
set_option maxRecDepth 20000 in
theorem ggX11_mayBeRule_X11_within : GoodIn wsX11_mayBeRule wsX11_within := goodIn_r _ [4] (by decide +kernel) (by decide +kernel)
set_option maxRecDepth 20000 in
theorem gX11_mayBeRule_X11_within : GoodIn wsX11_mayBeRule (va_wsS RX11 66 yX11_within wsX11_within) := goodIn_app (goodIn_of _ (by decide +kernel)) ggX11_mayBeRule_X11_within
theorem dX11_mayBeRule_0 : decode cX11_mayBeRule 0 = .ok (.iload_n 0, 1) := by decide +kernel
theorem dX11_mayBeRule_1 : decode cX11_mayBeRule 1 = .ok (.ifCond .eq 8, 3) := by decide +kernel
theorem dX11_mayBeRule_4 : decode cX11_mayBeRule 4 = .ok (.iload_n 0, 1) := by decide +kernel
theorem dX11_mayBeRule_5 : decode cX11_mayBeRule 5 = .ok (.iconst 1, 1) := by decide +kernel
theorem dX11_mayBeRule_6 : decode cX11_mayBeRule 6 = .ok (.if_icmp .ne 12, 3) := by decide +kernel
theorem dX11_mayBeRule_9 : decode cX11_mayBeRule 9 = .ok (.iload_n 1, 1) := by decide +kernel
theorem dX11_mayBeRule_10 : decode cX11_mayBeRule 10 = .ok (.iconst 1, 1) := by decide +kernel
theorem dX11_mayBeRule_11 : decode cX11_mayBeRule 11 = .ok (.iconst 3, 1) := by decide +kernel
theorem dX11_mayBeRule_12 : decode cX11_mayBeRule 12 = .ok (.invokestatic 66, 3) := by decide +kernel
theorem dX11_mayBeRule_15 : decode cX11_mayBeRule 15 = .ok (.goto 11, 3) := by decide +kernel
theorem dX11_mayBeRule_18 : decode cX11_mayBeRule 18 = .ok (.iload_n 1, 1) := by decide +kernel
theorem dX11_mayBeRule_19 : decode cX11_mayBeRule 19 = .ok (.iconst 0, 1) := by decide +kernel
theorem dX11_mayBeRule_20 : decode cX11_mayBeRule 20 = .ok (.sipush 1000, 3) := by decide +kernel
theorem dX11_mayBeRule_23 : decode cX11_mayBeRule 23 = .ok (.invokestatic 66, 3) := by decide +kernel
theorem dX11_mayBeRule_26 : decode cX11_mayBeRule 26 = .ok (.ireturn, 1) := by decide +kernel
set_option maxRecDepth 20000 in
theorem ggX11_best_X4_refresh : GoodIn wsX11_best wsX4_refresh := goodIn_r _ [7, 8, 9, 10, 11, 12, 13, 14, 15, 16, 6, 17, 18, 19, 20, 21, 22, 23, 24, 25, 26, 27, 28, 29, 30, 31, 32, 33, 34, 35, 36, 37, 38, 39, 40, 41, 42, 43, 44, 45, 46, 47, 48, 49, 50, 51, 52, 53, 54, 55, 56, 57, 58, 59, 60, 61, 62, 63, 64, 65, 66, 67, 68, 69, 70, 71, 72, 81, 82, 83, 84, 85, 86, 87, 88, 89, 90, 91, 92, 93, 94] (by decide +kernel) (by decide +kernel)
set_option maxRecDepth 20000 in
theorem gX11_best_X4_refresh : GoodIn wsX11_best (wsV RX11 135 RX4 yX4_refresh wsX4_refresh) := goodIn_app (goodIn_of _ (by decide +kernel)) ggX11_best_X4_refresh
theorem dX11_best_0 : decode cX11_best 0 = .ok (.aload_n 0, 1) := by decide +kernel
theorem dX11_best_1 : decode cX11_best 1 = .ok (.getfield 37, 3) := by decide +kernel
theorem dX11_best_4 : decode cX11_best 4 = .ok (.invokevirtual 135, 3) := by decide +kernel
theorem dX11_best_7 : decode cX11_best 7 = .ok (.aload_n 0, 1) := by decide +kernel
theorem dX11_best_8 : decode cX11_best 8 = .ok (.getfield 37, 3) := by decide +kernel
theorem dX11_best_11 : decode cX11_best 11 = .ok (.getfield 138, 3) := by decide +kernel
theorem dX11_best_14 : decode cX11_best 14 = .ok (.lreturn, 1) := by decide +kernel
set_option maxRecDepth 20000 in
theorem ggX11_hour_X11_within : GoodIn wsX11_hour wsX11_within := goodIn_r _ [9] (by decide +kernel) (by decide +kernel)
set_option maxRecDepth 20000 in
theorem gX11_hour_X11_within : GoodIn wsX11_hour (va_wsS RX11 66 yX11_within wsX11_within) := goodIn_app (goodIn_of _ (by decide +kernel)) ggX11_hour_X11_within
set_option maxRecDepth 20000 in
theorem ggX11_hour_X4_refresh : GoodIn wsX11_hour wsX4_refresh := goodIn_r _ [14, 15, 16, 17, 18, 19, 20, 21, 22, 23, 13, 24, 25, 26, 27, 28, 29, 30, 31, 32, 33, 34, 35, 36, 37, 38, 39, 40, 41, 42, 43, 44, 45, 46, 47, 48, 49, 50, 51, 52, 53, 54, 55, 56, 57, 58, 59, 60, 61, 62, 63, 64, 65, 66, 67, 68, 69, 70, 71, 72, 73, 74, 75, 76, 77, 78, 79, 110, 111, 112, 113, 114, 115, 116, 106, 107, 108, 109, 117, 118, 119] (by decide +kernel) (by decide +kernel)
set_option maxRecDepth 20000 in
theorem gX11_hour_X4_refresh : GoodIn wsX11_hour (wsV RX11 135 RX4 yX4_refresh wsX4_refresh) := goodIn_app (goodIn_of _ (by decide +kernel)) ggX11_hour_X4_refresh
set_option maxRecDepth 20000 in
theorem ggX11_hour_X4_stateAt : GoodIn wsX11_hour wsX4_stateAt := goodIn_r _ [83, 47, 84, 85, 86, 13, 87, 30, 17, 19, 72, 59, 60, 51, 61, 53, 73, 74, 75, 76, 77, 78, 110, 111, 112, 113, 114, 115, 116, 106, 107, 108, 109, 117, 118, 119] (by decide +kernel) (by decide +kernel)
set_option maxRecDepth 20000 in
theorem gX11_hour_X4_stateAt : GoodIn wsX11_hour (wsV RX11 142 RX4 yX4_stateAt wsX4_stateAt) := goodIn_app (goodIn_of _ (by decide +kernel)) ggX11_hour_X4_stateAt
set_option maxRecDepth 20000 in
theorem ggX11_hour_X4_tells : GoodIn wsX11_hour wsX4_tells := goodIn_r _ [87, 30, 17, 19, 110, 111, 112, 113, 114, 115, 116, 106, 107, 108, 109] (by decide +kernel) (by decide +kernel)
set_option maxRecDepth 20000 in
theorem gX11_hour_X4_tells : GoodIn wsX11_hour (wsV RX11 146 RX4 yX4_tells wsX4_tells) := goodIn_app (goodIn_of _ (by decide +kernel)) ggX11_hour_X4_tells
set_option maxRecDepth 20000 in
theorem ggX11_hour_X0_order : GoodIn wsX11_hour wsX0_order := goodIn_r _ [91] (by decide +kernel) (by decide +kernel)
set_option maxRecDepth 20000 in
theorem gX11_hour_X0_order : GoodIn wsX11_hour (va_wsS RX11 149 yX0_order wsX0_order) := goodIn_app (goodIn_of _ (by decide +kernel)) ggX11_hour_X0_order
set_option maxRecDepth 20000 in
theorem ggX11_hour_X0_stands : GoodIn wsX11_hour wsX0_stands := goodIn_r _ [61, 53, 117, 118, 119] (by decide +kernel) (by decide +kernel)
set_option maxRecDepth 20000 in
theorem gX11_hour_X0_stands : GoodIn wsX11_hour (wsV RX11 153 RX0 yX0_stands wsX0_stands) := goodIn_app (goodIn_of _ (by decide +kernel)) ggX11_hour_X0_stands
set_option maxRecDepth 20000 in
theorem ggX11_hour_X0_how : GoodIn wsX11_hour wsX0_how := goodIn_r _ [95] (by decide +kernel) (by decide +kernel)
set_option maxRecDepth 20000 in
theorem gX11_hour_X0_how : GoodIn wsX11_hour (va_wsS RX11 156 yX0_how wsX0_how) := goodIn_app (goodIn_of _ (by decide +kernel)) ggX11_hour_X0_how
set_option maxRecDepth 20000 in
theorem ggX11_hour_X0_water : GoodIn wsX11_hour wsX0_water := goodIn_r _ [65, 66, 67, 68, 69, 56, 70, 71, 117, 118, 119, 106, 107, 108, 109] (by decide +kernel) (by decide +kernel)
set_option maxRecDepth 20000 in
theorem gX11_hour_X0_water : GoodIn wsX11_hour (wsV RX11 159 RX0 yX0_water wsX0_water) := goodIn_app (goodIn_of _ (by decide +kernel)) ggX11_hour_X0_water
set_option maxRecDepth 20000 in
theorem ggX11_hour_X0_lost : GoodIn wsX11_hour wsX0_lost := goodIn_r _ [52, 53, 54, 55, 56, 57, 58, 59, 60, 51, 61, 62, 63, 64, 65, 66, 67, 68, 69, 70, 71, 117, 118, 119, 106, 107, 108, 109] (by decide +kernel) (by decide +kernel)
set_option maxRecDepth 20000 in
theorem gX11_hour_X0_lost : GoodIn wsX11_hour (wsV RX11 162 RX0 yX0_lost wsX0_lost) := goodIn_app (goodIn_of _ (by decide +kernel)) ggX11_hour_X0_lost
theorem dX11_hour_0 : decode cX11_hour 0 = .ok (.iload_n 1, 1) := by decide +kernel
theorem dX11_hour_1 : decode cX11_hour 1 = .ok (.iconst 0, 1) := by decide +kernel
theorem dX11_hour_2 : decode cX11_hour 2 = .ok (.aload_n 0, 1) := by decide +kernel
