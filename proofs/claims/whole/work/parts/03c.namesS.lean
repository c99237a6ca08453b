theorem dX5_failedOnes_25 : decode cX5_failedOnes 25 = .ok (.aload 5, 2) := by decide +kernel
theorem dX5_failedOnes_27 : decode cX5_failedOnes 27 = .ok (.ifnull 14, 3) := by decide +kernel
theorem dX5_failedOnes_30 : decode cX5_failedOnes 30 = .ok (.aload 5, 2) := by decide +kernel
theorem dX5_failedOnes_32 : decode cX5_failedOnes 32 = .ok (.getfield 29, 3) := by decide +kernel
theorem dX5_failedOnes_35 : decode cX5_failedOnes 35 = .ok (.ifCond .eq 6, 3) := by decide +kernel
theorem dX5_failedOnes_38 : decode cX5_failedOnes 38 = .ok (.iinc 1 1, 3) := by decide +kernel
theorem dX5_failedOnes_41 : decode cX5_failedOnes 41 = .ok (.iinc 4 1, 3) := by decide +kernel
theorem dX5_failedOnes_44 : decode cX5_failedOnes 44 = .ok (.goto (-31), 3) := by decide +kernel
theorem dX5_failedOnes_47 : decode cX5_failedOnes 47 = .ok (.iload_n 1, 1) := by decide +kernel
theorem dX5_failedOnes_48 : decode cX5_failedOnes 48 = .ok (.ireturn, 1) := by decide +kernel
set_option maxRecDepth 20000 in
theorem ggX5_timeToShut_J7_fill_53178 : GoodIn wsX5_timeToShut wsJ7_fill_53178 := goodIn_r _ [14] (by decide +kernel) (by decide +kernel)
set_option maxRecDepth 20000 in
theorem gX5_timeToShut_J7_fill_53178 : GoodIn wsX5_timeToShut (va_wsS RX5 33 yJ7_fill_53178 wsJ7_fill_53178) := goodIn_app (goodIn_of _ (by decide +kernel)) ggX5_timeToShut_J7_fill_53178
set_option maxRecDepth 20000 in
theorem ggX5_timeToShut_X5_endByHand : GoodIn wsX5_timeToShut wsX5_endByHand := goodIn_r _ [19, 1, 20, 21, 22] (by decide +kernel) (by decide +kernel)
set_option maxRecDepth 20000 in
theorem gX5_timeToShut_X5_endByHand : GoodIn wsX5_timeToShut (wsV RX5 46 RX5 yX5_endByHand wsX5_endByHand) := goodIn_app (goodIn_of _ (by decide +kernel)) ggX5_timeToShut_X5_endByHand
theorem dX5_timeToShut_0 : decode cX5_timeToShut 0 = .ok (.aload_n 0, 1) := by decide +kernel
theorem dX5_timeToShut_1 : decode cX5_timeToShut 1 = .ok (.getfield 17, 3) := by decide +kernel
theorem dX5_timeToShut_4 : decode cX5_timeToShut 4 = .ok (.iconst 0, 1) := by decide +kernel
theorem dX5_timeToShut_5 : decode cX5_timeToShut 5 = .ok (.invokestatic 33, 3) := by decide +kernel
theorem dX5_timeToShut_8 : decode cX5_timeToShut 8 = .ok (.iconst 0, 1) := by decide +kernel
theorem dX5_timeToShut_9 : decode cX5_timeToShut 9 = .ok (.istore_n 3, 1) := by decide +kernel
theorem dX5_timeToShut_10 : decode cX5_timeToShut 10 = .ok (.iconst 0, 1) := by decide +kernel
theorem dX5_timeToShut_11 : decode cX5_timeToShut 11 = .ok (.istore 4, 2) := by decide +kernel
theorem dX5_timeToShut_13 : decode cX5_timeToShut 13 = .ok (.iload 4, 2) := by decide +kernel
theorem dX5_timeToShut_15 : decode cX5_timeToShut 15 = .ok (.bipush 6, 2) := by decide +kernel
theorem dX5_timeToShut_17 : decode cX5_timeToShut 17 = .ok (.if_icmp .ge 77, 3) := by decide +kernel
theorem dX5_timeToShut_20 : decode cX5_timeToShut 20 = .ok (.aload_n 0, 1) := by decide +kernel
theorem dX5_timeToShut_21 : decode cX5_timeToShut 21 = .ok (.getfield 11, 3) := by decide +kernel
theorem dX5_timeToShut_24 : decode cX5_timeToShut 24 = .ok (.iload 4, 2) := by decide +kernel
theorem dX5_timeToShut_26 : decode cX5_timeToShut 26 = .ok (.aaload, 1) := by decide +kernel
theorem dX5_timeToShut_27 : decode cX5_timeToShut 27 = .ok (.astore 5, 2) := by decide +kernel
theorem dX5_timeToShut_29 : decode cX5_timeToShut 29 = .ok (.aload 5, 2) := by decide +kernel
theorem dX5_timeToShut_31 : decode cX5_timeToShut 31 = .ok (.ifnonnull 6, 3) := by decide +kernel
theorem dX5_timeToShut_34 : decode cX5_timeToShut 34 = .ok (.goto 54, 3) := by decide +kernel
theorem dX5_timeToShut_37 : decode cX5_timeToShut 37 = .ok (.aload 5, 2) := by decide +kernel
theorem dX5_timeToShut_39 : decode cX5_timeToShut 39 = .ok (.getfield 39, 3) := by decide +kernel
theorem dX5_timeToShut_42 : decode cX5_timeToShut 42 = .ok (.istore 6, 2) := by decide +kernel
theorem dX5_timeToShut_44 : decode cX5_timeToShut 44 = .ok (.aload 5, 2) := by decide +kernel
theorem dX5_timeToShut_46 : decode cX5_timeToShut 46 = .ok (.getfield 29, 3) := by decide +kernel
theorem dX5_timeToShut_49 : decode cX5_timeToShut 49 = .ok (.ifCond .ne 9, 3) := by decide +kernel
theorem dX5_timeToShut_52 : decode cX5_timeToShut 52 = .ok (.iload 4, 2) := by decide +kernel
theorem dX5_timeToShut_54 : decode cX5_timeToShut 54 = .ok (.iload_n 2, 1) := by decide +kernel
theorem dX5_timeToShut_55 : decode cX5_timeToShut 55 = .ok (.if_icmp .ne 26, 3) := by decide +kernel
theorem dX5_timeToShut_58 : decode cX5_timeToShut 58 = .ok (.aload 5, 2) := by decide +kernel
theorem dX5_timeToShut_60 : decode cX5_timeToShut 60 = .ok (.getfield 42, 3) := by decide +kernel
theorem dX5_timeToShut_63 : decode cX5_timeToShut 63 = .ok (.ifCond .ne 6, 3) := by decide +kernel
theorem dX5_timeToShut_66 : decode cX5_timeToShut 66 = .ok (.ldc 45, 2) := by decide +kernel
theorem dX5_timeToShut_68 : decode cX5_timeToShut 68 = .ok (.ireturn, 1) := by decide +kernel
theorem dX5_timeToShut_69 : decode cX5_timeToShut 69 = .ok (.aload_n 0, 1) := by decide +kernel
theorem dX5_timeToShut_70 : decode cX5_timeToShut 70 = .ok (.iload_n 1, 1) := by decide +kernel
theorem dX5_timeToShut_71 : decode cX5_timeToShut 71 = .ok (.aload 5, 2) := by decide +kernel
theorem dX5_timeToShut_73 : decode cX5_timeToShut 73 = .ok (.getfield 42, 3) := by decide +kernel
theorem dX5_timeToShut_76 : decode cX5_timeToShut 76 = .ok (.invokevirtual 46, 3) := by decide +kernel
theorem dX5_timeToShut_79 : decode cX5_timeToShut 79 = .ok (.istore 6, 2) := by decide +kernel
theorem dX5_timeToShut_81 : decode cX5_timeToShut 81 = .ok (.iload_n 3, 1) := by decide +kernel
theorem dX5_timeToShut_82 : decode cX5_timeToShut 82 = .ok (.iload 6, 2) := by decide +kernel
theorem dX5_timeToShut_84 : decode cX5_timeToShut 84 = .ok (.invokestatic 50, 3) := by decide +kernel
theorem dX5_timeToShut_87 : decode cX5_timeToShut 87 = .ok (.istore_n 3, 1) := by decide +kernel
theorem dX5_timeToShut_88 : decode cX5_timeToShut 88 = .ok (.iinc 4 1, 3) := by decide +kernel
theorem dX5_timeToShut_91 : decode cX5_timeToShut 91 = .ok (.goto (-78), 3) := by decide +kernel
theorem dX5_timeToShut_94 : decode cX5_timeToShut 94 = .ok (.iload_n 3, 1) := by decide +kernel
theorem dX5_timeToShut_95 : decode cX5_timeToShut 95 = .ok (.ireturn, 1) := by decide +kernel
theorem dX5_endByHand_0 : decode cX5_endByHand 0 = .ok (.iconst 0, 1) := by decide +kernel
theorem dX5_endByHand_1 : decode cX5_endByHand 1 = .ok (.istore_n 3, 1) := by decide +kernel
theorem dX5_endByHand_2 : decode cX5_endByHand 2 = .ok (.iconst 1, 1) := by decide +kernel
theorem dX5_endByHand_3 : decode cX5_endByHand 3 = .ok (.istore 4, 2) := by decide +kernel
theorem dX5_endByHand_5 : decode cX5_endByHand 5 = .ok (.iload 4, 2) := by decide +kernel
theorem dX5_endByHand_7 : decode cX5_endByHand 7 = .ok (.iload_n 1, 1) := by decide +kernel
theorem dX5_endByHand_8 : decode cX5_endByHand 8 = .ok (.if_icmp .ge 28, 3) := by decide +kernel
theorem dX5_endByHand_11 : decode cX5_endByHand 11 = .ok (.aload_n 0, 1) := by decide +kernel
theorem dX5_endByHand_12 : decode cX5_endByHand 12 = .ok (.getfield 17, 3) := by decide +kernel
theorem dX5_endByHand_15 : decode cX5_endByHand 15 = .ok (.iload 4, 2) := by decide +kernel
theorem dX5_endByHand_17 : decode cX5_endByHand 17 = .ok (.iaload, 1) := by decide +kernel
theorem dX5_endByHand_18 : decode cX5_endByHand 18 = .ok (.aload_n 0, 1) := by decide +kernel
theorem dX5_endByHand_19 : decode cX5_endByHand 19 = .ok (.getfield 17, 3) := by decide +kernel
theorem dX5_endByHand_22 : decode cX5_endByHand 22 = .ok (.iload_n 3, 1) := by decide +kernel
theorem dX5_endByHand_23 : decode cX5_endByHand 23 = .ok (.iaload, 1) := by decide +kernel
theorem dX5_endByHand_24 : decode cX5_endByHand 24 = .ok (.if_icmp .ge 6, 3) := by decide +kernel
theorem dX5_endByHand_27 : decode cX5_endByHand 27 = .ok (.iload 4, 2) := by decide +kernel
theorem dX5_endByHand_29 : decode cX5_endByHand 29 = .ok (.istore_n 3, 1) := by decide +kernel
theorem dX5_endByHand_30 : decode cX5_endByHand 30 = .ok (.iinc 4 1, 3) := by decide +kernel
theorem dX5_endByHand_33 : decode cX5_endByHand 33 = .ok (.goto (-28), 3) := by decide +kernel
theorem dX5_endByHand_36 : decode cX5_endByHand 36 = .ok (.aload_n 0, 1) := by decide +kernel
theorem dX5_endByHand_37 : decode cX5_endByHand 37 = .ok (.getfield 17, 3) := by decide +kernel
theorem dX5_endByHand_40 : decode cX5_endByHand 40 = .ok (.iload_n 3, 1) := by decide +kernel
theorem dX5_endByHand_41 : decode cX5_endByHand 41 = .ok (.dup2, 1) := by decide +kernel
theorem dX5_endByHand_42 : decode cX5_endByHand 42 = .ok (.iaload, 1) := by decide +kernel
theorem dX5_endByHand_43 : decode cX5_endByHand 43 = .ok (.iload_n 2, 1) := by decide +kernel
theorem dX5_endByHand_44 : decode cX5_endByHand 44 = .ok (.iadd, 1) := by decide +kernel
theorem dX5_endByHand_45 : decode cX5_endByHand 45 = .ok (.iastore, 1) := by decide +kernel
theorem dX5_endByHand_46 : decode cX5_endByHand 46 = .ok (.aload_n 0, 1) := by decide +kernel
theorem dX5_endByHand_47 : decode cX5_endByHand 47 = .ok (.getfield 17, 3) := by decide +kernel
theorem dX5_endByHand_50 : decode cX5_endByHand 50 = .ok (.iload_n 3, 1) := by decide +kernel
theorem dX5_endByHand_51 : decode cX5_endByHand 51 = .ok (.iaload, 1) := by decide +kernel
theorem dX5_endByHand_52 : decode cX5_endByHand 52 = .ok (.ireturn, 1) := by decide +kernel
set_option maxRecDepth 20000 in
theorem ggX5_worstTime_X5_failedOnes : GoodIn wsX5_worstTime wsX5_failedOnes := goodIn_r _ [13, 3, 4, 29, 30, 31, 32, 33, 34, 35, 36, 37, 38, 39, 40, 41, 42, 43] (by decide +kernel) (by decide +kernel)
set_option maxRecDepth 20000 in
theorem gX5_worstTime_X5_failedOnes : GoodIn wsX5_worstTime (wsV RX5 55 RX5 yX5_failedOnes wsX5_failedOnes) := goodIn_app (goodIn_of _ (by decide +kernel)) ggX5_worstTime_X5_failedOnes
set_option maxRecDepth 20000 in
theorem ggX5_worstTime_X5_timeToShut : GoodIn wsX5_worstTime wsX5_timeToShut := goodIn_r _ [17, 18, 3, 19, 4, 20, 2, 5, 6, 7, 8, 21, 22, 23, 24, 25, 26, 27, 12, 28, 29, 30, 31, 32, 33, 34, 35, 36, 37, 38, 39, 40, 41, 42, 43] (by decide +kernel) (by decide +kernel)
set_option maxRecDepth 20000 in
theorem gX5_worstTime_X5_timeToShut : GoodIn wsX5_worstTime (wsV RX5 59 RX5 yX5_timeToShut wsX5_timeToShut) := goodIn_app (goodIn_of _ (by decide +kernel)) ggX5_worstTime_X5_timeToShut
theorem dX5_worstTime_0 : decode cX5_worstTime 0 = .ok (.aload_n 0, 1) := by decide +kernel
theorem dX5_worstTime_1 : decode cX5_worstTime 1 = .ok (.invokevirtual 55, 3) := by decide +kernel
theorem dX5_worstTime_4 : decode cX5_worstTime 4 = .ok (.aload_n 0, 1) := by decide +kernel
theorem dX5_worstTime_5 : decode cX5_worstTime 5 = .ok (.getfield 21, 3) := by decide +kernel
theorem dX5_worstTime_8 : decode cX5_worstTime 8 = .ok (.if_icmp .ne 11, 3) := by decide +kernel
theorem dX5_worstTime_11 : decode cX5_worstTime 11 = .ok (.aload_n 0, 1) := by decide +kernel
theorem dX5_worstTime_12 : decode cX5_worstTime 12 = .ok (.iload_n 1, 1) := by decide +kernel
theorem dX5_worstTime_13 : decode cX5_worstTime 13 = .ok (.ldc 45, 2) := by decide +kernel
theorem dX5_worstTime_15 : decode cX5_worstTime 15 = .ok (.invokevirtual 59, 3) := by decide +kernel
theorem dX5_worstTime_18 : decode cX5_worstTime 18 = .ok (.ireturn, 1) := by decide +kernel
theorem dX5_worstTime_19 : decode cX5_worstTime 19 = .ok (.iconst 0, 1) := by decide +kernel
theorem dX5_worstTime_20 : decode cX5_worstTime 20 = .ok (.istore_n 2, 1) := by decide +kernel
theorem dX5_worstTime_21 : decode cX5_worstTime 21 = .ok (.iconst 0, 1) := by decide +kernel
theorem dX5_worstTime_22 : decode cX5_worstTime 22 = .ok (.istore_n 3, 1) := by decide +kernel
theorem dX5_worstTime_23 : decode cX5_worstTime 23 = .ok (.iload_n 3, 1) := by decide +kernel
theorem dX5_worstTime_24 : decode cX5_worstTime 24 = .ok (.bipush 6, 2) := by decide +kernel
theorem dX5_worstTime_26 : decode cX5_worstTime 26 = .ok (.if_icmp .ge 58, 3) := by decide +kernel
theorem dX5_worstTime_29 : decode cX5_worstTime 29 = .ok (.aload_n 0, 1) := by decide +kernel
theorem dX5_worstTime_30 : decode cX5_worstTime 30 = .ok (.getfield 11, 3) := by decide +kernel
theorem dX5_worstTime_33 : decode cX5_worstTime 33 = .ok (.iload_n 3, 1) := by decide +kernel
theorem dX5_worstTime_34 : decode cX5_worstTime 34 = .ok (.aaload, 1) := by decide +kernel
theorem dX5_worstTime_35 : decode cX5_worstTime 35 = .ok (.astore 4, 2) := by decide +kernel
theorem dX5_worstTime_37 : decode cX5_worstTime 37 = .ok (.aload 4, 2) := by decide +kernel
theorem dX5_worstTime_39 : decode cX5_worstTime 39 = .ok (.ifnull 39, 3) := by decide +kernel
theorem dX5_worstTime_42 : decode cX5_worstTime 42 = .ok (.aload 4, 2) := by decide +kernel
theorem dX5_worstTime_44 : decode cX5_worstTime 44 = .ok (.getfield 29, 3) := by decide +kernel
theorem dX5_worstTime_47 : decode cX5_worstTime 47 = .ok (.ifCond .eq 6, 3) := by decide +kernel
theorem dX5_worstTime_50 : decode cX5_worstTime 50 = .ok (.goto 28, 3) := by decide +kernel
theorem dX5_worstTime_53 : decode cX5_worstTime 53 = .ok (.aload_n 0, 1) := by decide +kernel
theorem dX5_worstTime_54 : decode cX5_worstTime 54 = .ok (.iload_n 1, 1) := by decide +kernel
theorem dX5_worstTime_55 : decode cX5_worstTime 55 = .ok (.iload_n 3, 1) := by decide +kernel
theorem dX5_worstTime_56 : decode cX5_worstTime 56 = .ok (.invokevirtual 59, 3) := by decide +kernel
theorem dX5_worstTime_59 : decode cX5_worstTime 59 = .ok (.istore 5, 2) := by decide +kernel
theorem dX5_worstTime_61 : decode cX5_worstTime 61 = .ok (.iload 5, 2) := by decide +kernel
theorem dX5_worstTime_63 : decode cX5_worstTime 63 = .ok (.ldc 45, 2) := by decide +kernel
theorem dX5_worstTime_65 : decode cX5_worstTime 65 = .ok (.if_icmp .ne 6, 3) := by decide +kernel
theorem dX5_worstTime_68 : decode cX5_worstTime 68 = .ok (.ldc 45, 2) := by decide +kernel
theorem dX5_worstTime_70 : decode cX5_worstTime 70 = .ok (.ireturn, 1) := by decide +kernel
theorem dX5_worstTime_71 : decode cX5_worstTime 71 = .ok (.iload_n 2, 1) := by decide +kernel
theorem dX5_worstTime_72 : decode cX5_worstTime 72 = .ok (.iload 5, 2) := by decide +kernel
theorem dX5_worstTime_74 : decode cX5_worstTime 74 = .ok (.invokestatic 50, 3) := by decide +kernel
theorem dX5_worstTime_77 : decode cX5_worstTime 77 = .ok (.istore_n 2, 1) := by decide +kernel
theorem dX5_worstTime_78 : decode cX5_worstTime 78 = .ok (.iinc 3 1, 3) := by decide +kernel
theorem dX5_worstTime_81 : decode cX5_worstTime 81 = .ok (.goto (-58), 3) := by decide +kernel
theorem dX5_worstTime_84 : decode cX5_worstTime 84 = .ok (.iload_n 2, 1) := by decide +kernel
theorem dX5_worstTime_85 : decode cX5_worstTime 85 = .ok (.ireturn, 1) := by decide +kernel
theorem dX1_init_0 : decode cX1_init 0 = .ok (.aload_n 0, 1) := by decide +kernel
theorem dX1_init_1 : decode cX1_init 1 = .ok (.invokespecial 3, 3) := by decide +kernel
theorem dX1_init_4 : decode cX1_init 4 = .ok (.aload_n 0, 1) := by decide +kernel
theorem dX1_init_5 : decode cX1_init 5 = .ok (.bipush 20, 2) := by decide +kernel
theorem dX1_init_7 : decode cX1_init 7 = .ok (.newarray .int, 2) := by decide +kernel
theorem dX1_init_9 : decode cX1_init 9 = .ok (.putfield 9, 3) := by decide +kernel
theorem dX1_init_12 : decode cX1_init 12 = .ok (.aload_n 0, 1) := by decide +kernel
theorem dX1_init_13 : decode cX1_init 13 = .ok (.bipush 20, 2) := by decide +kernel
theorem dX1_init_15 : decode cX1_init 15 = .ok (.newarray .int, 2) := by decide +kernel
theorem dX1_init_17 : decode cX1_init 17 = .ok (.putfield 15, 3) := by decide +kernel
theorem dX1_init_20 : decode cX1_init 20 = .ok (.aload_n 0, 1) := by decide +kernel
theorem dX1_init_21 : decode cX1_init 21 = .ok (.bipush 20, 2) := by decide +kernel
theorem dX1_init_23 : decode cX1_init 23 = .ok (.newarray .int, 2) := by decide +kernel
theorem dX1_init_25 : decode cX1_init 25 = .ok (.putfield 18, 3) := by decide +kernel
theorem dX1_init_28 : decode cX1_init 28 = .ok (.aload_n 0, 1) := by decide +kernel
theorem dX1_init_29 : decode cX1_init 29 = .ok (.iconst 0, 1) := by decide +kernel
theorem dX1_init_30 : decode cX1_init 30 = .ok (.putfield 21, 3) := by decide +kernel
theorem dX1_init_33 : decode cX1_init 33 = .ok (.return_, 1) := by decide +kernel
theorem dX1_add_0 : decode cX1_add 0 = .ok (.aload_n 0, 1) := by decide +kernel
theorem dX1_add_1 : decode cX1_add 1 = .ok (.getfield 21, 3) := by decide +kernel
theorem dX1_add_4 : decode cX1_add 4 = .ok (.istore_n 3, 1) := by decide +kernel
theorem dX1_add_5 : decode cX1_add 5 = .ok (.aload_n 0, 1) := by decide +kernel
theorem dX1_add_6 : decode cX1_add 6 = .ok (.getfield 9, 3) := by decide +kernel
theorem dX1_add_9 : decode cX1_add 9 = .ok (.iload_n 3, 1) := by decide +kernel
theorem dX1_add_10 : decode cX1_add 10 = .ok (.iload_n 1, 1) := by decide +kernel
theorem dX1_add_11 : decode cX1_add 11 = .ok (.iastore, 1) := by decide +kernel
theorem dX1_add_12 : decode cX1_add 12 = .ok (.aload_n 0, 1) := by decide +kernel
theorem dX1_add_13 : decode cX1_add 13 = .ok (.getfield 15, 3) := by decide +kernel
theorem dX1_add_16 : decode cX1_add 16 = .ok (.iload_n 3, 1) := by decide +kernel
theorem dX1_add_17 : decode cX1_add 17 = .ok (.iload_n 2, 1) := by decide +kernel
theorem dX1_add_18 : decode cX1_add 18 = .ok (.iastore, 1) := by decide +kernel
theorem dX1_add_19 : decode cX1_add 19 = .ok (.iload_n 3, 1) := by decide +kernel
theorem dX1_add_20 : decode cX1_add 20 = .ok (.istore 4, 2) := by decide +kernel
theorem dX1_add_22 : decode cX1_add 22 = .ok (.iload 4, 2) := by decide +kernel
theorem dX1_add_24 : decode cX1_add 24 = .ok (.ifCond .le 43, 3) := by decide +kernel
theorem dX1_add_27 : decode cX1_add 27 = .ok (.aload_n 0, 1) := by decide +kernel
theorem dX1_add_28 : decode cX1_add 28 = .ok (.getfield 9, 3) := by decide +kernel
theorem dX1_add_31 : decode cX1_add 31 = .ok (.aload_n 0, 1) := by decide +kernel
theorem dX1_add_32 : decode cX1_add 32 = .ok (.getfield 18, 3) := by decide +kernel
theorem dX1_add_35 : decode cX1_add 35 = .ok (.iload 4, 2) := by decide +kernel
theorem dX1_add_37 : decode cX1_add 37 = .ok (.iconst 1, 1) := by decide +kernel
theorem dX1_add_38 : decode cX1_add 38 = .ok (.isub, 1) := by decide +kernel
theorem dX1_add_39 : decode cX1_add 39 = .ok (.iaload, 1) := by decide +kernel
theorem dX1_add_40 : decode cX1_add 40 = .ok (.iaload, 1) := by decide +kernel
theorem dX1_add_41 : decode cX1_add 41 = .ok (.iload_n 1, 1) := by decide +kernel
theorem dX1_add_42 : decode cX1_add 42 = .ok (.if_icmp .le 25, 3) := by decide +kernel
theorem dX1_add_45 : decode cX1_add 45 = .ok (.aload_n 0, 1) := by decide +kernel
theorem dX1_add_46 : decode cX1_add 46 = .ok (.getfield 18, 3) := by decide +kernel
theorem dX1_add_49 : decode cX1_add 49 = .ok (.iload 4, 2) := by decide +kernel
theorem dX1_add_51 : decode cX1_add 51 = .ok (.aload_n 0, 1) := by decide +kernel
theorem dX1_add_52 : decode cX1_add 52 = .ok (.getfield 18, 3) := by decide +kernel
theorem dX1_add_55 : decode cX1_add 55 = .ok (.iload 4, 2) := by decide +kernel
theorem dX1_add_57 : decode cX1_add 57 = .ok (.iconst 1, 1) := by decide +kernel
theorem dX1_add_58 : decode cX1_add 58 = .ok (.isub, 1) := by decide +kernel
theorem dX1_add_59 : decode cX1_add 59 = .ok (.iaload, 1) := by decide +kernel
theorem dX1_add_60 : decode cX1_add 60 = .ok (.iastore, 1) := by decide +kernel
theorem dX1_add_61 : decode cX1_add 61 = .ok (.iinc 4 (-1), 3) := by decide +kernel
theorem dX1_add_64 : decode cX1_add 64 = .ok (.goto (-42), 3) := by decide +kernel
theorem dX1_add_67 : decode cX1_add 67 = .ok (.aload_n 0, 1) := by decide +kernel
theorem dX1_add_68 : decode cX1_add 68 = .ok (.getfield 18, 3) := by decide +kernel
theorem dX1_add_71 : decode cX1_add 71 = .ok (.iload 4, 2) := by decide +kernel
theorem dX1_add_73 : decode cX1_add 73 = .ok (.iload_n 3, 1) := by decide +kernel
theorem dX1_add_74 : decode cX1_add 74 = .ok (.iastore, 1) := by decide +kernel
theorem dX1_add_75 : decode cX1_add 75 = .ok (.aload_n 0, 1) := by decide +kernel
theorem dX1_add_76 : decode cX1_add 76 = .ok (.dup, 1) := by decide +kernel
theorem dX1_add_77 : decode cX1_add 77 = .ok (.getfield 21, 3) := by decide +kernel
theorem dX1_add_80 : decode cX1_add 80 = .ok (.iconst 1, 1) := by decide +kernel
theorem dX1_add_81 : decode cX1_add 81 = .ok (.iadd, 1) := by decide +kernel
theorem dX1_add_82 : decode cX1_add 82 = .ok (.putfield 21, 3) := by decide +kernel
theorem dX1_add_85 : decode cX1_add 85 = .ok (.iload_n 3, 1) := by decide +kernel
theorem dX1_add_86 : decode cX1_add 86 = .ok (.ireturn, 1) := by decide +kernel
theorem dX1_waitOf_0 : decode cX1_waitOf 0 = .ok (.iconst 0, 1) := by decide +kernel
theorem dX1_waitOf_1 : decode cX1_waitOf 1 = .ok (.istore 4, 2) := by decide +kernel
theorem dX1_waitOf_3 : decode cX1_waitOf 3 = .ok (.iconst 0, 1) := by decide +kernel
theorem dX1_waitOf_4 : decode cX1_waitOf 4 = .ok (.istore 5, 2) := by decide +kernel
theorem dX1_waitOf_6 : decode cX1_waitOf 6 = .ok (.iconst 0, 1) := by decide +kernel
theorem dX1_waitOf_7 : decode cX1_waitOf 7 = .ok (.istore 6, 2) := by decide +kernel
theorem dX1_waitOf_9 : decode cX1_waitOf 9 = .ok (.iload 6, 2) := by decide +kernel
theorem dX1_waitOf_11 : decode cX1_waitOf 11 = .ok (.aload_n 0, 1) := by decide +kernel
theorem dX1_waitOf_12 : decode cX1_waitOf 12 = .ok (.getfield 21, 3) := by decide +kernel
theorem dX1_waitOf_15 : decode cX1_waitOf 15 = .ok (.if_icmp .ge 77, 3) := by decide +kernel
theorem dX1_waitOf_18 : decode cX1_waitOf 18 = .ok (.aload_n 0, 1) := by decide +kernel
theorem dX1_waitOf_19 : decode cX1_waitOf 19 = .ok (.getfield 18, 3) := by decide +kernel
theorem dX1_waitOf_22 : decode cX1_waitOf 22 = .ok (.iload 6, 2) := by decide +kernel
theorem dX1_waitOf_24 : decode cX1_waitOf 24 = .ok (.iaload, 1) := by decide +kernel
theorem dX1_waitOf_25 : decode cX1_waitOf 25 = .ok (.istore 7, 2) := by decide +kernel
theorem dX1_waitOf_27 : decode cX1_waitOf 27 = .ok (.iload 5, 2) := by decide +kernel
theorem dX1_waitOf_29 : decode cX1_waitOf 29 = .ok (.aload_n 0, 1) := by decide +kernel
theorem dX1_waitOf_30 : decode cX1_waitOf 30 = .ok (.getfield 9, 3) := by decide +kernel
theorem dX1_waitOf_33 : decode cX1_waitOf 33 = .ok (.iload 7, 2) := by decide +kernel
theorem dX1_waitOf_35 : decode cX1_waitOf 35 = .ok (.iaload, 1) := by decide +kernel
theorem dX1_waitOf_36 : decode cX1_waitOf 36 = .ok (.invokestatic 25, 3) := by decide +kernel
theorem dX1_waitOf_39 : decode cX1_waitOf 39 = .ok (.istore 8, 2) := by decide +kernel
theorem dX1_waitOf_41 : decode cX1_waitOf 41 = .ok (.iload_n 2, 1) := by decide +kernel
theorem dX1_waitOf_42 : decode cX1_waitOf 42 = .ok (.iload 8, 2) := by decide +kernel
theorem dX1_waitOf_44 : decode cX1_waitOf 44 = .ok (.if_icmp .gt 12, 3) := by decide +kernel
theorem dX1_waitOf_47 : decode cX1_waitOf 47 = .ok (.iload 8, 2) := by decide +kernel
theorem dX1_waitOf_49 : decode cX1_waitOf 49 = .ok (.iload_n 3, 1) := by decide +kernel
theorem dX1_waitOf_50 : decode cX1_waitOf 50 = .ok (.if_icmp .ge 6, 3) := by decide +kernel
theorem dX1_waitOf_53 : decode cX1_waitOf 53 = .ok (.iload_n 3, 1) := by decide +kernel
theorem dX1_waitOf_54 : decode cX1_waitOf 54 = .ok (.istore 8, 2) := by decide +kernel
theorem dX1_waitOf_56 : decode cX1_waitOf 56 = .ok (.iload 7, 2) := by decide +kernel
theorem dX1_waitOf_58 : decode cX1_waitOf 58 = .ok (.iload_n 1, 1) := by decide +kernel
theorem dX1_waitOf_59 : decode cX1_waitOf 59 = .ok (.if_icmp .ne 15, 3) := by decide +kernel
theorem dX1_waitOf_62 : decode cX1_waitOf 62 = .ok (.iload 8, 2) := by decide +kernel
theorem dX1_waitOf_64 : decode cX1_waitOf 64 = .ok (.aload_n 0, 1) := by decide +kernel
theorem dX1_waitOf_65 : decode cX1_waitOf 65 = .ok (.getfield 9, 3) := by decide +kernel
theorem dX1_waitOf_68 : decode cX1_waitOf 68 = .ok (.iload 7, 2) := by decide +kernel
theorem dX1_waitOf_70 : decode cX1_waitOf 70 = .ok (.iaload, 1) := by decide +kernel
theorem dX1_waitOf_71 : decode cX1_waitOf 71 = .ok (.isub, 1) := by decide +kernel
theorem dX1_waitOf_72 : decode cX1_waitOf 72 = .ok (.istore 4, 2) := by decide +kernel
theorem dX1_waitOf_74 : decode cX1_waitOf 74 = .ok (.iload 8, 2) := by decide +kernel
theorem dX1_waitOf_76 : decode cX1_waitOf 76 = .ok (.aload_n 0, 1) := by decide +kernel
theorem dX1_waitOf_77 : decode cX1_waitOf 77 = .ok (.getfield 15, 3) := by decide +kernel
theorem dX1_waitOf_80 : decode cX1_waitOf 80 = .ok (.iload 7, 2) := by decide +kernel
theorem dX1_waitOf_82 : decode cX1_waitOf 82 = .ok (.iaload, 1) := by decide +kernel
theorem dX1_waitOf_83 : decode cX1_waitOf 83 = .ok (.iadd, 1) := by decide +kernel
theorem dX1_waitOf_84 : decode cX1_waitOf 84 = .ok (.istore 5, 2) := by decide +kernel
theorem dX1_waitOf_86 : decode cX1_waitOf 86 = .ok (.iinc 6 1, 3) := by decide +kernel
theorem dX1_waitOf_89 : decode cX1_waitOf 89 = .ok (.goto (-80), 3) := by decide +kernel
theorem dX1_waitOf_92 : decode cX1_waitOf 92 = .ok (.iload 4, 2) := by decide +kernel
theorem dX1_waitOf_94 : decode cX1_waitOf 94 = .ok (.ireturn, 1) := by decide +kernel
set_option maxRecDepth 20000 in
theorem ggX11_init_X7_init : GoodIn wsX11_init wsX7_init := goodIn_r _ [35, 36, 2, 3, 37, 38, 39, 40, 41, 42, 43, 44, 45, 94, 95, 96] (by decide +kernel) (by decide +kernel)
set_option maxRecDepth 20000 in
theorem gX11_init_X7_init : GoodIn wsX11_init (wsX7_init) := ggX11_init_X7_init
set_option maxRecDepth 20000 in
theorem ggX11_init_X6_init : GoodIn wsX11_init wsX6_init := goodIn_r _ [47, 48, 2, 3, 38, 49, 50, 51, 52, 53, 105, 106, 107, 108] (by decide +kernel) (by decide +kernel)
set_option maxRecDepth 20000 in
theorem gX11_init_X6_init_n18 : GoodIn wsX11_init (wsX6_init) := ggX11_init_X6_init
set_option maxRecDepth 20000 in
theorem ggX11_init_X0_init : GoodIn wsX11_init wsX0_init := goodIn_r _ [56, 57, 2, 3, 38, 58, 59, 60, 109, 110, 111] (by decide +kernel) (by decide +kernel)
set_option maxRecDepth 20000 in
theorem gX11_init_X0_init : GoodIn wsX11_init (wsX0_init) := ggX11_init_X0_init
set_option maxRecDepth 20000 in
theorem ggX11_init_X4_init : GoodIn wsX11_init wsX4_init := goodIn_r _ [63, 64, 2, 3, 65, 38, 66, 67, 68, 69, 70, 71, 72, 73, 74, 112, 113, 114, 115, 116, 117, 118] (by decide +kernel) (by decide +kernel)
set_option maxRecDepth 20000 in
theorem gX11_init_X4_init : GoodIn wsX11_init (wsX4_init) := ggX11_init_X4_init
set_option maxRecDepth 20000 in
theorem ggX11_init_X5_init : GoodIn wsX11_init wsX5_init := goodIn_r _ [76, 77, 2, 3, 78, 79, 38, 80, 81, 119, 120, 121] (by decide +kernel) (by decide +kernel)
set_option maxRecDepth 20000 in
theorem gX11_init_X5_init_n43 : GoodIn wsX11_init (wsX5_init) := ggX11_init_X5_init
set_option maxRecDepth 20000 in
theorem ggX11_init_X1_init : GoodIn wsX11_init wsX1_init := goodIn_r _ [83, 84, 2, 3, 38, 85, 86, 87, 88, 122, 123, 124, 125] (by decide +kernel) (by decide +kernel)
set_option maxRecDepth 20000 in
theorem gX11_init_X1_init_n50 : GoodIn wsX11_init (wsX1_init) := ggX11_init_X1_init
set_option maxRecDepth 20000 in
theorem ggX11_init_X9_init : GoodIn wsX11_init wsX9_init := goodIn_r _ [90, 91, 2, 3, 38, 92, 93, 126, 127] (by decide +kernel) (by decide +kernel)
set_option maxRecDepth 20000 in
theorem gX11_init_X9_init_n57 : GoodIn wsX11_init (wsX9_init) := ggX11_init_X9_init
theorem dX11_init_0 : decode cX11_init 0 = .ok (.aload_n 0, 1) := by decide +kernel
theorem dX11_init_1 : decode cX11_init 1 = .ok (.invokespecial 3, 3) := by decide +kernel
theorem dX11_init_4 : decode cX11_init 4 = .ok (.aload_n 0, 1) := by decide +kernel
theorem dX11_init_5 : decode cX11_init 5 = .ok (.new 9, 3) := by decide +kernel
theorem dX11_init_8 : decode cX11_init 8 = .ok (.dup, 1) := by decide +kernel
theorem dX11_init_9 : decode cX11_init 9 = .ok (.invokespecial 11, 3) := by decide +kernel
theorem dX11_init_12 : decode cX11_init 12 = .ok (.putfield 12, 3) := by decide +kernel
theorem dX11_init_15 : decode cX11_init 15 = .ok (.aload_n 0, 1) := by decide +kernel
theorem dX11_init_16 : decode cX11_init 16 = .ok (.new 16, 3) := by decide +kernel
theorem dX11_init_19 : decode cX11_init 19 = .ok (.dup, 1) := by decide +kernel
theorem dX11_init_20 : decode cX11_init 20 = .ok (.invokespecial 18, 3) := by decide +kernel
theorem dX11_init_23 : decode cX11_init 23 = .ok (.putfield 19, 3) := by decide +kernel
theorem dX11_init_26 : decode cX11_init 26 = .ok (.aload_n 0, 1) := by decide +kernel
theorem dX11_init_27 : decode cX11_init 27 = .ok (.new 23, 3) := by decide +kernel
theorem dX11_init_30 : decode cX11_init 30 = .ok (.dup, 1) := by decide +kernel
theorem dX11_init_31 : decode cX11_init 31 = .ok (.aload_n 0, 1) := by decide +kernel
theorem dX11_init_32 : decode cX11_init 32 = .ok (.getfield 19, 3) := by decide +kernel
theorem dX11_init_35 : decode cX11_init 35 = .ok (.invokespecial 25, 3) := by decide +kernel
theorem dX11_init_38 : decode cX11_init 38 = .ok (.putfield 28, 3) := by decide +kernel
theorem dX11_init_41 : decode cX11_init 41 = .ok (.aload_n 0, 1) := by decide +kernel
theorem dX11_init_42 : decode cX11_init 42 = .ok (.new 32, 3) := by decide +kernel
theorem dX11_init_45 : decode cX11_init 45 = .ok (.dup, 1) := by decide +kernel
theorem dX11_init_46 : decode cX11_init 46 = .ok (.aload_n 0, 1) := by decide +kernel
theorem dX11_init_47 : decode cX11_init 47 = .ok (.getfield 19, 3) := by decide +kernel
theorem dX11_init_50 : decode cX11_init 50 = .ok (.aload_n 0, 1) := by decide +kernel
theorem dX11_init_51 : decode cX11_init 51 = .ok (.getfield 28, 3) := by decide +kernel
theorem dX11_init_54 : decode cX11_init 54 = .ok (.invokespecial 34, 3) := by decide +kernel
theorem dX11_init_57 : decode cX11_init 57 = .ok (.putfield 37, 3) := by decide +kernel
theorem dX11_init_60 : decode cX11_init 60 = .ok (.aload_n 0, 1) := by decide +kernel
theorem dX11_init_61 : decode cX11_init 61 = .ok (.new 41, 3) := by decide +kernel
theorem dX11_init_64 : decode cX11_init 64 = .ok (.dup, 1) := by decide +kernel
theorem dX11_init_65 : decode cX11_init 65 = .ok (.invokespecial 43, 3) := by decide +kernel
theorem dX11_init_68 : decode cX11_init 68 = .ok (.putfield 44, 3) := by decide +kernel
theorem dX11_init_71 : decode cX11_init 71 = .ok (.aload_n 0, 1) := by decide +kernel
theorem dX11_init_72 : decode cX11_init 72 = .ok (.new 48, 3) := by decide +kernel
theorem dX11_init_75 : decode cX11_init 75 = .ok (.dup, 1) := by decide +kernel
theorem dX11_init_76 : decode cX11_init 76 = .ok (.invokespecial 50, 3) := by decide +kernel
theorem dX11_init_79 : decode cX11_init 79 = .ok (.putfield 51, 3) := by decide +kernel
theorem dX11_init_82 : decode cX11_init 82 = .ok (.aload_n 0, 1) := by decide +kernel
theorem dX11_init_83 : decode cX11_init 83 = .ok (.new 55, 3) := by decide +kernel
theorem dX11_init_86 : decode cX11_init 86 = .ok (.dup, 1) := by decide +kernel
theorem dX11_init_87 : decode cX11_init 87 = .ok (.invokespecial 57, 3) := by decide +kernel
theorem dX11_init_90 : decode cX11_init 90 = .ok (.putfield 58, 3) := by decide +kernel
theorem dX11_init_93 : decode cX11_init 93 = .ok (.aload_n 0, 1) := by decide +kernel
theorem dX11_init_94 : decode cX11_init 94 = .ok (.iconst 0, 1) := by decide +kernel
theorem dX11_init_95 : decode cX11_init 95 = .ok (.putfield 62, 3) := by decide +kernel
theorem dX11_init_98 : decode cX11_init 98 = .ok (.return_, 1) := by decide +kernel
set_option maxRecDepth 20000 in
theorem ggX11_sheet_X11_within : GoodIn wsX11_sheet wsX11_within := goodIn_r _ [6] (by decide +kernel) (by decide +kernel)
set_option maxRecDepth 20000 in
theorem gX11_sheet_X11_within : GoodIn wsX11_sheet (va_wsS RX11 66 yX11_within wsX11_within) := goodIn_app (goodIn_of _ (by decide +kernel)) ggX11_sheet_X11_within
set_option maxRecDepth 20000 in
theorem ggX11_sheet_X11_found : GoodIn wsX11_sheet wsX11_found := goodIn_r _ [10, 11, 12, 29, 30, 31, 32, 33, 34, 35, 36] (by decide +kernel) (by decide +kernel)
set_option maxRecDepth 20000 in
theorem gX11_sheet_X11_found : GoodIn wsX11_sheet (wsV RX11 71 RX11 yX11_found wsX11_found) := goodIn_app (goodIn_of _ (by decide +kernel)) ggX11_sheet_X11_found
set_option maxRecDepth 20000 in
theorem ggX11_sheet_X7_lay : GoodIn wsX11_sheet wsX7_lay := goodIn_r _ [17, 18, 19, 20, 21, 22, 23, 24, 37, 38, 39] (by decide +kernel) (by decide +kernel)
set_option maxRecDepth 20000 in
theorem gX11_sheet_X7_lay : GoodIn wsX11_sheet (wsV RX11 75 RX7 yX7_lay wsX7_lay) := goodIn_app (goodIn_of _ (by decide +kernel)) ggX11_sheet_X7_lay
set_option maxRecDepth 20000 in
theorem ggX11_sheet_X11_fine : GoodIn wsX11_sheet wsX11_fine := goodIn_r _ [28, 11, 29, 30, 31, 32, 33, 34, 35, 36] (by decide +kernel) (by decide +kernel)
set_option maxRecDepth 20000 in
theorem gX11_sheet_X11_fine : GoodIn wsX11_sheet (wsV RX11 79 RX11 yX11_fine wsX11_fine) := goodIn_app (goodIn_of _ (by decide +kernel)) ggX11_sheet_X11_fine
theorem dX11_sheet_0 : decode cX11_sheet 0 = .ok (.iload_n 1, 1) := by decide +kernel
theorem dX11_sheet_1 : decode cX11_sheet 1 = .ok (.iconst 0, 1) := by decide +kernel
theorem dX11_sheet_2 : decode cX11_sheet 2 = .ok (.bipush 7, 2) := by decide +kernel
theorem dX11_sheet_4 : decode cX11_sheet 4 = .ok (.invokestatic 66, 3) := by decide +kernel
theorem dX11_sheet_7 : decode cX11_sheet 7 = .ok (.ifCond .eq 18, 3) := by decide +kernel
theorem dX11_sheet_10 : decode cX11_sheet 10 = .ok (.iload_n 2, 1) := by decide +kernel
theorem dX11_sheet_11 : decode cX11_sheet 11 = .ok (.iconst 0, 1) := by decide +kernel
theorem dX11_sheet_12 : decode cX11_sheet 12 = .ok (.iconst 2, 1) := by decide +kernel
theorem dX11_sheet_13 : decode cX11_sheet 13 = .ok (.invokestatic 66, 3) := by decide +kernel
theorem dX11_sheet_16 : decode cX11_sheet 16 = .ok (.ifCond .eq 9, 3) := by decide +kernel
theorem dX11_sheet_19 : decode cX11_sheet 19 = .ok (.iload_n 3, 1) := by decide +kernel
theorem dX11_sheet_20 : decode cX11_sheet 20 = .ok (.bipush 60, 2) := by decide +kernel
theorem dX11_sheet_22 : decode cX11_sheet 22 = .ok (.if_icmp .le 6, 3) := by decide +kernel
theorem dX11_sheet_25 : decode cX11_sheet 25 = .ok (.ldc 70, 2) := by decide +kernel
theorem dX11_sheet_27 : decode cX11_sheet 27 = .ok (.ireturn, 1) := by decide +kernel
theorem dX11_sheet_28 : decode cX11_sheet 28 = .ok (.iload_n 3, 1) := by decide +kernel
theorem dX11_sheet_29 : decode cX11_sheet 29 = .ok (.ifCond .ge 9, 3) := by decide +kernel
theorem dX11_sheet_32 : decode cX11_sheet 32 = .ok (.aload_n 0, 1) := by decide +kernel
theorem dX11_sheet_33 : decode cX11_sheet 33 = .ok (.iconst 4, 1) := by decide +kernel
theorem dX11_sheet_34 : decode cX11_sheet 34 = .ok (.invokevirtual 71, 3) := by decide +kernel
theorem dX11_sheet_37 : decode cX11_sheet 37 = .ok (.ireturn, 1) := by decide +kernel
theorem dX11_sheet_38 : decode cX11_sheet 38 = .ok (.aload_n 0, 1) := by decide +kernel
theorem dX11_sheet_39 : decode cX11_sheet 39 = .ok (.getfield 12, 3) := by decide +kernel
theorem dX11_sheet_42 : decode cX11_sheet 42 = .ok (.iload_n 1, 1) := by decide +kernel
theorem dX11_sheet_43 : decode cX11_sheet 43 = .ok (.iload_n 2, 1) := by decide +kernel
theorem dX11_sheet_44 : decode cX11_sheet 44 = .ok (.iload_n 3, 1) := by decide +kernel
theorem dX11_sheet_45 : decode cX11_sheet 45 = .ok (.invokevirtual 75, 3) := by decide +kernel
theorem dX11_sheet_48 : decode cX11_sheet 48 = .ok (.aload_n 0, 1) := by decide +kernel
theorem dX11_sheet_49 : decode cX11_sheet 49 = .ok (.iload_n 3, 1) := by decide +kernel
theorem dX11_sheet_50 : decode cX11_sheet 50 = .ok (.invokevirtual 79, 3) := by decide +kernel
theorem dX11_sheet_53 : decode cX11_sheet 53 = .ok (.ireturn, 1) := by decide +kernel
set_option maxRecDepth 20000 in
theorem ggX11_set_X11_within : GoodIn wsX11_set wsX11_within := goodIn_r _ [6] (by decide +kernel) (by decide +kernel)
set_option maxRecDepth 20000 in
theorem gX11_set_X11_within : GoodIn wsX11_set (va_wsS RX11 66 yX11_within wsX11_within) := goodIn_app (goodIn_of _ (by decide +kernel)) ggX11_set_X11_within
set_option maxRecDepth 20000 in
theorem ggX11_set_X7_look : GoodIn wsX11_set wsX7_look := goodIn_r _ [11, 12, 13, 14, 10, 15, 16, 17, 18, 19, 20, 48, 49, 50] (by decide +kernel) (by decide +kernel)
set_option maxRecDepth 20000 in
theorem gX11_set_X7_look : GoodIn wsX11_set (wsV RX11 82 RX7 yX7_look wsX7_look) := goodIn_app (goodIn_of _ (by decide +kernel)) ggX11_set_X7_look
set_option maxRecDepth 20000 in
theorem ggX11_set_X11_found : GoodIn wsX11_set wsX11_found := goodIn_r _ [24, 25, 26, 40, 41, 42, 43, 44, 45, 46, 47] (by decide +kernel) (by decide +kernel)
set_option maxRecDepth 20000 in
theorem gX11_set_X11_found : GoodIn wsX11_set (wsV RX11 71 RX11 yX11_found wsX11_found) := goodIn_app (goodIn_of _ (by decide +kernel)) ggX11_set_X11_found
set_option maxRecDepth 20000 in
theorem ggX11_set_X7_put : GoodIn wsX11_set wsX7_put := goodIn_r _ [30, 31, 32, 33, 34, 10, 35, 48, 49, 50] (by decide +kernel) (by decide +kernel)
set_option maxRecDepth 20000 in
theorem gX11_set_X7_put : GoodIn wsX11_set (wsV RX11 86 RX7 yX7_put wsX7_put) := goodIn_app (goodIn_of _ (by decide +kernel)) ggX11_set_X7_put
set_option maxRecDepth 20000 in
theorem ggX11_set_X11_fine : GoodIn wsX11_set wsX11_fine := goodIn_r _ [39, 25, 40, 41, 42, 43, 44, 45, 46, 47] (by decide +kernel) (by decide +kernel)
set_option maxRecDepth 20000 in
theorem gX11_set_X11_fine : GoodIn wsX11_set (wsV RX11 79 RX11 yX11_fine wsX11_fine) := goodIn_app (goodIn_of _ (by decide +kernel)) ggX11_set_X11_fine
theorem dX11_set_0 : decode cX11_set 0 = .ok (.iload_n 1, 1) := by decide +kernel
theorem dX11_set_1 : decode cX11_set 1 = .ok (.iconst 0, 1) := by decide +kernel
theorem dX11_set_2 : decode cX11_set 2 = .ok (.bipush 7, 2) := by decide +kernel
theorem dX11_set_4 : decode cX11_set 4 = .ok (.invokestatic 66, 3) := by decide +kernel
theorem dX11_set_7 : decode cX11_set 7 = .ok (.ifCond .ne 6, 3) := by decide +kernel
theorem dX11_set_10 : decode cX11_set 10 = .ok (.ldc 70, 2) := by decide +kernel
theorem dX11_set_12 : decode cX11_set 12 = .ok (.ireturn, 1) := by decide +kernel
theorem dX11_set_13 : decode cX11_set 13 = .ok (.aload_n 0, 1) := by decide +kernel
theorem dX11_set_14 : decode cX11_set 14 = .ok (.getfield 12, 3) := by decide +kernel
theorem dX11_set_17 : decode cX11_set 17 = .ok (.iload_n 1, 1) := by decide +kernel
theorem dX11_set_18 : decode cX11_set 18 = .ok (.iload_n 2, 1) := by decide +kernel
theorem dX11_set_19 : decode cX11_set 19 = .ok (.iconst 1, 1) := by decide +kernel
theorem dX11_set_20 : decode cX11_set 20 = .ok (.invokevirtual 82, 3) := by decide +kernel
theorem dX11_set_23 : decode cX11_set 23 = .ok (.istore 4, 2) := by decide +kernel
theorem dX11_set_25 : decode cX11_set 25 = .ok (.iload 4, 2) := by decide +kernel
theorem dX11_set_27 : decode cX11_set 27 = .ok (.ifCond .eq 12, 3) := by decide +kernel
theorem dX11_set_30 : decode cX11_set 30 = .ok (.aload_n 0, 1) := by decide +kernel
theorem dX11_set_31 : decode cX11_set 31 = .ok (.iload 4, 2) := by decide +kernel
theorem dX11_set_33 : decode cX11_set 33 = .ok (.invokevirtual 71, 3) := by decide +kernel
theorem dX11_set_36 : decode cX11_set 36 = .ok (.goto 17, 3) := by decide +kernel
theorem dX11_set_39 : decode cX11_set 39 = .ok (.aload_n 0, 1) := by decide +kernel
theorem dX11_set_40 : decode cX11_set 40 = .ok (.aload_n 0, 1) := by decide +kernel
theorem dX11_set_41 : decode cX11_set 41 = .ok (.getfield 12, 3) := by decide +kernel
theorem dX11_set_44 : decode cX11_set 44 = .ok (.iload_n 1, 1) := by decide +kernel
theorem dX11_set_45 : decode cX11_set 45 = .ok (.iload_n 2, 1) := by decide +kernel
theorem dX11_set_46 : decode cX11_set 46 = .ok (.iload_n 3, 1) := by decide +kernel
theorem dX11_set_47 : decode cX11_set 47 = .ok (.invokevirtual 86, 3) := by decide +kernel
theorem dX11_set_50 : decode cX11_set 50 = .ok (.invokevirtual 79, 3) := by decide +kernel
theorem dX11_set_53 : decode cX11_set 53 = .ok (.ireturn, 1) := by decide +kernel
set_option maxRecDepth 20000 in
theorem ggX11_copy_X11_within : GoodIn wsX11_copy wsX11_within := goodIn_r _ [6] (by decide +kernel) (by decide +kernel)
set_option maxRecDepth 20000 in
theorem gX11_copy_X11_within : GoodIn wsX11_copy (va_wsS RX11 66 yX11_within wsX11_within) := goodIn_app (goodIn_of _ (by decide +kernel)) ggX11_copy_X11_within
set_option maxRecDepth 20000 in
theorem ggX11_copy_X7_lookAtBoth : GoodIn wsX11_copy wsX7_lookAtBoth := goodIn_r _ [11, 12, 13, 14, 15, 10, 16, 17, 18, 19, 20, 21, 49, 50, 51] (by decide +kernel) (by decide +kernel)
set_option maxRecDepth 20000 in
theorem gX11_copy_X7_lookAtBoth : GoodIn wsX11_copy (wsV RX11 89 RX7 yX7_lookAtBoth wsX7_lookAtBoth) := goodIn_app (goodIn_of _ (by decide +kernel)) ggX11_copy_X7_lookAtBoth
set_option maxRecDepth 20000 in
theorem ggX11_copy_X11_found : GoodIn wsX11_copy wsX11_found := goodIn_r _ [25, 26, 27, 41, 42, 43, 44, 45, 46, 47, 48] (by decide +kernel) (by decide +kernel)
set_option maxRecDepth 20000 in
theorem gX11_copy_X11_found : GoodIn wsX11_copy (wsV RX11 71 RX11 yX11_found wsX11_found) := goodIn_app (goodIn_of _ (by decide +kernel)) ggX11_copy_X11_found
set_option maxRecDepth 20000 in
theorem ggX11_copy_X7_move : GoodIn wsX11_copy wsX7_move := goodIn_r _ [31, 32, 33, 34, 35, 36, 49, 50, 51] (by decide +kernel) (by decide +kernel)
set_option maxRecDepth 20000 in
theorem gX11_copy_X7_move : GoodIn wsX11_copy (wsV RX11 93 RX7 yX7_move wsX7_move) := goodIn_app (goodIn_of _ (by decide +kernel)) ggX11_copy_X7_move
set_option maxRecDepth 20000 in
theorem ggX11_copy_X11_fine : GoodIn wsX11_copy wsX11_fine := goodIn_r _ [40, 26, 41, 42, 43, 44, 45, 46, 47, 48] (by decide +kernel) (by decide +kernel)
set_option maxRecDepth 20000 in
theorem gX11_copy_X11_fine : GoodIn wsX11_copy (wsV RX11 79 RX11 yX11_fine wsX11_fine) := goodIn_app (goodIn_of _ (by decide +kernel)) ggX11_copy_X11_fine
theorem dX11_copy_0 : decode cX11_copy 0 = .ok (.iload_n 1, 1) := by decide +kernel
theorem dX11_copy_1 : decode cX11_copy 1 = .ok (.iconst 0, 1) := by decide +kernel
theorem dX11_copy_2 : decode cX11_copy 2 = .ok (.bipush 7, 2) := by decide +kernel
theorem dX11_copy_4 : decode cX11_copy 4 = .ok (.invokestatic 66, 3) := by decide +kernel
theorem dX11_copy_7 : decode cX11_copy 7 = .ok (.ifCond .eq 13, 3) := by decide +kernel
theorem dX11_copy_10 : decode cX11_copy 10 = .ok (.iload_n 3, 1) := by decide +kernel
theorem dX11_copy_11 : decode cX11_copy 11 = .ok (.iconst 0, 1) := by decide +kernel
theorem dX11_copy_12 : decode cX11_copy 12 = .ok (.bipush 7, 2) := by decide +kernel
theorem dX11_copy_14 : decode cX11_copy 14 = .ok (.invokestatic 66, 3) := by decide +kernel
theorem dX11_copy_17 : decode cX11_copy 17 = .ok (.ifCond .ne 6, 3) := by decide +kernel
theorem dX11_copy_20 : decode cX11_copy 20 = .ok (.ldc 70, 2) := by decide +kernel
theorem dX11_copy_22 : decode cX11_copy 22 = .ok (.ireturn, 1) := by decide +kernel
theorem dX11_copy_23 : decode cX11_copy 23 = .ok (.aload_n 0, 1) := by decide +kernel
theorem dX11_copy_24 : decode cX11_copy 24 = .ok (.getfield 12, 3) := by decide +kernel
theorem dX11_copy_27 : decode cX11_copy 27 = .ok (.iload_n 1, 1) := by decide +kernel
theorem dX11_copy_28 : decode cX11_copy 28 = .ok (.iload_n 2, 1) := by decide +kernel
theorem dX11_copy_29 : decode cX11_copy 29 = .ok (.iload_n 3, 1) := by decide +kernel
theorem dX11_copy_30 : decode cX11_copy 30 = .ok (.iload 4, 2) := by decide +kernel
theorem dX11_copy_32 : decode cX11_copy 32 = .ok (.iload 5, 2) := by decide +kernel
theorem dX11_copy_34 : decode cX11_copy 34 = .ok (.invokevirtual 89, 3) := by decide +kernel
theorem dX11_copy_37 : decode cX11_copy 37 = .ok (.istore 6, 2) := by decide +kernel
theorem dX11_copy_39 : decode cX11_copy 39 = .ok (.iload 6, 2) := by decide +kernel
theorem dX11_copy_41 : decode cX11_copy 41 = .ok (.ifCond .eq 10, 3) := by decide +kernel
theorem dX11_copy_44 : decode cX11_copy 44 = .ok (.aload_n 0, 1) := by decide +kernel
theorem dX11_copy_45 : decode cX11_copy 45 = .ok (.iload 6, 2) := by decide +kernel
theorem dX11_copy_47 : decode cX11_copy 47 = .ok (.invokevirtual 71, 3) := by decide +kernel
theorem dX11_copy_50 : decode cX11_copy 50 = .ok (.ireturn, 1) := by decide +kernel
theorem dX11_copy_51 : decode cX11_copy 51 = .ok (.aload_n 0, 1) := by decide +kernel
theorem dX11_copy_52 : decode cX11_copy 52 = .ok (.getfield 12, 3) := by decide +kernel
theorem dX11_copy_55 : decode cX11_copy 55 = .ok (.iload_n 1, 1) := by decide +kernel
theorem dX11_copy_56 : decode cX11_copy 56 = .ok (.iload_n 2, 1) := by decide +kernel
theorem dX11_copy_57 : decode cX11_copy 57 = .ok (.iload_n 3, 1) := by decide +kernel
theorem dX11_copy_58 : decode cX11_copy 58 = .ok (.iload 4, 2) := by decide +kernel
theorem dX11_copy_60 : decode cX11_copy 60 = .ok (.iload 5, 2) := by decide +kernel
theorem dX11_copy_62 : decode cX11_copy 62 = .ok (.invokevirtual 93, 3) := by decide +kernel
theorem dX11_copy_65 : decode cX11_copy 65 = .ok (.aload_n 0, 1) := by decide +kernel
theorem dX11_copy_66 : decode cX11_copy 66 = .ok (.iload 5, 2) := by decide +kernel
theorem dX11_copy_68 : decode cX11_copy 68 = .ok (.invokevirtual 79, 3) := by decide +kernel
theorem dX11_copy_71 : decode cX11_copy 71 = .ok (.ireturn, 1) := by decide +kernel
set_option maxRecDepth 20000 in
theorem ggX11_drop_X11_within : GoodIn wsX11_drop wsX11_within := goodIn_r _ [6] (by decide +kernel) (by decide +kernel)
set_option maxRecDepth 20000 in
theorem gX11_drop_X11_within : GoodIn wsX11_drop (va_wsS RX11 66 yX11_within wsX11_within) := goodIn_app (goodIn_of _ (by decide +kernel)) ggX11_drop_X11_within
set_option maxRecDepth 20000 in
theorem ggX11_drop_X7_isMissing : GoodIn wsX11_drop wsX7_isMissing := goodIn_r _ [11, 12, 35, 36, 37] (by decide +kernel) (by decide +kernel)
set_option maxRecDepth 20000 in
theorem gX11_drop_X7_isMissing : GoodIn wsX11_drop (wsV RX11 97 RX7 yX7_isMissing wsX7_isMissing) := goodIn_app (goodIn_of _ (by decide +kernel)) ggX11_drop_X7_isMissing
set_option maxRecDepth 20000 in
theorem ggX11_drop_X11_found : GoodIn wsX11_drop wsX11_found := goodIn_r _ [16, 17, 18, 27, 28, 29, 30, 31, 32, 33, 34] (by decide +kernel) (by decide +kernel)
set_option maxRecDepth 20000 in
theorem gX11_drop_X11_found : GoodIn wsX11_drop (wsV RX11 71 RX11 yX11_found wsX11_found) := goodIn_app (goodIn_of _ (by decide +kernel)) ggX11_drop_X11_found
set_option maxRecDepth 20000 in
theorem ggX11_drop_X7_takeAway : GoodIn wsX11_drop wsX7_takeAway := goodIn_r _ [22, 12, 35, 36, 37] (by decide +kernel) (by decide +kernel)
set_option maxRecDepth 20000 in
theorem gX11_drop_X7_takeAway : GoodIn wsX11_drop (wsV RX11 101 RX7 yX7_takeAway wsX7_takeAway) := goodIn_app (goodIn_of _ (by decide +kernel)) ggX11_drop_X7_takeAway
set_option maxRecDepth 20000 in
theorem ggX11_drop_X11_fine : GoodIn wsX11_drop wsX11_fine := goodIn_r _ [26, 17, 27, 28, 29, 30, 31, 32, 33, 34] (by decide +kernel) (by decide +kernel)
set_option maxRecDepth 20000 in
theorem gX11_drop_X11_fine : GoodIn wsX11_drop (wsV RX11 79 RX11 yX11_fine wsX11_fine) := goodIn_app (goodIn_of _ (by decide +kernel)) ggX11_drop_X11_fine
theorem dX11_drop_0 : decode cX11_drop 0 = .ok (.iload_n 1, 1) := by decide +kernel
theorem dX11_drop_1 : decode cX11_drop 1 = .ok (.iconst 0, 1) := by decide +kernel
theorem dX11_drop_2 : decode cX11_drop 2 = .ok (.bipush 7, 2) := by decide +kernel
theorem dX11_drop_4 : decode cX11_drop 4 = .ok (.invokestatic 66, 3) := by decide +kernel
theorem dX11_drop_7 : decode cX11_drop 7 = .ok (.ifCond .ne 6, 3) := by decide +kernel
theorem dX11_drop_10 : decode cX11_drop 10 = .ok (.ldc 70, 2) := by decide +kernel
theorem dX11_drop_12 : decode cX11_drop 12 = .ok (.ireturn, 1) := by decide +kernel
theorem dX11_drop_13 : decode cX11_drop 13 = .ok (.aload_n 0, 1) := by decide +kernel
theorem dX11_drop_14 : decode cX11_drop 14 = .ok (.getfield 12, 3) := by decide +kernel
theorem dX11_drop_17 : decode cX11_drop 17 = .ok (.iload_n 1, 1) := by decide +kernel
theorem dX11_drop_18 : decode cX11_drop 18 = .ok (.invokevirtual 97, 3) := by decide +kernel
theorem dX11_drop_21 : decode cX11_drop 21 = .ok (.ifCond .eq 11, 3) := by decide +kernel
theorem dX11_drop_24 : decode cX11_drop 24 = .ok (.aload_n 0, 1) := by decide +kernel
theorem dX11_drop_25 : decode cX11_drop 25 = .ok (.iconst 1, 1) := by decide +kernel
theorem dX11_drop_26 : decode cX11_drop 26 = .ok (.invokevirtual 71, 3) := by decide +kernel
theorem dX11_drop_29 : decode cX11_drop 29 = .ok (.goto 15, 3) := by decide +kernel
theorem dX11_drop_32 : decode cX11_drop 32 = .ok (.aload_n 0, 1) := by decide +kernel
theorem dX11_drop_33 : decode cX11_drop 33 = .ok (.aload_n 0, 1) := by decide +kernel
theorem dX11_drop_34 : decode cX11_drop 34 = .ok (.getfield 12, 3) := by decide +kernel
theorem dX11_drop_37 : decode cX11_drop 37 = .ok (.iload_n 1, 1) := by decide +kernel
theorem dX11_drop_38 : decode cX11_drop 38 = .ok (.invokevirtual 101, 3) := by decide +kernel
theorem dX11_drop_41 : decode cX11_drop 41 = .ok (.invokevirtual 79, 3) := by decide +kernel
theorem dX11_drop_44 : decode cX11_drop 44 = .ok (.ireturn, 1) := by decide +kernel
set_option maxRecDepth 20000 in
theorem ggX11_world_X11_within : GoodIn wsX11_world wsX11_within := goodIn_r _ [12] (by decide +kernel) (by decide +kernel)
set_option maxRecDepth 20000 in
theorem gX11_world_X11_within : GoodIn wsX11_world (va_wsS RX11 66 yX11_within wsX11_within) := goodIn_app (goodIn_of _ (by decide +kernel)) ggX11_world_X11_within
set_option maxRecDepth 20000 in
theorem ggX11_world_X7_look : GoodIn wsX11_world wsX7_look := goodIn_r _ [17, 18, 19, 20, 16, 21, 22, 23, 24, 25, 26, 82, 83, 84] (by decide +kernel) (by decide +kernel)
set_option maxRecDepth 20000 in
theorem gX11_world_X7_look : GoodIn wsX11_world (wsV RX11 82 RX7 yX7_look wsX7_look) := goodIn_app (goodIn_of _ (by decide +kernel)) ggX11_world_X7_look
set_option maxRecDepth 20000 in
theorem ggX11_world_X11_found : GoodIn wsX11_world wsX11_found := goodIn_r _ [30, 31, 32, 63, 64, 65, 66, 67, 68, 69, 70] (by decide +kernel) (by decide +kernel)
set_option maxRecDepth 20000 in
theorem gX11_world_X11_found : GoodIn wsX11_world (wsV RX11 71 RX11 yX11_found wsX11_found) := goodIn_app (goodIn_of _ (by decide +kernel)) ggX11_world_X11_found
set_option maxRecDepth 20000 in
theorem ggX11_world_X7_areWithin : GoodIn wsX11_world wsX7_areWithin := goodIn_r _ [36, 37, 10, 11, 12, 82, 83, 84] (by decide +kernel) (by decide +kernel)
set_option maxRecDepth 20000 in
theorem gX11_world_X7_areWithin : GoodIn wsX11_world (wsV RX11 108 RX7 yX7_areWithin wsX7_areWithin) := goodIn_app (goodIn_of _ (by decide +kernel)) ggX11_world_X7_areWithin
set_option maxRecDepth 20000 in
theorem ggX11_world_X6_add : GoodIn wsX11_world wsX6_add := goodIn_r _ [42, 43, 44, 45, 46, 47, 48, 49, 50, 51, 52, 53, 41, 54, 55, 56, 57, 58, 71, 72, 73, 74] (by decide +kernel) (by decide +kernel)
set_option maxRecDepth 20000 in
theorem gX11_world_X6_add : GoodIn wsX11_world (wsV RX11 120 RX6 yX6_add wsX6_add) := goodIn_app (goodIn_of _ (by decide +kernel)) ggX11_world_X6_add
set_option maxRecDepth 20000 in
theorem ggX11_world_X11_fine : GoodIn wsX11_world wsX11_fine := goodIn_r _ [62, 31, 63, 64, 65, 66, 67, 68, 69, 70] (by decide +kernel) (by decide +kernel)
set_option maxRecDepth 20000 in
theorem gX11_world_X11_fine : GoodIn wsX11_world (wsV RX11 79 RX11 yX11_fine wsX11_fine) := goodIn_app (goodIn_of _ (by decide +kernel)) ggX11_world_X11_fine
theorem dX11_world_0 : decode cX11_world 0 = .ok (.iload_n 1, 1) := by decide +kernel
theorem dX11_world_1 : decode cX11_world 1 = .ok (.iconst 1, 1) := by decide +kernel
theorem dX11_world_2 : decode cX11_world 2 = .ok (.bipush 20, 2) := by decide +kernel
theorem dX11_world_4 : decode cX11_world 4 = .ok (.invokestatic 66, 3) := by decide +kernel
theorem dX11_world_7 : decode cX11_world 7 = .ok (.ifCond .eq 13, 3) := by decide +kernel
theorem dX11_world_10 : decode cX11_world 10 = .ok (.iload_n 2, 1) := by decide +kernel
theorem dX11_world_11 : decode cX11_world 11 = .ok (.iconst 0, 1) := by decide +kernel
theorem dX11_world_12 : decode cX11_world 12 = .ok (.bipush 7, 2) := by decide +kernel
theorem dX11_world_14 : decode cX11_world 14 = .ok (.invokestatic 66, 3) := by decide +kernel
theorem dX11_world_17 : decode cX11_world 17 = .ok (.ifCond .ne 6, 3) := by decide +kernel
theorem dX11_world_20 : decode cX11_world 20 = .ok (.ldc 70, 2) := by decide +kernel
theorem dX11_world_22 : decode cX11_world 22 = .ok (.ireturn, 1) := by decide +kernel
theorem dX11_world_23 : decode cX11_world 23 = .ok (.aload_n 0, 1) := by decide +kernel
theorem dX11_world_24 : decode cX11_world 24 = .ok (.getfield 19, 3) := by decide +kernel
theorem dX11_world_27 : decode cX11_world 27 = .ok (.getfield 104, 3) := by decide +kernel
theorem dX11_world_30 : decode cX11_world 30 = .ok (.bipush 8, 2) := by decide +kernel
theorem dX11_world_32 : decode cX11_world 32 = .ok (.if_icmp .lt 6, 3) := by decide +kernel
theorem dX11_world_35 : decode cX11_world 35 = .ok (.ldc 107, 2) := by decide +kernel
theorem dX11_world_37 : decode cX11_world 37 = .ok (.ireturn, 1) := by decide +kernel
theorem dX11_world_38 : decode cX11_world 38 = .ok (.aload_n 0, 1) := by decide +kernel
theorem dX11_world_39 : decode cX11_world 39 = .ok (.getfield 12, 3) := by decide +kernel
theorem dX11_world_42 : decode cX11_world 42 = .ok (.iload_n 2, 1) := by decide +kernel
theorem dX11_world_43 : decode cX11_world 43 = .ok (.iload_n 3, 1) := by decide +kernel
theorem dX11_world_44 : decode cX11_world 44 = .ok (.bipush 8, 2) := by decide +kernel
theorem dX11_world_46 : decode cX11_world 46 = .ok (.invokevirtual 82, 3) := by decide +kernel
theorem dX11_world_49 : decode cX11_world 49 = .ok (.istore 4, 2) := by decide +kernel
theorem dX11_world_51 : decode cX11_world 51 = .ok (.iload 4, 2) := by decide +kernel
theorem dX11_world_53 : decode cX11_world 53 = .ok (.ifCond .eq 10, 3) := by decide +kernel
theorem dX11_world_56 : decode cX11_world 56 = .ok (.aload_n 0, 1) := by decide +kernel
theorem dX11_world_57 : decode cX11_world 57 = .ok (.iload 4, 2) := by decide +kernel
theorem dX11_world_59 : decode cX11_world 59 = .ok (.invokevirtual 71, 3) := by decide +kernel
theorem dX11_world_62 : decode cX11_world 62 = .ok (.ireturn, 1) := by decide +kernel
theorem dX11_world_63 : decode cX11_world 63 = .ok (.aload_n 0, 1) := by decide +kernel
theorem dX11_world_64 : decode cX11_world 64 = .ok (.getfield 12, 3) := by decide +kernel
theorem dX11_world_67 : decode cX11_world 67 = .ok (.iload_n 2, 1) := by decide +kernel
theorem dX11_world_68 : decode cX11_world 68 = .ok (.iload_n 3, 1) := by decide +kernel
theorem dX11_world_69 : decode cX11_world 69 = .ok (.bipush 8, 2) := by decide +kernel
theorem dX11_world_71 : decode cX11_world 71 = .ok (.sipush 1000, 3) := by decide +kernel
theorem dX11_world_74 : decode cX11_world 74 = .ok (.invokevirtual 108, 3) := by decide +kernel
theorem dX11_world_77 : decode cX11_world 77 = .ok (.ifCond .ne 6, 3) := by decide +kernel
theorem dX11_world_80 : decode cX11_world 80 = .ok (.ldc 70, 2) := by decide +kernel
theorem dX11_world_82 : decode cX11_world 82 = .ok (.ireturn, 1) := by decide +kernel
theorem dX11_world_83 : decode cX11_world 83 = .ok (.aload_n 0, 1) := by decide +kernel
theorem dX11_world_84 : decode cX11_world 84 = .ok (.getfield 37, 3) := by decide +kernel
theorem dX11_world_87 : decode cX11_world 87 = .ok (.iconst 1, 1) := by decide +kernel
theorem dX11_world_88 : decode cX11_world 88 = .ok (.putfield 112, 3) := by decide +kernel
theorem dX11_world_91 : decode cX11_world 91 = .ok (.aload_n 0, 1) := by decide +kernel
theorem dX11_world_92 : decode cX11_world 92 = .ok (.aload_n 0, 1) := by decide +kernel
theorem dX11_world_93 : decode cX11_world 93 = .ok (.getfield 19, 3) := by decide +kernel
theorem dX11_world_96 : decode cX11_world 96 = .ok (.iload_n 1, 1) := by decide +kernel
theorem dX11_world_97 : decode cX11_world 97 = .ok (.aload_n 0, 1) := by decide +kernel
theorem dX11_world_98 : decode cX11_world 98 = .ok (.getfield 12, 3) := by decide +kernel
theorem dX11_world_101 : decode cX11_world 101 = .ok (.getfield 116, 3) := by decide +kernel
theorem dX11_world_104 : decode cX11_world 104 = .ok (.iload_n 2, 1) := by decide +kernel
theorem dX11_world_105 : decode cX11_world 105 = .ok (.aaload, 1) := by decide +kernel
theorem dX11_world_106 : decode cX11_world 106 = .ok (.iload_n 3, 1) := by decide +kernel
theorem dX11_world_107 : decode cX11_world 107 = .ok (.invokevirtual 120, 3) := by decide +kernel
theorem dX11_world_110 : decode cX11_world 110 = .ok (.invokevirtual 79, 3) := by decide +kernel
theorem dX11_world_113 : decode cX11_world 113 = .ok (.ireturn, 1) := by decide +kernel
set_option maxRecDepth 20000 in
theorem ggX11_river_X11_within : GoodIn wsX11_river wsX11_within := goodIn_r _ [9] (by decide +kernel) (by decide +kernel)
set_option maxRecDepth 20000 in
theorem gX11_river_X11_within : GoodIn wsX11_river (va_wsS RX11 66 yX11_within wsX11_within) := goodIn_app (goodIn_of _ (by decide +kernel)) ggX11_river_X11_within
theorem dX11_river_0 : decode cX11_river 0 = .ok (.iload_n 1, 1) := by decide +kernel
theorem dX11_river_1 : decode cX11_river 1 = .ok (.iconst 0, 1) := by decide +kernel
theorem dX11_river_2 : decode cX11_river 2 = .ok (.bipush 7, 2) := by decide +kernel
theorem dX11_river_4 : decode cX11_river 4 = .ok (.invokestatic 66, 3) := by decide +kernel
theorem dX11_river_7 : decode cX11_river 7 = .ok (.ifCond .eq 13, 3) := by decide +kernel
theorem dX11_river_10 : decode cX11_river 10 = .ok (.iload_n 2, 1) := by decide +kernel
theorem dX11_river_11 : decode cX11_river 11 = .ok (.iconst 0, 1) := by decide +kernel
theorem dX11_river_12 : decode cX11_river 12 = .ok (.bipush 100, 2) := by decide +kernel
theorem dX11_river_14 : decode cX11_river 14 = .ok (.invokestatic 66, 3) := by decide +kernel
theorem dX11_river_17 : decode cX11_river 17 = .ok (.ifCond .ne 6, 3) := by decide +kernel
theorem dX11_river_20 : decode cX11_river 20 = .ok (.ldc 70, 2) := by decide +kernel
theorem dX11_river_22 : decode cX11_river 22 = .ok (.ireturn, 1) := by decide +kernel
theorem dX11_river_23 : decode cX11_river 23 = .ok (.aload_n 0, 1) := by decide +kernel
theorem dX11_river_24 : decode cX11_river 24 = .ok (.getfield 28, 3) := by decide +kernel
theorem dX11_river_27 : decode cX11_river 27 = .ok (.getfield 124, 3) := by decide +kernel
theorem dX11_river_30 : decode cX11_river 30 = .ok (.iload_n 1, 1) := by decide +kernel
theorem dX11_river_31 : decode cX11_river 31 = .ok (.iaload, 1) := by decide +kernel
theorem dX11_river_32 : decode cX11_river 32 = .ok (.istore_n 3, 1) := by decide +kernel
theorem dX11_river_33 : decode cX11_river 33 = .ok (.aload_n 0, 1) := by decide +kernel
theorem dX11_river_34 : decode cX11_river 34 = .ok (.getfield 28, 3) := by decide +kernel
theorem dX11_river_37 : decode cX11_river 37 = .ok (.getfield 124, 3) := by decide +kernel
theorem dX11_river_40 : decode cX11_river 40 = .ok (.iload_n 1, 1) := by decide +kernel
theorem dX11_river_41 : decode cX11_river 41 = .ok (.iload_n 2, 1) := by decide +kernel
theorem dX11_river_42 : decode cX11_river 42 = .ok (.iastore, 1) := by decide +kernel
theorem dX11_river_43 : decode cX11_river 43 = .ok (.aload_n 0, 1) := by decide +kernel
theorem dX11_river_44 : decode cX11_river 44 = .ok (.getfield 37, 3) := by decide +kernel
theorem dX11_river_47 : decode cX11_river 47 = .ok (.iconst 1, 1) := by decide +kernel
theorem dX11_river_48 : decode cX11_river 48 = .ok (.putfield 112, 3) := by decide +kernel
theorem dX11_river_51 : decode cX11_river 51 = .ok (.iload_n 3, 1) := by decide +kernel
theorem dX11_river_52 : decode cX11_river 52 = .ok (.ireturn, 1) := by decide +kernel
set_option maxRecDepth 20000 in
theorem ggX11_rule_X11_within : GoodIn wsX11_rule wsX11_within := goodIn_r _ [9] (by decide +kernel) (by decide +kernel)
set_option maxRecDepth 20000 in
theorem gX11_rule_X11_within : GoodIn wsX11_rule (va_wsS RX11 66 yX11_within wsX11_within) := goodIn_app (goodIn_of _ (by decide +kernel)) ggX11_rule_X11_within
set_option maxRecDepth 20000 in
theorem ggX11_rule_X11_mayBeRule : GoodIn wsX11_rule wsX11_mayBeRule := goodIn_r _ [12, 6, 7, 8, 9] (by decide +kernel) (by decide +kernel)
set_option maxRecDepth 20000 in
theorem gX11_rule_X11_mayBeRule : GoodIn wsX11_rule (va_wsS RX11 128 yX11_mayBeRule wsX11_mayBeRule) := goodIn_app (goodIn_of _ (by decide +kernel)) ggX11_rule_X11_mayBeRule
theorem dX11_rule_0 : decode cX11_rule 0 = .ok (.iload_n 1, 1) := by decide +kernel
theorem dX11_rule_1 : decode cX11_rule 1 = .ok (.iconst 0, 1) := by decide +kernel
theorem dX11_rule_2 : decode cX11_rule 2 = .ok (.bipush 7, 2) := by decide +kernel
theorem dX11_rule_4 : decode cX11_rule 4 = .ok (.invokestatic 66, 3) := by decide +kernel
theorem dX11_rule_7 : decode cX11_rule 7 = .ok (.ifCond .eq 11, 3) := by decide +kernel
theorem dX11_rule_10 : decode cX11_rule 10 = .ok (.iload_n 1, 1) := by decide +kernel
theorem dX11_rule_11 : decode cX11_rule 11 = .ok (.iload_n 2, 1) := by decide +kernel
theorem dX11_rule_12 : decode cX11_rule 12 = .ok (.invokestatic 128, 3) := by decide +kernel
theorem dX11_rule_15 : decode cX11_rule 15 = .ok (.ifCond .ne 6, 3) := by decide +kernel
theorem dX11_rule_18 : decode cX11_rule 18 = .ok (.ldc 70, 2) := by decide +kernel
theorem dX11_rule_20 : decode cX11_rule 20 = .ok (.ireturn, 1) := by decide +kernel
theorem dX11_rule_21 : decode cX11_rule 21 = .ok (.aload_n 0, 1) := by decide +kernel
theorem dX11_rule_22 : decode cX11_rule 22 = .ok (.getfield 28, 3) := by decide +kernel
theorem dX11_rule_25 : decode cX11_rule 25 = .ok (.getfield 132, 3) := by decide +kernel
theorem dX11_rule_28 : decode cX11_rule 28 = .ok (.iload_n 1, 1) := by decide +kernel
theorem dX11_rule_29 : decode cX11_rule 29 = .ok (.iaload, 1) := by decide +kernel
theorem dX11_rule_30 : decode cX11_rule 30 = .ok (.istore_n 3, 1) := by decide +kernel
theorem dX11_rule_31 : decode cX11_rule 31 = .ok (.aload_n 0, 1) := by decide +kernel
theorem dX11_rule_32 : decode cX11_rule 32 = .ok (.getfield 28, 3) := by decide +kernel
theorem dX11_rule_35 : decode cX11_rule 35 = .ok (.getfield 132, 3) := by decide +kernel
theorem dX11_rule_38 : decode cX11_rule 38 = .ok (.iload_n 1, 1) := by decide +kernel
theorem dX11_rule_39 : decode cX11_rule 39 = .ok (.iload_n 2, 1) := by decide +kernel
theorem dX11_rule_40 : decode cX11_rule 40 = .ok (.iastore, 1) := by decide +kernel
theorem dX11_rule_41 : decode cX11_rule 41 = .ok (.aload_n 0, 1) := by decide +kernel
theorem dX11_rule_42 : decode cX11_rule 42 = .ok (.getfield 37, 3) := by decide +kernel
theorem dX11_rule_45 : decode cX11_rule 45 = .ok (.iconst 1, 1) := by decide +kernel
theorem dX11_rule_46 : decode cX11_rule 46 = .ok (.putfield 112, 3) := by decide +kernel
theorem dX11_rule_49 : decode cX11_rule 49 = .ok (.iload_n 3, 1) := by decide +kernel
theorem dX11_rule_50 : decode cX11_rule 50 = .ok (.ireturn, 1) := by decide +kernel
set_option maxRecDepth 20000 in
theorem ggX11_mayBeRule_X11_within : GoodIn wsX11_mayBeRule wsX11_within := goodIn_r _ [4] (by decide +kernel) (by decide +kernel)
set_option maxRecDepth 20000 in
theorem gX11_mayBeRule_X11_within : GoodIn wsX11_mayBeRule (va_wsS RX11 66 yX11_within wsX11_within) := goodIn_app (goodIn_of _ (by decide +kernel)) ggX11_mayBeRule_X11_within
theorem dX11_mayBeRule_0 : decode cX11_mayBeRule 0 = .ok (.iload_n 0, 1) := by decide +kernel
theorem dX11_mayBeRule_1 : decode cX11_mayBeRule 1 = .ok (.ifCond .eq 8, 3) := by decide +kernel
theorem dX11_mayBeRule_4 : decode cX11_mayBeRule 4 = .ok (.iload_n 0, 1) := by decide +kernel
theorem dX11_mayBeRule_5 : decode cX11_mayBeRule 5 = .ok (.iconst 1, 1) := by decide +kernel
theorem dX11_mayBeRule_6 : decode cX11_mayBeRule 6 = .ok (.if_icmp .ne 12, 3) := by decide +kernel
theorem dX11_mayBeRule_9 : decode cX11_mayBeRule 9 = .ok (.iload_n 1, 1) := by decide +kernel
theorem dX11_mayBeRule_10 : decode cX11_mayBeRule 10 = .ok (.iconst 1, 1) := by decide +kernel
theorem dX11_mayBeRule_11 : decode cX11_mayBeRule 11 = .ok (.iconst 3, 1) := by decide +kernel
theorem dX11_mayBeRule_12 : decode cX11_mayBeRule 12 = .ok (.invokestatic 66, 3) := by decide +kernel
theorem dX11_mayBeRule_15 : decode cX11_mayBeRule 15 = .ok (.goto 11, 3) := by decide +kernel
theorem dX11_mayBeRule_18 : decode cX11_mayBeRule 18 = .ok (.iload_n 1, 1) := by decide +kernel
theorem dX11_mayBeRule_19 : decode cX11_mayBeRule 19 = .ok (.iconst 0, 1) := by decide +kernel
theorem dX11_mayBeRule_20 : decode cX11_mayBeRule 20 = .ok (.sipush 1000, 3) := by decide +kernel
theorem dX11_mayBeRule_23 : decode cX11_mayBeRule 23 = .ok (.invokestatic 66, 3) := by decide +kernel
theorem dX11_mayBeRule_26 : decode cX11_mayBeRule 26 = .ok (.ireturn, 1) := by decide +kernel
set_option maxRecDepth 20000 in
theorem ggX11_best_X4_refresh : GoodIn wsX11_best wsX4_refresh := goodIn_r _ [7, 8, 9, 10, 11, 12, 13, 14, 15, 16, 6, 17, 18, 19, 20, 21, 22, 23, 24, 25, 26, 27, 28, 29, 30, 31, 32, 33, 34, 35, 36, 37, 38, 39, 40, 41, 42, 43, 44, 45, 46, 47, 48, 49, 50, 51, 52, 53, 54, 55, 56, 57, 58, 59, 60, 61, 62, 63, 64, 65, 66, 67, 68, 69, 70, 71, 72, 81, 82, 83, 84, 85, 86, 87, 88, 89, 90, 91, 92, 93, 94] (by decide +kernel) (by decide +kernel)
set_option maxRecDepth 20000 in
theorem gX11_best_X4_refresh : GoodIn wsX11_best (wsV RX11 135 RX4 yX4_refresh wsX4_refresh) := goodIn_app (goodIn_of _ (by decide +kernel)) ggX11_best_X4_refresh
theorem dX11_best_0 : decode cX11_best 0 = .ok (.aload_n 0, 1) := by decide +kernel
theorem dX11_best_1 : decode cX11_best 1 = .ok (.getfield 37, 3) := by decide +kernel
theorem dX11_best_4 : decode cX11_best 4 = .ok (.invokevirtual 135, 3) := by decide +kernel
theorem dX11_best_7 : decode cX11_best 7 = .ok (.aload_n 0, 1) := by decide +kernel
theorem dX11_best_8 : decode cX11_best 8 = .ok (.getfield 37, 3) := by decide +kernel
theorem dX11_best_11 : decode cX11_best 11 = .ok (.getfield 138, 3) := by decide +kernel
theorem dX11_best_14 : decode cX11_best 14 = .ok (.lreturn, 1) := by decide +kernel
set_option maxRecDepth 20000 in
theorem ggX11_hour_X11_within : GoodIn wsX11_hour wsX11_within := goodIn_r _ [9] (by decide +kernel) (by decide +kernel)
set_option maxRecDepth 20000 in
theorem gX11_hour_X11_within : GoodIn wsX11_hour (va_wsS RX11 66 yX11_within wsX11_within) := goodIn_app (goodIn_of _ (by decide +kernel)) ggX11_hour_X11_within
set_option maxRecDepth 20000 in
theorem ggX11_hour_X4_refresh : GoodIn wsX11_hour wsX4_refresh := goodIn_r _ [14, 15, 16, 17, 18, 19, 20, 21, 22, 23, 13, 24, 25, 26, 27, 28, 29, 30, 31, 32, 33, 34, 35, 36, 37, 38, 39, 40, 41, 42, 43, 44, 45, 46, 47, 48, 49, 50, 51, 52, 53, 54, 55, 56, 57, 58, 59, 60, 61, 62, 63, 64, 65, 66, 67, 68, 69, 70, 71, 72, 73, 74, 75, 76, 77, 78, 79, 110, 111, 112, 113, 114, 115, 116, 106, 107, 108, 109, 117, 118, 119] (by decide +kernel) (by decide +kernel)
set_option maxRecDepth 20000 in
theorem gX11_hour_X4_refresh : GoodIn wsX11_hour (wsV RX11 135 RX4 yX4_refresh wsX4_refresh) := goodIn_app (goodIn_of _ (by decide +kernel)) ggX11_hour_X4_refresh
set_option maxRecDepth 20000 in
theorem ggX11_hour_X4_stateAt : GoodIn wsX11_hour wsX4_stateAt := goodIn_r _ [83, 47, 84, 85, 86, 13, 87, 30, 17, 19, 72, 59, 60, 51, 61, 53, 73, 74, 75, 76, 77, 78, 110, 111, 112, 113, 114, 115, 116, 106, 107, 108, 109, 117, 118, 119] (by decide +kernel) (by decide +kernel)
set_option maxRecDepth 20000 in
theorem gX11_hour_X4_stateAt : GoodIn wsX11_hour (wsV RX11 142 RX4 yX4_stateAt wsX4_stateAt) := goodIn_app (goodIn_of _ (by decide +kernel)) ggX11_hour_X4_stateAt
set_option maxRecDepth 20000 in
theorem ggX11_hour_X4_tells : GoodIn wsX11_hour wsX4_tells := goodIn_r _ [87, 30, 17, 19, 110, 111, 112, 113, 114, 115, 116, 106, 107, 108, 109] (by decide +kernel) (by decide +kernel)
set_option maxRecDepth 20000 in
theorem gX11_hour_X4_tells : GoodIn wsX11_hour (wsV RX11 146 RX4 yX4_tells wsX4_tells) := goodIn_app (goodIn_of _ (by decide +kernel)) ggX11_hour_X4_tells
set_option maxRecDepth 20000 in
theorem ggX11_hour_X0_order : GoodIn wsX11_hour wsX0_order := goodIn_r _ [91] (by decide +kernel) (by decide +kernel)
set_option maxRecDepth 20000 in
theorem gX11_hour_X0_order : GoodIn wsX11_hour (va_wsS RX11 149 yX0_order wsX0_order) := goodIn_app (goodIn_of _ (by decide +kernel)) ggX11_hour_X0_order
set_option maxRecDepth 20000 in
theorem ggX11_hour_X0_stands : GoodIn wsX11_hour wsX0_stands := goodIn_r _ [61, 53, 117, 118, 119] (by decide +kernel) (by decide +kernel)
set_option maxRecDepth 20000 in
theorem gX11_hour_X0_stands : GoodIn wsX11_hour (wsV RX11 153 RX0 yX0_stands wsX0_stands) := goodIn_app (goodIn_of _ (by decide +kernel)) ggX11_hour_X0_stands
set_option maxRecDepth 20000 in
theorem ggX11_hour_X0_how : GoodIn wsX11_hour wsX0_how := goodIn_r _ [95] (by decide +kernel) (by decide +kernel)
set_option maxRecDepth 20000 in
theorem gX11_hour_X0_how : GoodIn wsX11_hour (va_wsS RX11 156 yX0_how wsX0_how) := goodIn_app (goodIn_of _ (by decide +kernel)) ggX11_hour_X0_how
set_option maxRecDepth 20000 in
theorem ggX11_hour_X0_water : GoodIn wsX11_hour wsX0_water := goodIn_r _ [65, 66, 67, 68, 69, 56, 70, 71, 117, 118, 119, 106, 107, 108, 109] (by decide +kernel) (by decide +kernel)
set_option maxRecDepth 20000 in
theorem gX11_hour_X0_water : GoodIn wsX11_hour (wsV RX11 159 RX0 yX0_water wsX0_water) := goodIn_app (goodIn_of _ (by decide +kernel)) ggX11_hour_X0_water
set_option maxRecDepth 20000 in
theorem ggX11_hour_X0_lost : GoodIn wsX11_hour wsX0_lost := goodIn_r _ [52, 53, 54, 55, 56, 57, 58, 59, 60, 51, 61, 62, 63, 64, 65, 66, 67, 68, 69, 70, 71, 117, 118, 119, 106, 107, 108, 109] (by decide +kernel) (by decide +kernel)
set_option maxRecDepth 20000 in
theorem gX11_hour_X0_lost : GoodIn wsX11_hour (wsV RX11 162 RX0 yX0_lost wsX0_lost) := goodIn_app (goodIn_of _ (by decide +kernel)) ggX11_hour_X0_lost
theorem dX11_hour_0 : decode cX11_hour 0 = .ok (.iload_n 1, 1) := by decide +kernel
theorem dX11_hour_1 : decode cX11_hour 1 = .ok (.iconst 0, 1) := by decide +kernel
theorem dX11_hour_2 : decode cX11_hour 2 = .ok (.aload_n 0, 1) := by decide +kernel
theorem dX11_hour_3 : decode cX11_hour 3 = .ok (.getfield 19, 3) := by decide +kernel
theorem dX11_hour_6 : decode cX11_hour 6 = .ok (.getfield 104, 3) := by decide +kernel
theorem dX11_hour_9 : decode cX11_hour 9 = .ok (.iconst 1, 1) := by decide +kernel
theorem dX11_hour_10 : decode cX11_hour 10 = .ok (.isub, 1) := by decide +kernel
theorem dX11_hour_11 : decode cX11_hour 11 = .ok (.invokestatic 66, 3) := by decide +kernel
theorem dX11_hour_14 : decode cX11_hour 14 = .ok (.ifCond .eq 13, 3) := by decide +kernel
theorem dX11_hour_17 : decode cX11_hour 17 = .ok (.iload_n 2, 1) := by decide +kernel
theorem dX11_hour_18 : decode cX11_hour 18 = .ok (.iconst 0, 1) := by decide +kernel
theorem dX11_hour_19 : decode cX11_hour 19 = .ok (.bipush 7, 2) := by decide +kernel
theorem dX11_hour_21 : decode cX11_hour 21 = .ok (.invokestatic 66, 3) := by decide +kernel
theorem dX11_hour_24 : decode cX11_hour 24 = .ok (.ifCond .ne 6, 3) := by decide +kernel
theorem dX11_hour_27 : decode cX11_hour 27 = .ok (.ldc 70, 2) := by decide +kernel
theorem dX11_hour_29 : decode cX11_hour 29 = .ok (.ireturn, 1) := by decide +kernel
theorem dX11_hour_30 : decode cX11_hour 30 = .ok (.aload_n 0, 1) := by decide +kernel
theorem dX11_hour_31 : decode cX11_hour 31 = .ok (.getfield 37, 3) := by decide +kernel
theorem dX11_hour_34 : decode cX11_hour 34 = .ok (.invokevirtual 135, 3) := by decide +kernel
theorem dX11_hour_37 : decode cX11_hour 37 = .ok (.aload_n 0, 1) := by decide +kernel
theorem dX11_hour_38 : decode cX11_hour 38 = .ok (.getfield 37, 3) := by decide +kernel
theorem dX11_hour_41 : decode cX11_hour 41 = .ok (.iload_n 1, 1) := by decide +kernel
theorem dX11_hour_42 : decode cX11_hour 42 = .ok (.iload_n 2, 1) := by decide +kernel
theorem dX11_hour_43 : decode cX11_hour 43 = .ok (.invokevirtual 142, 3) := by decide +kernel
theorem dX11_hour_46 : decode cX11_hour 46 = .ok (.istore 4, 2) := by decide +kernel
theorem dX11_hour_48 : decode cX11_hour 48 = .ok (.aload_n 0, 1) := by decide +kernel
theorem dX11_hour_49 : decode cX11_hour 49 = .ok (.getfield 37, 3) := by decide +kernel
theorem dX11_hour_52 : decode cX11_hour 52 = .ok (.iload_n 2, 1) := by decide +kernel
theorem dX11_hour_53 : decode cX11_hour 53 = .ok (.iload_n 1, 1) := by decide +kernel
theorem dX11_hour_54 : decode cX11_hour 54 = .ok (.iload 4, 2) := by decide +kernel
theorem dX11_hour_56 : decode cX11_hour 56 = .ok (.invokevirtual 146, 3) := by decide +kernel
theorem dX11_hour_59 : decode cX11_hour 59 = .ok (.istore 5, 2) := by decide +kernel
theorem dX11_hour_61 : decode cX11_hour 61 = .ok (.iload_n 3, 1) := by decide +kernel
theorem dX11_hour_62 : decode cX11_hour 62 = .ok (.tableswitch 88 0 3 #[30, 38, 53, 74], 30) := by decide +kernel
theorem dX11_hour_92 : decode cX11_hour 92 = .ok (.iload 4, 2) := by decide +kernel
theorem dX11_hour_94 : decode cX11_hour 94 = .ok (.iload 5, 2) := by decide +kernel
theorem dX11_hour_96 : decode cX11_hour 96 = .ok (.invokestatic 149, 3) := by decide +kernel
theorem dX11_hour_99 : decode cX11_hour 99 = .ok (.ireturn, 1) := by decide +kernel
theorem dX11_hour_100 : decode cX11_hour 100 = .ok (.aload_n 0, 1) := by decide +kernel
theorem dX11_hour_101 : decode cX11_hour 101 = .ok (.getfield 28, 3) := by decide +kernel
theorem dX11_hour_104 : decode cX11_hour 104 = .ok (.iload 4, 2) := by decide +kernel
theorem dX11_hour_106 : decode cX11_hour 106 = .ok (.iload 5, 2) := by decide +kernel
theorem dX11_hour_108 : decode cX11_hour 108 = .ok (.invokevirtual 153, 3) := by decide +kernel
theorem dX11_hour_111 : decode cX11_hour 111 = .ok (.invokestatic 156, 3) := by decide +kernel
theorem dX11_hour_114 : decode cX11_hour 114 = .ok (.ireturn, 1) := by decide +kernel
theorem dX11_hour_115 : decode cX11_hour 115 = .ok (.aload_n 0, 1) := by decide +kernel
theorem dX11_hour_116 : decode cX11_hour 116 = .ok (.getfield 28, 3) := by decide +kernel
theorem dX11_hour_119 : decode cX11_hour 119 = .ok (.iload_n 1, 1) := by decide +kernel
theorem dX11_hour_120 : decode cX11_hour 120 = .ok (.iload_n 2, 1) := by decide +kernel
theorem dX11_hour_121 : decode cX11_hour 121 = .ok (.aload_n 0, 1) := by decide +kernel
theorem dX11_hour_122 : decode cX11_hour 122 = .ok (.getfield 28, 3) := by decide +kernel
theorem dX11_hour_125 : decode cX11_hour 125 = .ok (.iload 4, 2) := by decide +kernel
theorem dX11_hour_127 : decode cX11_hour 127 = .ok (.iload 5, 2) := by decide +kernel
theorem dX11_hour_129 : decode cX11_hour 129 = .ok (.invokevirtual 153, 3) := by decide +kernel
theorem dX11_hour_132 : decode cX11_hour 132 = .ok (.invokevirtual 159, 3) := by decide +kernel
theorem dX11_hour_135 : decode cX11_hour 135 = .ok (.ireturn, 1) := by decide +kernel
theorem dX11_hour_136 : decode cX11_hour 136 = .ok (.aload_n 0, 1) := by decide +kernel
theorem dX11_hour_137 : decode cX11_hour 137 = .ok (.getfield 28, 3) := by decide +kernel
theorem dX11_hour_140 : decode cX11_hour 140 = .ok (.iload_n 1, 1) := by decide +kernel
theorem dX11_hour_141 : decode cX11_hour 141 = .ok (.iload_n 2, 1) := by decide +kernel
theorem dX11_hour_142 : decode cX11_hour 142 = .ok (.iload 4, 2) := by decide +kernel
theorem dX11_hour_144 : decode cX11_hour 144 = .ok (.iload 5, 2) := by decide +kernel
theorem dX11_hour_146 : decode cX11_hour 146 = .ok (.invokevirtual 162, 3) := by decide +kernel
theorem dX11_hour_149 : decode cX11_hour 149 = .ok (.ireturn, 1) := by decide +kernel
theorem dX11_hour_150 : decode cX11_hour 150 = .ok (.ldc 70, 2) := by decide +kernel
theorem dX11_hour_152 : decode cX11_hour 152 = .ok (.ireturn, 1) := by decide +kernel
set_option maxRecDepth 20000 in
theorem ggX11_shutAt_X11_within : GoodIn wsX11_shutAt wsX11_within := goodIn_r _ [6] (by decide +kernel) (by decide +kernel)
set_option maxRecDepth 20000 in
theorem gX11_shutAt_X11_within : GoodIn wsX11_shutAt (va_wsS RX11 66 yX11_within wsX11_within) := goodIn_app (goodIn_of _ (by decide +kernel)) ggX11_shutAt_X11_within
set_option maxRecDepth 20000 in
theorem ggX11_shutAt_X0_lossOfOneOrder : GoodIn wsX11_shutAt wsX0_lossOfOneOrder := goodIn_r _ [11, 12, 13, 14, 15, 16, 17, 10, 18, 19, 20, 21, 22, 23, 24, 25, 26, 27, 28, 29, 30, 31, 32, 33, 34, 35, 36, 37, 38, 39, 40, 41, 42, 51, 52, 53, 54, 55, 56, 57] (by decide +kernel) (by decide +kernel)
set_option maxRecDepth 20000 in
theorem gX11_shutAt_X0_lossOfOneOrder : GoodIn wsX11_shutAt (wsV RX11 166 RX0 yX0_lossOfOneOrder wsX0_lossOfOneOrder) := goodIn_app (goodIn_of _ (by decide +kernel)) ggX11_shutAt_X0_lossOfOneOrder
theorem dX11_shutAt_0 : decode cX11_shutAt 0 = .ok (.iload_n 1, 1) := by decide +kernel
theorem dX11_shutAt_1 : decode cX11_shutAt 1 = .ok (.iconst 0, 1) := by decide +kernel
theorem dX11_shutAt_2 : decode cX11_shutAt 2 = .ok (.bipush 8, 2) := by decide +kernel
theorem dX11_shutAt_4 : decode cX11_shutAt 4 = .ok (.invokestatic 66, 3) := by decide +kernel
theorem dX11_shutAt_7 : decode cX11_shutAt 7 = .ok (.ifCond .eq 14, 3) := by decide +kernel
theorem dX11_shutAt_10 : decode cX11_shutAt 10 = .ok (.aload_n 0, 1) := by decide +kernel
theorem dX11_shutAt_11 : decode cX11_shutAt 11 = .ok (.getfield 28, 3) := by decide +kernel
theorem dX11_shutAt_14 : decode cX11_shutAt 14 = .ok (.iload_n 1, 1) := by decide +kernel
theorem dX11_shutAt_15 : decode cX11_shutAt 15 = .ok (.invokevirtual 166, 3) := by decide +kernel
theorem dX11_shutAt_18 : decode cX11_shutAt 18 = .ok (.goto 6, 3) := by decide +kernel
theorem dX11_shutAt_21 : decode cX11_shutAt 21 = .ok (.ldc2_w 170, 3) := by decide +kernel
theorem dX11_shutAt_24 : decode cX11_shutAt 24 = .ok (.lreturn, 1) := by decide +kernel
set_option maxRecDepth 20000 in
theorem ggX11_alarm_X6_firstAbove : GoodIn wsX11_alarm wsX6_firstAbove := goodIn_r _ [9, 10, 11, 23, 24, 25, 26] (by decide +kernel) (by decide +kernel)
set_option maxRecDepth 20000 in
theorem gX11_alarm_X6_firstAbove : GoodIn wsX11_alarm (wsV RX11 172 RX6 yX6_firstAbove wsX6_firstAbove) := goodIn_app (goodIn_of _ (by decide +kernel)) ggX11_alarm_X6_firstAbove
theorem dX11_alarm_0 : decode cX11_alarm 0 = .ok (.aload_n 0, 1) := by decide +kernel
theorem dX11_alarm_1 : decode cX11_alarm 1 = .ok (.getfield 19, 3) := by decide +kernel
theorem dX11_alarm_4 : decode cX11_alarm 4 = .ok (.aload_n 0, 1) := by decide +kernel
theorem dX11_alarm_5 : decode cX11_alarm 5 = .ok (.getfield 28, 3) := by decide +kernel
theorem dX11_alarm_8 : decode cX11_alarm 8 = .ok (.getfield 132, 3) := by decide +kernel
theorem dX11_alarm_11 : decode cX11_alarm 11 = .ok (.iconst 2, 1) := by decide +kernel
theorem dX11_alarm_12 : decode cX11_alarm 12 = .ok (.iaload, 1) := by decide +kernel
theorem dX11_alarm_13 : decode cX11_alarm 13 = .ok (.invokevirtual 172, 3) := by decide +kernel
theorem dX11_alarm_16 : decode cX11_alarm 16 = .ok (.istore_n 1, 1) := by decide +kernel
theorem dX11_alarm_17 : decode cX11_alarm 17 = .ok (.iload_n 1, 1) := by decide +kernel
theorem dX11_alarm_18 : decode cX11_alarm 18 = .ok (.bipush 8, 2) := by decide +kernel
theorem dX11_alarm_20 : decode cX11_alarm 20 = .ok (.if_icmp .ne 6, 3) := by decide +kernel
theorem dX11_alarm_23 : decode cX11_alarm 23 = .ok (.bipush 8, 2) := by decide +kernel
theorem dX11_alarm_25 : decode cX11_alarm 25 = .ok (.ireturn, 1) := by decide +kernel
theorem dX11_alarm_26 : decode cX11_alarm 26 = .ok (.iload_n 1, 1) := by decide +kernel
theorem dX11_alarm_27 : decode cX11_alarm 27 = .ok (.aload_n 0, 1) := by decide +kernel
theorem dX11_alarm_28 : decode cX11_alarm 28 = .ok (.getfield 28, 3) := by decide +kernel
theorem dX11_alarm_31 : decode cX11_alarm 31 = .ok (.getfield 132, 3) := by decide +kernel
theorem dX11_alarm_34 : decode cX11_alarm 34 = .ok (.iconst 0, 1) := by decide +kernel
theorem dX11_alarm_35 : decode cX11_alarm 35 = .ok (.iaload, 1) := by decide +kernel
theorem dX11_alarm_36 : decode cX11_alarm 36 = .ok (.isub, 1) := by decide +kernel
theorem dX11_alarm_37 : decode cX11_alarm 37 = .ok (.istore_n 2, 1) := by decide +kernel
theorem dX11_alarm_38 : decode cX11_alarm 38 = .ok (.iload_n 2, 1) := by decide +kernel
theorem dX11_alarm_39 : decode cX11_alarm 39 = .ok (.ifCond .ge 8, 3) := by decide +kernel
theorem dX11_alarm_42 : decode cX11_alarm 42 = .ok (.ldc 175, 2) := by decide +kernel
theorem dX11_alarm_44 : decode cX11_alarm 44 = .ok (.goto 4, 3) := by decide +kernel
theorem dX11_alarm_47 : decode cX11_alarm 47 = .ok (.iload_n 2, 1) := by decide +kernel
theorem dX11_alarm_48 : decode cX11_alarm 48 = .ok (.ireturn, 1) := by decide +kernel
set_option maxRecDepth 20000 in
theorem ggX11_groups_X11_within : GoodIn wsX11_groups wsX11_within := goodIn_r _ [6] (by decide +kernel) (by decide +kernel)
set_option maxRecDepth 20000 in
theorem gX11_groups_X11_within : GoodIn wsX11_groups (va_wsS RX11 66 yX11_within wsX11_within) := goodIn_app (goodIn_of _ (by decide +kernel)) ggX11_groups_X11_within
set_option maxRecDepth 20000 in
theorem ggX11_groups_X6_groupsAt : GoodIn wsX11_groups wsX6_groupsAt := goodIn_r _ [11, 12, 13, 22, 23, 24, 25] (by decide +kernel) (by decide +kernel)
set_option maxRecDepth 20000 in
theorem gX11_groups_X6_groupsAt : GoodIn wsX11_groups (wsV RX11 176 RX6 yX6_groupsAt wsX6_groupsAt) := goodIn_app (goodIn_of _ (by decide +kernel)) ggX11_groups_X6_groupsAt
theorem dX11_groups_0 : decode cX11_groups 0 = .ok (.iload_n 1, 1) := by decide +kernel
theorem dX11_groups_1 : decode cX11_groups 1 = .ok (.iconst 0, 1) := by decide +kernel
theorem dX11_groups_2 : decode cX11_groups 2 = .ok (.bipush 7, 2) := by decide +kernel
theorem dX11_groups_4 : decode cX11_groups 4 = .ok (.invokestatic 66, 3) := by decide +kernel
theorem dX11_groups_7 : decode cX11_groups 7 = .ok (.ifCond .eq 14, 3) := by decide +kernel
theorem dX11_groups_10 : decode cX11_groups 10 = .ok (.aload_n 0, 1) := by decide +kernel
theorem dX11_groups_11 : decode cX11_groups 11 = .ok (.getfield 19, 3) := by decide +kernel
theorem dX11_groups_14 : decode cX11_groups 14 = .ok (.iload_n 1, 1) := by decide +kernel
theorem dX11_groups_15 : decode cX11_groups 15 = .ok (.invokevirtual 176, 3) := by decide +kernel
theorem dX11_groups_18 : decode cX11_groups 18 = .ok (.goto 5, 3) := by decide +kernel
theorem dX11_groups_21 : decode cX11_groups 21 = .ok (.ldc 70, 2) := by decide +kernel
theorem dX11_groups_23 : decode cX11_groups 23 = .ok (.ireturn, 1) := by decide +kernel
set_option maxRecDepth 20000 in
theorem ggX11_gate_X11_within : GoodIn wsX11_gate wsX11_within := goodIn_r _ [8] (by decide +kernel) (by decide +kernel)
set_option maxRecDepth 20000 in
theorem gX11_gate_X11_within : GoodIn wsX11_gate (va_wsS RX11 66 yX11_within wsX11_within) := goodIn_app (goodIn_of _ (by decide +kernel)) ggX11_gate_X11_within
set_option maxRecDepth 20000 in
theorem ggX11_gate_X11_gateOf : GoodIn wsX11_gate wsX11_gateOf := goodIn_r _ [11, 12, 13, 14, 15, 16, 17, 18, 19, 20, 21, 22, 23, 24, 25, 26, 27, 28, 29, 30, 31, 32, 33, 34, 35, 36, 37, 38, 39, 40, 41, 42, 43, 44, 63, 64, 65, 66, 67, 68, 69, 70, 71, 72, 73, 74] (by decide +kernel) (by decide +kernel)
set_option maxRecDepth 20000 in
theorem gX11_gate_X11_gateOf : GoodIn wsX11_gate (va_wsS RX11 180 yX11_gateOf wsX11_gateOf) := goodIn_app (goodIn_of _ (by decide +kernel)) ggX11_gate_X11_gateOf
set_option maxRecDepth 20000 in
theorem ggX11_gate_X5_add : GoodIn wsX11_gate wsX5_add := goodIn_r _ [49, 50, 51, 60, 61, 62] (by decide +kernel) (by decide +kernel)
set_option maxRecDepth 20000 in
theorem gX11_gate_X5_add : GoodIn wsX11_gate (wsV RX11 184 RX5 yX5_add wsX5_add) := goodIn_app (goodIn_of _ (by decide +kernel)) ggX11_gate_X5_add
theorem dX11_gate_0 : decode cX11_gate 0 = .ok (.iload_n 1, 1) := by decide +kernel
theorem dX11_gate_1 : decode cX11_gate 1 = .ok (.iconst 1, 1) := by decide +kernel
theorem dX11_gate_2 : decode cX11_gate 2 = .ok (.sipush 500, 3) := by decide +kernel
theorem dX11_gate_5 : decode cX11_gate 5 = .ok (.invokestatic 66, 3) := by decide +kernel
theorem dX11_gate_8 : decode cX11_gate 8 = .ok (.ifCond .eq 14, 3) := by decide +kernel
theorem dX11_gate_11 : decode cX11_gate 11 = .ok (.iload_n 2, 1) := by decide +kernel
theorem dX11_gate_12 : decode cX11_gate 12 = .ok (.iconst 0, 1) := by decide +kernel
theorem dX11_gate_13 : decode cX11_gate 13 = .ok (.sipush 2000, 3) := by decide +kernel
theorem dX11_gate_16 : decode cX11_gate 16 = .ok (.invokestatic 66, 3) := by decide +kernel
theorem dX11_gate_19 : decode cX11_gate 19 = .ok (.ifCond .ne 6, 3) := by decide +kernel
theorem dX11_gate_22 : decode cX11_gate 22 = .ok (.ldc 70, 2) := by decide +kernel
theorem dX11_gate_24 : decode cX11_gate 24 = .ok (.ireturn, 1) := by decide +kernel
theorem dX11_gate_25 : decode cX11_gate 25 = .ok (.aload_n 0, 1) := by decide +kernel
theorem dX11_gate_26 : decode cX11_gate 26 = .ok (.getfield 44, 3) := by decide +kernel
theorem dX11_gate_29 : decode cX11_gate 29 = .ok (.getfield 179, 3) := by decide +kernel
theorem dX11_gate_32 : decode cX11_gate 32 = .ok (.bipush 6, 2) := by decide +kernel
theorem dX11_gate_34 : decode cX11_gate 34 = .ok (.if_icmp .lt 8, 3) := by decide +kernel
theorem dX11_gate_37 : decode cX11_gate 37 = .ok (.ldc 107, 2) := by decide +kernel
theorem dX11_gate_39 : decode cX11_gate 39 = .ok (.goto 15, 3) := by decide +kernel
theorem dX11_gate_42 : decode cX11_gate 42 = .ok (.aload_n 0, 1) := by decide +kernel
theorem dX11_gate_43 : decode cX11_gate 43 = .ok (.getfield 44, 3) := by decide +kernel
theorem dX11_gate_46 : decode cX11_gate 46 = .ok (.iload_n 1, 1) := by decide +kernel
theorem dX11_gate_47 : decode cX11_gate 47 = .ok (.iload_n 2, 1) := by decide +kernel
theorem dX11_gate_48 : decode cX11_gate 48 = .ok (.invokestatic 180, 3) := by decide +kernel
theorem dX11_gate_51 : decode cX11_gate 51 = .ok (.invokevirtual 184, 3) := by decide +kernel
theorem dX11_gate_54 : decode cX11_gate 54 = .ok (.ireturn, 1) := by decide +kernel
set_option maxRecDepth 20000 in
theorem ggX11_gateOf_X10_init : GoodIn wsX11_gateOf wsX10_init := goodIn_r _ [15, 16, 17, 6, 18, 19, 20, 12, 21, 22, 23, 24, 25, 26, 27, 43, 44, 45, 37, 38, 39, 40, 41, 42, 34, 35, 36] (by decide +kernel) (by decide +kernel)
set_option maxRecDepth 20000 in
theorem gX11_gateOf_X10_init : GoodIn wsX11_gateOf (wsX10_init) := ggX11_gateOf_X10_init
set_option maxRecDepth 20000 in
theorem ggX11_gateOf_X3_init : GoodIn wsX11_gateOf wsX3_init := goodIn_r _ [18, 19, 20, 12, 21, 22, 23, 24, 25, 26, 27, 43, 44, 45, 37, 38, 39, 40, 41, 42, 34, 35, 36] (by decide +kernel) (by decide +kernel)
set_option maxRecDepth 20000 in
theorem gX11_gateOf_X3_init : GoodIn wsX11_gateOf (wsX3_init) := ggX11_gateOf_X3_init
set_option maxRecDepth 20000 in
theorem ggX11_gateOf_X8_init : GoodIn wsX11_gateOf wsX8_init := goodIn_r _ [31, 32, 20, 12, 21, 22, 23, 24, 25, 26, 27, 43, 44, 45, 37, 38, 39, 40, 41, 42, 34, 35, 36] (by decide +kernel) (by decide +kernel)
set_option maxRecDepth 20000 in
theorem gX11_gateOf_X8_init : GoodIn wsX11_gateOf (wsX8_init) := ggX11_gateOf_X8_init
set_option maxRecDepth 20000 in
theorem ggX11_gateOf_X2_init : GoodIn wsX11_gateOf wsX2_init := goodIn_r _ [21, 22, 23, 24, 25, 26, 27, 43, 44, 45, 37, 38, 39, 40, 41, 42, 34, 35, 36] (by decide +kernel) (by decide +kernel)
set_option maxRecDepth 20000 in
theorem gX11_gateOf_X2_init : GoodIn wsX11_gateOf (wsX2_init) := ggX11_gateOf_X2_init
theorem dX11_gateOf_0 : decode cX11_gateOf 0 = .ok (.iload_n 1, 1) := by decide +kernel
theorem dX11_gateOf_1 : decode cX11_gateOf 1 = .ok (.ifCond .le 30, 3) := by decide +kernel
theorem dX11_gateOf_4 : decode cX11_gateOf 4 = .ok (.iload_n 1, 1) := by decide +kernel
theorem dX11_gateOf_5 : decode cX11_gateOf 5 = .ok (.iload_n 0, 1) := by decide +kernel
theorem dX11_gateOf_6 : decode cX11_gateOf 6 = .ok (.if_icmp .gt 15, 3) := by decide +kernel
theorem dX11_gateOf_9 : decode cX11_gateOf 9 = .ok (.new 187, 3) := by decide +kernel
theorem dX11_gateOf_12 : decode cX11_gateOf 12 = .ok (.dup, 1) := by decide +kernel
theorem dX11_gateOf_13 : decode cX11_gateOf 13 = .ok (.iload_n 0, 1) := by decide +kernel
theorem dX11_gateOf_14 : decode cX11_gateOf 14 = .ok (.iload_n 1, 1) := by decide +kernel
theorem dX11_gateOf_15 : decode cX11_gateOf 15 = .ok (.invokespecial 189, 3) := by decide +kernel
theorem dX11_gateOf_18 : decode cX11_gateOf 18 = .ok (.goto 12, 3) := by decide +kernel
theorem dX11_gateOf_21 : decode cX11_gateOf 21 = .ok (.new 192, 3) := by decide +kernel
theorem dX11_gateOf_24 : decode cX11_gateOf 24 = .ok (.dup, 1) := by decide +kernel
theorem dX11_gateOf_25 : decode cX11_gateOf 25 = .ok (.iload_n 0, 1) := by decide +kernel
theorem dX11_gateOf_26 : decode cX11_gateOf 26 = .ok (.iload_n 1, 1) := by decide +kernel
theorem dX11_gateOf_27 : decode cX11_gateOf 27 = .ok (.invokespecial 194, 3) := by decide +kernel
theorem dX11_gateOf_30 : decode cX11_gateOf 30 = .ok (.areturn, 1) := by decide +kernel
theorem dX11_gateOf_31 : decode cX11_gateOf 31 = .ok (.iload_n 0, 1) := by decide +kernel
theorem dX11_gateOf_32 : decode cX11_gateOf 32 = .ok (.sipush 200, 3) := by decide +kernel
theorem dX11_gateOf_35 : decode cX11_gateOf 35 = .ok (.if_icmp .lt 14, 3) := by decide +kernel
theorem dX11_gateOf_38 : decode cX11_gateOf 38 = .ok (.new 195, 3) := by decide +kernel
theorem dX11_gateOf_41 : decode cX11_gateOf 41 = .ok (.dup, 1) := by decide +kernel
theorem dX11_gateOf_42 : decode cX11_gateOf 42 = .ok (.iload_n 0, 1) := by decide +kernel
theorem dX11_gateOf_43 : decode cX11_gateOf 43 = .ok (.invokespecial 197, 3) := by decide +kernel
theorem dX11_gateOf_46 : decode cX11_gateOf 46 = .ok (.goto 12, 3) := by decide +kernel
theorem dX11_gateOf_49 : decode cX11_gateOf 49 = .ok (.new 200, 3) := by decide +kernel
theorem dX11_gateOf_52 : decode cX11_gateOf 52 = .ok (.dup, 1) := by decide +kernel
theorem dX11_gateOf_53 : decode cX11_gateOf 53 = .ok (.iload_n 0, 1) := by decide +kernel
theorem dX11_gateOf_54 : decode cX11_gateOf 54 = .ok (.iload_n 1, 1) := by decide +kernel
theorem dX11_gateOf_55 : decode cX11_gateOf 55 = .ok (.invokespecial 202, 3) := by decide +kernel
theorem dX11_gateOf_58 : decode cX11_gateOf 58 = .ok (.areturn, 1) := by decide +kernel
set_option maxRecDepth 20000 in
theorem ggX11_fail_X11_becomes : GoodIn wsX11_fail wsX11_becomes := goodIn_r _ [5, 6, 7, 8, 9, 10, 11, 12, 13, 14, 15, 16, 4, 17, 18, 19, 20, 21, 22, 23, 24, 25, 26, 27, 28, 29, 30, 31, 32, 33, 34, 35, 36, 37, 38, 39, 40] (by decide +kernel) (by decide +kernel)
set_option maxRecDepth 20000 in
theorem gX11_fail_X11_becomes : GoodIn wsX11_fail (wsV RX11 203 RX11 yX11_becomes wsX11_becomes) := goodIn_app (goodIn_of _ (by decide +kernel)) ggX11_fail_X11_becomes
theorem dX11_fail_0 : decode cX11_fail 0 = .ok (.aload_n 0, 1) := by decide +kernel
theorem dX11_fail_1 : decode cX11_fail 1 = .ok (.iload_n 1, 1) := by decide +kernel
theorem dX11_fail_2 : decode cX11_fail 2 = .ok (.iconst 1, 1) := by decide +kernel
theorem dX11_fail_3 : decode cX11_fail 3 = .ok (.invokevirtual 203, 3) := by decide +kernel
theorem dX11_fail_6 : decode cX11_fail 6 = .ok (.ireturn, 1) := by decide +kernel
set_option maxRecDepth 20000 in
theorem ggX11_mend_X11_becomes : GoodIn wsX11_mend wsX11_becomes := goodIn_r _ [5, 6, 7, 8, 9, 10, 11, 12, 13, 14, 15, 16, 4, 17, 18, 19, 20, 21, 22, 23, 24, 25, 26, 27, 28, 29, 30, 31, 32, 33, 34, 35, 36, 37, 38, 39, 40] (by decide +kernel) (by decide +kernel)
set_option maxRecDepth 20000 in
theorem gX11_mend_X11_becomes : GoodIn wsX11_mend (wsV RX11 203 RX11 yX11_becomes wsX11_becomes) := goodIn_app (goodIn_of _ (by decide +kernel)) ggX11_mend_X11_becomes
theorem dX11_mend_0 : decode cX11_mend 0 = .ok (.aload_n 0, 1) := by decide +kernel
theorem dX11_mend_1 : decode cX11_mend 1 = .ok (.iload_n 1, 1) := by decide +kernel
theorem dX11_mend_2 : decode cX11_mend 2 = .ok (.iconst 0, 1) := by decide +kernel
theorem dX11_mend_3 : decode cX11_mend 3 = .ok (.invokevirtual 203, 3) := by decide +kernel
theorem dX11_mend_6 : decode cX11_mend 6 = .ok (.ireturn, 1) := by decide +kernel
set_option maxRecDepth 20000 in
theorem ggX11_becomes_X5_at : GoodIn wsX11_becomes wsX5_at := goodIn_r _ [8, 9, 10, 11, 12, 13, 34, 35, 36] (by decide +kernel) (by decide +kernel)
set_option maxRecDepth 20000 in
theorem gX11_becomes_X5_at : GoodIn wsX11_becomes (wsV RX11 206 RX5 yX5_at wsX5_at) := goodIn_app (goodIn_of _ (by decide +kernel)) ggX11_becomes_X5_at
theorem dX11_becomes_0 : decode cX11_becomes 0 = .ok (.aload_n 0, 1) := by decide +kernel
theorem dX11_becomes_1 : decode cX11_becomes 1 = .ok (.getfield 44, 3) := by decide +kernel
theorem dX11_becomes_4 : decode cX11_becomes 4 = .ok (.iload_n 1, 1) := by decide +kernel
theorem dX11_becomes_5 : decode cX11_becomes 5 = .ok (.invokevirtual 206, 3) := by decide +kernel
theorem dX11_becomes_8 : decode cX11_becomes 8 = .ok (.astore_n 3, 1) := by decide +kernel
theorem dX11_becomes_9 : decode cX11_becomes 9 = .ok (.aload_n 3, 1) := by decide +kernel
theorem dX11_becomes_10 : decode cX11_becomes 10 = .ok (.ifnonnull 6, 3) := by decide +kernel
theorem dX11_becomes_13 : decode cX11_becomes 13 = .ok (.ldc 70, 2) := by decide +kernel
theorem dX11_becomes_15 : decode cX11_becomes 15 = .ok (.ireturn, 1) := by decide +kernel
theorem dX11_becomes_16 : decode cX11_becomes 16 = .ok (.aload_n 3, 1) := by decide +kernel
theorem dX11_becomes_17 : decode cX11_becomes 17 = .ok (.getfield 210, 3) := by decide +kernel
theorem dX11_becomes_20 : decode cX11_becomes 20 = .ok (.iload_n 2, 1) := by decide +kernel
theorem dX11_becomes_21 : decode cX11_becomes 21 = .ok (.if_icmp .ne 7, 3) := by decide +kernel
theorem dX11_becomes_24 : decode cX11_becomes 24 = .ok (.iconst 0, 1) := by decide +kernel
theorem dX11_becomes_25 : decode cX11_becomes 25 = .ok (.goto 4, 3) := by decide +kernel
theorem dX11_becomes_28 : decode cX11_becomes 28 = .ok (.iconst 1, 1) := by decide +kernel
theorem dX11_becomes_29 : decode cX11_becomes 29 = .ok (.istore 4, 2) := by decide +kernel
theorem dX11_becomes_31 : decode cX11_becomes 31 = .ok (.aload_n 3, 1) := by decide +kernel
theorem dX11_becomes_32 : decode cX11_becomes 32 = .ok (.iload_n 2, 1) := by decide +kernel
theorem dX11_becomes_33 : decode cX11_becomes 33 = .ok (.putfield 210, 3) := by decide +kernel
theorem dX11_becomes_36 : decode cX11_becomes 36 = .ok (.iload 4, 2) := by decide +kernel
theorem dX11_becomes_38 : decode cX11_becomes 38 = .ok (.ireturn, 1) := by decide +kernel
set_option maxRecDepth 20000 in
theorem ggX11_time_X11_within : GoodIn wsX11_time wsX11_within := goodIn_r _ [7] (by decide +kernel) (by decide +kernel)
set_option maxRecDepth 20000 in
theorem gX11_time_X11_within : GoodIn wsX11_time (va_wsS RX11 66 yX11_within wsX11_within) := goodIn_app (goodIn_of _ (by decide +kernel)) ggX11_time_X11_within
set_option maxRecDepth 20000 in
theorem ggX11_time_X5_timeToShut : GoodIn wsX11_time wsX5_timeToShut := goodIn_r _ [12, 13, 14, 15, 16, 17, 18, 19, 20, 21, 22, 23, 24, 25, 26, 27, 28, 29, 11, 30, 49, 50, 51, 52, 53, 54, 55, 56, 57, 58, 59, 60, 61, 62, 63] (by decide +kernel) (by decide +kernel)
set_option maxRecDepth 20000 in
theorem gX11_time_X5_timeToShut : GoodIn wsX11_time (wsV RX11 213 RX5 yX5_timeToShut wsX5_timeToShut) := goodIn_app (goodIn_of _ (by decide +kernel)) ggX11_time_X5_timeToShut
set_option maxRecDepth 20000 in
theorem ggX11_time_X5_worstTime : GoodIn wsX11_time wsX5_worstTime := goodIn_r _ [34, 35, 18, 14, 16, 19, 20, 21, 22, 36, 37, 38, 11, 39, 40, 9, 10, 12, 13, 15, 17, 23, 24, 25, 26, 27, 28, 29, 30, 49, 50, 51, 52, 53, 54, 55, 56, 57, 58, 59, 60, 61, 62, 63] (by decide +kernel) (by decide +kernel)
set_option maxRecDepth 20000 in
theorem gX11_time_X5_worstTime : GoodIn wsX11_time (wsV RX11 216 RX5 yX5_worstTime wsX5_worstTime) := goodIn_app (goodIn_of _ (by decide +kernel)) ggX11_time_X5_worstTime
theorem dX11_time_0 : decode cX11_time 0 = .ok (.iload_n 1, 1) := by decide +kernel
theorem dX11_time_1 : decode cX11_time 1 = .ok (.iconst 1, 1) := by decide +kernel
theorem dX11_time_2 : decode cX11_time 2 = .ok (.iconst 3, 1) := by decide +kernel
theorem dX11_time_3 : decode cX11_time 3 = .ok (.invokestatic 66, 3) := by decide +kernel
theorem dX11_time_6 : decode cX11_time 6 = .ok (.ifCond .eq 12, 3) := by decide +kernel
theorem dX11_time_9 : decode cX11_time 9 = .ok (.iload_n 2, 1) := by decide +kernel
theorem dX11_time_10 : decode cX11_time 10 = .ok (.iconst 0, 1) := by decide +kernel
theorem dX11_time_11 : decode cX11_time 11 = .ok (.iconst 1, 1) := by decide +kernel
theorem dX11_time_12 : decode cX11_time 12 = .ok (.invokestatic 66, 3) := by decide +kernel
theorem dX11_time_15 : decode cX11_time 15 = .ok (.ifCond .ne 6, 3) := by decide +kernel
theorem dX11_time_18 : decode cX11_time 18 = .ok (.ldc 70, 2) := by decide +kernel
theorem dX11_time_20 : decode cX11_time 20 = .ok (.ireturn, 1) := by decide +kernel
theorem dX11_time_21 : decode cX11_time 21 = .ok (.iload_n 2, 1) := by decide +kernel
theorem dX11_time_22 : decode cX11_time 22 = .ok (.ifCond .ne 16, 3) := by decide +kernel
theorem dX11_time_25 : decode cX11_time 25 = .ok (.aload_n 0, 1) := by decide +kernel
theorem dX11_time_26 : decode cX11_time 26 = .ok (.getfield 44, 3) := by decide +kernel
theorem dX11_time_29 : decode cX11_time 29 = .ok (.iload_n 1, 1) := by decide +kernel
theorem dX11_time_30 : decode cX11_time 30 = .ok (.ldc 175, 2) := by decide +kernel
theorem dX11_time_32 : decode cX11_time 32 = .ok (.invokevirtual 213, 3) := by decide +kernel
theorem dX11_time_35 : decode cX11_time 35 = .ok (.goto 11, 3) := by decide +kernel
theorem dX11_time_38 : decode cX11_time 38 = .ok (.aload_n 0, 1) := by decide +kernel
theorem dX11_time_39 : decode cX11_time 39 = .ok (.getfield 44, 3) := by decide +kernel
theorem dX11_time_42 : decode cX11_time 42 = .ok (.iload_n 1, 1) := by decide +kernel
theorem dX11_time_43 : decode cX11_time 43 = .ok (.invokevirtual 216, 3) := by decide +kernel
theorem dX11_time_46 : decode cX11_time 46 = .ok (.ireturn, 1) := by decide +kernel
set_option maxRecDepth 20000 in
theorem ggX11_ship_X11_within : GoodIn wsX11_ship wsX11_within := goodIn_r _ [9] (by decide +kernel) (by decide +kernel)
set_option maxRecDepth 20000 in
theorem gX11_ship_X11_within : GoodIn wsX11_ship (va_wsS RX11 66 yX11_within wsX11_within) := goodIn_app (goodIn_of _ (by decide +kernel)) ggX11_ship_X11_within
set_option maxRecDepth 20000 in
theorem ggX11_ship_X1_add : GoodIn wsX11_ship wsX1_add := goodIn_r _ [14, 15, 16, 17, 18, 27, 28, 29, 30] (by decide +kernel) (by decide +kernel)
set_option maxRecDepth 20000 in
theorem gX11_ship_X1_add : GoodIn wsX11_ship (wsV RX11 221 RX1 yX1_add wsX1_add) := goodIn_app (goodIn_of _ (by decide +kernel)) ggX11_ship_X1_add
theorem dX11_ship_0 : decode cX11_ship 0 = .ok (.iload_n 1, 1) := by decide +kernel
theorem dX11_ship_1 : decode cX11_ship 1 = .ok (.iconst 0, 1) := by decide +kernel
theorem dX11_ship_2 : decode cX11_ship 2 = .ok (.ldc 219, 2) := by decide +kernel
theorem dX11_ship_4 : decode cX11_ship 4 = .ok (.invokestatic 66, 3) := by decide +kernel
theorem dX11_ship_7 : decode cX11_ship 7 = .ok (.ifCond .eq 14, 3) := by decide +kernel
theorem dX11_ship_10 : decode cX11_ship 10 = .ok (.iload_n 2, 1) := by decide +kernel
theorem dX11_ship_11 : decode cX11_ship 11 = .ok (.iconst 1, 1) := by decide +kernel
theorem dX11_ship_12 : decode cX11_ship 12 = .ok (.sipush 500, 3) := by decide +kernel
theorem dX11_ship_15 : decode cX11_ship 15 = .ok (.invokestatic 66, 3) := by decide +kernel
theorem dX11_ship_18 : decode cX11_ship 18 = .ok (.ifCond .ne 6, 3) := by decide +kernel
theorem dX11_ship_21 : decode cX11_ship 21 = .ok (.ldc 70, 2) := by decide +kernel
theorem dX11_ship_23 : decode cX11_ship 23 = .ok (.ireturn, 1) := by decide +kernel
theorem dX11_ship_24 : decode cX11_ship 24 = .ok (.aload_n 0, 1) := by decide +kernel
theorem dX11_ship_25 : decode cX11_ship 25 = .ok (.getfield 51, 3) := by decide +kernel
theorem dX11_ship_28 : decode cX11_ship 28 = .ok (.getfield 220, 3) := by decide +kernel
theorem dX11_ship_31 : decode cX11_ship 31 = .ok (.bipush 20, 2) := by decide +kernel
theorem dX11_ship_33 : decode cX11_ship 33 = .ok (.if_icmp .lt 8, 3) := by decide +kernel
theorem dX11_ship_36 : decode cX11_ship 36 = .ok (.ldc 107, 2) := by decide +kernel
theorem dX11_ship_38 : decode cX11_ship 38 = .ok (.goto 12, 3) := by decide +kernel
theorem dX11_ship_41 : decode cX11_ship 41 = .ok (.aload_n 0, 1) := by decide +kernel
theorem dX11_ship_42 : decode cX11_ship 42 = .ok (.getfield 51, 3) := by decide +kernel
theorem dX11_ship_45 : decode cX11_ship 45 = .ok (.iload_n 1, 1) := by decide +kernel
theorem dX11_ship_46 : decode cX11_ship 46 = .ok (.iload_n 2, 1) := by decide +kernel
theorem dX11_ship_47 : decode cX11_ship 47 = .ok (.invokevirtual 221, 3) := by decide +kernel
theorem dX11_ship_50 : decode cX11_ship 50 = .ok (.ireturn, 1) := by decide +kernel
set_option maxRecDepth 20000 in
theorem ggX11_waits_X11_within : GoodIn wsX11_waits wsX11_within := goodIn_r _ [8] (by decide +kernel) (by decide +kernel)
set_option maxRecDepth 20000 in
theorem gX11_waits_X11_within : GoodIn wsX11_waits (va_wsS RX11 66 yX11_within wsX11_within) := goodIn_app (goodIn_of _ (by decide +kernel)) ggX11_waits_X11_within
set_option maxRecDepth 20000 in
theorem ggX11_waits_X1_waitOf : GoodIn wsX11_waits wsX1_waitOf := goodIn_r _ [13, 14, 15, 16, 17, 18, 19, 20, 21, 30, 31, 32, 33] (by decide +kernel) (by decide +kernel)
set_option maxRecDepth 20000 in
theorem gX11_waits_X1_waitOf : GoodIn wsX11_waits (wsV RX11 223 RX1 yX1_waitOf wsX1_waitOf) := goodIn_app (goodIn_of _ (by decide +kernel)) ggX11_waits_X1_waitOf
theorem dX11_waits_0 : decode cX11_waits 0 = .ok (.iload_n 1, 1) := by decide +kernel
theorem dX11_waits_1 : decode cX11_waits 1 = .ok (.iconst 0, 1) := by decide +kernel
theorem dX11_waits_2 : decode cX11_waits 2 = .ok (.aload_n 0, 1) := by decide +kernel
theorem dX11_waits_3 : decode cX11_waits 3 = .ok (.getfield 51, 3) := by decide +kernel
theorem dX11_waits_6 : decode cX11_waits 6 = .ok (.getfield 220, 3) := by decide +kernel
theorem dX11_waits_9 : decode cX11_waits 9 = .ok (.iconst 1, 1) := by decide +kernel
theorem dX11_waits_10 : decode cX11_waits 10 = .ok (.isub, 1) := by decide +kernel
theorem dX11_waits_11 : decode cX11_waits 11 = .ok (.invokestatic 66, 3) := by decide +kernel
theorem dX11_waits_14 : decode cX11_waits 14 = .ok (.ifCond .eq 23, 3) := by decide +kernel
theorem dX11_waits_17 : decode cX11_waits 17 = .ok (.iload_n 2, 1) := by decide +kernel
theorem dX11_waits_18 : decode cX11_waits 18 = .ok (.iconst 0, 1) := by decide +kernel
theorem dX11_waits_19 : decode cX11_waits 19 = .ok (.ldc 219, 2) := by decide +kernel
theorem dX11_waits_21 : decode cX11_waits 21 = .ok (.invokestatic 66, 3) := by decide +kernel
theorem dX11_waits_24 : decode cX11_waits 24 = .ok (.ifCond .eq 13, 3) := by decide +kernel
theorem dX11_waits_27 : decode cX11_waits 27 = .ok (.iload_n 3, 1) := by decide +kernel
theorem dX11_waits_28 : decode cX11_waits 28 = .ok (.iload_n 2, 1) := by decide +kernel
theorem dX11_waits_29 : decode cX11_waits 29 = .ok (.ldc 219, 2) := by decide +kernel
theorem dX11_waits_31 : decode cX11_waits 31 = .ok (.invokestatic 66, 3) := by decide +kernel
theorem dX11_waits_34 : decode cX11_waits 34 = .ok (.ifCond .ne 6, 3) := by decide +kernel
theorem dX11_waits_37 : decode cX11_waits 37 = .ok (.ldc 70, 2) := by decide +kernel
theorem dX11_waits_39 : decode cX11_waits 39 = .ok (.ireturn, 1) := by decide +kernel
theorem dX11_waits_40 : decode cX11_waits 40 = .ok (.aload_n 0, 1) := by decide +kernel
theorem dX11_waits_41 : decode cX11_waits 41 = .ok (.getfield 51, 3) := by decide +kernel
theorem dX11_waits_44 : decode cX11_waits 44 = .ok (.iload_n 1, 1) := by decide +kernel
theorem dX11_waits_45 : decode cX11_waits 45 = .ok (.iload_n 2, 1) := by decide +kernel
theorem dX11_waits_46 : decode cX11_waits 46 = .ok (.iload_n 3, 1) := by decide +kernel
theorem dX11_waits_47 : decode cX11_waits 47 = .ok (.invokevirtual 223, 3) := by decide +kernel
theorem dX11_waits_50 : decode cX11_waits 50 = .ok (.ireturn, 1) := by decide +kernel
set_option maxRecDepth 20000 in
theorem ggX11_closings_X11_arePeaks : GoodIn wsX11_closings wsX11_arePeaks := goodIn_r _ [6, 7, 8, 5, 9] (by decide +kernel) (by decide +kernel)
set_option maxRecDepth 20000 in
theorem gX11_closings_X11_arePeaks : GoodIn wsX11_closings (va_wsS RX11 226 yX11_arePeaks wsX11_arePeaks) := goodIn_app (goodIn_of _ (by decide +kernel)) ggX11_closings_X11_arePeaks
set_option maxRecDepth 20000 in
theorem ggX11_closings_X11_within : GoodIn wsX11_closings wsX11_within := goodIn_r _ [9] (by decide +kernel) (by decide +kernel)
set_option maxRecDepth 20000 in
theorem gX11_closings_X11_within : GoodIn wsX11_closings (va_wsS RX11 66 yX11_within wsX11_within) := goodIn_app (goodIn_of _ (by decide +kernel)) ggX11_closings_X11_within
set_option maxRecDepth 20000 in
theorem ggX11_closings_X7_look : GoodIn wsX11_closings wsX7_look := goodIn_r _ [14, 15, 16, 17, 13, 18, 19, 20, 21, 22, 23, 50, 51, 52] (by decide +kernel) (by decide +kernel)
set_option maxRecDepth 20000 in
theorem gX11_closings_X7_look : GoodIn wsX11_closings (wsV RX11 82 RX7 yX7_look wsX7_look) := goodIn_app (goodIn_of _ (by decide +kernel)) ggX11_closings_X7_look
set_option maxRecDepth 20000 in
theorem ggX11_closings_X11_found : GoodIn wsX11_closings wsX11_found := goodIn_r _ [27, 28, 29, 42, 43, 44, 45, 46, 47, 48, 49] (by decide +kernel) (by decide +kernel)
set_option maxRecDepth 20000 in
theorem gX11_closings_X11_found : GoodIn wsX11_closings (wsV RX11 71 RX11 yX11_found wsX11_found) := goodIn_app (goodIn_of _ (by decide +kernel)) ggX11_closings_X11_found
set_option maxRecDepth 20000 in
theorem ggX11_closings_X11_levelIn : GoodIn wsX11_closings wsX11_levelIn := goodIn_r _ [32] (by decide +kernel) (by decide +kernel)
set_option maxRecDepth 20000 in
theorem gX11_closings_X11_levelIn : GoodIn wsX11_closings (va_wsS RX11 229 yX11_levelIn wsX11_levelIn) := goodIn_app (goodIn_of _ (by decide +kernel)) ggX11_closings_X11_levelIn
set_option maxRecDepth 20000 in
theorem ggX11_closings_X7_above : GoodIn wsX11_closings wsX7_above := goodIn_r _ [36, 37, 50, 51, 52] (by decide +kernel) (by decide +kernel)
set_option maxRecDepth 20000 in
theorem gX11_closings_X7_above : GoodIn wsX11_closings (wsV RX11 233 RX7 yX7_above wsX7_above) := goodIn_app (goodIn_of _ (by decide +kernel)) ggX11_closings_X7_above
set_option maxRecDepth 20000 in
theorem ggX11_closings_X11_fine : GoodIn wsX11_closings wsX11_fine := goodIn_r _ [41, 28, 42, 43, 44, 45, 46, 47, 48, 49] (by decide +kernel) (by decide +kernel)
set_option maxRecDepth 20000 in
theorem gX11_closings_X11_fine : GoodIn wsX11_closings (wsV RX11 79 RX11 yX11_fine wsX11_fine) := goodIn_app (goodIn_of _ (by decide +kernel)) ggX11_closings_X11_fine
theorem dX11_closings_0 : decode cX11_closings 0 = .ok (.iload_n 1, 1) := by decide +kernel
theorem dX11_closings_1 : decode cX11_closings 1 = .ok (.iload_n 3, 1) := by decide +kernel
theorem dX11_closings_2 : decode cX11_closings 2 = .ok (.iload 4, 2) := by decide +kernel
theorem dX11_closings_4 : decode cX11_closings 4 = .ok (.invokestatic 226, 3) := by decide +kernel
theorem dX11_closings_7 : decode cX11_closings 7 = .ok (.ifCond .eq 15, 3) := by decide +kernel
theorem dX11_closings_10 : decode cX11_closings 10 = .ok (.iload 6, 2) := by decide +kernel
theorem dX11_closings_12 : decode cX11_closings 12 = .ok (.iconst 0, 1) := by decide +kernel
theorem dX11_closings_13 : decode cX11_closings 13 = .ok (.sipush 300, 3) := by decide +kernel
theorem dX11_closings_16 : decode cX11_closings 16 = .ok (.invokestatic 66, 3) := by decide +kernel
theorem dX11_closings_19 : decode cX11_closings 19 = .ok (.ifCond .ne 6, 3) := by decide +kernel
theorem dX11_closings_22 : decode cX11_closings 22 = .ok (.ldc 70, 2) := by decide +kernel
theorem dX11_closings_24 : decode cX11_closings 24 = .ok (.ireturn, 1) := by decide +kernel
theorem dX11_closings_25 : decode cX11_closings 25 = .ok (.aload_n 0, 1) := by decide +kernel
theorem dX11_closings_26 : decode cX11_closings 26 = .ok (.getfield 12, 3) := by decide +kernel
theorem dX11_closings_29 : decode cX11_closings 29 = .ok (.iload_n 1, 1) := by decide +kernel
theorem dX11_closings_30 : decode cX11_closings 30 = .ok (.iload_n 2, 1) := by decide +kernel
theorem dX11_closings_31 : decode cX11_closings 31 = .ok (.iload_n 3, 1) := by decide +kernel
theorem dX11_closings_32 : decode cX11_closings 32 = .ok (.invokevirtual 82, 3) := by decide +kernel
theorem dX11_closings_35 : decode cX11_closings 35 = .ok (.istore 7, 2) := by decide +kernel
theorem dX11_closings_37 : decode cX11_closings 37 = .ok (.iload 7, 2) := by decide +kernel
theorem dX11_closings_39 : decode cX11_closings 39 = .ok (.ifCond .eq 12, 3) := by decide +kernel
theorem dX11_closings_42 : decode cX11_closings 42 = .ok (.aload_n 0, 1) := by decide +kernel
theorem dX11_closings_43 : decode cX11_closings 43 = .ok (.iload 7, 2) := by decide +kernel
theorem dX11_closings_45 : decode cX11_closings 45 = .ok (.invokevirtual 71, 3) := by decide +kernel
theorem dX11_closings_48 : decode cX11_closings 48 = .ok (.goto 26, 3) := by decide +kernel
theorem dX11_closings_51 : decode cX11_closings 51 = .ok (.aload_n 0, 1) := by decide +kernel
theorem dX11_closings_52 : decode cX11_closings 52 = .ok (.aload_n 0, 1) := by decide +kernel
theorem dX11_closings_53 : decode cX11_closings 53 = .ok (.getfield 12, 3) := by decide +kernel
theorem dX11_closings_56 : decode cX11_closings 56 = .ok (.iload_n 1, 1) := by decide +kernel
theorem dX11_closings_57 : decode cX11_closings 57 = .ok (.iload_n 2, 1) := by decide +kernel
theorem dX11_closings_58 : decode cX11_closings 58 = .ok (.iload_n 3, 1) := by decide +kernel
theorem dX11_closings_59 : decode cX11_closings 59 = .ok (.iload 6, 2) := by decide +kernel
theorem dX11_closings_61 : decode cX11_closings 61 = .ok (.iload 4, 2) := by decide +kernel
theorem dX11_closings_63 : decode cX11_closings 63 = .ok (.iload 5, 2) := by decide +kernel
theorem dX11_closings_65 : decode cX11_closings 65 = .ok (.invokestatic 229, 3) := by decide +kernel
theorem dX11_closings_68 : decode cX11_closings 68 = .ok (.invokevirtual 233, 3) := by decide +kernel
theorem dX11_closings_71 : decode cX11_closings 71 = .ok (.invokevirtual 79, 3) := by decide +kernel
theorem dX11_closings_74 : decode cX11_closings 74 = .ok (.ireturn, 1) := by decide +kernel
set_option maxRecDepth 20000 in
theorem ggX11_tooMany_X11_arePeaks : GoodIn wsX11_tooMany wsX11_arePeaks := goodIn_r _ [7, 8, 9, 6, 10] (by decide +kernel) (by decide +kernel)
set_option maxRecDepth 20000 in
theorem gX11_tooMany_X11_arePeaks : GoodIn wsX11_tooMany (va_wsS RX11 226 yX11_arePeaks wsX11_arePeaks) := goodIn_app (goodIn_of _ (by decide +kernel)) ggX11_tooMany_X11_arePeaks
set_option maxRecDepth 20000 in
theorem ggX11_tooMany_X7_look : GoodIn wsX11_tooMany wsX7_look := goodIn_r _ [15, 16, 17, 18, 14, 19, 20, 21, 22, 23, 24, 51, 52, 53] (by decide +kernel) (by decide +kernel)
set_option maxRecDepth 20000 in
theorem gX11_tooMany_X7_look : GoodIn wsX11_tooMany (wsV RX11 82 RX7 yX7_look wsX7_look) := goodIn_app (goodIn_of _ (by decide +kernel)) ggX11_tooMany_X7_look
set_option maxRecDepth 20000 in
theorem ggX11_tooMany_X11_found : GoodIn wsX11_tooMany wsX11_found := goodIn_r _ [28, 29, 30, 43, 44, 45, 46, 47, 48, 49, 50] (by decide +kernel) (by decide +kernel)
set_option maxRecDepth 20000 in
theorem gX11_tooMany_X11_found : GoodIn wsX11_tooMany (wsV RX11 71 RX11 yX11_found wsX11_found) := goodIn_app (goodIn_of _ (by decide +kernel)) ggX11_tooMany_X11_found
set_option maxRecDepth 20000 in
theorem ggX11_tooMany_X11_levelIn : GoodIn wsX11_tooMany wsX11_levelIn := goodIn_r _ [33] (by decide +kernel) (by decide +kernel)
set_option maxRecDepth 20000 in
theorem gX11_tooMany_X11_levelIn : GoodIn wsX11_tooMany (va_wsS RX11 229 yX11_levelIn wsX11_levelIn) := goodIn_app (goodIn_of _ (by decide +kernel)) ggX11_tooMany_X11_levelIn
set_option maxRecDepth 20000 in
theorem ggX11_tooMany_X7_above : GoodIn wsX11_tooMany wsX7_above := goodIn_r _ [37, 38, 51, 52, 53] (by decide +kernel) (by decide +kernel)
set_option maxRecDepth 20000 in
theorem gX11_tooMany_X7_above : GoodIn wsX11_tooMany (wsV RX11 233 RX7 yX7_above wsX7_above) := goodIn_app (goodIn_of _ (by decide +kernel)) ggX11_tooMany_X7_above
set_option maxRecDepth 20000 in
theorem ggX11_tooMany_X11_fine : GoodIn wsX11_tooMany wsX11_fine := goodIn_r _ [42, 29, 43, 44, 45, 46, 47, 48, 49, 50] (by decide +kernel) (by decide +kernel)
set_option maxRecDepth 20000 in
theorem gX11_tooMany_X11_fine : GoodIn wsX11_tooMany (wsV RX11 79 RX11 yX11_fine wsX11_fine) := goodIn_app (goodIn_of _ (by decide +kernel)) ggX11_tooMany_X11_fine
theorem dX11_tooMany_0 : decode cX11_tooMany 0 = .ok (.iload_n 1, 1) := by decide +kernel
theorem dX11_tooMany_1 : decode cX11_tooMany 1 = .ok (.iload_n 3, 1) := by decide +kernel
theorem dX11_tooMany_2 : decode cX11_tooMany 2 = .ok (.iload 4, 2) := by decide +kernel
theorem dX11_tooMany_4 : decode cX11_tooMany 4 = .ok (.invokestatic 226, 3) := by decide +kernel
theorem dX11_tooMany_7 : decode cX11_tooMany 7 = .ok (.ifCond .eq 8, 3) := by decide +kernel
theorem dX11_tooMany_10 : decode cX11_tooMany 10 = .ok (.iload 6, 2) := by decide +kernel
theorem dX11_tooMany_12 : decode cX11_tooMany 12 = .ok (.ifCond .ge 6, 3) := by decide +kernel
theorem dX11_tooMany_15 : decode cX11_tooMany 15 = .ok (.ldc 70, 2) := by decide +kernel
theorem dX11_tooMany_17 : decode cX11_tooMany 17 = .ok (.ireturn, 1) := by decide +kernel
theorem dX11_tooMany_18 : decode cX11_tooMany 18 = .ok (.aload_n 0, 1) := by decide +kernel
theorem dX11_tooMany_19 : decode cX11_tooMany 19 = .ok (.getfield 12, 3) := by decide +kernel
theorem dX11_tooMany_22 : decode cX11_tooMany 22 = .ok (.iload_n 1, 1) := by decide +kernel
theorem dX11_tooMany_23 : decode cX11_tooMany 23 = .ok (.iload_n 2, 1) := by decide +kernel
theorem dX11_tooMany_24 : decode cX11_tooMany 24 = .ok (.iload_n 3, 1) := by decide +kernel
theorem dX11_tooMany_25 : decode cX11_tooMany 25 = .ok (.invokevirtual 82, 3) := by decide +kernel
theorem dX11_tooMany_28 : decode cX11_tooMany 28 = .ok (.istore 7, 2) := by decide +kernel
theorem dX11_tooMany_30 : decode cX11_tooMany 30 = .ok (.iload 7, 2) := by decide +kernel
theorem dX11_tooMany_32 : decode cX11_tooMany 32 = .ok (.ifCond .eq 10, 3) := by decide +kernel
theorem dX11_tooMany_35 : decode cX11_tooMany 35 = .ok (.aload_n 0, 1) := by decide +kernel
theorem dX11_tooMany_36 : decode cX11_tooMany 36 = .ok (.iload 7, 2) := by decide +kernel
theorem dX11_tooMany_38 : decode cX11_tooMany 38 = .ok (.invokevirtual 71, 3) := by decide +kernel
theorem dX11_tooMany_41 : decode cX11_tooMany 41 = .ok (.ireturn, 1) := by decide +kernel
theorem dX11_tooMany_42 : decode cX11_tooMany 42 = .ok (.iconst 0, 1) := by decide +kernel
theorem dX11_tooMany_43 : decode cX11_tooMany 43 = .ok (.istore 8, 2) := by decide +kernel
theorem dX11_tooMany_45 : decode cX11_tooMany 45 = .ok (.sipush 301, 3) := by decide +kernel
theorem dX11_tooMany_48 : decode cX11_tooMany 48 = .ok (.istore 9, 2) := by decide +kernel
theorem dX11_tooMany_50 : decode cX11_tooMany 50 = .ok (.iconst 0, 1) := by decide +kernel
theorem dX11_tooMany_51 : decode cX11_tooMany 51 = .ok (.istore 10, 2) := by decide +kernel
theorem dX11_tooMany_53 : decode cX11_tooMany 53 = .ok (.iload 10, 2) := by decide +kernel
theorem dX11_tooMany_55 : decode cX11_tooMany 55 = .ok (.sipush 300, 3) := by decide +kernel
theorem dX11_tooMany_58 : decode cX11_tooMany 58 = .ok (.if_icmp .ge 62, 3) := by decide +kernel
theorem dX11_tooMany_61 : decode cX11_tooMany 61 = .ok (.iload 8, 2) := by decide +kernel
theorem dX11_tooMany_63 : decode cX11_tooMany 63 = .ok (.iload 9, 2) := by decide +kernel
theorem dX11_tooMany_65 : decode cX11_tooMany 65 = .ok (.if_icmp .ge 55, 3) := by decide +kernel
theorem dX11_tooMany_68 : decode cX11_tooMany 68 = .ok (.iload 8, 2) := by decide +kernel
theorem dX11_tooMany_70 : decode cX11_tooMany 70 = .ok (.iload 9, 2) := by decide +kernel
theorem dX11_tooMany_72 : decode cX11_tooMany 72 = .ok (.iadd, 1) := by decide +kernel
theorem dX11_tooMany_73 : decode cX11_tooMany 73 = .ok (.iconst 2, 1) := by decide +kernel
theorem dX11_tooMany_74 : decode cX11_tooMany 74 = .ok (.idiv, 1) := by decide +kernel
theorem dX11_tooMany_75 : decode cX11_tooMany 75 = .ok (.istore 11, 2) := by decide +kernel
theorem dX11_tooMany_77 : decode cX11_tooMany 77 = .ok (.aload_n 0, 1) := by decide +kernel
theorem dX11_tooMany_78 : decode cX11_tooMany 78 = .ok (.getfield 12, 3) := by decide +kernel
theorem dX11_tooMany_81 : decode cX11_tooMany 81 = .ok (.iload_n 1, 1) := by decide +kernel
theorem dX11_tooMany_82 : decode cX11_tooMany 82 = .ok (.iload_n 2, 1) := by decide +kernel
theorem dX11_tooMany_83 : decode cX11_tooMany 83 = .ok (.iload_n 3, 1) := by decide +kernel
theorem dX11_tooMany_84 : decode cX11_tooMany 84 = .ok (.iload 11, 2) := by decide +kernel
theorem dX11_tooMany_86 : decode cX11_tooMany 86 = .ok (.iload 4, 2) := by decide +kernel
theorem dX11_tooMany_88 : decode cX11_tooMany 88 = .ok (.iload 5, 2) := by decide +kernel
theorem dX11_tooMany_90 : decode cX11_tooMany 90 = .ok (.invokestatic 229, 3) := by decide +kernel
theorem dX11_tooMany_93 : decode cX11_tooMany 93 = .ok (.invokevirtual 233, 3) := by decide +kernel
theorem dX11_tooMany_96 : decode cX11_tooMany 96 = .ok (.iload 6, 2) := by decide +kernel
theorem dX11_tooMany_98 : decode cX11_tooMany 98 = .ok (.if_icmp .le 10, 3) := by decide +kernel
theorem dX11_tooMany_101 : decode cX11_tooMany 101 = .ok (.iload 11, 2) := by decide +kernel
theorem dX11_tooMany_103 : decode cX11_tooMany 103 = .ok (.istore 9, 2) := by decide +kernel
theorem dX11_tooMany_105 : decode cX11_tooMany 105 = .ok (.goto 9, 3) := by decide +kernel
theorem dX11_tooMany_108 : decode cX11_tooMany 108 = .ok (.iload 11, 2) := by decide +kernel
theorem dX11_tooMany_110 : decode cX11_tooMany 110 = .ok (.iconst 1, 1) := by decide +kernel
theorem dX11_tooMany_111 : decode cX11_tooMany 111 = .ok (.iadd, 1) := by decide +kernel
theorem dX11_tooMany_112 : decode cX11_tooMany 112 = .ok (.istore 8, 2) := by decide +kernel
theorem dX11_tooMany_114 : decode cX11_tooMany 114 = .ok (.iinc 10 1, 3) := by decide +kernel
theorem dX11_tooMany_117 : decode cX11_tooMany 117 = .ok (.goto (-64), 3) := by decide +kernel
theorem dX11_tooMany_120 : decode cX11_tooMany 120 = .ok (.aload_n 0, 1) := by decide +kernel
theorem dX11_tooMany_121 : decode cX11_tooMany 121 = .ok (.iload 8, 2) := by decide +kernel
theorem dX11_tooMany_123 : decode cX11_tooMany 123 = .ok (.sipush 300, 3) := by decide +kernel
theorem dX11_tooMany_126 : decode cX11_tooMany 126 = .ok (.if_icmp .le 8, 3) := by decide +kernel
theorem dX11_tooMany_129 : decode cX11_tooMany 129 = .ok (.ldc 175, 2) := by decide +kernel
theorem dX11_tooMany_131 : decode cX11_tooMany 131 = .ok (.goto 5, 3) := by decide +kernel
theorem dX11_tooMany_134 : decode cX11_tooMany 134 = .ok (.iload 8, 2) := by decide +kernel
theorem dX11_tooMany_136 : decode cX11_tooMany 136 = .ok (.invokevirtual 79, 3) := by decide +kernel
theorem dX11_tooMany_139 : decode cX11_tooMany 139 = .ok (.ireturn, 1) := by decide +kernel
set_option maxRecDepth 20000 in
theorem ggX11_arePeaks_X11_within : GoodIn wsX11_arePeaks wsX11_within := goodIn_r _ [4] (by decide +kernel) (by decide +kernel)
set_option maxRecDepth 20000 in
theorem gX11_arePeaks_X11_within : GoodIn wsX11_arePeaks (va_wsS RX11 66 yX11_within wsX11_within) := goodIn_app (goodIn_of _ (by decide +kernel)) ggX11_arePeaks_X11_within
theorem dX11_arePeaks_0 : decode cX11_arePeaks 0 = .ok (.iload_n 0, 1) := by decide +kernel
theorem dX11_arePeaks_1 : decode cX11_arePeaks 1 = .ok (.iconst 0, 1) := by decide +kernel
theorem dX11_arePeaks_2 : decode cX11_arePeaks 2 = .ok (.bipush 7, 2) := by decide +kernel
theorem dX11_arePeaks_4 : decode cX11_arePeaks 4 = .ok (.invokestatic 66, 3) := by decide +kernel
theorem dX11_arePeaks_7 : decode cX11_arePeaks 7 = .ok (.ifCond .eq 27, 3) := by decide +kernel
theorem dX11_arePeaks_10 : decode cX11_arePeaks 10 = .ok (.iload_n 1, 1) := by decide +kernel
theorem dX11_arePeaks_11 : decode cX11_arePeaks 11 = .ok (.iconst 1, 1) := by decide +kernel
theorem dX11_arePeaks_12 : decode cX11_arePeaks 12 = .ok (.bipush 60, 2) := by decide +kernel
theorem dX11_arePeaks_14 : decode cX11_arePeaks 14 = .ok (.invokestatic 66, 3) := by decide +kernel
theorem dX11_arePeaks_17 : decode cX11_arePeaks 17 = .ok (.ifCond .eq 17, 3) := by decide +kernel
theorem dX11_arePeaks_20 : decode cX11_arePeaks 20 = .ok (.iload_n 2, 1) := by decide +kernel
theorem dX11_arePeaks_21 : decode cX11_arePeaks 21 = .ok (.iconst 0, 1) := by decide +kernel
theorem dX11_arePeaks_22 : decode cX11_arePeaks 22 = .ok (.bipush 100, 2) := by decide +kernel
theorem dX11_arePeaks_24 : decode cX11_arePeaks 24 = .ok (.invokestatic 66, 3) := by decide +kernel
theorem dX11_arePeaks_27 : decode cX11_arePeaks 27 = .ok (.ifCond .eq 7, 3) := by decide +kernel
theorem dX11_arePeaks_30 : decode cX11_arePeaks 30 = .ok (.iconst 1, 1) := by decide +kernel
theorem dX11_arePeaks_31 : decode cX11_arePeaks 31 = .ok (.goto 4, 3) := by decide +kernel
theorem dX11_arePeaks_34 : decode cX11_arePeaks 34 = .ok (.iconst 0, 1) := by decide +kernel
theorem dX11_arePeaks_35 : decode cX11_arePeaks 35 = .ok (.ireturn, 1) := by decide +kernel
theorem dX11_levelIn_0 : decode cX11_levelIn 0 = .ok (.iload_n 2, 1) := by decide +kernel
theorem dX11_levelIn_1 : decode cX11_levelIn 1 = .ok (.i2l, 1) := by decide +kernel
theorem dX11_levelIn_2 : decode cX11_levelIn 2 = .ok (.iload_n 0, 1) := by decide +kernel
theorem dX11_levelIn_3 : decode cX11_levelIn 3 = .ok (.iload_n 1, 1) := by decide +kernel
theorem dX11_levelIn_4 : decode cX11_levelIn 4 = .ok (.imul, 1) := by decide +kernel
theorem dX11_levelIn_5 : decode cX11_levelIn 5 = .ok (.bipush 10, 2) := by decide +kernel
theorem dX11_levelIn_7 : decode cX11_levelIn 7 = .ok (.idiv, 1) := by decide +kernel
theorem dX11_levelIn_8 : decode cX11_levelIn 8 = .ok (.i2l, 1) := by decide +kernel
theorem dX11_levelIn_9 : decode cX11_levelIn 9 = .ok (.lsub, 1) := by decide +kernel
theorem dX11_levelIn_10 : decode cX11_levelIn 10 = .ok (.lreturn, 1) := by decide +kernel
set_option maxRecDepth 20000 in
theorem ggX11_kind_X5_at : GoodIn wsX11_kind wsX5_at := goodIn_r _ [7, 8, 9, 10, 11, 12, 41, 42, 43] (by decide +kernel) (by decide +kernel)
set_option maxRecDepth 20000 in
theorem gX11_kind_X5_at : GoodIn wsX11_kind (wsV RX11 206 RX5 yX5_at wsX5_at) := goodIn_app (goodIn_of _ (by decide +kernel)) ggX11_kind_X5_at
set_option maxRecDepth 20000 in
theorem ggX11_kind_X2_toldAs : GoodIn wsX11_kind wsX2_toldAs := goodIn_r _ [17] (by decide +kernel) (by decide +kernel)
set_option maxRecDepth 20000 in
theorem gX11_kind_X2_toldAs : GoodIn wsX11_kind (wsV RX11 237 RX2 yX2_toldAs wsX2_toldAs) := goodIn_app (goodIn_of _ (by decide +kernel)) ggX11_kind_X2_toldAs
set_option maxRecDepth 20000 in
theorem ggX11_kind_X3_toldAs : GoodIn wsX11_kind wsX3_toldAs := goodIn_r _ [24] (by decide +kernel) (by decide +kernel)
set_option maxRecDepth 20000 in
theorem gX11_kind_X3_toldAs_u237X3 : GoodIn wsX11_kind (va_wsO RX11 237 RX3 "SeaGates$Gate" ⟨"SeaGates$Gate", "toldAs", "()I"⟩ yX3_toldAs wsX3_toldAs) := goodIn_app (goodIn_of _ (by decide +kernel)) ggX11_kind_X3_toldAs
set_option maxRecDepth 20000 in
theorem ggX11_kind_X8_toldAs : GoodIn wsX11_kind wsX8_toldAs := goodIn_r _ [28] (by decide +kernel) (by decide +kernel)
set_option maxRecDepth 20000 in
theorem gX11_kind_X8_toldAs_u237X8 : GoodIn wsX11_kind (va_wsO RX11 237 RX8 "SeaGates$Gate" ⟨"SeaGates$Gate", "toldAs", "()I"⟩ yX8_toldAs wsX8_toldAs) := goodIn_app (goodIn_of _ (by decide +kernel)) ggX11_kind_X8_toldAs
set_option maxRecDepth 20000 in
theorem ggX11_kind_X10_toldAs : GoodIn wsX11_kind wsX10_toldAs := goodIn_r _ [32] (by decide +kernel) (by decide +kernel)
set_option maxRecDepth 20000 in
theorem gX11_kind_X10_toldAs_u237X10 : GoodIn wsX11_kind (va_wsO RX11 237 RX10 "SeaGates$Gate" ⟨"SeaGates$Gate", "toldAs", "()I"⟩ yX10_toldAs wsX10_toldAs) := goodIn_app (goodIn_of _ (by decide +kernel)) ggX11_kind_X10_toldAs
theorem dX11_kind_0 : decode cX11_kind 0 = .ok (.aload_n 0, 1) := by decide +kernel
theorem dX11_kind_1 : decode cX11_kind 1 = .ok (.getfield 44, 3) := by decide +kernel
theorem dX11_kind_4 : decode cX11_kind 4 = .ok (.iload_n 1, 1) := by decide +kernel
theorem dX11_kind_5 : decode cX11_kind 5 = .ok (.invokevirtual 206, 3) := by decide +kernel
theorem dX11_kind_8 : decode cX11_kind 8 = .ok (.astore_n 2, 1) := by decide +kernel
theorem dX11_kind_9 : decode cX11_kind 9 = .ok (.aload_n 2, 1) := by decide +kernel
theorem dX11_kind_10 : decode cX11_kind 10 = .ok (.ifnonnull 8, 3) := by decide +kernel
theorem dX11_kind_13 : decode cX11_kind 13 = .ok (.ldc 70, 2) := by decide +kernel
theorem dX11_kind_15 : decode cX11_kind 15 = .ok (.goto 7, 3) := by decide +kernel
theorem dX11_kind_18 : decode cX11_kind 18 = .ok (.aload_n 2, 1) := by decide +kernel
theorem dX11_kind_19 : decode cX11_kind 19 = .ok (.invokevirtual 237, 3) := by decide +kernel
theorem dX11_kind_22 : decode cX11_kind 22 = .ok (.ireturn, 1) := by decide +kernel
set_option maxRecDepth 20000 in
theorem ggX11_as_X5_at : GoodIn wsX11_as wsX5_at := goodIn_r _ [8, 9, 10, 11, 12, 13, 51, 52, 53] (by decide +kernel) (by decide +kernel)
set_option maxRecDepth 20000 in
theorem gX11_as_X5_at : GoodIn wsX11_as (wsV RX11 206 RX5 yX5_at wsX5_at) := goodIn_app (goodIn_of _ (by decide +kernel)) ggX11_as_X5_at
set_option maxRecDepth 20000 in
theorem ggX11_as_X11_within : GoodIn wsX11_as wsX11_within := goodIn_r _ [13] (by decide +kernel) (by decide +kernel)
set_option maxRecDepth 20000 in
theorem gX11_as_X11_within : GoodIn wsX11_as (va_wsS RX11 66 yX11_within wsX11_within) := goodIn_app (goodIn_of _ (by decide +kernel)) ggX11_as_X11_within
set_option maxRecDepth 20000 in
theorem ggX11_as_X11_isOf : GoodIn wsX11_as wsX11_isOf := goodIn_r _ [17, 18, 19, 20] (by decide +kernel) (by decide +kernel)
set_option maxRecDepth 20000 in
theorem gX11_as_X11_isOf : GoodIn wsX11_as (va_wsS RX11 241 yX11_isOf wsX11_isOf) := goodIn_app (goodIn_of _ (by decide +kernel)) ggX11_as_X11_isOf
set_option maxRecDepth 20000 in
theorem ggX11_as_X11_fine : GoodIn wsX11_as wsX11_fine := goodIn_r _ [24, 25, 31, 32, 33, 34, 35, 36, 37, 38] (by decide +kernel) (by decide +kernel)
set_option maxRecDepth 20000 in
theorem gX11_as_X11_fine : GoodIn wsX11_as (wsV RX11 79 RX11 yX11_fine wsX11_fine) := goodIn_app (goodIn_of _ (by decide +kernel)) ggX11_as_X11_fine
set_option maxRecDepth 20000 in
theorem ggX11_as_X11_found : GoodIn wsX11_as wsX11_found := goodIn_r _ [29, 25, 30, 31, 32, 33, 34, 35, 36, 37, 38] (by decide +kernel) (by decide +kernel)
set_option maxRecDepth 20000 in
theorem gX11_as_X11_found : GoodIn wsX11_as (wsV RX11 71 RX11 yX11_found wsX11_found) := goodIn_app (goodIn_of _ (by decide +kernel)) ggX11_as_X11_found
theorem dX11_as_0 : decode cX11_as 0 = .ok (.aload_n 0, 1) := by decide +kernel
theorem dX11_as_1 : decode cX11_as 1 = .ok (.getfield 44, 3) := by decide +kernel
theorem dX11_as_4 : decode cX11_as 4 = .ok (.iload_n 1, 1) := by decide +kernel
theorem dX11_as_5 : decode cX11_as 5 = .ok (.invokevirtual 206, 3) := by decide +kernel
theorem dX11_as_8 : decode cX11_as 8 = .ok (.astore_n 3, 1) := by decide +kernel
theorem dX11_as_9 : decode cX11_as 9 = .ok (.aload_n 3, 1) := by decide +kernel
theorem dX11_as_10 : decode cX11_as 10 = .ok (.ifnull 12, 3) := by decide +kernel
theorem dX11_as_13 : decode cX11_as 13 = .ok (.iload_n 2, 1) := by decide +kernel
theorem dX11_as_14 : decode cX11_as 14 = .ok (.iconst 0, 1) := by decide +kernel
theorem dX11_as_15 : decode cX11_as 15 = .ok (.iconst 3, 1) := by decide +kernel
theorem dX11_as_16 : decode cX11_as 16 = .ok (.invokestatic 66, 3) := by decide +kernel
theorem dX11_as_19 : decode cX11_as 19 = .ok (.ifCond .ne 6, 3) := by decide +kernel
theorem dX11_as_22 : decode cX11_as 22 = .ok (.ldc 70, 2) := by decide +kernel
theorem dX11_as_24 : decode cX11_as 24 = .ok (.ireturn, 1) := by decide +kernel
theorem dX11_as_25 : decode cX11_as 25 = .ok (.aload_n 3, 1) := by decide +kernel
theorem dX11_as_26 : decode cX11_as 26 = .ok (.iload_n 2, 1) := by decide +kernel
theorem dX11_as_27 : decode cX11_as 27 = .ok (.invokestatic 241, 3) := by decide +kernel
theorem dX11_as_30 : decode cX11_as 30 = .ok (.ifCond .eq 14, 3) := by decide +kernel
theorem dX11_as_33 : decode cX11_as 33 = .ok (.aload_n 0, 1) := by decide +kernel
theorem dX11_as_34 : decode cX11_as 34 = .ok (.aload_n 3, 1) := by decide +kernel
theorem dX11_as_35 : decode cX11_as 35 = .ok (.getfield 245, 3) := by decide +kernel
theorem dX11_as_38 : decode cX11_as 38 = .ok (.invokevirtual 79, 3) := by decide +kernel
theorem dX11_as_41 : decode cX11_as 41 = .ok (.goto 8, 3) := by decide +kernel
theorem dX11_as_44 : decode cX11_as 44 = .ok (.aload_n 0, 1) := by decide +kernel
theorem dX11_as_45 : decode cX11_as 45 = .ok (.iconst 3, 1) := by decide +kernel
theorem dX11_as_46 : decode cX11_as 46 = .ok (.invokevirtual 71, 3) := by decide +kernel
theorem dX11_as_49 : decode cX11_as 49 = .ok (.ireturn, 1) := by decide +kernel
theorem dX11_isOf_0 : decode cX11_isOf 0 = .ok (.iload_n 1, 1) := by decide +kernel
theorem dX11_isOf_1 : decode cX11_isOf 1 = .ok (.tableswitch 42 1 3 #[27, 32, 37], 27) := by decide +kernel
theorem dX11_isOf_28 : decode cX11_isOf 28 = .ok (.aload_n 0, 1) := by decide +kernel
theorem dX11_isOf_29 : decode cX11_isOf 29 = .ok (.instanceof 192, 3) := by decide +kernel
theorem dX11_isOf_32 : decode cX11_isOf 32 = .ok (.ireturn, 1) := by decide +kernel
theorem dX11_isOf_33 : decode cX11_isOf 33 = .ok (.aload_n 0, 1) := by decide +kernel
theorem dX11_isOf_34 : decode cX11_isOf 34 = .ok (.instanceof 187, 3) := by decide +kernel
theorem dX11_isOf_37 : decode cX11_isOf 37 = .ok (.ireturn, 1) := by decide +kernel
theorem dX11_isOf_38 : decode cX11_isOf 38 = .ok (.aload_n 0, 1) := by decide +kernel
theorem dX11_isOf_39 : decode cX11_isOf 39 = .ok (.instanceof 195, 3) := by decide +kernel
theorem dX11_isOf_42 : decode cX11_isOf 42 = .ok (.ireturn, 1) := by decide +kernel
theorem dX11_isOf_43 : decode cX11_isOf 43 = .ok (.iconst 1, 1) := by decide +kernel
theorem dX11_isOf_44 : decode cX11_isOf 44 = .ok (.ireturn, 1) := by decide +kernel
set_option maxRecDepth 20000 in
theorem ggX11_ask_X5_at : GoodIn wsX11_ask wsX5_at := goodIn_r _ [9, 10, 11, 12, 13, 14, 90, 91, 92] (by decide +kernel) (by decide +kernel)
set_option maxRecDepth 20000 in
theorem gX11_ask_X5_at : GoodIn wsX11_ask (wsV RX11 206 RX5 yX5_at wsX5_at) := goodIn_app (goodIn_of _ (by decide +kernel)) ggX11_ask_X5_at
set_option maxRecDepth 20000 in
theorem ggX11_ask_X11_within : GoodIn wsX11_ask wsX11_within := goodIn_r _ [14] (by decide +kernel) (by decide +kernel)
set_option maxRecDepth 20000 in
theorem gX11_ask_X11_within : GoodIn wsX11_ask (va_wsS RX11 66 yX11_within wsX11_within) := goodIn_app (goodIn_of _ (by decide +kernel)) ggX11_ask_X11_within
set_option maxRecDepth 20000 in
theorem ggX11_ask_X2_cost : GoodIn wsX11_ask wsX2_cost := goodIn_r _ [20, 21, 22, 23, 24, 25, 26, 27, 28, 93, 94, 95, 96, 97, 98, 99, 100, 101, 102, 103, 104, 88, 89] (by decide +kernel) (by decide +kernel)
set_option maxRecDepth 20000 in
theorem gX11_ask_X2_cost : GoodIn wsX11_ask (wsV RX11 251 RX2 yX2_cost wsX2_cost) := goodIn_app (goodIn_of _ (by decide +kernel)) ggX11_ask_X2_cost
set_option maxRecDepth 20000 in
theorem ggX11_ask_X3_cost : GoodIn wsX11_ask wsX3_cost := goodIn_r _ [35, 36, 37, 38, 23, 24, 25, 26, 27, 28, 39, 30, 40, 17, 19, 20, 21, 22, 93, 94, 95, 96, 97, 98, 99, 100, 101, 102, 103, 104, 88, 89] (by decide +kernel) (by decide +kernel)
set_option maxRecDepth 20000 in
theorem gX11_ask_X3_cost_u251X3 : GoodIn wsX11_ask (va_wsO RX11 251 RX3 "SeaGates$Gate" ⟨"SeaGates$Gate", "cost", "(LSeaGates$Trace;)I"⟩ yX3_cost wsX3_cost) := goodIn_app (goodIn_of _ (by decide +kernel)) ggX11_ask_X3_cost
set_option maxRecDepth 20000 in
theorem ggX11_ask_X8_cost : GoodIn wsX11_ask wsX8_cost := goodIn_r _ [44, 45, 23, 24, 25, 26, 27, 28, 46, 30, 47, 17, 19, 20, 21, 22, 88, 89, 93, 94, 95, 96, 97, 98, 99, 100, 101, 102, 103, 104] (by decide +kernel) (by decide +kernel)
set_option maxRecDepth 20000 in
theorem gX11_ask_X8_cost_u251X8 : GoodIn wsX11_ask (va_wsO RX11 251 RX8 "SeaGates$Gate" ⟨"SeaGates$Gate", "cost", "(LSeaGates$Trace;)I"⟩ yX8_cost wsX8_cost) := goodIn_app (goodIn_of _ (by decide +kernel)) ggX11_ask_X8_cost
set_option maxRecDepth 20000 in
theorem ggX11_ask_X10_cost : GoodIn wsX11_ask wsX10_cost := goodIn_r _ [51, 52, 23, 24, 25, 26, 27, 28, 53, 54, 55, 33, 34, 35, 36, 37, 38, 39, 30, 40, 17, 19, 20, 21, 22, 88, 89, 93, 94, 95, 96, 97, 98, 99, 100, 101, 102, 103, 104] (by decide +kernel) (by decide +kernel)
set_option maxRecDepth 20000 in
theorem gX11_ask_X10_cost_u251X10 : GoodIn wsX11_ask (va_wsO RX11 251 RX10 "SeaGates$Gate" ⟨"SeaGates$Gate", "cost", "(LSeaGates$Trace;)I"⟩ yX10_cost wsX10_cost) := goodIn_app (goodIn_of _ (by decide +kernel)) ggX11_ask_X10_cost
set_option maxRecDepth 20000 in
theorem ggX11_ask_X2_mark : GoodIn wsX11_ask wsX2_mark := goodIn_r _ [59, 60, 22, 23, 24, 25, 26, 27, 28, 93, 94, 95, 96, 97, 98, 99, 100, 101, 102, 103, 104, 88, 89] (by decide +kernel) (by decide +kernel)
set_option maxRecDepth 20000 in
theorem gX11_ask_X2_mark : GoodIn wsX11_ask (wsV RX11 255 RX2 yX2_mark wsX2_mark) := goodIn_app (goodIn_of _ (by decide +kernel)) ggX11_ask_X2_mark
set_option maxRecDepth 20000 in
theorem ggX11_ask_X3_mark : GoodIn wsX11_ask wsX3_mark := goodIn_r _ [66, 38, 23, 24, 25, 26, 27, 28, 67, 62, 40, 57, 19, 59, 60, 22, 68, 33, 69, 34, 35, 36, 37, 39, 30, 17, 20, 21, 70, 54, 71, 72, 49, 50, 51, 52, 53, 55, 88, 89, 93, 94, 95, 96, 97, 98, 99, 100, 101, 102, 103, 104] (by decide +kernel) (by decide +kernel)
set_option maxRecDepth 20000 in
theorem gX11_ask_X3_mark_u255X3 : GoodIn wsX11_ask (va_wsO RX11 255 RX3 "SeaGates$Gate" ⟨"SeaGates$Gate", "mark", "(LSeaGates$Trace;)I"⟩ yX3_mark wsX3_mark) := goodIn_app (goodIn_of _ (by decide +kernel)) ggX11_ask_X3_mark
set_option maxRecDepth 20000 in
theorem ggX11_ask_X8_mark : GoodIn wsX11_ask wsX8_mark := goodIn_r _ [75, 45, 23, 24, 25, 26, 27, 28, 76, 62, 47, 57, 19, 59, 60, 22, 77, 42, 78, 43, 44, 46, 30, 17, 20, 21, 88, 89, 93, 94, 95, 96, 97, 98, 99, 100, 101, 102, 103, 104] (by decide +kernel) (by decide +kernel)
set_option maxRecDepth 20000 in
theorem gX11_ask_X8_mark_u255X8 : GoodIn wsX11_ask (va_wsO RX11 255 RX8 "SeaGates$Gate" ⟨"SeaGates$Gate", "mark", "(LSeaGates$Trace;)I"⟩ yX8_mark wsX8_mark) := goodIn_app (goodIn_of _ (by decide +kernel)) ggX11_ask_X8_mark
set_option maxRecDepth 20000 in
theorem gX11_ask_X3_mark_u255X10 : GoodIn wsX11_ask (va_wsO RX11 255 RX10 "SeaGates$Gate" ⟨"SeaGates$Gate", "mark", "(LSeaGates$Trace;)I"⟩ yX3_mark wsX3_mark) := goodIn_app (goodIn_of _ (by decide +kernel)) ggX11_ask_X3_mark
theorem dX11_ask_0 : decode cX11_ask 0 = .ok (.aload_n 0, 1) := by decide +kernel
theorem dX11_ask_1 : decode cX11_ask 1 = .ok (.getfield 44, 3) := by decide +kernel
theorem dX11_ask_4 : decode cX11_ask 4 = .ok (.iload_n 1, 1) := by decide +kernel
theorem dX11_ask_5 : decode cX11_ask 5 = .ok (.invokevirtual 206, 3) := by decide +kernel
theorem dX11_ask_8 : decode cX11_ask 8 = .ok (.astore_n 3, 1) := by decide +kernel
theorem dX11_ask_9 : decode cX11_ask 9 = .ok (.aload_n 3, 1) := by decide +kernel
theorem dX11_ask_10 : decode cX11_ask 10 = .ok (.ifnull 12, 3) := by decide +kernel
theorem dX11_ask_13 : decode cX11_ask 13 = .ok (.iload_n 2, 1) := by decide +kernel
theorem dX11_ask_14 : decode cX11_ask 14 = .ok (.iconst 0, 1) := by decide +kernel
theorem dX11_ask_15 : decode cX11_ask 15 = .ok (.iconst 1, 1) := by decide +kernel
theorem dX11_ask_16 : decode cX11_ask 16 = .ok (.invokestatic 66, 3) := by decide +kernel
theorem dX11_ask_19 : decode cX11_ask 19 = .ok (.ifCond .ne 6, 3) := by decide +kernel
theorem dX11_ask_22 : decode cX11_ask 22 = .ok (.ldc 70, 2) := by decide +kernel
theorem dX11_ask_24 : decode cX11_ask 24 = .ok (.ireturn, 1) := by decide +kernel
theorem dX11_ask_25 : decode cX11_ask 25 = .ok (.aload_n 0, 1) := by decide +kernel
theorem dX11_ask_26 : decode cX11_ask 26 = .ok (.getfield 58, 3) := by decide +kernel
theorem dX11_ask_29 : decode cX11_ask 29 = .ok (.iconst 0, 1) := by decide +kernel
theorem dX11_ask_30 : decode cX11_ask 30 = .ok (.putfield 248, 3) := by decide +kernel
theorem dX11_ask_33 : decode cX11_ask 33 = .ok (.iload_n 2, 1) := by decide +kernel
theorem dX11_ask_34 : decode cX11_ask 34 = .ok (.ifCond .ne 14, 3) := by decide +kernel
theorem dX11_ask_37 : decode cX11_ask 37 = .ok (.aload_n 3, 1) := by decide +kernel
theorem dX11_ask_38 : decode cX11_ask 38 = .ok (.aload_n 0, 1) := by decide +kernel
theorem dX11_ask_39 : decode cX11_ask 39 = .ok (.getfield 58, 3) := by decide +kernel
theorem dX11_ask_42 : decode cX11_ask 42 = .ok (.invokevirtual 251, 3) := by decide +kernel
theorem dX11_ask_45 : decode cX11_ask 45 = .ok (.goto 11, 3) := by decide +kernel
theorem dX11_ask_48 : decode cX11_ask 48 = .ok (.aload_n 3, 1) := by decide +kernel
theorem dX11_ask_49 : decode cX11_ask 49 = .ok (.aload_n 0, 1) := by decide +kernel
theorem dX11_ask_50 : decode cX11_ask 50 = .ok (.getfield 58, 3) := by decide +kernel
theorem dX11_ask_53 : decode cX11_ask 53 = .ok (.invokevirtual 255, 3) := by decide +kernel
theorem dX11_ask_56 : decode cX11_ask 56 = .ok (.ireturn, 1) := by decide +kernel
set_option maxRecDepth 20000 in
theorem ggX11_trace_X11_within : GoodIn wsX11_trace wsX11_within := goodIn_r _ [8] (by decide +kernel) (by decide +kernel)
set_option maxRecDepth 20000 in
theorem gX11_trace_X11_within : GoodIn wsX11_trace (va_wsS RX11 66 yX11_within wsX11_within) := goodIn_app (goodIn_of _ (by decide +kernel)) ggX11_trace_X11_within
theorem dX11_trace_0 : decode cX11_trace 0 = .ok (.iload_n 1, 1) := by decide +kernel
theorem dX11_trace_1 : decode cX11_trace 1 = .ok (.iconst 0, 1) := by decide +kernel
theorem dX11_trace_2 : decode cX11_trace 2 = .ok (.aload_n 0, 1) := by decide +kernel
theorem dX11_trace_3 : decode cX11_trace 3 = .ok (.getfield 58, 3) := by decide +kernel
theorem dX11_trace_6 : decode cX11_trace 6 = .ok (.getfield 248, 3) := by decide +kernel
theorem dX11_trace_9 : decode cX11_trace 9 = .ok (.iconst 1, 1) := by decide +kernel
theorem dX11_trace_10 : decode cX11_trace 10 = .ok (.isub, 1) := by decide +kernel
theorem dX11_trace_11 : decode cX11_trace 11 = .ok (.invokestatic 66, 3) := by decide +kernel
theorem dX11_trace_14 : decode cX11_trace 14 = .ok (.ifCond .eq 15, 3) := by decide +kernel
theorem dX11_trace_17 : decode cX11_trace 17 = .ok (.aload_n 0, 1) := by decide +kernel
theorem dX11_trace_18 : decode cX11_trace 18 = .ok (.getfield 58, 3) := by decide +kernel
theorem dX11_trace_21 : decode cX11_trace 21 = .ok (.getfield 258, 3) := by decide +kernel
theorem dX11_trace_24 : decode cX11_trace 24 = .ok (.iload_n 1, 1) := by decide +kernel
theorem dX11_trace_25 : decode cX11_trace 25 = .ok (.iaload, 1) := by decide +kernel
theorem dX11_trace_26 : decode cX11_trace 26 = .ok (.goto 5, 3) := by decide +kernel
theorem dX11_trace_29 : decode cX11_trace 29 = .ok (.ldc 175, 2) := by decide +kernel
theorem dX11_trace_31 : decode cX11_trace 31 = .ok (.ireturn, 1) := by decide +kernel
set_option maxRecDepth 20000 in
theorem ggX11_count_X7_present : GoodIn wsX11_count wsX7_present := goodIn_r _ [13, 14, 15, 16, 12, 17, 18, 52, 53, 54] (by decide +kernel) (by decide +kernel)
set_option maxRecDepth 20000 in
theorem gX11_count_X7_present : GoodIn wsX11_count (wsV RX11 261 RX7 yX7_present wsX7_present) := goodIn_app (goodIn_of _ (by decide +kernel)) ggX11_count_X7_present
set_option maxRecDepth 20000 in
theorem ggX11_count_X6_allWeights : GoodIn wsX11_count wsX6_allWeights := goodIn_r _ [23, 24, 25, 41, 42, 43, 44] (by decide +kernel) (by decide +kernel)
set_option maxRecDepth 20000 in
theorem gX11_count_X6_allWeights : GoodIn wsX11_count (wsV RX11 264 RX6 yX6_allWeights wsX6_allWeights) := goodIn_app (goodIn_of _ (by decide +kernel)) ggX11_count_X6_allWeights
set_option maxRecDepth 20000 in
theorem ggX11_count_X5_failedOnes : GoodIn wsX11_count wsX5_failedOnes := goodIn_r _ [30, 31, 32, 45, 46, 47, 55, 56, 57, 58, 59, 60, 61, 62, 63, 64, 65, 66] (by decide +kernel) (by decide +kernel)
set_option maxRecDepth 20000 in
theorem gX11_count_X5_failedOnes : GoodIn wsX11_count (wsV RX11 267 RX5 yX5_failedOnes wsX5_failedOnes) := goodIn_app (goodIn_of _ (by decide +kernel)) ggX11_count_X5_failedOnes
theorem dX11_count_0 : decode cX11_count 0 = .ok (.iload_n 1, 1) := by decide +kernel
theorem dX11_count_1 : decode cX11_count 1 = .ok (.tableswitch 87 0 5 #[39, 47, 55, 63, 71, 79], 39) := by decide +kernel
theorem dX11_count_40 : decode cX11_count 40 = .ok (.aload_n 0, 1) := by decide +kernel
theorem dX11_count_41 : decode cX11_count 41 = .ok (.getfield 12, 3) := by decide +kernel
theorem dX11_count_44 : decode cX11_count 44 = .ok (.invokevirtual 261, 3) := by decide +kernel
theorem dX11_count_47 : decode cX11_count 47 = .ok (.ireturn, 1) := by decide +kernel
theorem dX11_count_48 : decode cX11_count 48 = .ok (.aload_n 0, 1) := by decide +kernel
theorem dX11_count_49 : decode cX11_count 49 = .ok (.getfield 19, 3) := by decide +kernel
theorem dX11_count_52 : decode cX11_count 52 = .ok (.getfield 104, 3) := by decide +kernel
theorem dX11_count_55 : decode cX11_count 55 = .ok (.ireturn, 1) := by decide +kernel
theorem dX11_count_56 : decode cX11_count 56 = .ok (.aload_n 0, 1) := by decide +kernel
theorem dX11_count_57 : decode cX11_count 57 = .ok (.getfield 19, 3) := by decide +kernel
theorem dX11_count_60 : decode cX11_count 60 = .ok (.invokevirtual 264, 3) := by decide +kernel
theorem dX11_count_63 : decode cX11_count 63 = .ok (.ireturn, 1) := by decide +kernel
theorem dX11_count_64 : decode cX11_count 64 = .ok (.aload_n 0, 1) := by decide +kernel
theorem dX11_count_65 : decode cX11_count 65 = .ok (.getfield 44, 3) := by decide +kernel
theorem dX11_count_68 : decode cX11_count 68 = .ok (.getfield 179, 3) := by decide +kernel
theorem dX11_count_71 : decode cX11_count 71 = .ok (.ireturn, 1) := by decide +kernel
theorem dX11_count_72 : decode cX11_count 72 = .ok (.aload_n 0, 1) := by decide +kernel
theorem dX11_count_73 : decode cX11_count 73 = .ok (.getfield 44, 3) := by decide +kernel
theorem dX11_count_76 : decode cX11_count 76 = .ok (.invokevirtual 267, 3) := by decide +kernel
theorem dX11_count_79 : decode cX11_count 79 = .ok (.ireturn, 1) := by decide +kernel
theorem dX11_count_80 : decode cX11_count 80 = .ok (.aload_n 0, 1) := by decide +kernel
theorem dX11_count_81 : decode cX11_count 81 = .ok (.getfield 51, 3) := by decide +kernel
theorem dX11_count_84 : decode cX11_count 84 = .ok (.getfield 220, 3) := by decide +kernel
theorem dX11_count_87 : decode cX11_count 87 = .ok (.ireturn, 1) := by decide +kernel
theorem dX11_count_88 : decode cX11_count 88 = .ok (.ldc 70, 2) := by decide +kernel
theorem dX11_count_90 : decode cX11_count 90 = .ok (.ireturn, 1) := by decide +kernel
theorem dX11_status_0 : decode cX11_status 0 = .ok (.aload_n 0, 1) := by decide +kernel
theorem dX11_status_1 : decode cX11_status 1 = .ok (.getfield 62, 3) := by decide +kernel
theorem dX11_status_4 : decode cX11_status 4 = .ok (.ireturn, 1) := by decide +kernel
theorem dX11_found_0 : decode cX11_found 0 = .ok (.aload_n 0, 1) := by decide +kernel
theorem dX11_found_1 : decode cX11_found 1 = .ok (.iload_n 1, 1) := by decide +kernel
theorem dX11_found_2 : decode cX11_found 2 = .ok (.putfield 62, 3) := by decide +kernel
theorem dX11_found_5 : decode cX11_found 5 = .ok (.ldc_w 270, 3) := by decide +kernel
theorem dX11_found_8 : decode cX11_found 8 = .ok (.iload_n 1, 1) := by decide +kernel
theorem dX11_found_9 : decode cX11_found 9 = .ok (.isub, 1) := by decide +kernel
theorem dX11_found_10 : decode cX11_found 10 = .ok (.ireturn, 1) := by decide +kernel
theorem dX11_fine_0 : decode cX11_fine 0 = .ok (.aload_n 0, 1) := by decide +kernel
theorem dX11_fine_1 : decode cX11_fine 1 = .ok (.iconst 0, 1) := by decide +kernel
theorem dX11_fine_2 : decode cX11_fine 2 = .ok (.putfield 62, 3) := by decide +kernel
theorem dX11_fine_5 : decode cX11_fine 5 = .ok (.iload_n 1, 1) := by decide +kernel
theorem dX11_fine_6 : decode cX11_fine 6 = .ok (.ireturn, 1) := by decide +kernel
theorem dX11_within_0 : decode cX11_within 0 = .ok (.iload_n 1, 1) := by decide +kernel
theorem dX11_within_1 : decode cX11_within 1 = .ok (.iload_n 0, 1) := by decide +kernel
theorem dX11_within_2 : decode cX11_within 2 = .ok (.if_icmp .gt 12, 3) := by decide +kernel
theorem dX11_within_5 : decode cX11_within 5 = .ok (.iload_n 0, 1) := by decide +kernel
theorem dX11_within_6 : decode cX11_within 6 = .ok (.iload_n 2, 1) := by decide +kernel
theorem dX11_within_7 : decode cX11_within 7 = .ok (.if_icmp .gt 7, 3) := by decide +kernel
theorem dX11_within_10 : decode cX11_within 10 = .ok (.iconst 1, 1) := by decide +kernel
theorem dX11_within_11 : decode cX11_within 11 = .ok (.goto 4, 3) := by decide +kernel
theorem dX11_within_14 : decode cX11_within 14 = .ok (.iconst 0, 1) := by decide +kernel
theorem dX11_within_15 : decode cX11_within 15 = .ok (.ireturn, 1) := by decide +kernel
