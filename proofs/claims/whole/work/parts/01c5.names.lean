set_option maxRecDepth 20000 in
theorem gX12_shutAt_X12_in : GoodIn wsX12_shutAt (va_wsS RX12 70 yX12_in wsX12_in) := goodIn_app (goodIn_of _ (by decide +kernel)) ggX12_shutAt_X12_in
set_option maxRecDepth 20000 in
theorem ggX12_shutAt_X12_lostIn : GoodIn wsX12_shutAt wsX12_lostIn := goodIn_r _ [13, 14, 15, 16, 17, 8, 18, 19, 20, 21, 22, 23, 28, 29, 30, 31, 32, 33, 34, 35, 36, 37, 38, 39, 40, 41, 42, 43, 44, 45, 46, 47, 48, 49] (by decide +kernel) (by decide +kernel)
set_option maxRecDepth 20000 in
theorem gX12_shutAt_X12_lostIn : GoodIn wsX12_shutAt (wsV RX12 115 RX12 yX12_lostIn wsX12_lostIn) := goodIn_app (goodIn_of _ (by decide +kernel)) ggX12_shutAt_X12_lostIn
set_option maxRecDepth 20000 in
theorem ggX12_shutAt_X12_after : GoodIn wsX12_shutAt wsX12_after := goodIn_r _ [27, 14, 28, 29, 30, 31, 32, 33, 34, 35, 36, 37, 38, 39, 40, 41, 42, 43, 44, 45, 46, 47, 48, 49] (by decide +kernel) (by decide +kernel)
set_option maxRecDepth 20000 in
theorem gX12_shutAt_X12_after : GoodIn wsX12_shutAt (wsV RX12 107 RX12 yX12_after wsX12_after) := goodIn_app (goodIn_of _ (by decide +kernel)) ggX12_shutAt_X12_after
theorem dX12_shutAt_0 : decode cX12_shutAt 0 = .ok (.aload_n 0, 1) := by decide +kernel
theorem dX12_shutAt_1 : decode cX12_shutAt 1 = .ok (.iconst 0, 1) := by decide +kernel
theorem dX12_shutAt_2 : decode cX12_shutAt 2 = .ok (.putfield 60, 3) := by decide +kernel
theorem dX12_shutAt_5 : decode cX12_shutAt 5 = .ok (.iload_n 1, 1) := by decide +kernel
theorem dX12_shutAt_6 : decode cX12_shutAt 6 = .ok (.i2l, 1) := by decide +kernel
theorem dX12_shutAt_7 : decode cX12_shutAt 7 = .ok (.lconst 0, 1) := by decide +kernel
theorem dX12_shutAt_8 : decode cX12_shutAt 8 = .ok (.ldc2_w 91, 3) := by decide +kernel
theorem dX12_shutAt_11 : decode cX12_shutAt 11 = .ok (.invokestatic 70, 3) := by decide +kernel
theorem dX12_shutAt_14 : decode cX12_shutAt 14 = .ok (.ifCond .ne 7, 3) := by decide +kernel
theorem dX12_shutAt_17 : decode cX12_shutAt 17 = .ok (.ldc2_w 125, 3) := by decide +kernel
theorem dX12_shutAt_20 : decode cX12_shutAt 20 = .ok (.lreturn, 1) := by decide +kernel
theorem dX12_shutAt_21 : decode cX12_shutAt 21 = .ok (.lconst 0, 1) := by decide +kernel
theorem dX12_shutAt_22 : decode cX12_shutAt 22 = .ok (.lstore_n 2, 1) := by decide +kernel
theorem dX12_shutAt_23 : decode cX12_shutAt 23 = .ok (.iconst 0, 1) := by decide +kernel
theorem dX12_shutAt_24 : decode cX12_shutAt 24 = .ok (.istore 4, 2) := by decide +kernel
theorem dX12_shutAt_26 : decode cX12_shutAt 26 = .ok (.iload 4, 2) := by decide +kernel
theorem dX12_shutAt_28 : decode cX12_shutAt 28 = .ok (.aload_n 0, 1) := by decide +kernel
theorem dX12_shutAt_29 : decode cX12_shutAt 29 = .ok (.getfield 87, 3) := by decide +kernel
theorem dX12_shutAt_32 : decode cX12_shutAt 32 = .ok (.if_icmp .ge 83, 3) := by decide +kernel
theorem dX12_shutAt_35 : decode cX12_shutAt 35 = .ok (.iconst 0, 1) := by decide +kernel
theorem dX12_shutAt_36 : decode cX12_shutAt 36 = .ok (.istore 5, 2) := by decide +kernel
theorem dX12_shutAt_38 : decode cX12_shutAt 38 = .ok (.iconst 0, 1) := by decide +kernel
theorem dX12_shutAt_39 : decode cX12_shutAt 39 = .ok (.istore 6, 2) := by decide +kernel
theorem dX12_shutAt_41 : decode cX12_shutAt 41 = .ok (.iload 6, 2) := by decide +kernel
theorem dX12_shutAt_43 : decode cX12_shutAt 43 = .ok (.bipush 8, 2) := by decide +kernel
theorem dX12_shutAt_45 : decode cX12_shutAt 45 = .ok (.if_icmp .ge 64, 3) := by decide +kernel
theorem dX12_shutAt_48 : decode cX12_shutAt 48 = .ok (.lload_n 2, 1) := by decide +kernel
theorem dX12_shutAt_49 : decode cX12_shutAt 49 = .ok (.aload_n 0, 1) := by decide +kernel
theorem dX12_shutAt_50 : decode cX12_shutAt 50 = .ok (.getfield 25, 3) := by decide +kernel
theorem dX12_shutAt_53 : decode cX12_shutAt 53 = .ok (.iload 4, 2) := by decide +kernel
theorem dX12_shutAt_55 : decode cX12_shutAt 55 = .ok (.iaload, 1) := by decide +kernel
theorem dX12_shutAt_56 : decode cX12_shutAt 56 = .ok (.i2l, 1) := by decide +kernel
theorem dX12_shutAt_57 : decode cX12_shutAt 57 = .ok (.aload_n 0, 1) := by decide +kernel
theorem dX12_shutAt_58 : decode cX12_shutAt 58 = .ok (.iload 4, 2) := by decide +kernel
theorem dX12_shutAt_60 : decode cX12_shutAt 60 = .ok (.iload 5, 2) := by decide +kernel
theorem dX12_shutAt_62 : decode cX12_shutAt 62 = .ok (.iload 6, 2) := by decide +kernel
theorem dX12_shutAt_64 : decode cX12_shutAt 64 = .ok (.iload_n 1, 1) := by decide +kernel
theorem dX12_shutAt_65 : decode cX12_shutAt 65 = .ok (.if_icmp .ne 7, 3) := by decide +kernel
theorem dX12_shutAt_68 : decode cX12_shutAt 68 = .ok (.iconst 1, 1) := by decide +kernel
theorem dX12_shutAt_69 : decode cX12_shutAt 69 = .ok (.goto 4, 3) := by decide +kernel
theorem dX12_shutAt_72 : decode cX12_shutAt 72 = .ok (.iconst 0, 1) := by decide +kernel
theorem dX12_shutAt_73 : decode cX12_shutAt 73 = .ok (.iload 6, 2) := by decide +kernel
theorem dX12_shutAt_75 : decode cX12_shutAt 75 = .ok (.invokevirtual 115, 3) := by decide +kernel
theorem dX12_shutAt_78 : decode cX12_shutAt 78 = .ok (.i2l, 1) := by decide +kernel
theorem dX12_shutAt_79 : decode cX12_shutAt 79 = .ok (.lmul, 1) := by decide +kernel
theorem dX12_shutAt_80 : decode cX12_shutAt 80 = .ok (.ladd, 1) := by decide +kernel
theorem dX12_shutAt_81 : decode cX12_shutAt 81 = .ok (.lstore_n 2, 1) := by decide +kernel
theorem dX12_shutAt_82 : decode cX12_shutAt 82 = .ok (.aload_n 0, 1) := by decide +kernel
theorem dX12_shutAt_83 : decode cX12_shutAt 83 = .ok (.iload 5, 2) := by decide +kernel
theorem dX12_shutAt_85 : decode cX12_shutAt 85 = .ok (.iload 6, 2) := by decide +kernel
theorem dX12_shutAt_87 : decode cX12_shutAt 87 = .ok (.iload_n 1, 1) := by decide +kernel
theorem dX12_shutAt_88 : decode cX12_shutAt 88 = .ok (.if_icmp .ne 7, 3) := by decide +kernel
theorem dX12_shutAt_91 : decode cX12_shutAt 91 = .ok (.iconst 1, 1) := by decide +kernel
theorem dX12_shutAt_92 : decode cX12_shutAt 92 = .ok (.goto 4, 3) := by decide +kernel
theorem dX12_shutAt_95 : decode cX12_shutAt 95 = .ok (.iconst 0, 1) := by decide +kernel
theorem dX12_shutAt_96 : decode cX12_shutAt 96 = .ok (.iload 6, 2) := by decide +kernel
theorem dX12_shutAt_98 : decode cX12_shutAt 98 = .ok (.invokevirtual 107, 3) := by decide +kernel
theorem dX12_shutAt_101 : decode cX12_shutAt 101 = .ok (.istore 5, 2) := by decide +kernel
theorem dX12_shutAt_103 : decode cX12_shutAt 103 = .ok (.iinc 6 1, 3) := by decide +kernel
theorem dX12_shutAt_106 : decode cX12_shutAt 106 = .ok (.goto (-65), 3) := by decide +kernel
theorem dX12_shutAt_109 : decode cX12_shutAt 109 = .ok (.iinc 4 1, 3) := by decide +kernel
theorem dX12_shutAt_112 : decode cX12_shutAt 112 = .ok (.goto (-86), 3) := by decide +kernel
theorem dX12_shutAt_115 : decode cX12_shutAt 115 = .ok (.lload_n 2, 1) := by decide +kernel
theorem dX12_shutAt_116 : decode cX12_shutAt 116 = .ok (.lreturn, 1) := by decide +kernel
theorem dX12_alarm_0 : decode cX12_alarm 0 = .ok (.aload_n 0, 1) := by decide +kernel
theorem dX12_alarm_1 : decode cX12_alarm 1 = .ok (.iconst 0, 1) := by decide +kernel
theorem dX12_alarm_2 : decode cX12_alarm 2 = .ok (.putfield 60, 3) := by decide +kernel
theorem dX12_alarm_5 : decode cX12_alarm 5 = .ok (.bipush 8, 2) := by decide +kernel
theorem dX12_alarm_7 : decode cX12_alarm 7 = .ok (.istore_n 1, 1) := by decide +kernel
theorem dX12_alarm_8 : decode cX12_alarm 8 = .ok (.iconst 0, 1) := by decide +kernel
theorem dX12_alarm_9 : decode cX12_alarm 9 = .ok (.istore_n 2, 1) := by decide +kernel
theorem dX12_alarm_10 : decode cX12_alarm 10 = .ok (.iload_n 2, 1) := by decide +kernel
theorem dX12_alarm_11 : decode cX12_alarm 11 = .ok (.bipush 8, 2) := by decide +kernel
theorem dX12_alarm_13 : decode cX12_alarm 13 = .ok (.aload_n 0, 1) := by decide +kernel
theorem dX12_alarm_14 : decode cX12_alarm 14 = .ok (.getfield 87, 3) := by decide +kernel
theorem dX12_alarm_17 : decode cX12_alarm 17 = .ok (.imul, 1) := by decide +kernel
theorem dX12_alarm_18 : decode cX12_alarm 18 = .ok (.if_icmp .ge 41, 3) := by decide +kernel
theorem dX12_alarm_21 : decode cX12_alarm 21 = .ok (.aload_n 0, 1) := by decide +kernel
theorem dX12_alarm_22 : decode cX12_alarm 22 = .ok (.getfield 28, 3) := by decide +kernel
theorem dX12_alarm_25 : decode cX12_alarm 25 = .ok (.iload_n 2, 1) := by decide +kernel
theorem dX12_alarm_26 : decode cX12_alarm 26 = .ok (.iaload, 1) := by decide +kernel
theorem dX12_alarm_27 : decode cX12_alarm 27 = .ok (.aload_n 0, 1) := by decide +kernel
theorem dX12_alarm_28 : decode cX12_alarm 28 = .ok (.getfield 7, 3) := by decide +kernel
theorem dX12_alarm_31 : decode cX12_alarm 31 = .ok (.iconst 2, 1) := by decide +kernel
theorem dX12_alarm_32 : decode cX12_alarm 32 = .ok (.iaload, 1) := by decide +kernel
theorem dX12_alarm_33 : decode cX12_alarm 33 = .ok (.if_icmp .le 18, 3) := by decide +kernel
theorem dX12_alarm_36 : decode cX12_alarm 36 = .ok (.iload_n 2, 1) := by decide +kernel
theorem dX12_alarm_37 : decode cX12_alarm 37 = .ok (.bipush 8, 2) := by decide +kernel
theorem dX12_alarm_39 : decode cX12_alarm 39 = .ok (.irem, 1) := by decide +kernel
theorem dX12_alarm_40 : decode cX12_alarm 40 = .ok (.iload_n 1, 1) := by decide +kernel
theorem dX12_alarm_41 : decode cX12_alarm 41 = .ok (.if_icmp .ge 10, 3) := by decide +kernel
theorem dX12_alarm_44 : decode cX12_alarm 44 = .ok (.iload_n 2, 1) := by decide +kernel
theorem dX12_alarm_45 : decode cX12_alarm 45 = .ok (.bipush 8, 2) := by decide +kernel
theorem dX12_alarm_47 : decode cX12_alarm 47 = .ok (.irem, 1) := by decide +kernel
theorem dX12_alarm_48 : decode cX12_alarm 48 = .ok (.goto 4, 3) := by decide +kernel
theorem dX12_alarm_51 : decode cX12_alarm 51 = .ok (.iload_n 1, 1) := by decide +kernel
theorem dX12_alarm_52 : decode cX12_alarm 52 = .ok (.istore_n 1, 1) := by decide +kernel
theorem dX12_alarm_53 : decode cX12_alarm 53 = .ok (.iinc 2 1, 3) := by decide +kernel
theorem dX12_alarm_56 : decode cX12_alarm 56 = .ok (.goto (-46), 3) := by decide +kernel
theorem dX12_alarm_59 : decode cX12_alarm 59 = .ok (.iload_n 1, 1) := by decide +kernel
theorem dX12_alarm_60 : decode cX12_alarm 60 = .ok (.bipush 8, 2) := by decide +kernel
theorem dX12_alarm_62 : decode cX12_alarm 62 = .ok (.if_icmp .ne 8, 3) := by decide +kernel
theorem dX12_alarm_65 : decode cX12_alarm 65 = .ok (.bipush 8, 2) := by decide +kernel
theorem dX12_alarm_67 : decode cX12_alarm 67 = .ok (.goto 26, 3) := by decide +kernel
theorem dX12_alarm_70 : decode cX12_alarm 70 = .ok (.iload_n 1, 1) := by decide +kernel
theorem dX12_alarm_71 : decode cX12_alarm 71 = .ok (.aload_n 0, 1) := by decide +kernel
theorem dX12_alarm_72 : decode cX12_alarm 72 = .ok (.getfield 7, 3) := by decide +kernel
theorem dX12_alarm_75 : decode cX12_alarm 75 = .ok (.iconst 0, 1) := by decide +kernel
theorem dX12_alarm_76 : decode cX12_alarm 76 = .ok (.iaload, 1) := by decide +kernel
theorem dX12_alarm_77 : decode cX12_alarm 77 = .ok (.if_icmp .ge 8, 3) := by decide +kernel
theorem dX12_alarm_80 : decode cX12_alarm 80 = .ok (.ldc 127, 2) := by decide +kernel
theorem dX12_alarm_82 : decode cX12_alarm 82 = .ok (.goto 11, 3) := by decide +kernel
theorem dX12_alarm_85 : decode cX12_alarm 85 = .ok (.iload_n 1, 1) := by decide +kernel
theorem dX12_alarm_86 : decode cX12_alarm 86 = .ok (.aload_n 0, 1) := by decide +kernel
theorem dX12_alarm_87 : decode cX12_alarm 87 = .ok (.getfield 7, 3) := by decide +kernel
theorem dX12_alarm_90 : decode cX12_alarm 90 = .ok (.iconst 0, 1) := by decide +kernel
theorem dX12_alarm_91 : decode cX12_alarm 91 = .ok (.iaload, 1) := by decide +kernel
theorem dX12_alarm_92 : decode cX12_alarm 92 = .ok (.isub, 1) := by decide +kernel
theorem dX12_alarm_93 : decode cX12_alarm 93 = .ok (.ireturn, 1) := by decide +kernel
set_option maxRecDepth 20000 in
theorem ggX12_groups_X12_in : GoodIn wsX12_groups wsX12_in := goodIn_r _ [8] (by decide +kernel) (by decide +kernel)
set_option maxRecDepth 20000 in
theorem gX12_groups_X12_in : GoodIn wsX12_groups (va_wsS RX12 70 yX12_in wsX12_in) := goodIn_app (goodIn_of _ (by decide +kernel)) ggX12_groups_X12_in
set_option maxRecDepth 20000 in
theorem ggX12_groups_X12_groupOf : GoodIn wsX12_groups wsX12_groupOf := goodIn_r _ [12, 13, 14, 15, 16, 17, 18, 19, 20, 21, 22, 23, 24, 25, 26, 27, 28, 29, 30, 31, 32, 33, 34, 35] (by decide +kernel) (by decide +kernel)
set_option maxRecDepth 20000 in
theorem gX12_groups_X12_groupOf : GoodIn wsX12_groups (wsV RX12 111 RX12 yX12_groupOf wsX12_groupOf) := goodIn_app (goodIn_of _ (by decide +kernel)) ggX12_groups_X12_groupOf
theorem dX12_groups_0 : decode cX12_groups 0 = .ok (.aload_n 0, 1) := by decide +kernel
theorem dX12_groups_1 : decode cX12_groups 1 = .ok (.iconst 0, 1) := by decide +kernel
theorem dX12_groups_2 : decode cX12_groups 2 = .ok (.putfield 60, 3) := by decide +kernel
theorem dX12_groups_5 : decode cX12_groups 5 = .ok (.iload_n 1, 1) := by decide +kernel
theorem dX12_groups_6 : decode cX12_groups 6 = .ok (.i2l, 1) := by decide +kernel
theorem dX12_groups_7 : decode cX12_groups 7 = .ok (.lconst 0, 1) := by decide +kernel
theorem dX12_groups_8 : decode cX12_groups 8 = .ok (.ldc2_w 68, 3) := by decide +kernel
theorem dX12_groups_11 : decode cX12_groups 11 = .ok (.invokestatic 70, 3) := by decide +kernel
theorem dX12_groups_14 : decode cX12_groups 14 = .ok (.ifCond .ne 6, 3) := by decide +kernel
theorem dX12_groups_17 : decode cX12_groups 17 = .ok (.ldc 80, 2) := by decide +kernel
theorem dX12_groups_19 : decode cX12_groups 19 = .ok (.ireturn, 1) := by decide +kernel
theorem dX12_groups_20 : decode cX12_groups 20 = .ok (.iconst 0, 1) := by decide +kernel
theorem dX12_groups_21 : decode cX12_groups 21 = .ok (.istore_n 2, 1) := by decide +kernel
theorem dX12_groups_22 : decode cX12_groups 22 = .ok (.iconst 0, 1) := by decide +kernel
theorem dX12_groups_23 : decode cX12_groups 23 = .ok (.istore_n 3, 1) := by decide +kernel
theorem dX12_groups_24 : decode cX12_groups 24 = .ok (.iload_n 3, 1) := by decide +kernel
theorem dX12_groups_25 : decode cX12_groups 25 = .ok (.aload_n 0, 1) := by decide +kernel
theorem dX12_groups_26 : decode cX12_groups 26 = .ok (.getfield 87, 3) := by decide +kernel
theorem dX12_groups_29 : decode cX12_groups 29 = .ok (.if_icmp .ge 27, 3) := by decide +kernel
theorem dX12_groups_32 : decode cX12_groups 32 = .ok (.iload_n 2, 1) := by decide +kernel
theorem dX12_groups_33 : decode cX12_groups 33 = .ok (.aload_n 0, 1) := by decide +kernel
theorem dX12_groups_34 : decode cX12_groups 34 = .ok (.iload_n 3, 1) := by decide +kernel
theorem dX12_groups_35 : decode cX12_groups 35 = .ok (.iload_n 1, 1) := by decide +kernel
theorem dX12_groups_36 : decode cX12_groups 36 = .ok (.invokevirtual 111, 3) := by decide +kernel
theorem dX12_groups_39 : decode cX12_groups 39 = .ok (.iload_n 3, 1) := by decide +kernel
theorem dX12_groups_40 : decode cX12_groups 40 = .ok (.if_icmp .ne 7, 3) := by decide +kernel
theorem dX12_groups_43 : decode cX12_groups 43 = .ok (.iconst 1, 1) := by decide +kernel
theorem dX12_groups_44 : decode cX12_groups 44 = .ok (.goto 4, 3) := by decide +kernel
theorem dX12_groups_47 : decode cX12_groups 47 = .ok (.iconst 0, 1) := by decide +kernel
theorem dX12_groups_48 : decode cX12_groups 48 = .ok (.iadd, 1) := by decide +kernel
theorem dX12_groups_49 : decode cX12_groups 49 = .ok (.istore_n 2, 1) := by decide +kernel
theorem dX12_groups_50 : decode cX12_groups 50 = .ok (.iinc 3 1, 3) := by decide +kernel
theorem dX12_groups_53 : decode cX12_groups 53 = .ok (.goto (-29), 3) := by decide +kernel
theorem dX12_groups_56 : decode cX12_groups 56 = .ok (.iload_n 2, 1) := by decide +kernel
theorem dX12_groups_57 : decode cX12_groups 57 = .ok (.ireturn, 1) := by decide +kernel
set_option maxRecDepth 20000 in
theorem ggX12_isGate_X12_in : GoodIn wsX12_isGate wsX12_in := goodIn_r _ [5] (by decide +kernel) (by decide +kernel)
set_option maxRecDepth 20000 in
theorem gX12_isGate_X12_in : GoodIn wsX12_isGate (va_wsS RX12 70 yX12_in wsX12_in) := goodIn_app (goodIn_of _ (by decide +kernel)) ggX12_isGate_X12_in
theorem dX12_isGate_0 : decode cX12_isGate 0 = .ok (.iload_n 1, 1) := by decide +kernel
theorem dX12_isGate_1 : decode cX12_isGate 1 = .ok (.i2l, 1) := by decide +kernel
theorem dX12_isGate_2 : decode cX12_isGate 2 = .ok (.lconst 0, 1) := by decide +kernel
theorem dX12_isGate_3 : decode cX12_isGate 3 = .ok (.aload_n 0, 1) := by decide +kernel
theorem dX12_isGate_4 : decode cX12_isGate 4 = .ok (.getfield 128, 3) := by decide +kernel
theorem dX12_isGate_7 : decode cX12_isGate 7 = .ok (.iconst 1, 1) := by decide +kernel
theorem dX12_isGate_8 : decode cX12_isGate 8 = .ok (.isub, 1) := by decide +kernel
theorem dX12_isGate_9 : decode cX12_isGate 9 = .ok (.i2l, 1) := by decide +kernel
theorem dX12_isGate_10 : decode cX12_isGate 10 = .ok (.invokestatic 70, 3) := by decide +kernel
theorem dX12_isGate_13 : decode cX12_isGate 13 = .ok (.ireturn, 1) := by decide +kernel
set_option maxRecDepth 20000 in
theorem ggX12_gate_X12_in : GoodIn wsX12_gate wsX12_in := goodIn_r _ [12] (by decide +kernel) (by decide +kernel)
set_option maxRecDepth 20000 in
theorem gX12_gate_X12_in : GoodIn wsX12_gate (va_wsS RX12 70 yX12_in wsX12_in) := goodIn_app (goodIn_of _ (by decide +kernel)) ggX12_gate_X12_in
theorem dX12_gate_0 : decode cX12_gate 0 = .ok (.aload_n 0, 1) := by decide +kernel
theorem dX12_gate_1 : decode cX12_gate 1 = .ok (.iconst 0, 1) := by decide +kernel
theorem dX12_gate_2 : decode cX12_gate 2 = .ok (.putfield 60, 3) := by decide +kernel
theorem dX12_gate_5 : decode cX12_gate 5 = .ok (.iload_n 1, 1) := by decide +kernel
theorem dX12_gate_6 : decode cX12_gate 6 = .ok (.i2l, 1) := by decide +kernel
theorem dX12_gate_7 : decode cX12_gate 7 = .ok (.lconst 1, 1) := by decide +kernel
theorem dX12_gate_8 : decode cX12_gate 8 = .ok (.ldc2_w 131, 3) := by decide +kernel
theorem dX12_gate_11 : decode cX12_gate 11 = .ok (.invokestatic 70, 3) := by decide +kernel
theorem dX12_gate_14 : decode cX12_gate 14 = .ok (.ifCond .eq 15, 3) := by decide +kernel
theorem dX12_gate_17 : decode cX12_gate 17 = .ok (.iload_n 2, 1) := by decide +kernel
theorem dX12_gate_18 : decode cX12_gate 18 = .ok (.i2l, 1) := by decide +kernel
theorem dX12_gate_19 : decode cX12_gate 19 = .ok (.lconst 0, 1) := by decide +kernel
theorem dX12_gate_20 : decode cX12_gate 20 = .ok (.ldc2_w 133, 3) := by decide +kernel
theorem dX12_gate_23 : decode cX12_gate 23 = .ok (.invokestatic 70, 3) := by decide +kernel
theorem dX12_gate_26 : decode cX12_gate 26 = .ok (.ifCond .ne 6, 3) := by decide +kernel
theorem dX12_gate_29 : decode cX12_gate 29 = .ok (.ldc 80, 2) := by decide +kernel
theorem dX12_gate_31 : decode cX12_gate 31 = .ok (.ireturn, 1) := by decide +kernel
theorem dX12_gate_32 : decode cX12_gate 32 = .ok (.aload_n 0, 1) := by decide +kernel
theorem dX12_gate_33 : decode cX12_gate 33 = .ok (.getfield 128, 3) := by decide +kernel
theorem dX12_gate_36 : decode cX12_gate 36 = .ok (.bipush 6, 2) := by decide +kernel
theorem dX12_gate_38 : decode cX12_gate 38 = .ok (.if_icmp .ne 6, 3) := by decide +kernel
theorem dX12_gate_41 : decode cX12_gate 41 = .ok (.ldc 90, 2) := by decide +kernel
theorem dX12_gate_43 : decode cX12_gate 43 = .ok (.ireturn, 1) := by decide +kernel
theorem dX12_gate_44 : decode cX12_gate 44 = .ok (.aload_n 0, 1) := by decide +kernel
theorem dX12_gate_45 : decode cX12_gate 45 = .ok (.getfield 39, 3) := by decide +kernel
theorem dX12_gate_48 : decode cX12_gate 48 = .ok (.aload_n 0, 1) := by decide +kernel
theorem dX12_gate_49 : decode cX12_gate 49 = .ok (.getfield 128, 3) := by decide +kernel
theorem dX12_gate_52 : decode cX12_gate 52 = .ok (.iload_n 1, 1) := by decide +kernel
theorem dX12_gate_53 : decode cX12_gate 53 = .ok (.iastore, 1) := by decide +kernel
theorem dX12_gate_54 : decode cX12_gate 54 = .ok (.aload_n 0, 1) := by decide +kernel
theorem dX12_gate_55 : decode cX12_gate 55 = .ok (.getfield 42, 3) := by decide +kernel
theorem dX12_gate_58 : decode cX12_gate 58 = .ok (.aload_n 0, 1) := by decide +kernel
theorem dX12_gate_59 : decode cX12_gate 59 = .ok (.getfield 128, 3) := by decide +kernel
theorem dX12_gate_62 : decode cX12_gate 62 = .ok (.iload_n 2, 1) := by decide +kernel
theorem dX12_gate_63 : decode cX12_gate 63 = .ok (.iastore, 1) := by decide +kernel
theorem dX12_gate_64 : decode cX12_gate 64 = .ok (.aload_n 0, 1) := by decide +kernel
theorem dX12_gate_65 : decode cX12_gate 65 = .ok (.dup, 1) := by decide +kernel
theorem dX12_gate_66 : decode cX12_gate 66 = .ok (.getfield 128, 3) := by decide +kernel
theorem dX12_gate_69 : decode cX12_gate 69 = .ok (.iconst 1, 1) := by decide +kernel
theorem dX12_gate_70 : decode cX12_gate 70 = .ok (.iadd, 1) := by decide +kernel
theorem dX12_gate_71 : decode cX12_gate 71 = .ok (.putfield 128, 3) := by decide +kernel
theorem dX12_gate_74 : decode cX12_gate 74 = .ok (.aload_n 0, 1) := by decide +kernel
theorem dX12_gate_75 : decode cX12_gate 75 = .ok (.getfield 128, 3) := by decide +kernel
theorem dX12_gate_78 : decode cX12_gate 78 = .ok (.iconst 1, 1) := by decide +kernel
theorem dX12_gate_79 : decode cX12_gate 79 = .ok (.isub, 1) := by decide +kernel
theorem dX12_gate_80 : decode cX12_gate 80 = .ok (.ireturn, 1) := by decide +kernel
set_option maxRecDepth 20000 in
theorem ggX12_fail_X12_isGate : GoodIn wsX12_fail wsX12_isGate := goodIn_r _ [8, 9, 10, 11, 7, 12, 13, 14, 15, 16, 17, 18, 19, 20, 21, 22, 23, 24, 25, 26, 27, 28, 29, 30, 31, 32, 33, 34] (by decide +kernel) (by decide +kernel)
set_option maxRecDepth 20000 in
theorem gX12_fail_X12_isGate : GoodIn wsX12_fail (wsV RX12 135 RX12 yX12_isGate wsX12_isGate) := goodIn_app (goodIn_of _ (by decide +kernel)) ggX12_fail_X12_isGate
theorem dX12_fail_0 : decode cX12_fail 0 = .ok (.aload_n 0, 1) := by decide +kernel
theorem dX12_fail_1 : decode cX12_fail 1 = .ok (.iconst 0, 1) := by decide +kernel
theorem dX12_fail_2 : decode cX12_fail 2 = .ok (.putfield 60, 3) := by decide +kernel
theorem dX12_fail_5 : decode cX12_fail 5 = .ok (.aload_n 0, 1) := by decide +kernel
theorem dX12_fail_6 : decode cX12_fail 6 = .ok (.iload_n 1, 1) := by decide +kernel
theorem dX12_fail_7 : decode cX12_fail 7 = .ok (.invokevirtual 135, 3) := by decide +kernel
theorem dX12_fail_10 : decode cX12_fail 10 = .ok (.ifCond .ne 6, 3) := by decide +kernel
theorem dX12_fail_13 : decode cX12_fail 13 = .ok (.ldc 80, 2) := by decide +kernel
theorem dX12_fail_15 : decode cX12_fail 15 = .ok (.ireturn, 1) := by decide +kernel
theorem dX12_fail_16 : decode cX12_fail 16 = .ok (.aload_n 0, 1) := by decide +kernel
theorem dX12_fail_17 : decode cX12_fail 17 = .ok (.getfield 45, 3) := by decide +kernel
theorem dX12_fail_20 : decode cX12_fail 20 = .ok (.iload_n 1, 1) := by decide +kernel
theorem dX12_fail_21 : decode cX12_fail 21 = .ok (.baload, 1) := by decide +kernel
theorem dX12_fail_22 : decode cX12_fail 22 = .ok (.istore_n 2, 1) := by decide +kernel
theorem dX12_fail_23 : decode cX12_fail 23 = .ok (.aload_n 0, 1) := by decide +kernel
theorem dX12_fail_24 : decode cX12_fail 24 = .ok (.getfield 45, 3) := by decide +kernel
theorem dX12_fail_27 : decode cX12_fail 27 = .ok (.iload_n 1, 1) := by decide +kernel
theorem dX12_fail_28 : decode cX12_fail 28 = .ok (.iconst 1, 1) := by decide +kernel
theorem dX12_fail_29 : decode cX12_fail 29 = .ok (.bastore, 1) := by decide +kernel
theorem dX12_fail_30 : decode cX12_fail 30 = .ok (.iload_n 2, 1) := by decide +kernel
theorem dX12_fail_31 : decode cX12_fail 31 = .ok (.ifCond .eq 7, 3) := by decide +kernel
theorem dX12_fail_34 : decode cX12_fail 34 = .ok (.iconst 0, 1) := by decide +kernel
theorem dX12_fail_35 : decode cX12_fail 35 = .ok (.goto 4, 3) := by decide +kernel
theorem dX12_fail_38 : decode cX12_fail 38 = .ok (.iconst 1, 1) := by decide +kernel
theorem dX12_fail_39 : decode cX12_fail 39 = .ok (.ireturn, 1) := by decide +kernel
set_option maxRecDepth 20000 in
theorem ggX12_mend_X12_isGate : GoodIn wsX12_mend wsX12_isGate := goodIn_r _ [8, 9, 10, 11, 7, 12, 13, 14, 15, 16, 17, 18, 19, 20, 21, 22, 23, 24, 25, 26, 27, 28, 29, 30, 31, 32, 33, 34] (by decide +kernel) (by decide +kernel)
set_option maxRecDepth 20000 in
theorem gX12_mend_X12_isGate : GoodIn wsX12_mend (wsV RX12 135 RX12 yX12_isGate wsX12_isGate) := goodIn_app (goodIn_of _ (by decide +kernel)) ggX12_mend_X12_isGate
theorem dX12_mend_0 : decode cX12_mend 0 = .ok (.aload_n 0, 1) := by decide +kernel
theorem dX12_mend_1 : decode cX12_mend 1 = .ok (.iconst 0, 1) := by decide +kernel
theorem dX12_mend_2 : decode cX12_mend 2 = .ok (.putfield 60, 3) := by decide +kernel
theorem dX12_mend_5 : decode cX12_mend 5 = .ok (.aload_n 0, 1) := by decide +kernel
theorem dX12_mend_6 : decode cX12_mend 6 = .ok (.iload_n 1, 1) := by decide +kernel
theorem dX12_mend_7 : decode cX12_mend 7 = .ok (.invokevirtual 135, 3) := by decide +kernel
theorem dX12_mend_10 : decode cX12_mend 10 = .ok (.ifCond .ne 6, 3) := by decide +kernel
theorem dX12_mend_13 : decode cX12_mend 13 = .ok (.ldc 80, 2) := by decide +kernel
theorem dX12_mend_15 : decode cX12_mend 15 = .ok (.ireturn, 1) := by decide +kernel
theorem dX12_mend_16 : decode cX12_mend 16 = .ok (.aload_n 0, 1) := by decide +kernel
theorem dX12_mend_17 : decode cX12_mend 17 = .ok (.getfield 45, 3) := by decide +kernel
theorem dX12_mend_20 : decode cX12_mend 20 = .ok (.iload_n 1, 1) := by decide +kernel
theorem dX12_mend_21 : decode cX12_mend 21 = .ok (.baload, 1) := by decide +kernel
theorem dX12_mend_22 : decode cX12_mend 22 = .ok (.istore_n 2, 1) := by decide +kernel
theorem dX12_mend_23 : decode cX12_mend 23 = .ok (.aload_n 0, 1) := by decide +kernel
theorem dX12_mend_24 : decode cX12_mend 24 = .ok (.getfield 45, 3) := by decide +kernel
theorem dX12_mend_27 : decode cX12_mend 27 = .ok (.iload_n 1, 1) := by decide +kernel
theorem dX12_mend_28 : decode cX12_mend 28 = .ok (.iconst 0, 1) := by decide +kernel
theorem dX12_mend_29 : decode cX12_mend 29 = .ok (.bastore, 1) := by decide +kernel
theorem dX12_mend_30 : decode cX12_mend 30 = .ok (.iload_n 2, 1) := by decide +kernel
theorem dX12_mend_31 : decode cX12_mend 31 = .ok (.ifCond .eq 7, 3) := by decide +kernel
theorem dX12_mend_34 : decode cX12_mend 34 = .ok (.iconst 1, 1) := by decide +kernel
theorem dX12_mend_35 : decode cX12_mend 35 = .ok (.goto 4, 3) := by decide +kernel
theorem dX12_mend_38 : decode cX12_mend 38 = .ok (.iconst 0, 1) := by decide +kernel
theorem dX12_mend_39 : decode cX12_mend 39 = .ok (.ireturn, 1) := by decide +kernel
theorem dX12_timeBy_0 : decode cX12_timeBy 0 = .ok (.iconst 0, 1) := by decide +kernel
theorem dX12_timeBy_1 : decode cX12_timeBy 1 = .ok (.istore_n 3, 1) := by decide +kernel
theorem dX12_timeBy_2 : decode cX12_timeBy 2 = .ok (.iload_n 3, 1) := by decide +kernel
theorem dX12_timeBy_3 : decode cX12_timeBy 3 = .ok (.iconst 3, 1) := by decide +kernel
theorem dX12_timeBy_4 : decode cX12_timeBy 4 = .ok (.if_icmp .ge 16, 3) := by decide +kernel
theorem dX12_timeBy_7 : decode cX12_timeBy 7 = .ok (.aload_n 0, 1) := by decide +kernel
theorem dX12_timeBy_8 : decode cX12_timeBy 8 = .ok (.getfield 48, 3) := by decide +kernel
theorem dX12_timeBy_11 : decode cX12_timeBy 11 = .ok (.iload_n 3, 1) := by decide +kernel
theorem dX12_timeBy_12 : decode cX12_timeBy 12 = .ok (.iconst 0, 1) := by decide +kernel
theorem dX12_timeBy_13 : decode cX12_timeBy 13 = .ok (.iastore, 1) := by decide +kernel
theorem dX12_timeBy_14 : decode cX12_timeBy 14 = .ok (.iinc 3 1, 3) := by decide +kernel
theorem dX12_timeBy_17 : decode cX12_timeBy 17 = .ok (.goto (-15), 3) := by decide +kernel
theorem dX12_timeBy_20 : decode cX12_timeBy 20 = .ok (.iconst 0, 1) := by decide +kernel
theorem dX12_timeBy_21 : decode cX12_timeBy 21 = .ok (.istore_n 3, 1) := by decide +kernel
theorem dX12_timeBy_22 : decode cX12_timeBy 22 = .ok (.iconst 0, 1) := by decide +kernel
theorem dX12_timeBy_23 : decode cX12_timeBy 23 = .ok (.istore 4, 2) := by decide +kernel
theorem dX12_timeBy_25 : decode cX12_timeBy 25 = .ok (.iload 4, 2) := by decide +kernel
theorem dX12_timeBy_27 : decode cX12_timeBy 27 = .ok (.aload_n 0, 1) := by decide +kernel
theorem dX12_timeBy_28 : decode cX12_timeBy 28 = .ok (.getfield 128, 3) := by decide +kernel
theorem dX12_timeBy_31 : decode cX12_timeBy 31 = .ok (.if_icmp .ge 148, 3) := by decide +kernel
theorem dX12_timeBy_34 : decode cX12_timeBy 34 = .ok (.aload_n 0, 1) := by decide +kernel
theorem dX12_timeBy_35 : decode cX12_timeBy 35 = .ok (.getfield 45, 3) := by decide +kernel
theorem dX12_timeBy_38 : decode cX12_timeBy 38 = .ok (.iload 4, 2) := by decide +kernel
theorem dX12_timeBy_40 : decode cX12_timeBy 40 = .ok (.baload, 1) := by decide +kernel
theorem dX12_timeBy_41 : decode cX12_timeBy 41 = .ok (.ifCond .ne 9, 3) := by decide +kernel
theorem dX12_timeBy_44 : decode cX12_timeBy 44 = .ok (.iload 4, 2) := by decide +kernel
theorem dX12_timeBy_46 : decode cX12_timeBy 46 = .ok (.iload_n 2, 1) := by decide +kernel
theorem dX12_timeBy_47 : decode cX12_timeBy 47 = .ok (.if_icmp .ne 103, 3) := by decide +kernel
theorem dX12_timeBy_50 : decode cX12_timeBy 50 = .ok (.aload_n 0, 1) := by decide +kernel
theorem dX12_timeBy_51 : decode cX12_timeBy 51 = .ok (.getfield 42, 3) := by decide +kernel
theorem dX12_timeBy_54 : decode cX12_timeBy 54 = .ok (.iload 4, 2) := by decide +kernel
theorem dX12_timeBy_56 : decode cX12_timeBy 56 = .ok (.iaload, 1) := by decide +kernel
theorem dX12_timeBy_57 : decode cX12_timeBy 57 = .ok (.ifCond .ne 6, 3) := by decide +kernel
theorem dX12_timeBy_60 : decode cX12_timeBy 60 = .ok (.ldc 127, 2) := by decide +kernel
theorem dX12_timeBy_62 : decode cX12_timeBy 62 = .ok (.ireturn, 1) := by decide +kernel
theorem dX12_timeBy_63 : decode cX12_timeBy 63 = .ok (.iconst 0, 1) := by decide +kernel
theorem dX12_timeBy_64 : decode cX12_timeBy 64 = .ok (.istore 5, 2) := by decide +kernel
theorem dX12_timeBy_66 : decode cX12_timeBy 66 = .ok (.iconst 1, 1) := by decide +kernel
theorem dX12_timeBy_67 : decode cX12_timeBy 67 = .ok (.istore 6, 2) := by decide +kernel
theorem dX12_timeBy_69 : decode cX12_timeBy 69 = .ok (.iload 6, 2) := by decide +kernel
theorem dX12_timeBy_71 : decode cX12_timeBy 71 = .ok (.iload_n 1, 1) := by decide +kernel
theorem dX12_timeBy_72 : decode cX12_timeBy 72 = .ok (.if_icmp .ge 35, 3) := by decide +kernel
theorem dX12_timeBy_75 : decode cX12_timeBy 75 = .ok (.aload_n 0, 1) := by decide +kernel
theorem dX12_timeBy_76 : decode cX12_timeBy 76 = .ok (.getfield 48, 3) := by decide +kernel
theorem dX12_timeBy_79 : decode cX12_timeBy 79 = .ok (.iload 6, 2) := by decide +kernel
theorem dX12_timeBy_81 : decode cX12_timeBy 81 = .ok (.iaload, 1) := by decide +kernel
theorem dX12_timeBy_82 : decode cX12_timeBy 82 = .ok (.aload_n 0, 1) := by decide +kernel
theorem dX12_timeBy_83 : decode cX12_timeBy 83 = .ok (.getfield 48, 3) := by decide +kernel
theorem dX12_timeBy_86 : decode cX12_timeBy 86 = .ok (.iload 5, 2) := by decide +kernel
theorem dX12_timeBy_88 : decode cX12_timeBy 88 = .ok (.iaload, 1) := by decide +kernel
theorem dX12_timeBy_89 : decode cX12_timeBy 89 = .ok (.if_icmp .ge 8, 3) := by decide +kernel
theorem dX12_timeBy_92 : decode cX12_timeBy 92 = .ok (.iload 6, 2) := by decide +kernel
theorem dX12_timeBy_94 : decode cX12_timeBy 94 = .ok (.goto 5, 3) := by decide +kernel
theorem dX12_timeBy_97 : decode cX12_timeBy 97 = .ok (.iload 5, 2) := by decide +kernel
theorem dX12_timeBy_99 : decode cX12_timeBy 99 = .ok (.istore 5, 2) := by decide +kernel
theorem dX12_timeBy_101 : decode cX12_timeBy 101 = .ok (.iinc 6 1, 3) := by decide +kernel
theorem dX12_timeBy_104 : decode cX12_timeBy 104 = .ok (.goto (-35), 3) := by decide +kernel
theorem dX12_timeBy_107 : decode cX12_timeBy 107 = .ok (.aload_n 0, 1) := by decide +kernel
theorem dX12_timeBy_108 : decode cX12_timeBy 108 = .ok (.getfield 48, 3) := by decide +kernel
theorem dX12_timeBy_111 : decode cX12_timeBy 111 = .ok (.iload 5, 2) := by decide +kernel
theorem dX12_timeBy_113 : decode cX12_timeBy 113 = .ok (.dup2, 1) := by decide +kernel
theorem dX12_timeBy_114 : decode cX12_timeBy 114 = .ok (.iaload, 1) := by decide +kernel
theorem dX12_timeBy_115 : decode cX12_timeBy 115 = .ok (.aload_n 0, 1) := by decide +kernel
theorem dX12_timeBy_116 : decode cX12_timeBy 116 = .ok (.getfield 42, 3) := by decide +kernel
theorem dX12_timeBy_119 : decode cX12_timeBy 119 = .ok (.iload 4, 2) := by decide +kernel
theorem dX12_timeBy_121 : decode cX12_timeBy 121 = .ok (.iaload, 1) := by decide +kernel
theorem dX12_timeBy_122 : decode cX12_timeBy 122 = .ok (.iadd, 1) := by decide +kernel
theorem dX12_timeBy_123 : decode cX12_timeBy 123 = .ok (.iastore, 1) := by decide +kernel
theorem dX12_timeBy_124 : decode cX12_timeBy 124 = .ok (.aload_n 0, 1) := by decide +kernel
theorem dX12_timeBy_125 : decode cX12_timeBy 125 = .ok (.getfield 48, 3) := by decide +kernel
theorem dX12_timeBy_128 : decode cX12_timeBy 128 = .ok (.iload 5, 2) := by decide +kernel
theorem dX12_timeBy_130 : decode cX12_timeBy 130 = .ok (.iaload, 1) := by decide +kernel
theorem dX12_timeBy_131 : decode cX12_timeBy 131 = .ok (.iload_n 3, 1) := by decide +kernel
theorem dX12_timeBy_132 : decode cX12_timeBy 132 = .ok (.if_icmp .le 13, 3) := by decide +kernel
theorem dX12_timeBy_135 : decode cX12_timeBy 135 = .ok (.aload_n 0, 1) := by decide +kernel
theorem dX12_timeBy_136 : decode cX12_timeBy 136 = .ok (.getfield 48, 3) := by decide +kernel
theorem dX12_timeBy_139 : decode cX12_timeBy 139 = .ok (.iload 5, 2) := by decide +kernel
theorem dX12_timeBy_141 : decode cX12_timeBy 141 = .ok (.iaload, 1) := by decide +kernel
theorem dX12_timeBy_142 : decode cX12_timeBy 142 = .ok (.goto 4, 3) := by decide +kernel
theorem dX12_timeBy_145 : decode cX12_timeBy 145 = .ok (.iload_n 3, 1) := by decide +kernel
theorem dX12_timeBy_146 : decode cX12_timeBy 146 = .ok (.istore_n 3, 1) := by decide +kernel
theorem dX12_timeBy_147 : decode cX12_timeBy 147 = .ok (.goto 26, 3) := by decide +kernel
theorem dX12_timeBy_150 : decode cX12_timeBy 150 = .ok (.aload_n 0, 1) := by decide +kernel
theorem dX12_timeBy_151 : decode cX12_timeBy 151 = .ok (.getfield 39, 3) := by decide +kernel
theorem dX12_timeBy_154 : decode cX12_timeBy 154 = .ok (.iload 4, 2) := by decide +kernel
theorem dX12_timeBy_156 : decode cX12_timeBy 156 = .ok (.iaload, 1) := by decide +kernel
theorem dX12_timeBy_157 : decode cX12_timeBy 157 = .ok (.iload_n 3, 1) := by decide +kernel
theorem dX12_timeBy_158 : decode cX12_timeBy 158 = .ok (.if_icmp .le 13, 3) := by decide +kernel
theorem dX12_timeBy_161 : decode cX12_timeBy 161 = .ok (.aload_n 0, 1) := by decide +kernel
theorem dX12_timeBy_162 : decode cX12_timeBy 162 = .ok (.getfield 39, 3) := by decide +kernel
theorem dX12_timeBy_165 : decode cX12_timeBy 165 = .ok (.iload 4, 2) := by decide +kernel
theorem dX12_timeBy_167 : decode cX12_timeBy 167 = .ok (.iaload, 1) := by decide +kernel
theorem dX12_timeBy_168 : decode cX12_timeBy 168 = .ok (.goto 4, 3) := by decide +kernel
theorem dX12_timeBy_171 : decode cX12_timeBy 171 = .ok (.iload_n 3, 1) := by decide +kernel
theorem dX12_timeBy_172 : decode cX12_timeBy 172 = .ok (.istore_n 3, 1) := by decide +kernel
theorem dX12_timeBy_173 : decode cX12_timeBy 173 = .ok (.iinc 4 1, 3) := by decide +kernel
theorem dX12_timeBy_176 : decode cX12_timeBy 176 = .ok (.goto (-151), 3) := by decide +kernel
theorem dX12_timeBy_179 : decode cX12_timeBy 179 = .ok (.iload_n 3, 1) := by decide +kernel
theorem dX12_timeBy_180 : decode cX12_timeBy 180 = .ok (.ireturn, 1) := by decide +kernel
set_option maxRecDepth 20000 in
theorem ggX12_time_X12_in : GoodIn wsX12_time wsX12_in := goodIn_r _ [10] (by decide +kernel) (by decide +kernel)
set_option maxRecDepth 20000 in
theorem gX12_time_X12_in : GoodIn wsX12_time (va_wsS RX12 70 yX12_in wsX12_in) := goodIn_app (goodIn_of _ (by decide +kernel)) ggX12_time_X12_in
set_option maxRecDepth 20000 in
theorem ggX12_time_X12_timeBy : GoodIn wsX12_time wsX12_timeBy := goodIn_r _ [14, 15, 5, 6, 16, 4, 17, 18, 19, 20, 21, 22, 23, 24, 25, 26, 27, 28, 29, 30, 31, 32, 33, 34, 35, 36, 37, 38, 39] (by decide +kernel) (by decide +kernel)
set_option maxRecDepth 20000 in
theorem gX12_time_X12_timeBy : GoodIn wsX12_time (wsV RX12 138 RX12 yX12_timeBy wsX12_timeBy) := goodIn_app (goodIn_of _ (by decide +kernel)) ggX12_time_X12_timeBy
theorem dX12_time_0 : decode cX12_time 0 = .ok (.aload_n 0, 1) := by decide +kernel
theorem dX12_time_1 : decode cX12_time 1 = .ok (.iconst 0, 1) := by decide +kernel
theorem dX12_time_2 : decode cX12_time 2 = .ok (.putfield 60, 3) := by decide +kernel
theorem dX12_time_5 : decode cX12_time 5 = .ok (.iload_n 1, 1) := by decide +kernel
theorem dX12_time_6 : decode cX12_time 6 = .ok (.i2l, 1) := by decide +kernel
theorem dX12_time_7 : decode cX12_time 7 = .ok (.lconst 1, 1) := by decide +kernel
theorem dX12_time_8 : decode cX12_time 8 = .ok (.ldc2_w 97, 3) := by decide +kernel
theorem dX12_time_11 : decode cX12_time 11 = .ok (.invokestatic 70, 3) := by decide +kernel
theorem dX12_time_14 : decode cX12_time 14 = .ok (.ifCond .eq 13, 3) := by decide +kernel
theorem dX12_time_17 : decode cX12_time 17 = .ok (.iload_n 2, 1) := by decide +kernel
theorem dX12_time_18 : decode cX12_time 18 = .ok (.i2l, 1) := by decide +kernel
theorem dX12_time_19 : decode cX12_time 19 = .ok (.lconst 0, 1) := by decide +kernel
theorem dX12_time_20 : decode cX12_time 20 = .ok (.lconst 1, 1) := by decide +kernel
theorem dX12_time_21 : decode cX12_time 21 = .ok (.invokestatic 70, 3) := by decide +kernel
theorem dX12_time_24 : decode cX12_time 24 = .ok (.ifCond .ne 6, 3) := by decide +kernel
theorem dX12_time_27 : decode cX12_time 27 = .ok (.ldc 80, 2) := by decide +kernel
theorem dX12_time_29 : decode cX12_time 29 = .ok (.ireturn, 1) := by decide +kernel
theorem dX12_time_30 : decode cX12_time 30 = .ok (.ldc 127, 2) := by decide +kernel
theorem dX12_time_32 : decode cX12_time 32 = .ok (.istore_n 3, 1) := by decide +kernel
theorem dX12_time_33 : decode cX12_time 33 = .ok (.iconst 0, 1) := by decide +kernel
theorem dX12_time_34 : decode cX12_time 34 = .ok (.istore 4, 2) := by decide +kernel
theorem dX12_time_36 : decode cX12_time 36 = .ok (.iconst 0, 1) := by decide +kernel
theorem dX12_time_37 : decode cX12_time 37 = .ok (.istore 5, 2) := by decide +kernel
theorem dX12_time_39 : decode cX12_time 39 = .ok (.iload 5, 2) := by decide +kernel
theorem dX12_time_41 : decode cX12_time 41 = .ok (.aload_n 0, 1) := by decide +kernel
theorem dX12_time_42 : decode cX12_time 42 = .ok (.getfield 128, 3) := by decide +kernel
theorem dX12_time_45 : decode cX12_time 45 = .ok (.if_icmp .ge 59, 3) := by decide +kernel
theorem dX12_time_48 : decode cX12_time 48 = .ok (.iload_n 2, 1) := by decide +kernel
theorem dX12_time_49 : decode cX12_time 49 = .ok (.iconst 1, 1) := by decide +kernel
theorem dX12_time_50 : decode cX12_time 50 = .ok (.if_icmp .ne 54, 3) := by decide +kernel
theorem dX12_time_53 : decode cX12_time 53 = .ok (.aload_n 0, 1) := by decide +kernel
theorem dX12_time_54 : decode cX12_time 54 = .ok (.getfield 45, 3) := by decide +kernel
theorem dX12_time_57 : decode cX12_time 57 = .ok (.iload 5, 2) := by decide +kernel
theorem dX12_time_59 : decode cX12_time 59 = .ok (.baload, 1) := by decide +kernel
theorem dX12_time_60 : decode cX12_time 60 = .ok (.ifCond .ne 38, 3) := by decide +kernel
theorem dX12_time_63 : decode cX12_time 63 = .ok (.aload_n 0, 1) := by decide +kernel
theorem dX12_time_64 : decode cX12_time 64 = .ok (.iload_n 1, 1) := by decide +kernel
theorem dX12_time_65 : decode cX12_time 65 = .ok (.iload 5, 2) := by decide +kernel
theorem dX12_time_67 : decode cX12_time 67 = .ok (.invokevirtual 138, 3) := by decide +kernel
theorem dX12_time_70 : decode cX12_time 70 = .ok (.istore 6, 2) := by decide +kernel
theorem dX12_time_72 : decode cX12_time 72 = .ok (.iload 6, 2) := by decide +kernel
theorem dX12_time_74 : decode cX12_time 74 = .ok (.ldc 127, 2) := by decide +kernel
theorem dX12_time_76 : decode cX12_time 76 = .ok (.if_icmp .ne 6, 3) := by decide +kernel
theorem dX12_time_79 : decode cX12_time 79 = .ok (.ldc 127, 2) := by decide +kernel
theorem dX12_time_81 : decode cX12_time 81 = .ok (.ireturn, 1) := by decide +kernel
theorem dX12_time_82 : decode cX12_time 82 = .ok (.iload 6, 2) := by decide +kernel
theorem dX12_time_84 : decode cX12_time 84 = .ok (.iload_n 3, 1) := by decide +kernel
theorem dX12_time_85 : decode cX12_time 85 = .ok (.if_icmp .le 8, 3) := by decide +kernel
theorem dX12_time_88 : decode cX12_time 88 = .ok (.iload 6, 2) := by decide +kernel
theorem dX12_time_90 : decode cX12_time 90 = .ok (.goto 4, 3) := by decide +kernel
theorem dX12_time_93 : decode cX12_time 93 = .ok (.iload_n 3, 1) := by decide +kernel
theorem dX12_time_94 : decode cX12_time 94 = .ok (.istore_n 3, 1) := by decide +kernel
theorem dX12_time_95 : decode cX12_time 95 = .ok (.iconst 1, 1) := by decide +kernel
theorem dX12_time_96 : decode cX12_time 96 = .ok (.istore 4, 2) := by decide +kernel
theorem dX12_time_98 : decode cX12_time 98 = .ok (.iinc 5 1, 3) := by decide +kernel
theorem dX12_time_101 : decode cX12_time 101 = .ok (.goto (-62), 3) := by decide +kernel
theorem dX12_time_104 : decode cX12_time 104 = .ok (.iload 4, 2) := by decide +kernel
theorem dX12_time_106 : decode cX12_time 106 = .ok (.ifCond .eq 7, 3) := by decide +kernel
theorem dX12_time_109 : decode cX12_time 109 = .ok (.iload_n 3, 1) := by decide +kernel
theorem dX12_time_110 : decode cX12_time 110 = .ok (.goto 9, 3) := by decide +kernel
theorem dX12_time_113 : decode cX12_time 113 = .ok (.aload_n 0, 1) := by decide +kernel
theorem dX12_time_114 : decode cX12_time 114 = .ok (.iload_n 1, 1) := by decide +kernel
theorem dX12_time_115 : decode cX12_time 115 = .ok (.iconst (-1), 1) := by decide +kernel
theorem dX12_time_116 : decode cX12_time 116 = .ok (.invokevirtual 138, 3) := by decide +kernel
theorem dX12_time_119 : decode cX12_time 119 = .ok (.ireturn, 1) := by decide +kernel
set_option maxRecDepth 20000 in
theorem ggX12_ship_X12_in : GoodIn wsX12_ship wsX12_in := goodIn_r _ [12] (by decide +kernel) (by decide +kernel)
set_option maxRecDepth 20000 in
theorem gX12_ship_X12_in : GoodIn wsX12_ship (va_wsS RX12 70 yX12_in wsX12_in) := goodIn_app (goodIn_of _ (by decide +kernel)) ggX12_ship_X12_in
theorem dX12_ship_0 : decode cX12_ship 0 = .ok (.aload_n 0, 1) := by decide +kernel
theorem dX12_ship_1 : decode cX12_ship 1 = .ok (.iconst 0, 1) := by decide +kernel
theorem dX12_ship_2 : decode cX12_ship 2 = .ok (.putfield 60, 3) := by decide +kernel
theorem dX12_ship_5 : decode cX12_ship 5 = .ok (.iload_n 1, 1) := by decide +kernel
theorem dX12_ship_6 : decode cX12_ship 6 = .ok (.i2l, 1) := by decide +kernel
theorem dX12_ship_7 : decode cX12_ship 7 = .ok (.lconst 0, 1) := by decide +kernel
theorem dX12_ship_8 : decode cX12_ship 8 = .ok (.ldc2_w 141, 3) := by decide +kernel
theorem dX12_ship_11 : decode cX12_ship 11 = .ok (.invokestatic 70, 3) := by decide +kernel
theorem dX12_ship_14 : decode cX12_ship 14 = .ok (.ifCond .eq 15, 3) := by decide +kernel
theorem dX12_ship_17 : decode cX12_ship 17 = .ok (.iload_n 2, 1) := by decide +kernel
theorem dX12_ship_18 : decode cX12_ship 18 = .ok (.i2l, 1) := by decide +kernel
theorem dX12_ship_19 : decode cX12_ship 19 = .ok (.lconst 1, 1) := by decide +kernel
theorem dX12_ship_20 : decode cX12_ship 20 = .ok (.ldc2_w 131, 3) := by decide +kernel
theorem dX12_ship_23 : decode cX12_ship 23 = .ok (.invokestatic 70, 3) := by decide +kernel
theorem dX12_ship_26 : decode cX12_ship 26 = .ok (.ifCond .ne 6, 3) := by decide +kernel
theorem dX12_ship_29 : decode cX12_ship 29 = .ok (.ldc 80, 2) := by decide +kernel
theorem dX12_ship_31 : decode cX12_ship 31 = .ok (.ireturn, 1) := by decide +kernel
theorem dX12_ship_32 : decode cX12_ship 32 = .ok (.aload_n 0, 1) := by decide +kernel
theorem dX12_ship_33 : decode cX12_ship 33 = .ok (.getfield 143, 3) := by decide +kernel
theorem dX12_ship_36 : decode cX12_ship 36 = .ok (.bipush 20, 2) := by decide +kernel
theorem dX12_ship_38 : decode cX12_ship 38 = .ok (.if_icmp .ne 6, 3) := by decide +kernel
theorem dX12_ship_41 : decode cX12_ship 41 = .ok (.ldc 90, 2) := by decide +kernel
theorem dX12_ship_43 : decode cX12_ship 43 = .ok (.ireturn, 1) := by decide +kernel
theorem dX12_ship_44 : decode cX12_ship 44 = .ok (.aload_n 0, 1) := by decide +kernel
theorem dX12_ship_45 : decode cX12_ship 45 = .ok (.getfield 51, 3) := by decide +kernel
theorem dX12_ship_48 : decode cX12_ship 48 = .ok (.aload_n 0, 1) := by decide +kernel
theorem dX12_ship_49 : decode cX12_ship 49 = .ok (.getfield 143, 3) := by decide +kernel
theorem dX12_ship_52 : decode cX12_ship 52 = .ok (.iload_n 1, 1) := by decide +kernel
theorem dX12_ship_53 : decode cX12_ship 53 = .ok (.iastore, 1) := by decide +kernel
theorem dX12_ship_54 : decode cX12_ship 54 = .ok (.aload_n 0, 1) := by decide +kernel
theorem dX12_ship_55 : decode cX12_ship 55 = .ok (.getfield 54, 3) := by decide +kernel
theorem dX12_ship_58 : decode cX12_ship 58 = .ok (.aload_n 0, 1) := by decide +kernel
theorem dX12_ship_59 : decode cX12_ship 59 = .ok (.getfield 143, 3) := by decide +kernel
theorem dX12_ship_62 : decode cX12_ship 62 = .ok (.iload_n 2, 1) := by decide +kernel
theorem dX12_ship_63 : decode cX12_ship 63 = .ok (.iastore, 1) := by decide +kernel
theorem dX12_ship_64 : decode cX12_ship 64 = .ok (.aload_n 0, 1) := by decide +kernel
theorem dX12_ship_65 : decode cX12_ship 65 = .ok (.dup, 1) := by decide +kernel
theorem dX12_ship_66 : decode cX12_ship 66 = .ok (.getfield 143, 3) := by decide +kernel
theorem dX12_ship_69 : decode cX12_ship 69 = .ok (.iconst 1, 1) := by decide +kernel
theorem dX12_ship_70 : decode cX12_ship 70 = .ok (.iadd, 1) := by decide +kernel
theorem dX12_ship_71 : decode cX12_ship 71 = .ok (.putfield 143, 3) := by decide +kernel
theorem dX12_ship_74 : decode cX12_ship 74 = .ok (.aload_n 0, 1) := by decide +kernel
theorem dX12_ship_75 : decode cX12_ship 75 = .ok (.getfield 143, 3) := by decide +kernel
theorem dX12_ship_78 : decode cX12_ship 78 = .ok (.iconst 1, 1) := by decide +kernel
theorem dX12_ship_79 : decode cX12_ship 79 = .ok (.isub, 1) := by decide +kernel
theorem dX12_ship_80 : decode cX12_ship 80 = .ok (.ireturn, 1) := by decide +kernel
set_option maxRecDepth 20000 in
theorem ggX12_waits_X12_in : GoodIn wsX12_waits wsX12_in := goodIn_r _ [11] (by decide +kernel) (by decide +kernel)
set_option maxRecDepth 20000 in
theorem gX12_waits_X12_in : GoodIn wsX12_waits (va_wsS RX12 70 yX12_in wsX12_in) := goodIn_app (goodIn_of _ (by decide +kernel)) ggX12_waits_X12_in
theorem dX12_waits_0 : decode cX12_waits 0 = .ok (.aload_n 0, 1) := by decide +kernel
theorem dX12_waits_1 : decode cX12_waits 1 = .ok (.iconst 0, 1) := by decide +kernel
theorem dX12_waits_2 : decode cX12_waits 2 = .ok (.putfield 60, 3) := by decide +kernel
theorem dX12_waits_5 : decode cX12_waits 5 = .ok (.iload_n 1, 1) := by decide +kernel
theorem dX12_waits_6 : decode cX12_waits 6 = .ok (.i2l, 1) := by decide +kernel
theorem dX12_waits_7 : decode cX12_waits 7 = .ok (.lconst 0, 1) := by decide +kernel
theorem dX12_waits_8 : decode cX12_waits 8 = .ok (.aload_n 0, 1) := by decide +kernel
theorem dX12_waits_9 : decode cX12_waits 9 = .ok (.getfield 143, 3) := by decide +kernel
theorem dX12_waits_12 : decode cX12_waits 12 = .ok (.iconst 1, 1) := by decide +kernel
theorem dX12_waits_13 : decode cX12_waits 13 = .ok (.isub, 1) := by decide +kernel
theorem dX12_waits_14 : decode cX12_waits 14 = .ok (.i2l, 1) := by decide +kernel
theorem dX12_waits_15 : decode cX12_waits 15 = .ok (.invokestatic 70, 3) := by decide +kernel
theorem dX12_waits_18 : decode cX12_waits 18 = .ok (.ifCond .eq 28, 3) := by decide +kernel
theorem dX12_waits_21 : decode cX12_waits 21 = .ok (.iload_n 2, 1) := by decide +kernel
theorem dX12_waits_22 : decode cX12_waits 22 = .ok (.i2l, 1) := by decide +kernel
theorem dX12_waits_23 : decode cX12_waits 23 = .ok (.lconst 0, 1) := by decide +kernel
theorem dX12_waits_24 : decode cX12_waits 24 = .ok (.ldc2_w 141, 3) := by decide +kernel
theorem dX12_waits_27 : decode cX12_waits 27 = .ok (.invokestatic 70, 3) := by decide +kernel
theorem dX12_waits_30 : decode cX12_waits 30 = .ok (.ifCond .eq 16, 3) := by decide +kernel
theorem dX12_waits_33 : decode cX12_waits 33 = .ok (.iload_n 3, 1) := by decide +kernel
theorem dX12_waits_34 : decode cX12_waits 34 = .ok (.i2l, 1) := by decide +kernel
theorem dX12_waits_35 : decode cX12_waits 35 = .ok (.iload_n 2, 1) := by decide +kernel
theorem dX12_waits_36 : decode cX12_waits 36 = .ok (.i2l, 1) := by decide +kernel
theorem dX12_waits_37 : decode cX12_waits 37 = .ok (.ldc2_w 141, 3) := by decide +kernel
theorem dX12_waits_40 : decode cX12_waits 40 = .ok (.invokestatic 70, 3) := by decide +kernel
theorem dX12_waits_43 : decode cX12_waits 43 = .ok (.ifCond .ne 6, 3) := by decide +kernel
theorem dX12_waits_46 : decode cX12_waits 46 = .ok (.ldc 80, 2) := by decide +kernel
theorem dX12_waits_48 : decode cX12_waits 48 = .ok (.ireturn, 1) := by decide +kernel
theorem dX12_waits_49 : decode cX12_waits 49 = .ok (.iconst 0, 1) := by decide +kernel
theorem dX12_waits_50 : decode cX12_waits 50 = .ok (.istore 4, 2) := by decide +kernel
theorem dX12_waits_52 : decode cX12_waits 52 = .ok (.iconst 0, 1) := by decide +kernel
theorem dX12_waits_53 : decode cX12_waits 53 = .ok (.istore 5, 2) := by decide +kernel
theorem dX12_waits_55 : decode cX12_waits 55 = .ok (.ldc 127, 2) := by decide +kernel
theorem dX12_waits_57 : decode cX12_waits 57 = .ok (.istore 6, 2) := by decide +kernel
theorem dX12_waits_59 : decode cX12_waits 59 = .ok (.iconst 0, 1) := by decide +kernel
theorem dX12_waits_60 : decode cX12_waits 60 = .ok (.istore 7, 2) := by decide +kernel
theorem dX12_waits_62 : decode cX12_waits 62 = .ok (.iload 7, 2) := by decide +kernel
theorem dX12_waits_64 : decode cX12_waits 64 = .ok (.aload_n 0, 1) := by decide +kernel
theorem dX12_waits_65 : decode cX12_waits 65 = .ok (.getfield 143, 3) := by decide +kernel
theorem dX12_waits_68 : decode cX12_waits 68 = .ok (.if_icmp .ge 47, 3) := by decide +kernel
theorem dX12_waits_71 : decode cX12_waits 71 = .ok (.iload 4, 2) := by decide +kernel
theorem dX12_waits_73 : decode cX12_waits 73 = .ok (.iload 7, 2) := by decide +kernel
theorem dX12_waits_75 : decode cX12_waits 75 = .ok (.ishr, 1) := by decide +kernel
theorem dX12_waits_76 : decode cX12_waits 76 = .ok (.iconst 1, 1) := by decide +kernel
theorem dX12_waits_77 : decode cX12_waits 77 = .ok (.iand, 1) := by decide +kernel
theorem dX12_waits_78 : decode cX12_waits 78 = .ok (.ifCond .ne 31, 3) := by decide +kernel
theorem dX12_waits_81 : decode cX12_waits 81 = .ok (.iload 6, 2) := by decide +kernel
theorem dX12_waits_83 : decode cX12_waits 83 = .ok (.ldc 127, 2) := by decide +kernel
theorem dX12_waits_85 : decode cX12_waits 85 = .ok (.if_icmp .eq 20, 3) := by decide +kernel
theorem dX12_waits_88 : decode cX12_waits 88 = .ok (.aload_n 0, 1) := by decide +kernel
theorem dX12_waits_89 : decode cX12_waits 89 = .ok (.getfield 51, 3) := by decide +kernel
theorem dX12_waits_92 : decode cX12_waits 92 = .ok (.iload 7, 2) := by decide +kernel
theorem dX12_waits_94 : decode cX12_waits 94 = .ok (.iaload, 1) := by decide +kernel
theorem dX12_waits_95 : decode cX12_waits 95 = .ok (.aload_n 0, 1) := by decide +kernel
theorem dX12_waits_96 : decode cX12_waits 96 = .ok (.getfield 51, 3) := by decide +kernel
theorem dX12_waits_99 : decode cX12_waits 99 = .ok (.iload 6, 2) := by decide +kernel
theorem dX12_waits_101 : decode cX12_waits 101 = .ok (.iaload, 1) := by decide +kernel
theorem dX12_waits_102 : decode cX12_waits 102 = .ok (.if_icmp .ge 7, 3) := by decide +kernel
theorem dX12_waits_105 : decode cX12_waits 105 = .ok (.iload 7, 2) := by decide +kernel
theorem dX12_waits_107 : decode cX12_waits 107 = .ok (.istore 6, 2) := by decide +kernel
theorem dX12_waits_109 : decode cX12_waits 109 = .ok (.iinc 7 1, 3) := by decide +kernel
theorem dX12_waits_112 : decode cX12_waits 112 = .ok (.goto (-50), 3) := by decide +kernel
theorem dX12_waits_115 : decode cX12_waits 115 = .ok (.aload_n 0, 1) := by decide +kernel
theorem dX12_waits_116 : decode cX12_waits 116 = .ok (.getfield 51, 3) := by decide +kernel
theorem dX12_waits_119 : decode cX12_waits 119 = .ok (.iload 6, 2) := by decide +kernel
theorem dX12_waits_121 : decode cX12_waits 121 = .ok (.iaload, 1) := by decide +kernel
theorem dX12_waits_122 : decode cX12_waits 122 = .ok (.iload 5, 2) := by decide +kernel
theorem dX12_waits_124 : decode cX12_waits 124 = .ok (.if_icmp .le 13, 3) := by decide +kernel
theorem dX12_waits_127 : decode cX12_waits 127 = .ok (.aload_n 0, 1) := by decide +kernel
theorem dX12_waits_128 : decode cX12_waits 128 = .ok (.getfield 51, 3) := by decide +kernel
theorem dX12_waits_131 : decode cX12_waits 131 = .ok (.iload 6, 2) := by decide +kernel
theorem dX12_waits_133 : decode cX12_waits 133 = .ok (.iaload, 1) := by decide +kernel
theorem dX12_waits_134 : decode cX12_waits 134 = .ok (.goto 5, 3) := by decide +kernel
theorem dX12_waits_137 : decode cX12_waits 137 = .ok (.iload 5, 2) := by decide +kernel
theorem dX12_waits_139 : decode cX12_waits 139 = .ok (.istore 7, 2) := by decide +kernel
theorem dX12_waits_141 : decode cX12_waits 141 = .ok (.iload 7, 2) := by decide +kernel
theorem dX12_waits_143 : decode cX12_waits 143 = .ok (.iload_n 2, 1) := by decide +kernel
theorem dX12_waits_144 : decode cX12_waits 144 = .ok (.if_icmp .lt 13, 3) := by decide +kernel
theorem dX12_waits_147 : decode cX12_waits 147 = .ok (.iload 7, 2) := by decide +kernel
theorem dX12_waits_149 : decode cX12_waits 149 = .ok (.iload_n 3, 1) := by decide +kernel
theorem dX12_waits_150 : decode cX12_waits 150 = .ok (.if_icmp .ge 7, 3) := by decide +kernel
theorem dX12_waits_153 : decode cX12_waits 153 = .ok (.iload_n 3, 1) := by decide +kernel
theorem dX12_waits_154 : decode cX12_waits 154 = .ok (.goto 5, 3) := by decide +kernel
theorem dX12_waits_157 : decode cX12_waits 157 = .ok (.iload 7, 2) := by decide +kernel
theorem dX12_waits_159 : decode cX12_waits 159 = .ok (.istore 7, 2) := by decide +kernel
theorem dX12_waits_161 : decode cX12_waits 161 = .ok (.iload 6, 2) := by decide +kernel
theorem dX12_waits_163 : decode cX12_waits 163 = .ok (.iload_n 1, 1) := by decide +kernel
theorem dX12_waits_164 : decode cX12_waits 164 = .ok (.if_icmp .ne 13, 3) := by decide +kernel
theorem dX12_waits_167 : decode cX12_waits 167 = .ok (.iload 7, 2) := by decide +kernel
theorem dX12_waits_169 : decode cX12_waits 169 = .ok (.aload_n 0, 1) := by decide +kernel
theorem dX12_waits_170 : decode cX12_waits 170 = .ok (.getfield 51, 3) := by decide +kernel
theorem dX12_waits_173 : decode cX12_waits 173 = .ok (.iload_n 1, 1) := by decide +kernel
theorem dX12_waits_174 : decode cX12_waits 174 = .ok (.iaload, 1) := by decide +kernel
theorem dX12_waits_175 : decode cX12_waits 175 = .ok (.isub, 1) := by decide +kernel
theorem dX12_waits_176 : decode cX12_waits 176 = .ok (.ireturn, 1) := by decide +kernel
theorem dX12_waits_177 : decode cX12_waits 177 = .ok (.iload 7, 2) := by decide +kernel
theorem dX12_waits_179 : decode cX12_waits 179 = .ok (.aload_n 0, 1) := by decide +kernel
theorem dX12_waits_180 : decode cX12_waits 180 = .ok (.getfield 54, 3) := by decide +kernel
theorem dX12_waits_183 : decode cX12_waits 183 = .ok (.iload 6, 2) := by decide +kernel
theorem dX12_waits_185 : decode cX12_waits 185 = .ok (.iaload, 1) := by decide +kernel
theorem dX12_waits_186 : decode cX12_waits 186 = .ok (.iadd, 1) := by decide +kernel
theorem dX12_waits_187 : decode cX12_waits 187 = .ok (.istore 5, 2) := by decide +kernel
theorem dX12_waits_189 : decode cX12_waits 189 = .ok (.iload 4, 2) := by decide +kernel
theorem dX12_waits_191 : decode cX12_waits 191 = .ok (.iconst 1, 1) := by decide +kernel
theorem dX12_waits_192 : decode cX12_waits 192 = .ok (.iload 6, 2) := by decide +kernel
theorem dX12_waits_194 : decode cX12_waits 194 = .ok (.ishl, 1) := by decide +kernel
theorem dX12_waits_195 : decode cX12_waits 195 = .ok (.ior, 1) := by decide +kernel
theorem dX12_waits_196 : decode cX12_waits 196 = .ok (.istore 4, 2) := by decide +kernel
theorem dX12_waits_198 : decode cX12_waits 198 = .ok (.goto (-143), 3) := by decide +kernel
theorem dX12_closingsOf_0 : decode cX12_closingsOf 0 = .ok (.iconst 0, 1) := by decide +kernel
theorem dX12_closingsOf_1 : decode cX12_closingsOf 1 = .ok (.istore 7, 2) := by decide +kernel
theorem dX12_closingsOf_3 : decode cX12_closingsOf 3 = .ok (.iconst 0, 1) := by decide +kernel
theorem dX12_closingsOf_4 : decode cX12_closingsOf 4 = .ok (.istore 8, 2) := by decide +kernel
theorem dX12_closingsOf_6 : decode cX12_closingsOf 6 = .ok (.iload 8, 2) := by decide +kernel
theorem dX12_closingsOf_8 : decode cX12_closingsOf 8 = .ok (.iload_n 3, 1) := by decide +kernel
theorem dX12_closingsOf_9 : decode cX12_closingsOf 9 = .ok (.if_icmp .ge 51, 3) := by decide +kernel
theorem dX12_closingsOf_12 : decode cX12_closingsOf 12 = .ok (.iload 7, 2) := by decide +kernel
theorem dX12_closingsOf_14 : decode cX12_closingsOf 14 = .ok (.aload_n 0, 1) := by decide +kernel
theorem dX12_closingsOf_15 : decode cX12_closingsOf 15 = .ok (.getfield 22, 3) := by decide +kernel
theorem dX12_closingsOf_18 : decode cX12_closingsOf 18 = .ok (.bipush 60, 2) := by decide +kernel
theorem dX12_closingsOf_20 : decode cX12_closingsOf 20 = .ok (.iload_n 1, 1) := by decide +kernel
theorem dX12_closingsOf_21 : decode cX12_closingsOf 21 = .ok (.imul, 1) := by decide +kernel
theorem dX12_closingsOf_22 : decode cX12_closingsOf 22 = .ok (.iload_n 2, 1) := by decide +kernel
theorem dX12_closingsOf_23 : decode cX12_closingsOf 23 = .ok (.iadd, 1) := by decide +kernel
theorem dX12_closingsOf_24 : decode cX12_closingsOf 24 = .ok (.iload 8, 2) := by decide +kernel
theorem dX12_closingsOf_26 : decode cX12_closingsOf 26 = .ok (.iadd, 1) := by decide +kernel
theorem dX12_closingsOf_27 : decode cX12_closingsOf 27 = .ok (.iaload, 1) := by decide +kernel
theorem dX12_closingsOf_28 : decode cX12_closingsOf 28 = .ok (.i2l, 1) := by decide +kernel
theorem dX12_closingsOf_29 : decode cX12_closingsOf 29 = .ok (.iload 6, 2) := by decide +kernel
theorem dX12_closingsOf_31 : decode cX12_closingsOf 31 = .ok (.iload 4, 2) := by decide +kernel
theorem dX12_closingsOf_33 : decode cX12_closingsOf 33 = .ok (.imul, 1) := by decide +kernel
theorem dX12_closingsOf_34 : decode cX12_closingsOf 34 = .ok (.bipush 10, 2) := by decide +kernel
theorem dX12_closingsOf_36 : decode cX12_closingsOf 36 = .ok (.idiv, 1) := by decide +kernel
theorem dX12_closingsOf_37 : decode cX12_closingsOf 37 = .ok (.i2l, 1) := by decide +kernel
theorem dX12_closingsOf_38 : decode cX12_closingsOf 38 = .ok (.ladd, 1) := by decide +kernel
theorem dX12_closingsOf_39 : decode cX12_closingsOf 39 = .ok (.iload 5, 2) := by decide +kernel
theorem dX12_closingsOf_41 : decode cX12_closingsOf 41 = .ok (.i2l, 1) := by decide +kernel
theorem dX12_closingsOf_42 : decode cX12_closingsOf 42 = .ok (.lcmp, 1) := by decide +kernel
theorem dX12_closingsOf_43 : decode cX12_closingsOf 43 = .ok (.ifCond .le 7, 3) := by decide +kernel
theorem dX12_closingsOf_46 : decode cX12_closingsOf 46 = .ok (.iconst 1, 1) := by decide +kernel
theorem dX12_closingsOf_47 : decode cX12_closingsOf 47 = .ok (.goto 4, 3) := by decide +kernel
theorem dX12_closingsOf_50 : decode cX12_closingsOf 50 = .ok (.iconst 0, 1) := by decide +kernel
theorem dX12_closingsOf_51 : decode cX12_closingsOf 51 = .ok (.iadd, 1) := by decide +kernel
theorem dX12_closingsOf_52 : decode cX12_closingsOf 52 = .ok (.istore 7, 2) := by decide +kernel
theorem dX12_closingsOf_54 : decode cX12_closingsOf 54 = .ok (.iinc 8 1, 3) := by decide +kernel
theorem dX12_closingsOf_57 : decode cX12_closingsOf 57 = .ok (.goto (-51), 3) := by decide +kernel
theorem dX12_closingsOf_60 : decode cX12_closingsOf 60 = .ok (.iload 7, 2) := by decide +kernel
theorem dX12_closingsOf_62 : decode cX12_closingsOf 62 = .ok (.ireturn, 1) := by decide +kernel
set_option maxRecDepth 20000 in
theorem ggX12_closings_X12_isSheet : GoodIn wsX12_closings wsX12_isSheet := goodIn_r _ [12, 13, 14, 15, 11, 16] (by decide +kernel) (by decide +kernel)
set_option maxRecDepth 20000 in
theorem gX12_closings_X12_isSheet : GoodIn wsX12_closings (va_wsS RX12 74 yX12_isSheet wsX12_isSheet) := goodIn_app (goodIn_of _ (by decide +kernel)) ggX12_closings_X12_isSheet
set_option maxRecDepth 20000 in
theorem ggX12_closings_X12_in : GoodIn wsX12_closings wsX12_in := goodIn_r _ [16] (by decide +kernel) (by decide +kernel)
set_option maxRecDepth 20000 in
theorem gX12_closings_X12_in : GoodIn wsX12_closings (va_wsS RX12 70 yX12_in wsX12_in) := goodIn_app (goodIn_of _ (by decide +kernel)) ggX12_closings_X12_in
set_option maxRecDepth 20000 in
theorem ggX12_closings_X12_found : GoodIn wsX12_closings wsX12_found := goodIn_r _ [20, 6, 21, 27, 28, 29, 30, 31, 32, 33, 34, 35, 36, 37, 38, 39, 40, 41, 42, 43, 44, 45, 46, 47, 48] (by decide +kernel) (by decide +kernel)
set_option maxRecDepth 20000 in
theorem gX12_closings_X12_found : GoodIn wsX12_closings (wsV RX12 81 RX12 yX12_found wsX12_found) := goodIn_app (goodIn_of _ (by decide +kernel)) ggX12_closings_X12_found
set_option maxRecDepth 20000 in
theorem ggX12_closings_X12_closingsOf : GoodIn wsX12_closings wsX12_closingsOf := goodIn_r _ [25, 26, 27, 28, 29, 30, 31, 32, 33, 34, 35, 36, 37, 38, 39, 40, 41, 42, 43, 44, 45, 46, 47, 48] (by decide +kernel) (by decide +kernel)
set_option maxRecDepth 20000 in
theorem gX12_closings_X12_closingsOf : GoodIn wsX12_closings (wsV RX12 150 RX12 yX12_closingsOf wsX12_closingsOf) := goodIn_app (goodIn_of _ (by decide +kernel)) ggX12_closings_X12_closingsOf
theorem dX12_closings_0 : decode cX12_closings 0 = .ok (.aload_n 0, 1) := by decide +kernel
theorem dX12_closings_1 : decode cX12_closings 1 = .ok (.iconst 0, 1) := by decide +kernel
theorem dX12_closings_2 : decode cX12_closings 2 = .ok (.putfield 60, 3) := by decide +kernel
theorem dX12_closings_5 : decode cX12_closings 5 = .ok (.iload_n 1, 1) := by decide +kernel
theorem dX12_closings_6 : decode cX12_closings 6 = .ok (.invokestatic 74, 3) := by decide +kernel
theorem dX12_closings_9 : decode cX12_closings 9 = .ok (.ifCond .eq 41, 3) := by decide +kernel
theorem dX12_closings_12 : decode cX12_closings 12 = .ok (.iload_n 3, 1) := by decide +kernel
theorem dX12_closings_13 : decode cX12_closings 13 = .ok (.i2l, 1) := by decide +kernel
theorem dX12_closings_14 : decode cX12_closings 14 = .ok (.lconst 1, 1) := by decide +kernel
theorem dX12_closings_15 : decode cX12_closings 15 = .ok (.ldc2_w 146, 3) := by decide +kernel
theorem dX12_closings_18 : decode cX12_closings 18 = .ok (.invokestatic 70, 3) := by decide +kernel
theorem dX12_closings_21 : decode cX12_closings 21 = .ok (.ifCond .eq 29, 3) := by decide +kernel
theorem dX12_closings_24 : decode cX12_closings 24 = .ok (.iload 6, 2) := by decide +kernel
theorem dX12_closings_26 : decode cX12_closings 26 = .ok (.i2l, 1) := by decide +kernel
theorem dX12_closings_27 : decode cX12_closings 27 = .ok (.lconst 0, 1) := by decide +kernel
theorem dX12_closings_28 : decode cX12_closings 28 = .ok (.ldc2_w 148, 3) := by decide +kernel
theorem dX12_closings_31 : decode cX12_closings 31 = .ok (.invokestatic 70, 3) := by decide +kernel
theorem dX12_closings_34 : decode cX12_closings 34 = .ok (.ifCond .eq 16, 3) := by decide +kernel
theorem dX12_closings_37 : decode cX12_closings 37 = .ok (.iload 4, 2) := by decide +kernel
theorem dX12_closings_39 : decode cX12_closings 39 = .ok (.i2l, 1) := by decide +kernel
theorem dX12_closings_40 : decode cX12_closings 40 = .ok (.lconst 0, 1) := by decide +kernel
theorem dX12_closings_41 : decode cX12_closings 41 = .ok (.ldc2_w 95, 3) := by decide +kernel
theorem dX12_closings_44 : decode cX12_closings 44 = .ok (.invokestatic 70, 3) := by decide +kernel
theorem dX12_closings_47 : decode cX12_closings 47 = .ok (.ifCond .ne 6, 3) := by decide +kernel
theorem dX12_closings_50 : decode cX12_closings 50 = .ok (.ldc 80, 2) := by decide +kernel
theorem dX12_closings_52 : decode cX12_closings 52 = .ok (.ireturn, 1) := by decide +kernel
theorem dX12_closings_53 : decode cX12_closings 53 = .ok (.aload_n 0, 1) := by decide +kernel
theorem dX12_closings_54 : decode cX12_closings 54 = .ok (.iconst 0, 1) := by decide +kernel
theorem dX12_closings_55 : decode cX12_closings 55 = .ok (.putfield 64, 3) := by decide +kernel
theorem dX12_closings_58 : decode cX12_closings 58 = .ok (.aload_n 0, 1) := by decide +kernel
theorem dX12_closings_59 : decode cX12_closings 59 = .ok (.getfield 16, 3) := by decide +kernel
theorem dX12_closings_62 : decode cX12_closings 62 = .ok (.iload_n 1, 1) := by decide +kernel
theorem dX12_closings_63 : decode cX12_closings 63 = .ok (.iaload, 1) := by decide +kernel
theorem dX12_closings_64 : decode cX12_closings 64 = .ok (.ifCond .ge 9, 3) := by decide +kernel
theorem dX12_closings_67 : decode cX12_closings 67 = .ok (.aload_n 0, 1) := by decide +kernel
theorem dX12_closings_68 : decode cX12_closings 68 = .ok (.iconst 1, 1) := by decide +kernel
theorem dX12_closings_69 : decode cX12_closings 69 = .ok (.invokevirtual 81, 3) := by decide +kernel
theorem dX12_closings_72 : decode cX12_closings 72 = .ok (.ireturn, 1) := by decide +kernel
theorem dX12_closings_73 : decode cX12_closings 73 = .ok (.iload_n 2, 1) := by decide +kernel
theorem dX12_closings_74 : decode cX12_closings 74 = .ok (.ifCond .lt 19, 3) := by decide +kernel
theorem dX12_closings_77 : decode cX12_closings 77 = .ok (.iload_n 2, 1) := by decide +kernel
theorem dX12_closings_78 : decode cX12_closings 78 = .ok (.i2l, 1) := by decide +kernel
theorem dX12_closings_79 : decode cX12_closings 79 = .ok (.iload_n 3, 1) := by decide +kernel
theorem dX12_closings_80 : decode cX12_closings 80 = .ok (.i2l, 1) := by decide +kernel
theorem dX12_closings_81 : decode cX12_closings 81 = .ok (.ladd, 1) := by decide +kernel
theorem dX12_closings_82 : decode cX12_closings 82 = .ok (.aload_n 0, 1) := by decide +kernel
theorem dX12_closings_83 : decode cX12_closings 83 = .ok (.getfield 19, 3) := by decide +kernel
theorem dX12_closings_86 : decode cX12_closings 86 = .ok (.iload_n 1, 1) := by decide +kernel
theorem dX12_closings_87 : decode cX12_closings 87 = .ok (.iaload, 1) := by decide +kernel
theorem dX12_closings_88 : decode cX12_closings 88 = .ok (.i2l, 1) := by decide +kernel
theorem dX12_closings_89 : decode cX12_closings 89 = .ok (.lcmp, 1) := by decide +kernel
theorem dX12_closings_90 : decode cX12_closings 90 = .ok (.ifCond .le 9, 3) := by decide +kernel
theorem dX12_closings_93 : decode cX12_closings 93 = .ok (.aload_n 0, 1) := by decide +kernel
theorem dX12_closings_94 : decode cX12_closings 94 = .ok (.iconst 2, 1) := by decide +kernel
theorem dX12_closings_95 : decode cX12_closings 95 = .ok (.invokevirtual 81, 3) := by decide +kernel
theorem dX12_closings_98 : decode cX12_closings 98 = .ok (.ireturn, 1) := by decide +kernel
theorem dX12_closings_99 : decode cX12_closings 99 = .ok (.aload_n 0, 1) := by decide +kernel
theorem dX12_closings_100 : decode cX12_closings 100 = .ok (.iload_n 1, 1) := by decide +kernel
theorem dX12_closings_101 : decode cX12_closings 101 = .ok (.iload_n 2, 1) := by decide +kernel
theorem dX12_closings_102 : decode cX12_closings 102 = .ok (.iload_n 3, 1) := by decide +kernel
theorem dX12_closings_103 : decode cX12_closings 103 = .ok (.iload 4, 2) := by decide +kernel
theorem dX12_closings_105 : decode cX12_closings 105 = .ok (.iload 5, 2) := by decide +kernel
theorem dX12_closings_107 : decode cX12_closings 107 = .ok (.iload 6, 2) := by decide +kernel
theorem dX12_closings_109 : decode cX12_closings 109 = .ok (.invokevirtual 150, 3) := by decide +kernel
theorem dX12_closings_112 : decode cX12_closings 112 = .ok (.ireturn, 1) := by decide +kernel
set_option maxRecDepth 20000 in
theorem ggX12_tooMany_X12_isSheet : GoodIn wsX12_tooMany wsX12_isSheet := goodIn_r _ [12, 13, 14, 15, 11, 16] (by decide +kernel) (by decide +kernel)
set_option maxRecDepth 20000 in
theorem gX12_tooMany_X12_isSheet : GoodIn wsX12_tooMany (va_wsS RX12 74 yX12_isSheet wsX12_isSheet) := goodIn_app (goodIn_of _ (by decide +kernel)) ggX12_tooMany_X12_isSheet
set_option maxRecDepth 20000 in
theorem ggX12_tooMany_X12_in : GoodIn wsX12_tooMany wsX12_in := goodIn_r _ [16] (by decide +kernel) (by decide +kernel)
set_option maxRecDepth 20000 in
theorem gX12_tooMany_X12_in : GoodIn wsX12_tooMany (va_wsS RX12 70 yX12_in wsX12_in) := goodIn_app (goodIn_of _ (by decide +kernel)) ggX12_tooMany_X12_in
set_option maxRecDepth 20000 in
theorem ggX12_tooMany_X12_found : GoodIn wsX12_tooMany wsX12_found := goodIn_r _ [20, 5, 21, 27, 28, 29, 30, 31, 32, 33, 34, 35, 36, 37, 38, 39, 40, 41, 42, 43, 44, 45, 46, 47, 48] (by decide +kernel) (by decide +kernel)
set_option maxRecDepth 20000 in
theorem gX12_tooMany_X12_found : GoodIn wsX12_tooMany (wsV RX12 81 RX12 yX12_found wsX12_found) := goodIn_app (goodIn_of _ (by decide +kernel)) ggX12_tooMany_X12_found
set_option maxRecDepth 20000 in
theorem ggX12_tooMany_X12_closingsOf : GoodIn wsX12_tooMany wsX12_closingsOf := goodIn_r _ [25, 26, 27, 28, 29, 30, 31, 32, 33, 34, 35, 36, 37, 38, 39, 40, 41, 42, 43, 44, 45, 46, 47, 48] (by decide +kernel) (by decide +kernel)
set_option maxRecDepth 20000 in
theorem gX12_tooMany_X12_closingsOf : GoodIn wsX12_tooMany (wsV RX12 150 RX12 yX12_closingsOf wsX12_closingsOf) := goodIn_app (goodIn_of _ (by decide +kernel)) ggX12_tooMany_X12_closingsOf
theorem dX12_tooMany_0 : decode cX12_tooMany 0 = .ok (.aload_n 0, 1) := by decide +kernel
theorem dX12_tooMany_1 : decode cX12_tooMany 1 = .ok (.iconst 0, 1) := by decide +kernel
theorem dX12_tooMany_2 : decode cX12_tooMany 2 = .ok (.putfield 60, 3) := by decide +kernel
theorem dX12_tooMany_5 : decode cX12_tooMany 5 = .ok (.iload_n 1, 1) := by decide +kernel
theorem dX12_tooMany_6 : decode cX12_tooMany 6 = .ok (.invokestatic 74, 3) := by decide +kernel
theorem dX12_tooMany_9 : decode cX12_tooMany 9 = .ok (.ifCond .eq 33, 3) := by decide +kernel
theorem dX12_tooMany_12 : decode cX12_tooMany 12 = .ok (.iload_n 3, 1) := by decide +kernel
theorem dX12_tooMany_13 : decode cX12_tooMany 13 = .ok (.i2l, 1) := by decide +kernel
theorem dX12_tooMany_14 : decode cX12_tooMany 14 = .ok (.lconst 1, 1) := by decide +kernel
theorem dX12_tooMany_15 : decode cX12_tooMany 15 = .ok (.ldc2_w 146, 3) := by decide +kernel
theorem dX12_tooMany_18 : decode cX12_tooMany 18 = .ok (.invokestatic 70, 3) := by decide +kernel
theorem dX12_tooMany_21 : decode cX12_tooMany 21 = .ok (.ifCond .eq 21, 3) := by decide +kernel
theorem dX12_tooMany_24 : decode cX12_tooMany 24 = .ok (.iload 4, 2) := by decide +kernel
theorem dX12_tooMany_26 : decode cX12_tooMany 26 = .ok (.i2l, 1) := by decide +kernel
theorem dX12_tooMany_27 : decode cX12_tooMany 27 = .ok (.lconst 0, 1) := by decide +kernel
theorem dX12_tooMany_28 : decode cX12_tooMany 28 = .ok (.ldc2_w 95, 3) := by decide +kernel
theorem dX12_tooMany_31 : decode cX12_tooMany 31 = .ok (.invokestatic 70, 3) := by decide +kernel
theorem dX12_tooMany_34 : decode cX12_tooMany 34 = .ok (.ifCond .eq 8, 3) := by decide +kernel
theorem dX12_tooMany_37 : decode cX12_tooMany 37 = .ok (.iload 6, 2) := by decide +kernel
theorem dX12_tooMany_39 : decode cX12_tooMany 39 = .ok (.ifCond .ge 6, 3) := by decide +kernel
theorem dX12_tooMany_42 : decode cX12_tooMany 42 = .ok (.ldc 80, 2) := by decide +kernel
theorem dX12_tooMany_44 : decode cX12_tooMany 44 = .ok (.ireturn, 1) := by decide +kernel
theorem dX12_tooMany_45 : decode cX12_tooMany 45 = .ok (.aload_n 0, 1) := by decide +kernel
theorem dX12_tooMany_46 : decode cX12_tooMany 46 = .ok (.iconst 0, 1) := by decide +kernel
theorem dX12_tooMany_47 : decode cX12_tooMany 47 = .ok (.putfield 64, 3) := by decide +kernel
theorem dX12_tooMany_50 : decode cX12_tooMany 50 = .ok (.aload_n 0, 1) := by decide +kernel
theorem dX12_tooMany_51 : decode cX12_tooMany 51 = .ok (.getfield 16, 3) := by decide +kernel
theorem dX12_tooMany_54 : decode cX12_tooMany 54 = .ok (.iload_n 1, 1) := by decide +kernel
theorem dX12_tooMany_55 : decode cX12_tooMany 55 = .ok (.iaload, 1) := by decide +kernel
theorem dX12_tooMany_56 : decode cX12_tooMany 56 = .ok (.ifCond .ge 9, 3) := by decide +kernel
theorem dX12_tooMany_59 : decode cX12_tooMany 59 = .ok (.aload_n 0, 1) := by decide +kernel
theorem dX12_tooMany_60 : decode cX12_tooMany 60 = .ok (.iconst 1, 1) := by decide +kernel
theorem dX12_tooMany_61 : decode cX12_tooMany 61 = .ok (.invokevirtual 81, 3) := by decide +kernel
theorem dX12_tooMany_64 : decode cX12_tooMany 64 = .ok (.ireturn, 1) := by decide +kernel
theorem dX12_tooMany_65 : decode cX12_tooMany 65 = .ok (.iload_n 2, 1) := by decide +kernel
theorem dX12_tooMany_66 : decode cX12_tooMany 66 = .ok (.ifCond .lt 19, 3) := by decide +kernel
theorem dX12_tooMany_69 : decode cX12_tooMany 69 = .ok (.iload_n 2, 1) := by decide +kernel
theorem dX12_tooMany_70 : decode cX12_tooMany 70 = .ok (.i2l, 1) := by decide +kernel
theorem dX12_tooMany_71 : decode cX12_tooMany 71 = .ok (.iload_n 3, 1) := by decide +kernel
theorem dX12_tooMany_72 : decode cX12_tooMany 72 = .ok (.i2l, 1) := by decide +kernel
theorem dX12_tooMany_73 : decode cX12_tooMany 73 = .ok (.ladd, 1) := by decide +kernel
theorem dX12_tooMany_74 : decode cX12_tooMany 74 = .ok (.aload_n 0, 1) := by decide +kernel
theorem dX12_tooMany_75 : decode cX12_tooMany 75 = .ok (.getfield 19, 3) := by decide +kernel
theorem dX12_tooMany_78 : decode cX12_tooMany 78 = .ok (.iload_n 1, 1) := by decide +kernel
theorem dX12_tooMany_79 : decode cX12_tooMany 79 = .ok (.iaload, 1) := by decide +kernel
theorem dX12_tooMany_80 : decode cX12_tooMany 80 = .ok (.i2l, 1) := by decide +kernel
theorem dX12_tooMany_81 : decode cX12_tooMany 81 = .ok (.lcmp, 1) := by decide +kernel
theorem dX12_tooMany_82 : decode cX12_tooMany 82 = .ok (.ifCond .le 9, 3) := by decide +kernel
theorem dX12_tooMany_85 : decode cX12_tooMany 85 = .ok (.aload_n 0, 1) := by decide +kernel
theorem dX12_tooMany_86 : decode cX12_tooMany 86 = .ok (.iconst 2, 1) := by decide +kernel
theorem dX12_tooMany_87 : decode cX12_tooMany 87 = .ok (.invokevirtual 81, 3) := by decide +kernel
theorem dX12_tooMany_90 : decode cX12_tooMany 90 = .ok (.ireturn, 1) := by decide +kernel
theorem dX12_tooMany_91 : decode cX12_tooMany 91 = .ok (.iconst 0, 1) := by decide +kernel
theorem dX12_tooMany_92 : decode cX12_tooMany 92 = .ok (.istore 7, 2) := by decide +kernel
theorem dX12_tooMany_94 : decode cX12_tooMany 94 = .ok (.iload 7, 2) := by decide +kernel
theorem dX12_tooMany_96 : decode cX12_tooMany 96 = .ok (.sipush 300, 3) := by decide +kernel
theorem dX12_tooMany_99 : decode cX12_tooMany 99 = .ok (.if_icmp .gt 30, 3) := by decide +kernel
theorem dX12_tooMany_102 : decode cX12_tooMany 102 = .ok (.aload_n 0, 1) := by decide +kernel
theorem dX12_tooMany_103 : decode cX12_tooMany 103 = .ok (.iload_n 1, 1) := by decide +kernel
theorem dX12_tooMany_104 : decode cX12_tooMany 104 = .ok (.iload_n 2, 1) := by decide +kernel
theorem dX12_tooMany_105 : decode cX12_tooMany 105 = .ok (.iload_n 3, 1) := by decide +kernel
theorem dX12_tooMany_106 : decode cX12_tooMany 106 = .ok (.iload 4, 2) := by decide +kernel
theorem dX12_tooMany_108 : decode cX12_tooMany 108 = .ok (.iload 5, 2) := by decide +kernel
theorem dX12_tooMany_110 : decode cX12_tooMany 110 = .ok (.iload 7, 2) := by decide +kernel
theorem dX12_tooMany_112 : decode cX12_tooMany 112 = .ok (.invokevirtual 150, 3) := by decide +kernel
theorem dX12_tooMany_115 : decode cX12_tooMany 115 = .ok (.iload 6, 2) := by decide +kernel
theorem dX12_tooMany_117 : decode cX12_tooMany 117 = .ok (.if_icmp .le 6, 3) := by decide +kernel
theorem dX12_tooMany_120 : decode cX12_tooMany 120 = .ok (.iload 7, 2) := by decide +kernel
theorem dX12_tooMany_122 : decode cX12_tooMany 122 = .ok (.ireturn, 1) := by decide +kernel
theorem dX12_tooMany_123 : decode cX12_tooMany 123 = .ok (.iinc 7 1, 3) := by decide +kernel
theorem dX12_tooMany_126 : decode cX12_tooMany 126 = .ok (.goto (-32), 3) := by decide +kernel
theorem dX12_tooMany_129 : decode cX12_tooMany 129 = .ok (.ldc 127, 2) := by decide +kernel
theorem dX12_tooMany_131 : decode cX12_tooMany 131 = .ok (.ireturn, 1) := by decide +kernel
theorem dX12_kindOf_0 : decode cX12_kindOf 0 = .ok (.aload_n 0, 1) := by decide +kernel
theorem dX12_kindOf_1 : decode cX12_kindOf 1 = .ok (.getfield 42, 3) := by decide +kernel
theorem dX12_kindOf_4 : decode cX12_kindOf 4 = .ok (.iload_n 1, 1) := by decide +kernel
theorem dX12_kindOf_5 : decode cX12_kindOf 5 = .ok (.iaload, 1) := by decide +kernel
theorem dX12_kindOf_6 : decode cX12_kindOf 6 = .ok (.ifCond .le 26, 3) := by decide +kernel
theorem dX12_kindOf_9 : decode cX12_kindOf 9 = .ok (.aload_n 0, 1) := by decide +kernel
theorem dX12_kindOf_10 : decode cX12_kindOf 10 = .ok (.getfield 42, 3) := by decide +kernel
theorem dX12_kindOf_13 : decode cX12_kindOf 13 = .ok (.iload_n 1, 1) := by decide +kernel
theorem dX12_kindOf_14 : decode cX12_kindOf 14 = .ok (.iaload, 1) := by decide +kernel
theorem dX12_kindOf_15 : decode cX12_kindOf 15 = .ok (.aload_n 0, 1) := by decide +kernel
theorem dX12_kindOf_16 : decode cX12_kindOf 16 = .ok (.getfield 39, 3) := by decide +kernel
theorem dX12_kindOf_19 : decode cX12_kindOf 19 = .ok (.iload_n 1, 1) := by decide +kernel
theorem dX12_kindOf_20 : decode cX12_kindOf 20 = .ok (.iaload, 1) := by decide +kernel
theorem dX12_kindOf_21 : decode cX12_kindOf 21 = .ok (.if_icmp .gt 7, 3) := by decide +kernel
theorem dX12_kindOf_24 : decode cX12_kindOf 24 = .ok (.iconst 2, 1) := by decide +kernel
theorem dX12_kindOf_25 : decode cX12_kindOf 25 = .ok (.goto 24, 3) := by decide +kernel
theorem dX12_kindOf_28 : decode cX12_kindOf 28 = .ok (.iconst 1, 1) := by decide +kernel
theorem dX12_kindOf_29 : decode cX12_kindOf 29 = .ok (.goto 20, 3) := by decide +kernel
theorem dX12_kindOf_32 : decode cX12_kindOf 32 = .ok (.aload_n 0, 1) := by decide +kernel
theorem dX12_kindOf_33 : decode cX12_kindOf 33 = .ok (.getfield 39, 3) := by decide +kernel
theorem dX12_kindOf_36 : decode cX12_kindOf 36 = .ok (.iload_n 1, 1) := by decide +kernel
theorem dX12_kindOf_37 : decode cX12_kindOf 37 = .ok (.iaload, 1) := by decide +kernel
theorem dX12_kindOf_38 : decode cX12_kindOf 38 = .ok (.sipush 200, 3) := by decide +kernel
theorem dX12_kindOf_41 : decode cX12_kindOf 41 = .ok (.if_icmp .lt 7, 3) := by decide +kernel
theorem dX12_kindOf_44 : decode cX12_kindOf 44 = .ok (.iconst 3, 1) := by decide +kernel
theorem dX12_kindOf_45 : decode cX12_kindOf 45 = .ok (.goto 4, 3) := by decide +kernel
theorem dX12_kindOf_48 : decode cX12_kindOf 48 = .ok (.iconst 0, 1) := by decide +kernel
theorem dX12_kindOf_49 : decode cX12_kindOf 49 = .ok (.ireturn, 1) := by decide +kernel
set_option maxRecDepth 20000 in
theorem ggX12_kind_X12_isGate : GoodIn wsX12_kind wsX12_isGate := goodIn_r _ [7, 8, 9, 10, 6, 11, 18, 19, 20, 21, 22, 23, 24, 25, 26, 27, 28, 29, 30, 31, 32, 33, 34, 35, 36, 37, 38, 39] (by decide +kernel) (by decide +kernel)
set_option maxRecDepth 20000 in
theorem gX12_kind_X12_isGate : GoodIn wsX12_kind (wsV RX12 135 RX12 yX12_isGate wsX12_isGate) := goodIn_app (goodIn_of _ (by decide +kernel)) ggX12_kind_X12_isGate
set_option maxRecDepth 20000 in
theorem ggX12_kind_X12_kindOf : GoodIn wsX12_kind wsX12_kindOf := goodIn_r _ [15, 16, 17, 18, 19, 20, 21, 22, 23, 24, 25, 26, 27, 28, 29, 30, 31, 32, 33, 34, 35, 36, 37, 38, 39] (by decide +kernel) (by decide +kernel)
set_option maxRecDepth 20000 in
theorem gX12_kind_X12_kindOf : GoodIn wsX12_kind (wsV RX12 154 RX12 yX12_kindOf wsX12_kindOf) := goodIn_app (goodIn_of _ (by decide +kernel)) ggX12_kind_X12_kindOf
theorem dX12_kind_0 : decode cX12_kind 0 = .ok (.aload_n 0, 1) := by decide +kernel
theorem dX12_kind_1 : decode cX12_kind 1 = .ok (.iconst 0, 1) := by decide +kernel
theorem dX12_kind_2 : decode cX12_kind 2 = .ok (.putfield 60, 3) := by decide +kernel
theorem dX12_kind_5 : decode cX12_kind 5 = .ok (.aload_n 0, 1) := by decide +kernel
theorem dX12_kind_6 : decode cX12_kind 6 = .ok (.iload_n 1, 1) := by decide +kernel
theorem dX12_kind_7 : decode cX12_kind 7 = .ok (.invokevirtual 135, 3) := by decide +kernel
theorem dX12_kind_10 : decode cX12_kind 10 = .ok (.ifCond .eq 11, 3) := by decide +kernel
theorem dX12_kind_13 : decode cX12_kind 13 = .ok (.aload_n 0, 1) := by decide +kernel
theorem dX12_kind_14 : decode cX12_kind 14 = .ok (.iload_n 1, 1) := by decide +kernel
theorem dX12_kind_15 : decode cX12_kind 15 = .ok (.invokevirtual 154, 3) := by decide +kernel
theorem dX12_kind_18 : decode cX12_kind 18 = .ok (.goto 5, 3) := by decide +kernel
theorem dX12_kind_21 : decode cX12_kind 21 = .ok (.ldc 80, 2) := by decide +kernel
theorem dX12_kind_23 : decode cX12_kind 23 = .ok (.ireturn, 1) := by decide +kernel
set_option maxRecDepth 20000 in
theorem ggX12_as_X12_isGate : GoodIn wsX12_as wsX12_isGate := goodIn_r _ [10, 11, 12, 13, 9, 14, 25, 26, 27, 28, 29, 30, 31, 32, 33, 34, 35, 36, 37, 38, 39, 40, 41, 42, 43, 44, 45, 46] (by decide +kernel) (by decide +kernel)
set_option maxRecDepth 20000 in
theorem gX12_as_X12_isGate : GoodIn wsX12_as (wsV RX12 135 RX12 yX12_isGate wsX12_isGate) := goodIn_app (goodIn_of _ (by decide +kernel)) ggX12_as_X12_isGate
set_option maxRecDepth 20000 in
theorem ggX12_as_X12_in : GoodIn wsX12_as wsX12_in := goodIn_r _ [14] (by decide +kernel) (by decide +kernel)
set_option maxRecDepth 20000 in
theorem gX12_as_X12_in : GoodIn wsX12_as (va_wsS RX12 70 yX12_in wsX12_in) := goodIn_app (goodIn_of _ (by decide +kernel)) ggX12_as_X12_in
set_option maxRecDepth 20000 in
theorem ggX12_as_X12_kindOf : GoodIn wsX12_as wsX12_kindOf := goodIn_r _ [18, 19, 5, 25, 26, 27, 28, 29, 30, 31, 32, 33, 34, 35, 36, 37, 38, 39, 40, 41, 42, 43, 44, 45, 46] (by decide +kernel) (by decide +kernel)
set_option maxRecDepth 20000 in
theorem gX12_as_X12_kindOf : GoodIn wsX12_as (wsV RX12 154 RX12 yX12_kindOf wsX12_kindOf) := goodIn_app (goodIn_of _ (by decide +kernel)) ggX12_as_X12_kindOf
set_option maxRecDepth 20000 in
theorem ggX12_as_X12_found : GoodIn wsX12_as wsX12_found := goodIn_r _ [23, 4, 24, 25, 26, 27, 28, 29, 30, 31, 32, 33, 34, 35, 36, 37, 38, 39, 40, 41, 42, 43, 44, 45, 46] (by decide +kernel) (by decide +kernel)
set_option maxRecDepth 20000 in
theorem gX12_as_X12_found : GoodIn wsX12_as (wsV RX12 81 RX12 yX12_found wsX12_found) := goodIn_app (goodIn_of _ (by decide +kernel)) ggX12_as_X12_found
theorem dX12_as_0 : decode cX12_as 0 = .ok (.aload_n 0, 1) := by decide +kernel
theorem dX12_as_1 : decode cX12_as 1 = .ok (.iconst 0, 1) := by decide +kernel
theorem dX12_as_2 : decode cX12_as 2 = .ok (.putfield 60, 3) := by decide +kernel
theorem dX12_as_5 : decode cX12_as 5 = .ok (.aload_n 0, 1) := by decide +kernel
theorem dX12_as_6 : decode cX12_as 6 = .ok (.iload_n 1, 1) := by decide +kernel
theorem dX12_as_7 : decode cX12_as 7 = .ok (.invokevirtual 135, 3) := by decide +kernel
theorem dX12_as_10 : decode cX12_as 10 = .ok (.ifCond .eq 15, 3) := by decide +kernel
theorem dX12_as_13 : decode cX12_as 13 = .ok (.iload_n 2, 1) := by decide +kernel
theorem dX12_as_14 : decode cX12_as 14 = .ok (.i2l, 1) := by decide +kernel
theorem dX12_as_15 : decode cX12_as 15 = .ok (.lconst 0, 1) := by decide +kernel
theorem dX12_as_16 : decode cX12_as 16 = .ok (.ldc2_w 97, 3) := by decide +kernel
theorem dX12_as_19 : decode cX12_as 19 = .ok (.invokestatic 70, 3) := by decide +kernel
theorem dX12_as_22 : decode cX12_as 22 = .ok (.ifCond .ne 6, 3) := by decide +kernel
theorem dX12_as_25 : decode cX12_as 25 = .ok (.ldc 80, 2) := by decide +kernel
theorem dX12_as_27 : decode cX12_as 27 = .ok (.ireturn, 1) := by decide +kernel
theorem dX12_as_28 : decode cX12_as 28 = .ok (.aload_n 0, 1) := by decide +kernel
theorem dX12_as_29 : decode cX12_as 29 = .ok (.iconst 0, 1) := by decide +kernel
theorem dX12_as_30 : decode cX12_as 30 = .ok (.putfield 64, 3) := by decide +kernel
theorem dX12_as_33 : decode cX12_as 33 = .ok (.aload_n 0, 1) := by decide +kernel
theorem dX12_as_34 : decode cX12_as 34 = .ok (.iload_n 1, 1) := by decide +kernel
theorem dX12_as_35 : decode cX12_as 35 = .ok (.invokevirtual 154, 3) := by decide +kernel
theorem dX12_as_38 : decode cX12_as 38 = .ok (.istore_n 3, 1) := by decide +kernel
theorem dX12_as_39 : decode cX12_as 39 = .ok (.iload_n 2, 1) := by decide +kernel
theorem dX12_as_40 : decode cX12_as 40 = .ok (.ifCond .eq 18, 3) := by decide +kernel
theorem dX12_as_43 : decode cX12_as 43 = .ok (.iload_n 3, 1) := by decide +kernel
theorem dX12_as_44 : decode cX12_as 44 = .ok (.iload_n 2, 1) := by decide +kernel
theorem dX12_as_45 : decode cX12_as 45 = .ok (.if_icmp .eq 13, 3) := by decide +kernel
theorem dX12_as_48 : decode cX12_as 48 = .ok (.iload_n 2, 1) := by decide +kernel
theorem dX12_as_49 : decode cX12_as 49 = .ok (.iconst 1, 1) := by decide +kernel
theorem dX12_as_50 : decode cX12_as 50 = .ok (.if_icmp .ne 17, 3) := by decide +kernel
theorem dX12_as_53 : decode cX12_as 53 = .ok (.iload_n 3, 1) := by decide +kernel
theorem dX12_as_54 : decode cX12_as 54 = .ok (.iconst 2, 1) := by decide +kernel
theorem dX12_as_55 : decode cX12_as 55 = .ok (.if_icmp .ne 12, 3) := by decide +kernel
theorem dX12_as_58 : decode cX12_as 58 = .ok (.aload_n 0, 1) := by decide +kernel
theorem dX12_as_59 : decode cX12_as 59 = .ok (.getfield 39, 3) := by decide +kernel
theorem dX12_as_62 : decode cX12_as 62 = .ok (.iload_n 1, 1) := by decide +kernel
theorem dX12_as_63 : decode cX12_as 63 = .ok (.iaload, 1) := by decide +kernel
theorem dX12_as_64 : decode cX12_as 64 = .ok (.goto 8, 3) := by decide +kernel
theorem dX12_as_67 : decode cX12_as 67 = .ok (.aload_n 0, 1) := by decide +kernel
theorem dX12_as_68 : decode cX12_as 68 = .ok (.iconst 3, 1) := by decide +kernel
theorem dX12_as_69 : decode cX12_as 69 = .ok (.invokevirtual 81, 3) := by decide +kernel
theorem dX12_as_72 : decode cX12_as 72 = .ok (.ireturn, 1) := by decide +kernel
theorem dX12_began_0 : decode cX12_began 0 = .ok (.aload_n 0, 1) := by decide +kernel
theorem dX12_began_1 : decode cX12_began 1 = .ok (.getfield 157, 3) := by decide +kernel
theorem dX12_began_4 : decode cX12_began 4 = .ok (.bipush 16, 2) := by decide +kernel
theorem dX12_began_6 : decode cX12_began 6 = .ok (.if_icmp .ge 23, 3) := by decide +kernel
theorem dX12_began_9 : decode cX12_began 9 = .ok (.aload_n 0, 1) := by decide +kernel
theorem dX12_began_10 : decode cX12_began 10 = .ok (.getfield 57, 3) := by decide +kernel
theorem dX12_began_13 : decode cX12_began 13 = .ok (.aload_n 0, 1) := by decide +kernel
theorem dX12_began_14 : decode cX12_began 14 = .ok (.getfield 157, 3) := by decide +kernel
theorem dX12_began_17 : decode cX12_began 17 = .ok (.iload_n 1, 1) := by decide +kernel
theorem dX12_began_18 : decode cX12_began 18 = .ok (.iastore, 1) := by decide +kernel
theorem dX12_began_19 : decode cX12_began 19 = .ok (.aload_n 0, 1) := by decide +kernel
theorem dX12_began_20 : decode cX12_began 20 = .ok (.dup, 1) := by decide +kernel
theorem dX12_began_21 : decode cX12_began 21 = .ok (.getfield 157, 3) := by decide +kernel
theorem dX12_began_24 : decode cX12_began 24 = .ok (.iconst 1, 1) := by decide +kernel
theorem dX12_began_25 : decode cX12_began 25 = .ok (.iadd, 1) := by decide +kernel
theorem dX12_began_26 : decode cX12_began 26 = .ok (.putfield 157, 3) := by decide +kernel
theorem dX12_began_29 : decode cX12_began 29 = .ok (.return_, 1) := by decide +kernel
set_option maxRecDepth 20000 in
theorem ggX12_cost_X12_kindOf : GoodIn wsX12_cost wsX12_kindOf := goodIn_r _ [7, 2, 1, 14, 15, 16, 17, 18, 19, 20, 21, 22, 23, 24, 25, 26, 27, 28, 29, 30, 31, 32, 33, 34, 35] (by decide +kernel) (by decide +kernel)
set_option maxRecDepth 20000 in
theorem gX12_cost_X12_kindOf : GoodIn wsX12_cost (wsV RX12 154 RX12 yX12_kindOf wsX12_kindOf) := goodIn_app (goodIn_of _ (by decide +kernel)) ggX12_cost_X12_kindOf
set_option maxRecDepth 20000 in
theorem ggX12_cost_X12_began : GoodIn wsX12_cost wsX12_began := goodIn_r _ [11, 12, 13, 14, 15, 16, 17, 18, 19, 20, 21, 22, 23, 24, 25, 26, 27, 28, 29, 30, 31, 32, 33, 34, 35] (by decide +kernel) (by decide +kernel)
set_option maxRecDepth 20000 in
theorem gX12_cost_X12_began : GoodIn wsX12_cost (wsV RX12 160 RX12 yX12_began wsX12_began) := goodIn_app (goodIn_of _ (by decide +kernel)) ggX12_cost_X12_began
theorem dX12_cost_0 : decode cX12_cost 0 = .ok (.aload_n 0, 1) := by decide +kernel
theorem dX12_cost_1 : decode cX12_cost 1 = .ok (.iload_n 1, 1) := by decide +kernel
theorem dX12_cost_2 : decode cX12_cost 2 = .ok (.invokevirtual 154, 3) := by decide +kernel
theorem dX12_cost_5 : decode cX12_cost 5 = .ok (.istore_n 2, 1) := by decide +kernel
theorem dX12_cost_6 : decode cX12_cost 6 = .ok (.iload_n 2, 1) := by decide +kernel
theorem dX12_cost_7 : decode cX12_cost 7 = .ok (.iconst 1, 1) := by decide +kernel
theorem dX12_cost_8 : decode cX12_cost 8 = .ok (.if_icmp .eq 8, 3) := by decide +kernel
theorem dX12_cost_11 : decode cX12_cost 11 = .ok (.iload_n 2, 1) := by decide +kernel
theorem dX12_cost_12 : decode cX12_cost 12 = .ok (.iconst 2, 1) := by decide +kernel
theorem dX12_cost_13 : decode cX12_cost 13 = .ok (.if_icmp .ne 7, 3) := by decide +kernel
theorem dX12_cost_16 : decode cX12_cost 16 = .ok (.iconst 1, 1) := by decide +kernel
theorem dX12_cost_17 : decode cX12_cost 17 = .ok (.goto 4, 3) := by decide +kernel
theorem dX12_cost_20 : decode cX12_cost 20 = .ok (.iconst 0, 1) := by decide +kernel
theorem dX12_cost_21 : decode cX12_cost 21 = .ok (.istore_n 3, 1) := by decide +kernel
theorem dX12_cost_22 : decode cX12_cost 22 = .ok (.iload_n 2, 1) := by decide +kernel
theorem dX12_cost_23 : decode cX12_cost 23 = .ok (.iconst 3, 1) := by decide +kernel
theorem dX12_cost_24 : decode cX12_cost 24 = .ok (.if_icmp .ne 9, 3) := by decide +kernel
theorem dX12_cost_27 : decode cX12_cost 27 = .ok (.aload_n 0, 1) := by decide +kernel
theorem dX12_cost_28 : decode cX12_cost 28 = .ok (.bipush 13, 2) := by decide +kernel
theorem dX12_cost_30 : decode cX12_cost 30 = .ok (.invokevirtual 160, 3) := by decide +kernel
theorem dX12_cost_33 : decode cX12_cost 33 = .ok (.iload_n 2, 1) := by decide +kernel
theorem dX12_cost_34 : decode cX12_cost 34 = .ok (.iconst 2, 1) := by decide +kernel
theorem dX12_cost_35 : decode cX12_cost 35 = .ok (.if_icmp .ne 9, 3) := by decide +kernel
theorem dX12_cost_38 : decode cX12_cost 38 = .ok (.aload_n 0, 1) := by decide +kernel
theorem dX12_cost_39 : decode cX12_cost 39 = .ok (.bipush 12, 2) := by decide +kernel
theorem dX12_cost_41 : decode cX12_cost 41 = .ok (.invokevirtual 160, 3) := by decide +kernel
theorem dX12_cost_44 : decode cX12_cost 44 = .ok (.iload_n 3, 1) := by decide +kernel
theorem dX12_cost_45 : decode cX12_cost 45 = .ok (.ifCond .eq 9, 3) := by decide +kernel
theorem dX12_cost_48 : decode cX12_cost 48 = .ok (.aload_n 0, 1) := by decide +kernel
theorem dX12_cost_49 : decode cX12_cost 49 = .ok (.bipush 11, 2) := by decide +kernel
theorem dX12_cost_51 : decode cX12_cost 51 = .ok (.invokevirtual 160, 3) := by decide +kernel
theorem dX12_cost_54 : decode cX12_cost 54 = .ok (.aload_n 0, 1) := by decide +kernel
theorem dX12_cost_55 : decode cX12_cost 55 = .ok (.bipush 10, 2) := by decide +kernel
theorem dX12_cost_57 : decode cX12_cost 57 = .ok (.invokevirtual 160, 3) := by decide +kernel
theorem dX12_cost_60 : decode cX12_cost 60 = .ok (.aload_n 0, 1) := by decide +kernel
theorem dX12_cost_61 : decode cX12_cost 61 = .ok (.getfield 39, 3) := by decide +kernel
theorem dX12_cost_64 : decode cX12_cost 64 = .ok (.iload_n 1, 1) := by decide +kernel
theorem dX12_cost_65 : decode cX12_cost 65 = .ok (.iaload, 1) := by decide +kernel
theorem dX12_cost_66 : decode cX12_cost 66 = .ok (.iload_n 3, 1) := by decide +kernel
theorem dX12_cost_67 : decode cX12_cost 67 = .ok (.ifCond .eq 12, 3) := by decide +kernel
theorem dX12_cost_70 : decode cX12_cost 70 = .ok (.aload_n 0, 1) := by decide +kernel
theorem dX12_cost_71 : decode cX12_cost 71 = .ok (.getfield 42, 3) := by decide +kernel
theorem dX12_cost_74 : decode cX12_cost 74 = .ok (.iload_n 1, 1) := by decide +kernel
theorem dX12_cost_75 : decode cX12_cost 75 = .ok (.iaload, 1) := by decide +kernel
theorem dX12_cost_76 : decode cX12_cost 76 = .ok (.goto 4, 3) := by decide +kernel
theorem dX12_cost_79 : decode cX12_cost 79 = .ok (.iconst 0, 1) := by decide +kernel
theorem dX12_cost_80 : decode cX12_cost 80 = .ok (.iadd, 1) := by decide +kernel
theorem dX12_cost_81 : decode cX12_cost 81 = .ok (.istore 4, 2) := by decide +kernel
theorem dX12_cost_83 : decode cX12_cost 83 = .ok (.iload_n 2, 1) := by decide +kernel
theorem dX12_cost_84 : decode cX12_cost 84 = .ok (.iconst 3, 1) := by decide +kernel
theorem dX12_cost_85 : decode cX12_cost 85 = .ok (.if_icmp .ne 12, 3) := by decide +kernel
theorem dX12_cost_88 : decode cX12_cost 88 = .ok (.iload 4, 2) := by decide +kernel
theorem dX12_cost_90 : decode cX12_cost 90 = .ok (.sipush 1000, 3) := by decide +kernel
theorem dX12_cost_93 : decode cX12_cost 93 = .ok (.iadd, 1) := by decide +kernel
theorem dX12_cost_94 : decode cX12_cost 94 = .ok (.goto 17, 3) := by decide +kernel
theorem dX12_cost_97 : decode cX12_cost 97 = .ok (.iload_n 2, 1) := by decide +kernel
theorem dX12_cost_98 : decode cX12_cost 98 = .ok (.iconst 2, 1) := by decide +kernel
theorem dX12_cost_99 : decode cX12_cost 99 = .ok (.if_icmp .ne 10, 3) := by decide +kernel
theorem dX12_cost_102 : decode cX12_cost 102 = .ok (.iload 4, 2) := by decide +kernel
theorem dX12_cost_104 : decode cX12_cost 104 = .ok (.iconst 2, 1) := by decide +kernel
theorem dX12_cost_105 : decode cX12_cost 105 = .ok (.idiv, 1) := by decide +kernel
theorem dX12_cost_106 : decode cX12_cost 106 = .ok (.goto 5, 3) := by decide +kernel
theorem dX12_cost_109 : decode cX12_cost 109 = .ok (.iload 4, 2) := by decide +kernel
theorem dX12_cost_111 : decode cX12_cost 111 = .ok (.ireturn, 1) := by decide +kernel
set_option maxRecDepth 20000 in
theorem ggX12_marked_X12_kindOf : GoodIn wsX12_marked wsX12_kindOf := goodIn_r _ [6, 7, 8, 19, 20, 21, 22, 23, 24, 25, 26, 27, 28, 29, 30, 31, 32, 33, 34, 35, 36, 37, 38, 39, 40] (by decide +kernel) (by decide +kernel)
set_option maxRecDepth 20000 in
theorem gX12_marked_X12_kindOf : GoodIn wsX12_marked (wsV RX12 154 RX12 yX12_kindOf wsX12_kindOf) := goodIn_app (goodIn_of _ (by decide +kernel)) ggX12_marked_X12_kindOf
set_option maxRecDepth 20000 in
theorem ggX12_marked_X12_began : GoodIn wsX12_marked wsX12_began := goodIn_r _ [12, 13, 14, 19, 20, 21, 22, 23, 24, 25, 26, 27, 28, 29, 30, 31, 32, 33, 34, 35, 36, 37, 38, 39, 40] (by decide +kernel) (by decide +kernel)
set_option maxRecDepth 20000 in
theorem gX12_marked_X12_began : GoodIn wsX12_marked (wsV RX12 160 RX12 yX12_began wsX12_began) := goodIn_app (goodIn_of _ (by decide +kernel)) ggX12_marked_X12_began
set_option maxRecDepth 20000 in
theorem ggX12_marked_X12_cost : GoodIn wsX12_marked wsX12_cost := goodIn_r _ [18, 8, 7, 2, 3, 4, 5, 6, 9, 10, 11, 12, 13, 14, 19, 20, 21, 22, 23, 24, 25, 26, 27, 28, 29, 30, 31, 32, 33, 34, 35, 36, 37, 38, 39, 40] (by decide +kernel) (by decide +kernel)
set_option maxRecDepth 20000 in
theorem gX12_marked_X12_cost : GoodIn wsX12_marked (wsV RX12 164 RX12 yX12_cost wsX12_cost) := goodIn_app (goodIn_of _ (by decide +kernel)) ggX12_marked_X12_cost
theorem dX12_marked_0 : decode cX12_marked 0 = .ok (.aload_n 0, 1) := by decide +kernel
theorem dX12_marked_1 : decode cX12_marked 1 = .ok (.iload_n 1, 1) := by decide +kernel
theorem dX12_marked_2 : decode cX12_marked 2 = .ok (.invokevirtual 154, 3) := by decide +kernel
theorem dX12_marked_5 : decode cX12_marked 5 = .ok (.istore_n 2, 1) := by decide +kernel
theorem dX12_marked_6 : decode cX12_marked 6 = .ok (.iload_n 2, 1) := by decide +kernel
theorem dX12_marked_7 : decode cX12_marked 7 = .ok (.iconst 1, 1) := by decide +kernel
theorem dX12_marked_8 : decode cX12_marked 8 = .ok (.if_icmp .eq 8, 3) := by decide +kernel
theorem dX12_marked_11 : decode cX12_marked 11 = .ok (.iload_n 2, 1) := by decide +kernel
theorem dX12_marked_12 : decode cX12_marked 12 = .ok (.iconst 2, 1) := by decide +kernel
theorem dX12_marked_13 : decode cX12_marked 13 = .ok (.if_icmp .ne 7, 3) := by decide +kernel
theorem dX12_marked_16 : decode cX12_marked 16 = .ok (.iconst 1, 1) := by decide +kernel
theorem dX12_marked_17 : decode cX12_marked 17 = .ok (.goto 4, 3) := by decide +kernel
theorem dX12_marked_20 : decode cX12_marked 20 = .ok (.iconst 0, 1) := by decide +kernel
theorem dX12_marked_21 : decode cX12_marked 21 = .ok (.istore_n 3, 1) := by decide +kernel
theorem dX12_marked_22 : decode cX12_marked 22 = .ok (.iload_n 2, 1) := by decide +kernel
theorem dX12_marked_23 : decode cX12_marked 23 = .ok (.iconst 3, 1) := by decide +kernel
theorem dX12_marked_24 : decode cX12_marked 24 = .ok (.if_icmp .ne 9, 3) := by decide +kernel
