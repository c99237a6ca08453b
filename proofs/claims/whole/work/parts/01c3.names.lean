theorem dX11_hour_3 : decode cX11_hour 3 = .ok (.getfield 19, 3) := by decide +kernel
theorem dX11_hour_6 : decode cX11_hour 6 = .ok (.getfield 104, 3) := by decide +kernel
theorem dX11_hour_9 : decode cX11_hour 9 = .ok (.iconst 1, 1) := by decide +kernel
theorem dX11_hour_10 : decode cX11_hour 10 = .ok (.isub, 1) := by decide +kernel
theorem dX11_hour_11 : decode cX11_hour 11 = .ok (.invokestatic 66, 3) := by decide +kernel
theorem dX11_hour_14 : decode cX11_hour 14 = .ok (.ifCond .eq 13, 3) := by decide +kernel
theorem dX11_hour_17 : decode cX11_hour 17 = .ok (.iload_n 2, 1) := by decide +kernel
theorem dX11_hour_18 : decode cX11_hour 18 = .ok (.iconst 0, 1) := by decide +kernel
theorem dX11_hour_19 : decode cX11_hour 19 = .ok (.bipush 7, 2) := by decide +kernel
theorem dX11_hour_21 : decode cX11_hour 21 = .ok (.invokestatic 66, 3) := by decide +kernel
theorem dX11_hour_24 : decode cX11_hour 24 = .ok (.ifCond .ne 6, 3) := by decide +kernel
theorem dX11_hour_27 : decode cX11_hour 27 = .ok (.ldc 70, 2) := by decide +kernel
theorem dX11_hour_29 : decode cX11_hour 29 = .ok (.ireturn, 1) := by decide +kernel
theorem dX11_hour_30 : decode cX11_hour 30 = .ok (.aload_n 0, 1) := by decide +kernel
theorem dX11_hour_31 : decode cX11_hour 31 = .ok (.getfield 37, 3) := by decide +kernel
theorem dX11_hour_34 : decode cX11_hour 34 = .ok (.invokevirtual 135, 3) := by decide +kernel
theorem dX11_hour_37 : decode cX11_hour 37 = .ok (.aload_n 0, 1) := by decide +kernel
theorem dX11_hour_38 : decode cX11_hour 38 = .ok (.getfield 37, 3) := by decide +kernel
theorem dX11_hour_41 : decode cX11_hour 41 = .ok (.iload_n 1, 1) := by decide +kernel
theorem dX11_hour_42 : decode cX11_hour 42 = .ok (.iload_n 2, 1) := by decide +kernel
theorem dX11_hour_43 : decode cX11_hour 43 = .ok (.invokevirtual 142, 3) := by decide +kernel
theorem dX11_hour_46 : decode cX11_hour 46 = .ok (.istore 4, 2) := by decide +kernel
theorem dX11_hour_48 : decode cX11_hour 48 = .ok (.aload_n 0, 1) := by decide +kernel
theorem dX11_hour_49 : decode cX11_hour 49 = .ok (.getfield 37, 3) := by decide +kernel
theorem dX11_hour_52 : decode cX11_hour 52 = .ok (.iload_n 2, 1) := by decide +kernel
theorem dX11_hour_53 : decode cX11_hour 53 = .ok (.iload_n 1, 1) := by decide +kernel
theorem dX11_hour_54 : decode cX11_hour 54 = .ok (.iload 4, 2) := by decide +kernel
theorem dX11_hour_56 : decode cX11_hour 56 = .ok (.invokevirtual 146, 3) := by decide +kernel
theorem dX11_hour_59 : decode cX11_hour 59 = .ok (.istore 5, 2) := by decide +kernel
theorem dX11_hour_61 : decode cX11_hour 61 = .ok (.iload_n 3, 1) := by decide +kernel
theorem dX11_hour_62 : decode cX11_hour 62 = .ok (.tableswitch 88 0 3 #[30, 38, 53, 74], 30) := by decide +kernel
theorem dX11_hour_92 : decode cX11_hour 92 = .ok (.iload 4, 2) := by decide +kernel
theorem dX11_hour_94 : decode cX11_hour 94 = .ok (.iload 5, 2) := by decide +kernel
theorem dX11_hour_96 : decode cX11_hour 96 = .ok (.invokestatic 149, 3) := by decide +kernel
theorem dX11_hour_99 : decode cX11_hour 99 = .ok (.ireturn, 1) := by decide +kernel
theorem dX11_hour_100 : decode cX11_hour 100 = .ok (.aload_n 0, 1) := by decide +kernel
theorem dX11_hour_101 : decode cX11_hour 101 = .ok (.getfield 28, 3) := by decide +kernel
theorem dX11_hour_104 : decode cX11_hour 104 = .ok (.iload 4, 2) := by decide +kernel
theorem dX11_hour_106 : decode cX11_hour 106 = .ok (.iload 5, 2) := by decide +kernel
theorem dX11_hour_108 : decode cX11_hour 108 = .ok (.invokevirtual 153, 3) := by decide +kernel
theorem dX11_hour_111 : decode cX11_hour 111 = .ok (.invokestatic 156, 3) := by decide +kernel
theorem dX11_hour_114 : decode cX11_hour 114 = .ok (.ireturn, 1) := by decide +kernel
theorem dX11_hour_115 : decode cX11_hour 115 = .ok (.aload_n 0, 1) := by decide +kernel
theorem dX11_hour_116 : decode cX11_hour 116 = .ok (.getfield 28, 3) := by decide +kernel
theorem dX11_hour_119 : decode cX11_hour 119 = .ok (.iload_n 1, 1) := by decide +kernel
theorem dX11_hour_120 : decode cX11_hour 120 = .ok (.iload_n 2, 1) := by decide +kernel
theorem dX11_hour_121 : decode cX11_hour 121 = .ok (.aload_n 0, 1) := by decide +kernel
theorem dX11_hour_122 : decode cX11_hour 122 = .ok (.getfield 28, 3) := by decide +kernel
theorem dX11_hour_125 : decode cX11_hour 125 = .ok (.iload 4, 2) := by decide +kernel
theorem dX11_hour_127 : decode cX11_hour 127 = .ok (.iload 5, 2) := by decide +kernel
theorem dX11_hour_129 : decode cX11_hour 129 = .ok (.invokevirtual 153, 3) := by decide +kernel
theorem dX11_hour_132 : decode cX11_hour 132 = .ok (.invokevirtual 159, 3) := by decide +kernel
theorem dX11_hour_135 : decode cX11_hour 135 = .ok (.ireturn, 1) := by decide +kernel
theorem dX11_hour_136 : decode cX11_hour 136 = .ok (.aload_n 0, 1) := by decide +kernel
theorem dX11_hour_137 : decode cX11_hour 137 = .ok (.getfield 28, 3) := by decide +kernel
theorem dX11_hour_140 : decode cX11_hour 140 = .ok (.iload_n 1, 1) := by decide +kernel
theorem dX11_hour_141 : decode cX11_hour 141 = .ok (.iload_n 2, 1) := by decide +kernel
theorem dX11_hour_142 : decode cX11_hour 142 = .ok (.iload 4, 2) := by decide +kernel
theorem dX11_hour_144 : decode cX11_hour 144 = .ok (.iload 5, 2) := by decide +kernel
theorem dX11_hour_146 : decode cX11_hour 146 = .ok (.invokevirtual 162, 3) := by decide +kernel
theorem dX11_hour_149 : decode cX11_hour 149 = .ok (.ireturn, 1) := by decide +kernel
theorem dX11_hour_150 : decode cX11_hour 150 = .ok (.ldc 70, 2) := by decide +kernel
theorem dX11_hour_152 : decode cX11_hour 152 = .ok (.ireturn, 1) := by decide +kernel
set_option maxRecDepth 20000 in
theorem ggX11_shutAt_X11_within : GoodIn wsX11_shutAt wsX11_within := goodIn_r _ [6] (by decide +kernel) (by decide +kernel)
set_option maxRecDepth 20000 in
theorem gX11_shutAt_X11_within : GoodIn wsX11_shutAt (va_wsS RX11 66 yX11_within wsX11_within) := goodIn_app (goodIn_of _ (by decide +kernel)) ggX11_shutAt_X11_within
set_option maxRecDepth 20000 in
theorem ggX11_shutAt_X0_lossOfOneOrder : GoodIn wsX11_shutAt wsX0_lossOfOneOrder := goodIn_r _ [11, 12, 13, 14, 15, 16, 17, 10, 18, 19, 20, 21, 22, 23, 24, 25, 26, 27, 28, 29, 30, 31, 32, 33, 34, 35, 36, 37, 38, 39, 40, 41, 42, 51, 52, 53, 54, 55, 56, 57] (by decide +kernel) (by decide +kernel)
set_option maxRecDepth 20000 in
theorem gX11_shutAt_X0_lossOfOneOrder : GoodIn wsX11_shutAt (wsV RX11 166 RX0 yX0_lossOfOneOrder wsX0_lossOfOneOrder) := goodIn_app (goodIn_of _ (by decide +kernel)) ggX11_shutAt_X0_lossOfOneOrder
theorem dX11_shutAt_0 : decode cX11_shutAt 0 = .ok (.iload_n 1, 1) := by decide +kernel
theorem dX11_shutAt_1 : decode cX11_shutAt 1 = .ok (.iconst 0, 1) := by decide +kernel
theorem dX11_shutAt_2 : decode cX11_shutAt 2 = .ok (.bipush 8, 2) := by decide +kernel
theorem dX11_shutAt_4 : decode cX11_shutAt 4 = .ok (.invokestatic 66, 3) := by decide +kernel
theorem dX11_shutAt_7 : decode cX11_shutAt 7 = .ok (.ifCond .eq 14, 3) := by decide +kernel
theorem dX11_shutAt_10 : decode cX11_shutAt 10 = .ok (.aload_n 0, 1) := by decide +kernel
theorem dX11_shutAt_11 : decode cX11_shutAt 11 = .ok (.getfield 28, 3) := by decide +kernel
theorem dX11_shutAt_14 : decode cX11_shutAt 14 = .ok (.iload_n 1, 1) := by decide +kernel
theorem dX11_shutAt_15 : decode cX11_shutAt 15 = .ok (.invokevirtual 166, 3) := by decide +kernel
theorem dX11_shutAt_18 : decode cX11_shutAt 18 = .ok (.goto 6, 3) := by decide +kernel
theorem dX11_shutAt_21 : decode cX11_shutAt 21 = .ok (.ldc2_w 170, 3) := by decide +kernel
theorem dX11_shutAt_24 : decode cX11_shutAt 24 = .ok (.lreturn, 1) := by decide +kernel
set_option maxRecDepth 20000 in
theorem ggX11_alarm_X6_firstAbove : GoodIn wsX11_alarm wsX6_firstAbove := goodIn_r _ [9, 10, 11, 23, 24, 25, 26] (by decide +kernel) (by decide +kernel)
set_option maxRecDepth 20000 in
theorem gX11_alarm_X6_firstAbove : GoodIn wsX11_alarm (wsV RX11 172 RX6 yX6_firstAbove wsX6_firstAbove) := goodIn_app (goodIn_of _ (by decide +kernel)) ggX11_alarm_X6_firstAbove
theorem dX11_alarm_0 : decode cX11_alarm 0 = .ok (.aload_n 0, 1) := by decide +kernel
theorem dX11_alarm_1 : decode cX11_alarm 1 = .ok (.getfield 19, 3) := by decide +kernel
theorem dX11_alarm_4 : decode cX11_alarm 4 = .ok (.aload_n 0, 1) := by decide +kernel
theorem dX11_alarm_5 : decode cX11_alarm 5 = .ok (.getfield 28, 3) := by decide +kernel
theorem dX11_alarm_8 : decode cX11_alarm 8 = .ok (.getfield 132, 3) := by decide +kernel
theorem dX11_alarm_11 : decode cX11_alarm 11 = .ok (.iconst 2, 1) := by decide +kernel
theorem dX11_alarm_12 : decode cX11_alarm 12 = .ok (.iaload, 1) := by decide +kernel
theorem dX11_alarm_13 : decode cX11_alarm 13 = .ok (.invokevirtual 172, 3) := by decide +kernel
theorem dX11_alarm_16 : decode cX11_alarm 16 = .ok (.istore_n 1, 1) := by decide +kernel
theorem dX11_alarm_17 : decode cX11_alarm 17 = .ok (.iload_n 1, 1) := by decide +kernel
theorem dX11_alarm_18 : decode cX11_alarm 18 = .ok (.bipush 8, 2) := by decide +kernel
theorem dX11_alarm_20 : decode cX11_alarm 20 = .ok (.if_icmp .ne 6, 3) := by decide +kernel
theorem dX11_alarm_23 : decode cX11_alarm 23 = .ok (.bipush 8, 2) := by decide +kernel
theorem dX11_alarm_25 : decode cX11_alarm 25 = .ok (.ireturn, 1) := by decide +kernel
theorem dX11_alarm_26 : decode cX11_alarm 26 = .ok (.iload_n 1, 1) := by decide +kernel
theorem dX11_alarm_27 : decode cX11_alarm 27 = .ok (.aload_n 0, 1) := by decide +kernel
theorem dX11_alarm_28 : decode cX11_alarm 28 = .ok (.getfield 28, 3) := by decide +kernel
theorem dX11_alarm_31 : decode cX11_alarm 31 = .ok (.getfield 132, 3) := by decide +kernel
theorem dX11_alarm_34 : decode cX11_alarm 34 = .ok (.iconst 0, 1) := by decide +kernel
theorem dX11_alarm_35 : decode cX11_alarm 35 = .ok (.iaload, 1) := by decide +kernel
theorem dX11_alarm_36 : decode cX11_alarm 36 = .ok (.isub, 1) := by decide +kernel
theorem dX11_alarm_37 : decode cX11_alarm 37 = .ok (.istore_n 2, 1) := by decide +kernel
theorem dX11_alarm_38 : decode cX11_alarm 38 = .ok (.iload_n 2, 1) := by decide +kernel
theorem dX11_alarm_39 : decode cX11_alarm 39 = .ok (.ifCond .ge 8, 3) := by decide +kernel
theorem dX11_alarm_42 : decode cX11_alarm 42 = .ok (.ldc 175, 2) := by decide +kernel
theorem dX11_alarm_44 : decode cX11_alarm 44 = .ok (.goto 4, 3) := by decide +kernel
theorem dX11_alarm_47 : decode cX11_alarm 47 = .ok (.iload_n 2, 1) := by decide +kernel
theorem dX11_alarm_48 : decode cX11_alarm 48 = .ok (.ireturn, 1) := by decide +kernel
set_option maxRecDepth 20000 in
theorem ggX11_groups_X11_within : GoodIn wsX11_groups wsX11_within := goodIn_r _ [6] (by decide +kernel) (by decide +kernel)
set_option maxRecDepth 20000 in
theorem gX11_groups_X11_within : GoodIn wsX11_groups (va_wsS RX11 66 yX11_within wsX11_within) := goodIn_app (goodIn_of _ (by decide +kernel)) ggX11_groups_X11_within
set_option maxRecDepth 20000 in
theorem ggX11_groups_X6_groupsAt : GoodIn wsX11_groups wsX6_groupsAt := goodIn_r _ [11, 12, 13, 22, 23, 24, 25] (by decide +kernel) (by decide +kernel)
set_option maxRecDepth 20000 in
theorem gX11_groups_X6_groupsAt : GoodIn wsX11_groups (wsV RX11 176 RX6 yX6_groupsAt wsX6_groupsAt) := goodIn_app (goodIn_of _ (by decide +kernel)) ggX11_groups_X6_groupsAt
theorem dX11_groups_0 : decode cX11_groups 0 = .ok (.iload_n 1, 1) := by decide +kernel
theorem dX11_groups_1 : decode cX11_groups 1 = .ok (.iconst 0, 1) := by decide +kernel
theorem dX11_groups_2 : decode cX11_groups 2 = .ok (.bipush 7, 2) := by decide +kernel
theorem dX11_groups_4 : decode cX11_groups 4 = .ok (.invokestatic 66, 3) := by decide +kernel
theorem dX11_groups_7 : decode cX11_groups 7 = .ok (.ifCond .eq 14, 3) := by decide +kernel
theorem dX11_groups_10 : decode cX11_groups 10 = .ok (.aload_n 0, 1) := by decide +kernel
theorem dX11_groups_11 : decode cX11_groups 11 = .ok (.getfield 19, 3) := by decide +kernel
theorem dX11_groups_14 : decode cX11_groups 14 = .ok (.iload_n 1, 1) := by decide +kernel
theorem dX11_groups_15 : decode cX11_groups 15 = .ok (.invokevirtual 176, 3) := by decide +kernel
theorem dX11_groups_18 : decode cX11_groups 18 = .ok (.goto 5, 3) := by decide +kernel
theorem dX11_groups_21 : decode cX11_groups 21 = .ok (.ldc 70, 2) := by decide +kernel
theorem dX11_groups_23 : decode cX11_groups 23 = .ok (.ireturn, 1) := by decide +kernel
set_option maxRecDepth 20000 in
theorem ggX11_gate_X11_within : GoodIn wsX11_gate wsX11_within := goodIn_r _ [8] (by decide +kernel) (by decide +kernel)
set_option maxRecDepth 20000 in
theorem gX11_gate_X11_within : GoodIn wsX11_gate (va_wsS RX11 66 yX11_within wsX11_within) := goodIn_app (goodIn_of _ (by decide +kernel)) ggX11_gate_X11_within
set_option maxRecDepth 20000 in
theorem ggX11_gate_X11_gateOf : GoodIn wsX11_gate wsX11_gateOf := goodIn_r _ [11, 12, 13, 14, 15, 16, 17, 18, 19, 20, 21, 22, 23, 24, 25, 26, 27, 28, 29, 30, 31, 32, 33, 34, 35, 36, 37, 38, 39, 40, 41, 42, 43, 44, 63, 64, 65, 66, 67, 68, 69, 70, 71, 72, 73, 74] (by decide +kernel) (by decide +kernel)
set_option maxRecDepth 20000 in
theorem gX11_gate_X11_gateOf : GoodIn wsX11_gate (va_wsS RX11 180 yX11_gateOf wsX11_gateOf) := goodIn_app (goodIn_of _ (by decide +kernel)) ggX11_gate_X11_gateOf
set_option maxRecDepth 20000 in
theorem ggX11_gate_X5_add : GoodIn wsX11_gate wsX5_add := goodIn_r _ [49, 50, 51, 60, 61, 62] (by decide +kernel) (by decide +kernel)
set_option maxRecDepth 20000 in
theorem gX11_gate_X5_add : GoodIn wsX11_gate (wsV RX11 184 RX5 yX5_add wsX5_add) := goodIn_app (goodIn_of _ (by decide +kernel)) ggX11_gate_X5_add
theorem dX11_gate_0 : decode cX11_gate 0 = .ok (.iload_n 1, 1) := by decide +kernel
theorem dX11_gate_1 : decode cX11_gate 1 = .ok (.iconst 1, 1) := by decide +kernel
theorem dX11_gate_2 : decode cX11_gate 2 = .ok (.sipush 500, 3) := by decide +kernel
theorem dX11_gate_5 : decode cX11_gate 5 = .ok (.invokestatic 66, 3) := by decide +kernel
theorem dX11_gate_8 : decode cX11_gate 8 = .ok (.ifCond .eq 14, 3) := by decide +kernel
theorem dX11_gate_11 : decode cX11_gate 11 = .ok (.iload_n 2, 1) := by decide +kernel
theorem dX11_gate_12 : decode cX11_gate 12 = .ok (.iconst 0, 1) := by decide +kernel
theorem dX11_gate_13 : decode cX11_gate 13 = .ok (.sipush 2000, 3) := by decide +kernel
theorem dX11_gate_16 : decode cX11_gate 16 = .ok (.invokestatic 66, 3) := by decide +kernel
theorem dX11_gate_19 : decode cX11_gate 19 = .ok (.ifCond .ne 6, 3) := by decide +kernel
theorem dX11_gate_22 : decode cX11_gate 22 = .ok (.ldc 70, 2) := by decide +kernel
theorem dX11_gate_24 : decode cX11_gate 24 = .ok (.ireturn, 1) := by decide +kernel
theorem dX11_gate_25 : decode cX11_gate 25 = .ok (.aload_n 0, 1) := by decide +kernel
theorem dX11_gate_26 : decode cX11_gate 26 = .ok (.getfield 44, 3) := by decide +kernel
theorem dX11_gate_29 : decode cX11_gate 29 = .ok (.getfield 179, 3) := by decide +kernel
theorem dX11_gate_32 : decode cX11_gate 32 = .ok (.bipush 6, 2) := by decide +kernel
theorem dX11_gate_34 : decode cX11_gate 34 = .ok (.if_icmp .lt 8, 3) := by decide +kernel
theorem dX11_gate_37 : decode cX11_gate 37 = .ok (.ldc 107, 2) := by decide +kernel
theorem dX11_gate_39 : decode cX11_gate 39 = .ok (.goto 15, 3) := by decide +kernel
theorem dX11_gate_42 : decode cX11_gate 42 = .ok (.aload_n 0, 1) := by decide +kernel
theorem dX11_gate_43 : decode cX11_gate 43 = .ok (.getfield 44, 3) := by decide +kernel
theorem dX11_gate_46 : decode cX11_gate 46 = .ok (.iload_n 1, 1) := by decide +kernel
theorem dX11_gate_47 : decode cX11_gate 47 = .ok (.iload_n 2, 1) := by decide +kernel
theorem dX11_gate_48 : decode cX11_gate 48 = .ok (.invokestatic 180, 3) := by decide +kernel
theorem dX11_gate_51 : decode cX11_gate 51 = .ok (.invokevirtual 184, 3) := by decide +kernel
theorem dX11_gate_54 : decode cX11_gate 54 = .ok (.ireturn, 1) := by decide +kernel
set_option maxRecDepth 20000 in
theorem ggX11_gateOf_X10_init : GoodIn wsX11_gateOf wsX10_init := goodIn_r _ [15, 16, 17, 6, 18, 19, 20, 12, 21, 22, 23, 24, 25, 26, 27, 43, 44, 45, 37, 38, 39, 40, 41, 42, 34, 35, 36] (by decide +kernel) (by decide +kernel)
set_option maxRecDepth 20000 in
theorem gX11_gateOf_X10_init : GoodIn wsX11_gateOf (wsX10_init) := ggX11_gateOf_X10_init
set_option maxRecDepth 20000 in
theorem ggX11_gateOf_X3_init : GoodIn wsX11_gateOf wsX3_init := goodIn_r _ [18, 19, 20, 12, 21, 22, 23, 24, 25, 26, 27, 43, 44, 45, 37, 38, 39, 40, 41, 42, 34, 35, 36] (by decide +kernel) (by decide +kernel)
set_option maxRecDepth 20000 in
theorem gX11_gateOf_X3_init : GoodIn wsX11_gateOf (wsX3_init) := ggX11_gateOf_X3_init
set_option maxRecDepth 20000 in
theorem ggX11_gateOf_X8_init : GoodIn wsX11_gateOf wsX8_init := goodIn_r _ [31, 32, 20, 12, 21, 22, 23, 24, 25, 26, 27, 43, 44, 45, 37, 38, 39, 40, 41, 42, 34, 35, 36] (by decide +kernel) (by decide +kernel)
set_option maxRecDepth 20000 in
theorem gX11_gateOf_X8_init : GoodIn wsX11_gateOf (wsX8_init) := ggX11_gateOf_X8_init
set_option maxRecDepth 20000 in
theorem ggX11_gateOf_X2_init : GoodIn wsX11_gateOf wsX2_init := goodIn_r _ [21, 22, 23, 24, 25, 26, 27, 43, 44, 45, 37, 38, 39, 40, 41, 42, 34, 35, 36] (by decide +kernel) (by decide +kernel)
set_option maxRecDepth 20000 in
theorem gX11_gateOf_X2_init : GoodIn wsX11_gateOf (wsX2_init) := ggX11_gateOf_X2_init
theorem dX11_gateOf_0 : decode cX11_gateOf 0 = .ok (.iload_n 1, 1) := by decide +kernel
theorem dX11_gateOf_1 : decode cX11_gateOf 1 = .ok (.ifCond .le 30, 3) := by decide +kernel
theorem dX11_gateOf_4 : decode cX11_gateOf 4 = .ok (.iload_n 1, 1) := by decide +kernel
theorem dX11_gateOf_5 : decode cX11_gateOf 5 = .ok (.iload_n 0, 1) := by decide +kernel
theorem dX11_gateOf_6 : decode cX11_gateOf 6 = .ok (.if_icmp .gt 15, 3) := by decide +kernel
theorem dX11_gateOf_9 : decode cX11_gateOf 9 = .ok (.new 187, 3) := by decide +kernel
theorem dX11_gateOf_12 : decode cX11_gateOf 12 = .ok (.dup, 1) := by decide +kernel
theorem dX11_gateOf_13 : decode cX11_gateOf 13 = .ok (.iload_n 0, 1) := by decide +kernel
theorem dX11_gateOf_14 : decode cX11_gateOf 14 = .ok (.iload_n 1, 1) := by decide +kernel
theorem dX11_gateOf_15 : decode cX11_gateOf 15 = .ok (.invokespecial 189, 3) := by decide +kernel
theorem dX11_gateOf_18 : decode cX11_gateOf 18 = .ok (.goto 12, 3) := by decide +kernel
theorem dX11_gateOf_21 : decode cX11_gateOf 21 = .ok (.new 192, 3) := by decide +kernel
theorem dX11_gateOf_24 : decode cX11_gateOf 24 = .ok (.dup, 1) := by decide +kernel
theorem dX11_gateOf_25 : decode cX11_gateOf 25 = .ok (.iload_n 0, 1) := by decide +kernel
theorem dX11_gateOf_26 : decode cX11_gateOf 26 = .ok (.iload_n 1, 1) := by decide +kernel
theorem dX11_gateOf_27 : decode cX11_gateOf 27 = .ok (.invokespecial 194, 3) := by decide +kernel
theorem dX11_gateOf_30 : decode cX11_gateOf 30 = .ok (.areturn, 1) := by decide +kernel
theorem dX11_gateOf_31 : decode cX11_gateOf 31 = .ok (.iload_n 0, 1) := by decide +kernel
theorem dX11_gateOf_32 : decode cX11_gateOf 32 = .ok (.sipush 200, 3) := by decide +kernel
theorem dX11_gateOf_35 : decode cX11_gateOf 35 = .ok (.if_icmp .lt 14, 3) := by decide +kernel
theorem dX11_gateOf_38 : decode cX11_gateOf 38 = .ok (.new 195, 3) := by decide +kernel
theorem dX11_gateOf_41 : decode cX11_gateOf 41 = .ok (.dup, 1) := by decide +kernel
theorem dX11_gateOf_42 : decode cX11_gateOf 42 = .ok (.iload_n 0, 1) := by decide +kernel
theorem dX11_gateOf_43 : decode cX11_gateOf 43 = .ok (.invokespecial 197, 3) := by decide +kernel
theorem dX11_gateOf_46 : decode cX11_gateOf 46 = .ok (.goto 12, 3) := by decide +kernel
theorem dX11_gateOf_49 : decode cX11_gateOf 49 = .ok (.new 200, 3) := by decide +kernel
theorem dX11_gateOf_52 : decode cX11_gateOf 52 = .ok (.dup, 1) := by decide +kernel
theorem dX11_gateOf_53 : decode cX11_gateOf 53 = .ok (.iload_n 0, 1) := by decide +kernel
theorem dX11_gateOf_54 : decode cX11_gateOf 54 = .ok (.iload_n 1, 1) := by decide +kernel
theorem dX11_gateOf_55 : decode cX11_gateOf 55 = .ok (.invokespecial 202, 3) := by decide +kernel
theorem dX11_gateOf_58 : decode cX11_gateOf 58 = .ok (.areturn, 1) := by decide +kernel
set_option maxRecDepth 20000 in
theorem ggX11_fail_X11_becomes : GoodIn wsX11_fail wsX11_becomes := goodIn_r _ [5, 6, 7, 8, 9, 10, 11, 12, 13, 14, 15, 16, 4, 17, 18, 19, 20, 21, 22, 23, 24, 25, 26, 27, 28, 29, 30, 31, 32, 33, 34, 35, 36, 37, 38, 39, 40] (by decide +kernel) (by decide +kernel)
set_option maxRecDepth 20000 in
theorem gX11_fail_X11_becomes : GoodIn wsX11_fail (wsV RX11 203 RX11 yX11_becomes wsX11_becomes) := goodIn_app (goodIn_of _ (by decide +kernel)) ggX11_fail_X11_becomes
theorem dX11_fail_0 : decode cX11_fail 0 = .ok (.aload_n 0, 1) := by decide +kernel
theorem dX11_fail_1 : decode cX11_fail 1 = .ok (.iload_n 1, 1) := by decide +kernel
theorem dX11_fail_2 : decode cX11_fail 2 = .ok (.iconst 1, 1) := by decide +kernel
theorem dX11_fail_3 : decode cX11_fail 3 = .ok (.invokevirtual 203, 3) := by decide +kernel
theorem dX11_fail_6 : decode cX11_fail 6 = .ok (.ireturn, 1) := by decide +kernel
set_option maxRecDepth 20000 in
theorem ggX11_mend_X11_becomes : GoodIn wsX11_mend wsX11_becomes := goodIn_r _ [5, 6, 7, 8, 9, 10, 11, 12, 13, 14, 15, 16, 4, 17, 18, 19, 20, 21, 22, 23, 24, 25, 26, 27, 28, 29, 30, 31, 32, 33, 34, 35, 36, 37, 38, 39, 40] (by decide +kernel) (by decide +kernel)
set_option maxRecDepth 20000 in
theorem gX11_mend_X11_becomes : GoodIn wsX11_mend (wsV RX11 203 RX11 yX11_becomes wsX11_becomes) := goodIn_app (goodIn_of _ (by decide +kernel)) ggX11_mend_X11_becomes
theorem dX11_mend_0 : decode cX11_mend 0 = .ok (.aload_n 0, 1) := by decide +kernel
theorem dX11_mend_1 : decode cX11_mend 1 = .ok (.iload_n 1, 1) := by decide +kernel
theorem dX11_mend_2 : decode cX11_mend 2 = .ok (.iconst 0, 1) := by decide +kernel
theorem dX11_mend_3 : decode cX11_mend 3 = .ok (.invokevirtual 203, 3) := by decide +kernel
theorem dX11_mend_6 : decode cX11_mend 6 = .ok (.ireturn, 1) := by decide +kernel
set_option maxRecDepth 20000 in
theorem ggX11_becomes_X5_at : GoodIn wsX11_becomes wsX5_at := goodIn_r _ [8, 9, 10, 11, 12, 13, 34, 35, 36] (by decide +kernel) (by decide +kernel)
set_option maxRecDepth 20000 in
theorem gX11_becomes_X5_at : GoodIn wsX11_becomes (wsV RX11 206 RX5 yX5_at wsX5_at) := goodIn_app (goodIn_of _ (by decide +kernel)) ggX11_becomes_X5_at
theorem dX11_becomes_0 : decode cX11_becomes 0 = .ok (.aload_n 0, 1) := by decide +kernel
theorem dX11_becomes_1 : decode cX11_becomes 1 = .ok (.getfield 44, 3) := by decide +kernel
theorem dX11_becomes_4 : decode cX11_becomes 4 = .ok (.iload_n 1, 1) := by decide +kernel
theorem dX11_becomes_5 : decode cX11_becomes 5 = .ok (.invokevirtual 206, 3) := by decide +kernel
theorem dX11_becomes_8 : decode cX11_becomes 8 = .ok (.astore_n 3, 1) := by decide +kernel
theorem dX11_becomes_9 : decode cX11_becomes 9 = .ok (.aload_n 3, 1) := by decide +kernel
theorem dX11_becomes_10 : decode cX11_becomes 10 = .ok (.ifnonnull 6, 3) := by decide +kernel
theorem dX11_becomes_13 : decode cX11_becomes 13 = .ok (.ldc 70, 2) := by decide +kernel
theorem dX11_becomes_15 : decode cX11_becomes 15 = .ok (.ireturn, 1) := by decide +kernel
theorem dX11_becomes_16 : decode cX11_becomes 16 = .ok (.aload_n 3, 1) := by decide +kernel
theorem dX11_becomes_17 : decode cX11_becomes 17 = .ok (.getfield 210, 3) := by decide +kernel
theorem dX11_becomes_20 : decode cX11_becomes 20 = .ok (.iload_n 2, 1) := by decide +kernel
theorem dX11_becomes_21 : decode cX11_becomes 21 = .ok (.if_icmp .ne 7, 3) := by decide +kernel
theorem dX11_becomes_24 : decode cX11_becomes 24 = .ok (.iconst 0, 1) := by decide +kernel
theorem dX11_becomes_25 : decode cX11_becomes 25 = .ok (.goto 4, 3) := by decide +kernel
theorem dX11_becomes_28 : decode cX11_becomes 28 = .ok (.iconst 1, 1) := by decide +kernel
theorem dX11_becomes_29 : decode cX11_becomes 29 = .ok (.istore 4, 2) := by decide +kernel
theorem dX11_becomes_31 : decode cX11_becomes 31 = .ok (.aload_n 3, 1) := by decide +kernel
theorem dX11_becomes_32 : decode cX11_becomes 32 = .ok (.iload_n 2, 1) := by decide +kernel
theorem dX11_becomes_33 : decode cX11_becomes 33 = .ok (.putfield 210, 3) := by decide +kernel
theorem dX11_becomes_36 : decode cX11_becomes 36 = .ok (.iload 4, 2) := by decide +kernel
theorem dX11_becomes_38 : decode cX11_becomes 38 = .ok (.ireturn, 1) := by decide +kernel
set_option maxRecDepth 20000 in
theorem ggX11_time_X11_within : GoodIn wsX11_time wsX11_within := goodIn_r _ [7] (by decide +kernel) (by decide +kernel)
set_option maxRecDepth 20000 in
theorem gX11_time_X11_within : GoodIn wsX11_time (va_wsS RX11 66 yX11_within wsX11_within) := goodIn_app (goodIn_of _ (by decide +kernel)) ggX11_time_X11_within
set_option maxRecDepth 20000 in
theorem ggX11_time_X5_timeToShut : GoodIn wsX11_time wsX5_timeToShut := goodIn_r _ [12, 13, 14, 15, 16, 17, 18, 19, 20, 21, 22, 23, 24, 25, 26, 27, 28, 29, 11, 30, 49, 50, 51, 52, 53, 54, 55, 56, 57, 58, 59, 60, 61, 62, 63] (by decide +kernel) (by decide +kernel)
set_option maxRecDepth 20000 in
theorem gX11_time_X5_timeToShut : GoodIn wsX11_time (wsV RX11 213 RX5 yX5_timeToShut wsX5_timeToShut) := goodIn_app (goodIn_of _ (by decide +kernel)) ggX11_time_X5_timeToShut
set_option maxRecDepth 20000 in
theorem ggX11_time_X5_worstTime : GoodIn wsX11_time wsX5_worstTime := goodIn_r _ [34, 35, 18, 14, 16, 19, 20, 21, 22, 36, 37, 38, 11, 39, 40, 9, 10, 12, 13, 15, 17, 23, 24, 25, 26, 27, 28, 29, 30, 49, 50, 51, 52, 53, 54, 55, 56, 57, 58, 59, 60, 61, 62, 63] (by decide +kernel) (by decide +kernel)
set_option maxRecDepth 20000 in
theorem gX11_time_X5_worstTime : GoodIn wsX11_time (wsV RX11 216 RX5 yX5_worstTime wsX5_worstTime) := goodIn_app (goodIn_of _ (by decide +kernel)) ggX11_time_X5_worstTime
theorem dX11_time_0 : decode cX11_time 0 = .ok (.iload_n 1, 1) := by decide +kernel
theorem dX11_time_1 : decode cX11_time 1 = .ok (.iconst 1, 1) := by decide +kernel
theorem dX11_time_2 : decode cX11_time 2 = .ok (.iconst 3, 1) := by decide +kernel
theorem dX11_time_3 : decode cX11_time 3 = .ok (.invokestatic 66, 3) := by decide +kernel
theorem dX11_time_6 : decode cX11_time 6 = .ok (.ifCond .eq 12, 3) := by decide +kernel
theorem dX11_time_9 : decode cX11_time 9 = .ok (.iload_n 2, 1) := by decide +kernel
theorem dX11_time_10 : decode cX11_time 10 = .ok (.iconst 0, 1) := by decide +kernel
theorem dX11_time_11 : decode cX11_time 11 = .ok (.iconst 1, 1) := by decide +kernel
theorem dX11_time_12 : decode cX11_time 12 = .ok (.invokestatic 66, 3) := by decide +kernel
theorem dX11_time_15 : decode cX11_time 15 = .ok (.ifCond .ne 6, 3) := by decide +kernel
theorem dX11_time_18 : decode cX11_time 18 = .ok (.ldc 70, 2) := by decide +kernel
theorem dX11_time_20 : decode cX11_time 20 = .ok (.ireturn, 1) := by decide +kernel
theorem dX11_time_21 : decode cX11_time 21 = .ok (.iload_n 2, 1) := by decide +kernel
theorem dX11_time_22 : decode cX11_time 22 = .ok (.ifCond .ne 16, 3) := by decide +kernel
theorem dX11_time_25 : decode cX11_time 25 = .ok (.aload_n 0, 1) := by decide +kernel
theorem dX11_time_26 : decode cX11_time 26 = .ok (.getfield 44, 3) := by decide +kernel
theorem dX11_time_29 : decode cX11_time 29 = .ok (.iload_n 1, 1) := by decide +kernel
theorem dX11_time_30 : decode cX11_time 30 = .ok (.ldc 175, 2) := by decide +kernel
theorem dX11_time_32 : decode cX11_time 32 = .ok (.invokevirtual 213, 3) := by decide +kernel
theorem dX11_time_35 : decode cX11_time 35 = .ok (.goto 11, 3) := by decide +kernel
theorem dX11_time_38 : decode cX11_time 38 = .ok (.aload_n 0, 1) := by decide +kernel
theorem dX11_time_39 : decode cX11_time 39 = .ok (.getfield 44, 3) := by decide +kernel
theorem dX11_time_42 : decode cX11_time 42 = .ok (.iload_n 1, 1) := by decide +kernel
theorem dX11_time_43 : decode cX11_time 43 = .ok (.invokevirtual 216, 3) := by decide +kernel
theorem dX11_time_46 : decode cX11_time 46 = .ok (.ireturn, 1) := by decide +kernel
set_option maxRecDepth 20000 in
theorem ggX11_ship_X11_within : GoodIn wsX11_ship wsX11_within := goodIn_r _ [9] (by decide +kernel) (by decide +kernel)
set_option maxRecDepth 20000 in
theorem gX11_ship_X11_within : GoodIn wsX11_ship (va_wsS RX11 66 yX11_within wsX11_within) := goodIn_app (goodIn_of _ (by decide +kernel)) ggX11_ship_X11_within
set_option maxRecDepth 20000 in
theorem ggX11_ship_X1_add : GoodIn wsX11_ship wsX1_add := goodIn_r _ [14, 15, 16, 17, 18, 27, 28, 29, 30] (by decide +kernel) (by decide +kernel)
set_option maxRecDepth 20000 in
theorem gX11_ship_X1_add : GoodIn wsX11_ship (wsV RX11 221 RX1 yX1_add wsX1_add) := goodIn_app (goodIn_of _ (by decide +kernel)) ggX11_ship_X1_add
theorem dX11_ship_0 : decode cX11_ship 0 = .ok (.iload_n 1, 1) := by decide +kernel
theorem dX11_ship_1 : decode cX11_ship 1 = .ok (.iconst 0, 1) := by decide +kernel
theorem dX11_ship_2 : decode cX11_ship 2 = .ok (.ldc 219, 2) := by decide +kernel
theorem dX11_ship_4 : decode cX11_ship 4 = .ok (.invokestatic 66, 3) := by decide +kernel
theorem dX11_ship_7 : decode cX11_ship 7 = .ok (.ifCond .eq 14, 3) := by decide +kernel
theorem dX11_ship_10 : decode cX11_ship 10 = .ok (.iload_n 2, 1) := by decide +kernel
theorem dX11_ship_11 : decode cX11_ship 11 = .ok (.iconst 1, 1) := by decide +kernel
theorem dX11_ship_12 : decode cX11_ship 12 = .ok (.sipush 500, 3) := by decide +kernel
theorem dX11_ship_15 : decode cX11_ship 15 = .ok (.invokestatic 66, 3) := by decide +kernel
theorem dX11_ship_18 : decode cX11_ship 18 = .ok (.ifCond .ne 6, 3) := by decide +kernel
theorem dX11_ship_21 : decode cX11_ship 21 = .ok (.ldc 70, 2) := by decide +kernel
theorem dX11_ship_23 : decode cX11_ship 23 = .ok (.ireturn, 1) := by decide +kernel
theorem dX11_ship_24 : decode cX11_ship 24 = .ok (.aload_n 0, 1) := by decide +kernel
theorem dX11_ship_25 : decode cX11_ship 25 = .ok (.getfield 51, 3) := by decide +kernel
theorem dX11_ship_28 : decode cX11_ship 28 = .ok (.getfield 220, 3) := by decide +kernel
theorem dX11_ship_31 : decode cX11_ship 31 = .ok (.bipush 20, 2) := by decide +kernel
theorem dX11_ship_33 : decode cX11_ship 33 = .ok (.if_icmp .lt 8, 3) := by decide +kernel
theorem dX11_ship_36 : decode cX11_ship 36 = .ok (.ldc 107, 2) := by decide +kernel
theorem dX11_ship_38 : decode cX11_ship 38 = .ok (.goto 12, 3) := by decide +kernel
theorem dX11_ship_41 : decode cX11_ship 41 = .ok (.aload_n 0, 1) := by decide +kernel
theorem dX11_ship_42 : decode cX11_ship 42 = .ok (.getfield 51, 3) := by decide +kernel
theorem dX11_ship_45 : decode cX11_ship 45 = .ok (.iload_n 1, 1) := by decide +kernel
theorem dX11_ship_46 : decode cX11_ship 46 = .ok (.iload_n 2, 1) := by decide +kernel
theorem dX11_ship_47 : decode cX11_ship 47 = .ok (.invokevirtual 221, 3) := by decide +kernel
theorem dX11_ship_50 : decode cX11_ship 50 = .ok (.ireturn, 1) := by decide +kernel
set_option maxRecDepth 20000 in
theorem ggX11_waits_X11_within : GoodIn wsX11_waits wsX11_within := goodIn_r _ [8] (by decide +kernel) (by decide +kernel)
set_option maxRecDepth 20000 in
theorem gX11_waits_X11_within : GoodIn wsX11_waits (va_wsS RX11 66 yX11_within wsX11_within) := goodIn_app (goodIn_of _ (by decide +kernel)) ggX11_waits_X11_within
set_option maxRecDepth 20000 in
theorem ggX11_waits_X1_waitOf : GoodIn wsX11_waits wsX1_waitOf := goodIn_r _ [13, 14, 15, 16, 17, 18, 19, 20, 21, 30, 31, 32, 33] (by decide +kernel) (by decide +kernel)
set_option maxRecDepth 20000 in
theorem gX11_waits_X1_waitOf : GoodIn wsX11_waits (wsV RX11 223 RX1 yX1_waitOf wsX1_waitOf) := goodIn_app (goodIn_of _ (by decide +kernel)) ggX11_waits_X1_waitOf
theorem dX11_waits_0 : decode cX11_waits 0 = .ok (.iload_n 1, 1) := by decide +kernel
theorem dX11_waits_1 : decode cX11_waits 1 = .ok (.iconst 0, 1) := by decide +kernel
theorem dX11_waits_2 : decode cX11_waits 2 = .ok (.aload_n 0, 1) := by decide +kernel
theorem dX11_waits_3 : decode cX11_waits 3 = .ok (.getfield 51, 3) := by decide +kernel
theorem dX11_waits_6 : decode cX11_waits 6 = .ok (.getfield 220, 3) := by decide +kernel
theorem dX11_waits_9 : decode cX11_waits 9 = .ok (.iconst 1, 1) := by decide +kernel
theorem dX11_waits_10 : decode cX11_waits 10 = .ok (.isub, 1) := by decide +kernel
theorem dX11_waits_11 : decode cX11_waits 11 = .ok (.invokestatic 66, 3) := by decide +kernel
theorem dX11_waits_14 : decode cX11_waits 14 = .ok (.ifCond .eq 23, 3) := by decide +kernel
theorem dX11_waits_17 : decode cX11_waits 17 = .ok (.iload_n 2, 1) := by decide +kernel
theorem dX11_waits_18 : decode cX11_waits 18 = .ok (.iconst 0, 1) := by decide +kernel
theorem dX11_waits_19 : decode cX11_waits 19 = .ok (.ldc 219, 2) := by decide +kernel
theorem dX11_waits_21 : decode cX11_waits 21 = .ok (.invokestatic 66, 3) := by decide +kernel
theorem dX11_waits_24 : decode cX11_waits 24 = .ok (.ifCond .eq 13, 3) := by decide +kernel
theorem dX11_waits_27 : decode cX11_waits 27 = .ok (.iload_n 3, 1) := by decide +kernel
theorem dX11_waits_28 : decode cX11_waits 28 = .ok (.iload_n 2, 1) := by decide +kernel
theorem dX11_waits_29 : decode cX11_waits 29 = .ok (.ldc 219, 2) := by decide +kernel
theorem dX11_waits_31 : decode cX11_waits 31 = .ok (.invokestatic 66, 3) := by decide +kernel
theorem dX11_waits_34 : decode cX11_waits 34 = .ok (.ifCond .ne 6, 3) := by decide +kernel
theorem dX11_waits_37 : decode cX11_waits 37 = .ok (.ldc 70, 2) := by decide +kernel
theorem dX11_waits_39 : decode cX11_waits 39 = .ok (.ireturn, 1) := by decide +kernel
theorem dX11_waits_40 : decode cX11_waits 40 = .ok (.aload_n 0, 1) := by decide +kernel
theorem dX11_waits_41 : decode cX11_waits 41 = .ok (.getfield 51, 3) := by decide +kernel
theorem dX11_waits_44 : decode cX11_waits 44 = .ok (.iload_n 1, 1) := by decide +kernel
theorem dX11_waits_45 : decode cX11_waits 45 = .ok (.iload_n 2, 1) := by decide +kernel
theorem dX11_waits_46 : decode cX11_waits 46 = .ok (.iload_n 3, 1) := by decide +kernel
theorem dX11_waits_47 : decode cX11_waits 47 = .ok (.invokevirtual 223, 3) := by decide +kernel
theorem dX11_waits_50 : decode cX11_waits 50 = .ok (.ireturn, 1) := by decide +kernel
set_option maxRecDepth 20000 in
theorem ggX11_closings_X11_arePeaks : GoodIn wsX11_closings wsX11_arePeaks := goodIn_r _ [6, 7, 8, 5, 9] (by decide +kernel) (by decide +kernel)
set_option maxRecDepth 20000 in
theorem gX11_closings_X11_arePeaks : GoodIn wsX11_closings (va_wsS RX11 226 yX11_arePeaks wsX11_arePeaks) := goodIn_app (goodIn_of _ (by decide +kernel)) ggX11_closings_X11_arePeaks
set_option maxRecDepth 20000 in
theorem ggX11_closings_X11_within : GoodIn wsX11_closings wsX11_within := goodIn_r _ [9] (by decide +kernel) (by decide +kernel)
set_option maxRecDepth 20000 in
theorem gX11_closings_X11_within : GoodIn wsX11_closings (va_wsS RX11 66 yX11_within wsX11_within) := goodIn_app (goodIn_of _ (by decide +kernel)) ggX11_closings_X11_within
set_option maxRecDepth 20000 in
theorem ggX11_closings_X7_look : GoodIn wsX11_closings wsX7_look := goodIn_r _ [14, 15, 16, 17, 13, 18, 19, 20, 21, 22, 23, 50, 51, 52] (by decide +kernel) (by decide +kernel)
set_option maxRecDepth 20000 in
theorem gX11_closings_X7_look : GoodIn wsX11_closings (wsV RX11 82 RX7 yX7_look wsX7_look) := goodIn_app (goodIn_of _ (by decide +kernel)) ggX11_closings_X7_look
set_option maxRecDepth 20000 in
theorem ggX11_closings_X11_found : GoodIn wsX11_closings wsX11_found := goodIn_r _ [27, 28, 29, 42, 43, 44, 45, 46, 47, 48, 49] (by decide +kernel) (by decide +kernel)
set_option maxRecDepth 20000 in
theorem gX11_closings_X11_found : GoodIn wsX11_closings (wsV RX11 71 RX11 yX11_found wsX11_found) := goodIn_app (goodIn_of _ (by decide +kernel)) ggX11_closings_X11_found
set_option maxRecDepth 20000 in
theorem ggX11_closings_X11_levelIn : GoodIn wsX11_closings wsX11_levelIn := goodIn_r _ [32] (by decide +kernel) (by decide +kernel)
set_option maxRecDepth 20000 in
theorem gX11_closings_X11_levelIn : GoodIn wsX11_closings (va_wsS RX11 229 yX11_levelIn wsX11_levelIn) := goodIn_app (goodIn_of _ (by decide +kernel)) ggX11_closings_X11_levelIn
set_option maxRecDepth 20000 in
theorem ggX11_closings_X7_above : GoodIn wsX11_closings wsX7_above := goodIn_r _ [36, 37, 50, 51, 52] (by decide +kernel) (by decide +kernel)
set_option maxRecDepth 20000 in
theorem gX11_closings_X7_above : GoodIn wsX11_closings (wsV RX11 233 RX7 yX7_above wsX7_above) := goodIn_app (goodIn_of _ (by decide +kernel)) ggX11_closings_X7_above
set_option maxRecDepth 20000 in
theorem ggX11_closings_X11_fine : GoodIn wsX11_closings wsX11_fine := goodIn_r _ [41, 28, 42, 43, 44, 45, 46, 47, 48, 49] (by decide +kernel) (by decide +kernel)
set_option maxRecDepth 20000 in
theorem gX11_closings_X11_fine : GoodIn wsX11_closings (wsV RX11 79 RX11 yX11_fine wsX11_fine) := goodIn_app (goodIn_of _ (by decide +kernel)) ggX11_closings_X11_fine
theorem dX11_closings_0 : decode cX11_closings 0 = .ok (.iload_n 1, 1) := by decide +kernel
theorem dX11_closings_1 : decode cX11_closings 1 = .ok (.iload_n 3, 1) := by decide +kernel
theorem dX11_closings_2 : decode cX11_closings 2 = .ok (.iload 4, 2) := by decide +kernel
theorem dX11_closings_4 : decode cX11_closings 4 = .ok (.invokestatic 226, 3) := by decide +kernel
theorem dX11_closings_7 : decode cX11_closings 7 = .ok (.ifCond .eq 15, 3) := by decide +kernel
theorem dX11_closings_10 : decode cX11_closings 10 = .ok (.iload 6, 2) := by decide +kernel
theorem dX11_closings_12 : decode cX11_closings 12 = .ok (.iconst 0, 1) := by decide +kernel
theorem dX11_closings_13 : decode cX11_closings 13 = .ok (.sipush 300, 3) := by decide +kernel
theorem dX11_closings_16 : decode cX11_closings 16 = .ok (.invokestatic 66, 3) := by decide +kernel
theorem dX11_closings_19 : decode cX11_closings 19 = .ok (.ifCond .ne 6, 3) := by decide +kernel
theorem dX11_closings_22 : decode cX11_closings 22 = .ok (.ldc 70, 2) := by decide +kernel
theorem dX11_closings_24 : decode cX11_closings 24 = .ok (.ireturn, 1) := by decide +kernel
theorem dX11_closings_25 : decode cX11_closings 25 = .ok (.aload_n 0, 1) := by decide +kernel
theorem dX11_closings_26 : decode cX11_closings 26 = .ok (.getfield 12, 3) := by decide +kernel
theorem dX11_closings_29 : decode cX11_closings 29 = .ok (.iload_n 1, 1) := by decide +kernel
theorem dX11_closings_30 : decode cX11_closings 30 = .ok (.iload_n 2, 1) := by decide +kernel
theorem dX11_closings_31 : decode cX11_closings 31 = .ok (.iload_n 3, 1) := by decide +kernel
theorem dX11_closings_32 : decode cX11_closings 32 = .ok (.invokevirtual 82, 3) := by decide +kernel
theorem dX11_closings_35 : decode cX11_closings 35 = .ok (.istore 7, 2) := by decide +kernel
theorem dX11_closings_37 : decode cX11_closings 37 = .ok (.iload 7, 2) := by decide +kernel
theorem dX11_closings_39 : decode cX11_closings 39 = .ok (.ifCond .eq 12, 3) := by decide +kernel
theorem dX11_closings_42 : decode cX11_closings 42 = .ok (.aload_n 0, 1) := by decide +kernel
theorem dX11_closings_43 : decode cX11_closings 43 = .ok (.iload 7, 2) := by decide +kernel
theorem dX11_closings_45 : decode cX11_closings 45 = .ok (.invokevirtual 71, 3) := by decide +kernel
theorem dX11_closings_48 : decode cX11_closings 48 = .ok (.goto 26, 3) := by decide +kernel
theorem dX11_closings_51 : decode cX11_closings 51 = .ok (.aload_n 0, 1) := by decide +kernel
theorem dX11_closings_52 : decode cX11_closings 52 = .ok (.aload_n 0, 1) := by decide +kernel
theorem dX11_closings_53 : decode cX11_closings 53 = .ok (.getfield 12, 3) := by decide +kernel
theorem dX11_closings_56 : decode cX11_closings 56 = .ok (.iload_n 1, 1) := by decide +kernel
theorem dX11_closings_57 : decode cX11_closings 57 = .ok (.iload_n 2, 1) := by decide +kernel
theorem dX11_closings_58 : decode cX11_closings 58 = .ok (.iload_n 3, 1) := by decide +kernel
theorem dX11_closings_59 : decode cX11_closings 59 = .ok (.iload 6, 2) := by decide +kernel
theorem dX11_closings_61 : decode cX11_closings 61 = .ok (.iload 4, 2) := by decide +kernel
theorem dX11_closings_63 : decode cX11_closings 63 = .ok (.iload 5, 2) := by decide +kernel
theorem dX11_closings_65 : decode cX11_closings 65 = .ok (.invokestatic 229, 3) := by decide +kernel
theorem dX11_closings_68 : decode cX11_closings 68 = .ok (.invokevirtual 233, 3) := by decide +kernel
theorem dX11_closings_71 : decode cX11_closings 71 = .ok (.invokevirtual 79, 3) := by decide +kernel
theorem dX11_closings_74 : decode cX11_closings 74 = .ok (.ireturn, 1) := by decide +kernel
set_option maxRecDepth 20000 in
theorem ggX11_tooMany_X11_arePeaks : GoodIn wsX11_tooMany wsX11_arePeaks := goodIn_r _ [7, 8, 9, 6, 10] (by decide +kernel) (by decide +kernel)
set_option maxRecDepth 20000 in
theorem gX11_tooMany_X11_arePeaks : GoodIn wsX11_tooMany (va_wsS RX11 226 yX11_arePeaks wsX11_arePeaks) := goodIn_app (goodIn_of _ (by decide +kernel)) ggX11_tooMany_X11_arePeaks
set_option maxRecDepth 20000 in
theorem ggX11_tooMany_X7_look : GoodIn wsX11_tooMany wsX7_look := goodIn_r _ [15, 16, 17, 18, 14, 19, 20, 21, 22, 23, 24, 51, 52, 53] (by decide +kernel) (by decide +kernel)
set_option maxRecDepth 20000 in
theorem gX11_tooMany_X7_look : GoodIn wsX11_tooMany (wsV RX11 82 RX7 yX7_look wsX7_look) := goodIn_app (goodIn_of _ (by decide +kernel)) ggX11_tooMany_X7_look
set_option maxRecDepth 20000 in
theorem ggX11_tooMany_X11_found : GoodIn wsX11_tooMany wsX11_found := goodIn_r _ [28, 29, 30, 43, 44, 45, 46, 47, 48, 49, 50] (by decide +kernel) (by decide +kernel)
set_option maxRecDepth 20000 in
theorem gX11_tooMany_X11_found : GoodIn wsX11_tooMany (wsV RX11 71 RX11 yX11_found wsX11_found) := goodIn_app (goodIn_of _ (by decide +kernel)) ggX11_tooMany_X11_found
set_option maxRecDepth 20000 in
theorem ggX11_tooMany_X11_levelIn : GoodIn wsX11_tooMany wsX11_levelIn := goodIn_r _ [33] (by decide +kernel) (by decide +kernel)
set_option maxRecDepth 20000 in
theorem gX11_tooMany_X11_levelIn : GoodIn wsX11_tooMany (va_wsS RX11 229 yX11_levelIn wsX11_levelIn) := goodIn_app (goodIn_of _ (by decide +kernel)) ggX11_tooMany_X11_levelIn
set_option maxRecDepth 20000 in
theorem ggX11_tooMany_X7_above : GoodIn wsX11_tooMany wsX7_above := goodIn_r _ [37, 38, 51, 52, 53] (by decide +kernel) (by decide +kernel)
set_option maxRecDepth 20000 in
theorem gX11_tooMany_X7_above : GoodIn wsX11_tooMany (wsV RX11 233 RX7 yX7_above wsX7_above) := goodIn_app (goodIn_of _ (by decide +kernel)) ggX11_tooMany_X7_above
set_option maxRecDepth 20000 in
theorem ggX11_tooMany_X11_fine : GoodIn wsX11_tooMany wsX11_fine := goodIn_r _ [42, 29, 43, 44, 45, 46, 47, 48, 49, 50] (by decide +kernel) (by decide +kernel)
set_option maxRecDepth 20000 in
theorem gX11_tooMany_X11_fine : GoodIn wsX11_tooMany (wsV RX11 79 RX11 yX11_fine wsX11_fine) := goodIn_app (goodIn_of _ (by decide +kernel)) ggX11_tooMany_X11_fine
theorem dX11_tooMany_0 : decode cX11_tooMany 0 = .ok (.iload_n 1, 1) := by decide +kernel
theorem dX11_tooMany_1 : decode cX11_tooMany 1 = .ok (.iload_n 3, 1) := by decide +kernel
theorem dX11_tooMany_2 : decode cX11_tooMany 2 = .ok (.iload 4, 2) := by decide +kernel
theorem dX11_tooMany_4 : decode cX11_tooMany 4 = .ok (.invokestatic 226, 3) := by decide +kernel
theorem dX11_tooMany_7 : decode cX11_tooMany 7 = .ok (.ifCond .eq 8, 3) := by decide +kernel
theorem dX11_tooMany_10 : decode cX11_tooMany 10 = .ok (.iload 6, 2) := by decide +kernel
theorem dX11_tooMany_12 : decode cX11_tooMany 12 = .ok (.ifCond .ge 6, 3) := by decide +kernel
theorem dX11_tooMany_15 : decode cX11_tooMany 15 = .ok (.ldc 70, 2) := by decide +kernel
theorem dX11_tooMany_17 : decode cX11_tooMany 17 = .ok (.ireturn, 1) := by decide +kernel
theorem dX11_tooMany_18 : decode cX11_tooMany 18 = .ok (.aload_n 0, 1) := by decide +kernel
theorem dX11_tooMany_19 : decode cX11_tooMany 19 = .ok (.getfield 12, 3) := by decide +kernel
theorem dX11_tooMany_22 : decode cX11_tooMany 22 = .ok (.iload_n 1, 1) := by decide +kernel
theorem dX11_tooMany_23 : decode cX11_tooMany 23 = .ok (.iload_n 2, 1) := by decide +kernel
theorem dX11_tooMany_24 : decode cX11_tooMany 24 = .ok (.iload_n 3, 1) := by decide +kernel
theorem dX11_tooMany_25 : decode cX11_tooMany 25 = .ok (.invokevirtual 82, 3) := by decide +kernel
theorem dX11_tooMany_28 : decode cX11_tooMany 28 = .ok (.istore 7, 2) := by decide +kernel
theorem dX11_tooMany_30 : decode cX11_tooMany 30 = .ok (.iload 7, 2) := by decide +kernel
theorem dX11_tooMany_32 : decode cX11_tooMany 32 = .ok (.ifCond .eq 10, 3) := by decide +kernel
theorem dX11_tooMany_35 : decode cX11_tooMany 35 = .ok (.aload_n 0, 1) := by decide +kernel
theorem dX11_tooMany_36 : decode cX11_tooMany 36 = .ok (.iload 7, 2) := by decide +kernel
theorem dX11_tooMany_38 : decode cX11_tooMany 38 = .ok (.invokevirtual 71, 3) := by decide +kernel
theorem dX11_tooMany_41 : decode cX11_tooMany 41 = .ok (.ireturn, 1) := by decide +kernel
theorem dX11_tooMany_42 : decode cX11_tooMany 42 = .ok (.iconst 0, 1) := by decide +kernel
theorem dX11_tooMany_43 : decode cX11_tooMany 43 = .ok (.istore 8, 2) := by decide +kernel
theorem dX11_tooMany_45 : decode cX11_tooMany 45 = .ok (.sipush 301, 3) := by decide +kernel
theorem dX11_tooMany_48 : decode cX11_tooMany 48 = .ok (.istore 9, 2) := by decide +kernel
theorem dX11_tooMany_50 : decode cX11_tooMany 50 = .ok (.iconst 0, 1) := by decide +kernel
theorem dX11_tooMany_51 : decode cX11_tooMany 51 = .ok (.istore 10, 2) := by decide +kernel
theorem dX11_tooMany_53 : decode cX11_tooMany 53 = .ok (.iload 10, 2) := by decide +kernel
theorem dX11_tooMany_55 : decode cX11_tooMany 55 = .ok (.sipush 300, 3) := by decide +kernel
theorem dX11_tooMany_58 : decode cX11_tooMany 58 = .ok (.if_icmp .ge 62, 3) := by decide +kernel
theorem dX11_tooMany_61 : decode cX11_tooMany 61 = .ok (.iload 8, 2) := by decide +kernel
theorem dX11_tooMany_63 : decode cX11_tooMany 63 = .ok (.iload 9, 2) := by decide +kernel
theorem dX11_tooMany_65 : decode cX11_tooMany 65 = .ok (.if_icmp .ge 55, 3) := by decide +kernel
theorem dX11_tooMany_68 : decode cX11_tooMany 68 = .ok (.iload 8, 2) := by decide +kernel
theorem dX11_tooMany_70 : decode cX11_tooMany 70 = .ok (.iload 9, 2) := by decide +kernel
theorem dX11_tooMany_72 : decode cX11_tooMany 72 = .ok (.iadd, 1) := by decide +kernel
theorem dX11_tooMany_73 : decode cX11_tooMany 73 = .ok (.iconst 2, 1) := by decide +kernel
theorem dX11_tooMany_74 : decode cX11_tooMany 74 = .ok (.idiv, 1) := by decide +kernel
theorem dX11_tooMany_75 : decode cX11_tooMany 75 = .ok (.istore 11, 2) := by decide +kernel
theorem dX11_tooMany_77 : decode cX11_tooMany 77 = .ok (.aload_n 0, 1) := by decide +kernel
theorem dX11_tooMany_78 : decode cX11_tooMany 78 = .ok (.getfield 12, 3) := by decide +kernel
theorem dX11_tooMany_81 : decode cX11_tooMany 81 = .ok (.iload_n 1, 1) := by decide +kernel
theorem dX11_tooMany_82 : decode cX11_tooMany 82 = .ok (.iload_n 2, 1) := by decide +kernel
theorem dX11_tooMany_83 : decode cX11_tooMany 83 = .ok (.iload_n 3, 1) := by decide +kernel
theorem dX11_tooMany_84 : decode cX11_tooMany 84 = .ok (.iload 11, 2) := by decide +kernel
theorem dX11_tooMany_86 : decode cX11_tooMany 86 = .ok (.iload 4, 2) := by decide +kernel
theorem dX11_tooMany_88 : decode cX11_tooMany 88 = .ok (.iload 5, 2) := by decide +kernel
theorem dX11_tooMany_90 : decode cX11_tooMany 90 = .ok (.invokestatic 229, 3) := by decide +kernel
theorem dX11_tooMany_93 : decode cX11_tooMany 93 = .ok (.invokevirtual 233, 3) := by decide +kernel
theorem dX11_tooMany_96 : decode cX11_tooMany 96 = .ok (.iload 6, 2) := by decide +kernel
theorem dX11_tooMany_98 : decode cX11_tooMany 98 = .ok (.if_icmp .le 10, 3) := by decide +kernel
theorem dX11_tooMany_101 : decode cX11_tooMany 101 = .ok (.iload 11, 2) := by decide +kernel
theorem dX11_tooMany_103 : decode cX11_tooMany 103 = .ok (.istore 9, 2) := by decide +kernel
theorem dX11_tooMany_105 : decode cX11_tooMany 105 = .ok (.goto 9, 3) := by decide +kernel
theorem dX11_tooMany_108 : decode cX11_tooMany 108 = .ok (.iload 11, 2) := by decide +kernel
theorem dX11_tooMany_110 : decode cX11_tooMany 110 = .ok (.iconst 1, 1) := by decide +kernel
theorem dX11_tooMany_111 : decode cX11_tooMany 111 = .ok (.iadd, 1) := by decide +kernel
theorem dX11_tooMany_112 : decode cX11_tooMany 112 = .ok (.istore 8, 2) := by decide +kernel
theorem dX11_tooMany_114 : decode cX11_tooMany 114 = .ok (.iinc 10 1, 3) := by decide +kernel
theorem dX11_tooMany_117 : decode cX11_tooMany 117 = .ok (.goto (-64), 3) := by decide +kernel
theorem dX11_tooMany_120 : decode cX11_tooMany 120 = .ok (.aload_n 0, 1) := by decide +kernel
theorem dX11_tooMany_121 : decode cX11_tooMany 121 = .ok (.iload 8, 2) := by decide +kernel
theorem dX11_tooMany_123 : decode cX11_tooMany 123 = .ok (.sipush 300, 3) := by decide +kernel
theorem dX11_tooMany_126 : decode cX11_tooMany 126 = .ok (.if_icmp .le 8, 3) := by decide +kernel
theorem dX11_tooMany_129 : decode cX11_tooMany 129 = .ok (.ldc 175, 2) := by decide +kernel
theorem dX11_tooMany_131 : decode cX11_tooMany 131 = .ok (.goto 5, 3) := by decide +kernel
theorem dX11_tooMany_134 : decode cX11_tooMany 134 = .ok (.iload 8, 2) := by decide +kernel
theorem dX11_tooMany_136 : decode cX11_tooMany 136 = .ok (.invokevirtual 79, 3) := by decide +kernel
theorem dX11_tooMany_139 : decode cX11_tooMany 139 = .ok (.ireturn, 1) := by decide +kernel
set_option maxRecDepth 20000 in
theorem ggX11_arePeaks_X11_within : GoodIn wsX11_arePeaks wsX11_within := goodIn_r _ [4] (by decide +kernel) (by decide +kernel)
set_option maxRecDepth 20000 in
theorem gX11_arePeaks_X11_within : GoodIn wsX11_arePeaks (va_wsS RX11 66 yX11_within wsX11_within) := goodIn_app (goodIn_of _ (by decide +kernel)) ggX11_arePeaks_X11_within
theorem dX11_arePeaks_0 : decode cX11_arePeaks 0 = .ok (.iload_n 0, 1) := by decide +kernel
theorem dX11_arePeaks_1 : decode cX11_arePeaks 1 = .ok (.iconst 0, 1) := by decide +kernel
theorem dX11_arePeaks_2 : decode cX11_arePeaks 2 = .ok (.bipush 7, 2) := by decide +kernel
theorem dX11_arePeaks_4 : decode cX11_arePeaks 4 = .ok (.invokestatic 66, 3) := by decide +kernel
theorem dX11_arePeaks_7 : decode cX11_arePeaks 7 = .ok (.ifCond .eq 27, 3) := by decide +kernel
theorem dX11_arePeaks_10 : decode cX11_arePeaks 10 = .ok (.iload_n 1, 1) := by decide +kernel
theorem dX11_arePeaks_11 : decode cX11_arePeaks 11 = .ok (.iconst 1, 1) := by decide +kernel
theorem dX11_arePeaks_12 : decode cX11_arePeaks 12 = .ok (.bipush 60, 2) := by decide +kernel
theorem dX11_arePeaks_14 : decode cX11_arePeaks 14 = .ok (.invokestatic 66, 3) := by decide +kernel
theorem dX11_arePeaks_17 : decode cX11_arePeaks 17 = .ok (.ifCond .eq 17, 3) := by decide +kernel
theorem dX11_arePeaks_20 : decode cX11_arePeaks 20 = .ok (.iload_n 2, 1) := by decide +kernel
theorem dX11_arePeaks_21 : decode cX11_arePeaks 21 = .ok (.iconst 0, 1) := by decide +kernel
theorem dX11_arePeaks_22 : decode cX11_arePeaks 22 = .ok (.bipush 100, 2) := by decide +kernel
theorem dX11_arePeaks_24 : decode cX11_arePeaks 24 = .ok (.invokestatic 66, 3) := by decide +kernel
theorem dX11_arePeaks_27 : decode cX11_arePeaks 27 = .ok (.ifCond .eq 7, 3) := by decide +kernel
theorem dX11_arePeaks_30 : decode cX11_arePeaks 30 = .ok (.iconst 1, 1) := by decide +kernel
theorem dX11_arePeaks_31 : decode cX11_arePeaks 31 = .ok (.goto 4, 3) := by decide +kernel
theorem dX11_arePeaks_34 : decode cX11_arePeaks 34 = .ok (.iconst 0, 1) := by decide +kernel
theorem dX11_arePeaks_35 : decode cX11_arePeaks 35 = .ok (.ireturn, 1) := by decide +kernel
theorem dX11_levelIn_0 : decode cX11_levelIn 0 = .ok (.iload_n 2, 1) := by decide +kernel
theorem dX11_levelIn_1 : decode cX11_levelIn 1 = .ok (.i2l, 1) := by decide +kernel
theorem dX11_levelIn_2 : decode cX11_levelIn 2 = .ok (.iload_n 0, 1) := by decide +kernel
theorem dX11_levelIn_3 : decode cX11_levelIn 3 = .ok (.iload_n 1, 1) := by decide +kernel
theorem dX11_levelIn_4 : decode cX11_levelIn 4 = .ok (.imul, 1) := by decide +kernel
theorem dX11_levelIn_5 : decode cX11_levelIn 5 = .ok (.bipush 10, 2) := by decide +kernel
theorem dX11_levelIn_7 : decode cX11_levelIn 7 = .ok (.idiv, 1) := by decide +kernel
theorem dX11_levelIn_8 : decode cX11_levelIn 8 = .ok (.i2l, 1) := by decide +kernel
theorem dX11_levelIn_9 : decode cX11_levelIn 9 = .ok (.lsub, 1) := by decide +kernel
theorem dX11_levelIn_10 : decode cX11_levelIn 10 = .ok (.lreturn, 1) := by decide +kernel
set_option maxRecDepth 20000 in
theorem ggX11_kind_X5_at : GoodIn wsX11_kind wsX5_at := goodIn_r _ [7, 8, 9, 10, 11, 12, 41, 42, 43] (by decide +kernel) (by decide +kernel)
set_option maxRecDepth 20000 in
theorem gX11_kind_X5_at : GoodIn wsX11_kind (wsV RX11 206 RX5 yX5_at wsX5_at) := goodIn_app (goodIn_of _ (by decide +kernel)) ggX11_kind_X5_at
set_option maxRecDepth 20000 in
theorem ggX11_kind_X2_toldAs : GoodIn wsX11_kind wsX2_toldAs := goodIn_r _ [17] (by decide +kernel) (by decide +kernel)
set_option maxRecDepth 20000 in
theorem gX11_kind_X2_toldAs : GoodIn wsX11_kind (wsV RX11 237 RX2 yX2_toldAs wsX2_toldAs) := goodIn_app (goodIn_of _ (by decide +kernel)) ggX11_kind_X2_toldAs
set_option maxRecDepth 20000 in
theorem ggX11_kind_X3_toldAs : GoodIn wsX11_kind wsX3_toldAs := goodIn_r _ [24] (by decide +kernel) (by decide +kernel)
set_option maxRecDepth 20000 in
theorem gX11_kind_X3_toldAs_u237X3 : GoodIn wsX11_kind (va_wsO RX11 237 RX3 "SeaGates$Gate" ⟨"SeaGates$Gate", "toldAs", "()I"⟩ yX3_toldAs wsX3_toldAs) := goodIn_app (goodIn_of _ (by decide +kernel)) ggX11_kind_X3_toldAs
set_option maxRecDepth 20000 in
theorem ggX11_kind_X8_toldAs : GoodIn wsX11_kind wsX8_toldAs := goodIn_r _ [28] (by decide +kernel) (by decide +kernel)
set_option maxRecDepth 20000 in
theorem gX11_kind_X8_toldAs_u237X8 : GoodIn wsX11_kind (va_wsO RX11 237 RX8 "SeaGates$Gate" ⟨"SeaGates$Gate", "toldAs", "()I"⟩ yX8_toldAs wsX8_toldAs) := goodIn_app (goodIn_of _ (by decide +kernel)) ggX11_kind_X8_toldAs
set_option maxRecDepth 20000 in
theorem ggX11_kind_X10_toldAs : GoodIn wsX11_kind wsX10_toldAs := goodIn_r _ [32] (by decide +kernel) (by decide +kernel)
set_option maxRecDepth 20000 in
theorem gX11_kind_X10_toldAs_u237X10 : GoodIn wsX11_kind (va_wsO RX11 237 RX10 "SeaGates$Gate" ⟨"SeaGates$Gate", "toldAs", "()I"⟩ yX10_toldAs wsX10_toldAs) := goodIn_app (goodIn_of _ (by decide +kernel)) ggX11_kind_X10_toldAs
theorem dX11_kind_0 : decode cX11_kind 0 = .ok (.aload_n 0, 1) := by decide +kernel
theorem dX11_kind_1 : decode cX11_kind 1 = .ok (.getfield 44, 3) := by decide +kernel
theorem dX11_kind_4 : decode cX11_kind 4 = .ok (.iload_n 1, 1) := by decide +kernel
theorem dX11_kind_5 : decode cX11_kind 5 = .ok (.invokevirtual 206, 3) := by decide +kernel
theorem dX11_kind_8 : decode cX11_kind 8 = .ok (.astore_n 2, 1) := by decide +kernel
theorem dX11_kind_9 : decode cX11_kind 9 = .ok (.aload_n 2, 1) := by decide +kernel
theorem dX11_kind_10 : decode cX11_kind 10 = .ok (.ifnonnull 8, 3) := by decide +kernel
theorem dX11_kind_13 : decode cX11_kind 13 = .ok (.ldc 70, 2) := by decide +kernel
theorem dX11_kind_15 : decode cX11_kind 15 = .ok (.goto 7, 3) := by decide +kernel
theorem dX11_kind_18 : decode cX11_kind 18 = .ok (.aload_n 2, 1) := by decide +kernel
theorem dX11_kind_19 : decode cX11_kind 19 = .ok (.invokevirtual 237, 3) := by decide +kernel
theorem dX11_kind_22 : decode cX11_kind 22 = .ok (.ireturn, 1) := by decide +kernel
set_option maxRecDepth 20000 in
theorem ggX11_as_X5_at : GoodIn wsX11_as wsX5_at := goodIn_r _ [8, 9, 10, 11, 12, 13, 51, 52, 53] (by decide +kernel) (by decide +kernel)
set_option maxRecDepth 20000 in
theorem gX11_as_X5_at : GoodIn wsX11_as (wsV RX11 206 RX5 yX5_at wsX5_at) := goodIn_app (goodIn_of _ (by decide +kernel)) ggX11_as_X5_at
set_option maxRecDepth 20000 in
theorem ggX11_as_X11_within : GoodIn wsX11_as wsX11_within := goodIn_r _ [13] (by decide +kernel) (by decide +kernel)
set_option maxRecDepth 20000 in
theorem gX11_as_X11_within : GoodIn wsX11_as (va_wsS RX11 66 yX11_within wsX11_within) := goodIn_app (goodIn_of _ (by decide +kernel)) ggX11_as_X11_within
set_option maxRecDepth 20000 in
theorem ggX11_as_X11_isOf : GoodIn wsX11_as wsX11_isOf := goodIn_r _ [17, 18, 19, 20] (by decide +kernel) (by decide +kernel)
set_option maxRecDepth 20000 in
theorem gX11_as_X11_isOf : GoodIn wsX11_as (va_wsS RX11 241 yX11_isOf wsX11_isOf) := goodIn_app (goodIn_of _ (by decide +kernel)) ggX11_as_X11_isOf
set_option maxRecDepth 20000 in
theorem ggX11_as_X11_fine : GoodIn wsX11_as wsX11_fine := goodIn_r _ [24, 25, 31, 32, 33, 34, 35, 36, 37, 38] (by decide +kernel) (by decide +kernel)
set_option maxRecDepth 20000 in
theorem gX11_as_X11_fine : GoodIn wsX11_as (wsV RX11 79 RX11 yX11_fine wsX11_fine) := goodIn_app (goodIn_of _ (by decide +kernel)) ggX11_as_X11_fine
set_option maxRecDepth 20000 in
theorem ggX11_as_X11_found : GoodIn wsX11_as wsX11_found := goodIn_r _ [29, 25, 30, 31, 32, 33, 34, 35, 36, 37, 38] (by decide +kernel) (by decide +kernel)
set_option maxRecDepth 20000 in
theorem gX11_as_X11_found : GoodIn wsX11_as (wsV RX11 71 RX11 yX11_found wsX11_found) := goodIn_app (goodIn_of _ (by decide +kernel)) ggX11_as_X11_found
theorem dX11_as_0 : decode cX11_as 0 = .ok (.aload_n 0, 1) := by decide +kernel
theorem dX11_as_1 : decode cX11_as 1 = .ok (.getfield 44, 3) := by decide +kernel
theorem dX11_as_4 : decode cX11_as 4 = .ok (.iload_n 1, 1) := by decide +kernel
theorem dX11_as_5 : decode cX11_as 5 = .ok (.invokevirtual 206, 3) := by decide +kernel
theorem dX11_as_8 : decode cX11_as 8 = .ok (.astore_n 3, 1) := by decide +kernel
theorem dX11_as_9 : decode cX11_as 9 = .ok (.aload_n 3, 1) := by decide +kernel
theorem dX11_as_10 : decode cX11_as 10 = .ok (.ifnull 12, 3) := by decide +kernel
theorem dX11_as_13 : decode cX11_as 13 = .ok (.iload_n 2, 1) := by decide +kernel
theorem dX11_as_14 : decode cX11_as 14 = .ok (.iconst 0, 1) := by decide +kernel
theorem dX11_as_15 : decode cX11_as 15 = .ok (.iconst 3, 1) := by decide +kernel
theorem dX11_as_16 : decode cX11_as 16 = .ok (.invokestatic 66, 3) := by decide +kernel
theorem dX11_as_19 : decode cX11_as 19 = .ok (.ifCond .ne 6, 3) := by decide +kernel
theorem dX11_as_22 : decode cX11_as 22 = .ok (.ldc 70, 2) := by decide +kernel
theorem dX11_as_24 : decode cX11_as 24 = .ok (.ireturn, 1) := by decide +kernel
theorem dX11_as_25 : decode cX11_as 25 = .ok (.aload_n 3, 1) := by decide +kernel
theorem dX11_as_26 : decode cX11_as 26 = .ok (.iload_n 2, 1) := by decide +kernel
theorem dX11_as_27 : decode cX11_as 27 = .ok (.invokestatic 241, 3) := by decide +kernel
theorem dX11_as_30 : decode cX11_as 30 = .ok (.ifCond .eq 14, 3) := by decide +kernel
theorem dX11_as_33 : decode cX11_as 33 = .ok (.aload_n 0, 1) := by decide +kernel
theorem dX11_as_34 : decode cX11_as 34 = .ok (.aload_n 3, 1) := by decide +kernel
theorem dX11_as_35 : decode cX11_as 35 = .ok (.getfield 245, 3) := by decide +kernel
theorem dX11_as_38 : decode cX11_as 38 = .ok (.invokevirtual 79, 3) := by decide +kernel
theorem dX11_as_41 : decode cX11_as 41 = .ok (.goto 8, 3) := by decide +kernel
theorem dX11_as_44 : decode cX11_as 44 = .ok (.aload_n 0, 1) := by decide +kernel
theorem dX11_as_45 : decode cX11_as 45 = .ok (.iconst 3, 1) := by decide +kernel
theorem dX11_as_46 : decode cX11_as 46 = .ok (.invokevirtual 71, 3) := by decide +kernel
theorem dX11_as_49 : decode cX11_as 49 = .ok (.ireturn, 1) := by decide +kernel
theorem dX11_isOf_0 : decode cX11_isOf 0 = .ok (.iload_n 1, 1) := by decide +kernel
theorem dX11_isOf_1 : decode cX11_isOf 1 = .ok (.tableswitch 42 1 3 #[27, 32, 37], 27) := by decide +kernel
theorem dX11_isOf_28 : decode cX11_isOf 28 = .ok (.aload_n 0, 1) := by decide +kernel
theorem dX11_isOf_29 : decode cX11_isOf 29 = .ok (.instanceof 192, 3) := by decide +kernel
theorem dX11_isOf_32 : decode cX11_isOf 32 = .ok (.ireturn, 1) := by decide +kernel
theorem dX11_isOf_33 : decode cX11_isOf 33 = .ok (.aload_n 0, 1) := by decide +kernel
theorem dX11_isOf_34 : decode cX11_isOf 34 = .ok (.instanceof 187, 3) := by decide +kernel
theorem dX11_isOf_37 : decode cX11_isOf 37 = .ok (.ireturn, 1) := by decide +kernel
theorem dX11_isOf_38 : decode cX11_isOf 38 = .ok (.aload_n 0, 1) := by decide +kernel
theorem dX11_isOf_39 : decode cX11_isOf 39 = .ok (.instanceof 195, 3) := by decide +kernel
theorem dX11_isOf_42 : decode cX11_isOf 42 = .ok (.ireturn, 1) := by decide +kernel
theorem dX11_isOf_43 : decode cX11_isOf 43 = .ok (.iconst 1, 1) := by decide +kernel
theorem dX11_isOf_44 : decode cX11_isOf 44 = .ok (.ireturn, 1) := by decide +kernel
set_option maxRecDepth 20000 in
theorem ggX11_ask_X5_at : GoodIn wsX11_ask wsX5_at := goodIn_r _ [9, 10, 11, 12, 13, 14, 90, 91, 92] (by decide +kernel) (by decide +kernel)
set_option maxRecDepth 20000 in
theorem gX11_ask_X5_at : GoodIn wsX11_ask (wsV RX11 206 RX5 yX5_at wsX5_at) := goodIn_app (goodIn_of _ (by decide +kernel)) ggX11_ask_X5_at
set_option maxRecDepth 20000 in
theorem ggX11_ask_X11_within : GoodIn wsX11_ask wsX11_within := goodIn_r _ [14] (by decide +kernel) (by decide +kernel)
set_option maxRecDepth 20000 in
theorem gX11_ask_X11_within : GoodIn wsX11_ask (va_wsS RX11 66 yX11_within wsX11_within) := goodIn_app (goodIn_of _ (by decide +kernel)) ggX11_ask_X11_within
set_option maxRecDepth 20000 in
theorem ggX11_ask_X2_cost : GoodIn wsX11_ask wsX2_cost := goodIn_r _ [20, 21, 22, 23, 24, 25, 26, 27, 28, 93, 94, 95, 96, 97, 98, 99, 100, 101, 102, 103, 104, 88, 89] (by decide +kernel) (by decide +kernel)
set_option maxRecDepth 20000 in
theorem gX11_ask_X2_cost : GoodIn wsX11_ask (wsV RX11 251 RX2 yX2_cost wsX2_cost) := goodIn_app (goodIn_of _ (by decide +kernel)) ggX11_ask_X2_cost
set_option maxRecDepth 20000 in
theorem ggX11_ask_X3_cost : GoodIn wsX11_ask wsX3_cost := goodIn_r _ [35, 36, 37, 38, 23, 24, 25, 26, 27, 28, 39, 30, 40, 17, 19, 20, 21, 22, 93, 94, 95, 96, 97, 98, 99, 100, 101, 102, 103, 104, 88, 89] (by decide +kernel) (by decide +kernel)
set_option maxRecDepth 20000 in
theorem gX11_ask_X3_cost_u251X3 : GoodIn wsX11_ask (va_wsO RX11 251 RX3 "SeaGates$Gate" ⟨"SeaGates$Gate", "cost", "(LSeaGates$Trace;)I"⟩ yX3_cost wsX3_cost) := goodIn_app (goodIn_of _ (by decide +kernel)) ggX11_ask_X3_cost
set_option maxRecDepth 20000 in
theorem ggX11_ask_X8_cost : GoodIn wsX11_ask wsX8_cost := goodIn_r _ [44, 45, 23, 24, 25, 26, 27, 28, 46, 30, 47, 17, 19, 20, 21, 22, 88, 89, 93, 94, 95, 96, 97, 98, 99, 100, 101, 102, 103, 104] (by decide +kernel) (by decide +kernel)
set_option maxRecDepth 20000 in
theorem gX11_ask_X8_cost_u251X8 : GoodIn wsX11_ask (va_wsO RX11 251 RX8 "SeaGates$Gate" ⟨"SeaGates$Gate", "cost", "(LSeaGates$Trace;)I"⟩ yX8_cost wsX8_cost) := goodIn_app (goodIn_of _ (by decide +kernel)) ggX11_ask_X8_cost
set_option maxRecDepth 20000 in
theorem ggX11_ask_X10_cost : GoodIn wsX11_ask wsX10_cost := goodIn_r _ [51, 52, 23, 24, 25, 26, 27, 28, 53, 54, 55, 33, 34, 35, 36, 37, 38, 39, 30, 40, 17, 19, 20, 21, 22, 88, 89, 93, 94, 95, 96, 97, 98, 99, 100, 101, 102, 103, 104] (by decide +kernel) (by decide +kernel)
set_option maxRecDepth 20000 in
theorem gX11_ask_X10_cost_u251X10 : GoodIn wsX11_ask (va_wsO RX11 251 RX10 "SeaGates$Gate" ⟨"SeaGates$Gate", "cost", "(LSeaGates$Trace;)I"⟩ yX10_cost wsX10_cost) := goodIn_app (goodIn_of _ (by decide +kernel)) ggX11_ask_X10_cost
set_option maxRecDepth 20000 in
theorem ggX11_ask_X2_mark : GoodIn wsX11_ask wsX2_mark := goodIn_r _ [59, 60, 22, 23, 24, 25, 26, 27, 28, 93, 94, 95, 96, 97, 98, 99, 100, 101, 102, 103, 104, 88, 89] (by decide +kernel) (by decide +kernel)
set_option maxRecDepth 20000 in
theorem gX11_ask_X2_mark : GoodIn wsX11_ask (wsV RX11 255 RX2 yX2_mark wsX2_mark) := goodIn_app (goodIn_of _ (by decide +kernel)) ggX11_ask_X2_mark
set_option maxRecDepth 20000 in
theorem ggX11_ask_X3_mark : GoodIn wsX11_ask wsX3_mark := goodIn_r _ [66, 38, 23, 24, 25, 26, 27, 28, 67, 62, 40, 57, 19, 59, 60, 22, 68, 33, 69, 34, 35, 36, 37, 39, 30, 17, 20, 21, 70, 54, 71, 72, 49, 50, 51, 52, 53, 55, 88, 89, 93, 94, 95, 96, 97, 98, 99, 100, 101, 102, 103, 104] (by decide +kernel) (by decide +kernel)
set_option maxRecDepth 20000 in
theorem gX11_ask_X3_mark_u255X3 : GoodIn wsX11_ask (va_wsO RX11 255 RX3 "SeaGates$Gate" ⟨"SeaGates$Gate", "mark", "(LSeaGates$Trace;)I"⟩ yX3_mark wsX3_mark) := goodIn_app (goodIn_of _ (by decide +kernel)) ggX11_ask_X3_mark
set_option maxRecDepth 20000 in
theorem ggX11_ask_X8_mark : GoodIn wsX11_ask wsX8_mark := goodIn_r _ [75, 45, 23, 24, 25, 26, 27, 28, 76, 62, 47, 57, 19, 59, 60, 22, 77, 42, 78, 43, 44, 46, 30, 17, 20, 21, 88, 89, 93, 94, 95, 96, 97, 98, 99, 100, 101, 102, 103, 104] (by decide +kernel) (by decide +kernel)
set_option maxRecDepth 20000 in
theorem gX11_ask_X8_mark_u255X8 : GoodIn wsX11_ask (va_wsO RX11 255 RX8 "SeaGates$Gate" ⟨"SeaGates$Gate", "mark", "(LSeaGates$Trace;)I"⟩ yX8_mark wsX8_mark) := goodIn_app (goodIn_of _ (by decide +kernel)) ggX11_ask_X8_mark
set_option maxRecDepth 20000 in
theorem gX11_ask_X3_mark_u255X10 : GoodIn wsX11_ask (va_wsO RX11 255 RX10 "SeaGates$Gate" ⟨"SeaGates$Gate", "mark", "(LSeaGates$Trace;)I"⟩ yX3_mark wsX3_mark) := goodIn_app (goodIn_of _ (by decide +kernel)) ggX11_ask_X3_mark
theorem dX11_ask_0 : decode cX11_ask 0 = .ok (.aload_n 0, 1) := by decide +kernel
theorem dX11_ask_1 : decode cX11_ask 1 = .ok (.getfield 44, 3) := by decide +kernel
theorem dX11_ask_4 : decode cX11_ask 4 = .ok (.iload_n 1, 1) := by decide +kernel
theorem dX11_ask_5 : decode cX11_ask 5 = .ok (.invokevirtual 206, 3) := by decide +kernel
theorem dX11_ask_8 : decode cX11_ask 8 = .ok (.astore_n 3, 1) := by decide +kernel
theorem dX11_ask_9 : decode cX11_ask 9 = .ok (.aload_n 3, 1) := by decide +kernel
theorem dX11_ask_10 : decode cX11_ask 10 = .ok (.ifnull 12, 3) := by decide +kernel
theorem dX11_ask_13 : decode cX11_ask 13 = .ok (.iload_n 2, 1) := by decide +kernel
theorem dX11_ask_14 : decode cX11_ask 14 = .ok (.iconst 0, 1) := by decide +kernel
theorem dX11_ask_15 : decode cX11_ask 15 = .ok (.iconst 1, 1) := by decide +kernel
theorem dX11_ask_16 : decode cX11_ask 16 = .ok (.invokestatic 66, 3) := by decide +kernel
theorem dX11_ask_19 : decode cX11_ask 19 = .ok (.ifCond .ne 6, 3) := by decide +kernel
theorem dX11_ask_22 : decode cX11_ask 22 = .ok (.ldc 70, 2) := by decide +kernel
theorem dX11_ask_24 : decode cX11_ask 24 = .ok (.ireturn, 1) := by decide +kernel
theorem dX11_ask_25 : decode cX11_ask 25 = .ok (.aload_n 0, 1) := by decide +kernel
theorem dX11_ask_26 : decode cX11_ask 26 = .ok (.getfield 58, 3) := by decide +kernel
theorem dX11_ask_29 : decode cX11_ask 29 = .ok (.iconst 0, 1) := by decide +kernel
theorem dX11_ask_30 : decode cX11_ask 30 = .ok (.putfield 248, 3) := by decide +kernel
theorem dX11_ask_33 : decode cX11_ask 33 = .ok (.iload_n 2, 1) := by decide +kernel
theorem dX11_ask_34 : decode cX11_ask 34 = .ok (.ifCond .ne 14, 3) := by decide +kernel
theorem dX11_ask_37 : decode cX11_ask 37 = .ok (.aload_n 3, 1) := by decide +kernel
theorem dX11_ask_38 : decode cX11_ask 38 = .ok (.aload_n 0, 1) := by decide +kernel
theorem dX11_ask_39 : decode cX11_ask 39 = .ok (.getfield 58, 3) := by decide +kernel
theorem dX11_ask_42 : decode cX11_ask 42 = .ok (.invokevirtual 251, 3) := by decide +kernel
theorem dX11_ask_45 : decode cX11_ask 45 = .ok (.goto 11, 3) := by decide +kernel
theorem dX11_ask_48 : decode cX11_ask 48 = .ok (.aload_n 3, 1) := by decide +kernel
theorem dX11_ask_49 : decode cX11_ask 49 = .ok (.aload_n 0, 1) := by decide +kernel
theorem dX11_ask_50 : decode cX11_ask 50 = .ok (.getfield 58, 3) := by decide +kernel
theorem dX11_ask_53 : decode cX11_ask 53 = .ok (.invokevirtual 255, 3) := by decide +kernel
theorem dX11_ask_56 : decode cX11_ask 56 = .ok (.ireturn, 1) := by decide +kernel
set_option maxRecDepth 20000 in
theorem ggX11_trace_X11_within : GoodIn wsX11_trace wsX11_within := goodIn_r _ [8] (by decide +kernel) (by decide +kernel)
set_option maxRecDepth 20000 in
theorem gX11_trace_X11_within : GoodIn wsX11_trace (va_wsS RX11 66 yX11_within wsX11_within) := goodIn_app (goodIn_of _ (by decide +kernel)) ggX11_trace_X11_within
theorem dX11_trace_0 : decode cX11_trace 0 = .ok (.iload_n 1, 1) := by decide +kernel
theorem dX11_trace_1 : decode cX11_trace 1 = .ok (.iconst 0, 1) := by decide +kernel
theorem dX11_trace_2 : decode cX11_trace 2 = .ok (.aload_n 0, 1) := by decide +kernel
theorem dX11_trace_3 : decode cX11_trace 3 = .ok (.getfield 58, 3) := by decide +kernel
theorem dX11_trace_6 : decode cX11_trace 6 = .ok (.getfield 248, 3) := by decide +kernel
theorem dX11_trace_9 : decode cX11_trace 9 = .ok (.iconst 1, 1) := by decide +kernel
theorem dX11_trace_10 : decode cX11_trace 10 = .ok (.isub, 1) := by decide +kernel
theorem dX11_trace_11 : decode cX11_trace 11 = .ok (.invokestatic 66, 3) := by decide +kernel
theorem dX11_trace_14 : decode cX11_trace 14 = .ok (.ifCond .eq 15, 3) := by decide +kernel
theorem dX11_trace_17 : decode cX11_trace 17 = .ok (.aload_n 0, 1) := by decide +kernel
theorem dX11_trace_18 : decode cX11_trace 18 = .ok (.getfield 58, 3) := by decide +kernel
theorem dX11_trace_21 : decode cX11_trace 21 = .ok (.getfield 258, 3) := by decide +kernel
theorem dX11_trace_24 : decode cX11_trace 24 = .ok (.iload_n 1, 1) := by decide +kernel
theorem dX11_trace_25 : decode cX11_trace 25 = .ok (.iaload, 1) := by decide +kernel
theorem dX11_trace_26 : decode cX11_trace 26 = .ok (.goto 5, 3) := by decide +kernel
theorem dX11_trace_29 : decode cX11_trace 29 = .ok (.ldc 175, 2) := by decide +kernel
theorem dX11_trace_31 : decode cX11_trace 31 = .ok (.ireturn, 1) := by decide +kernel
set_option maxRecDepth 20000 in
theorem ggX11_count_X7_present : GoodIn wsX11_count wsX7_present := goodIn_r _ [13, 14, 15, 16, 12, 17, 18, 52, 53, 54] (by decide +kernel) (by decide +kernel)
set_option maxRecDepth 20000 in
theorem gX11_count_X7_present : GoodIn wsX11_count (wsV RX11 261 RX7 yX7_present wsX7_present) := goodIn_app (goodIn_of _ (by decide +kernel)) ggX11_count_X7_present
set_option maxRecDepth 20000 in
theorem ggX11_count_X6_allWeights : GoodIn wsX11_count wsX6_allWeights := goodIn_r _ [23, 24, 25, 41, 42, 43, 44] (by decide +kernel) (by decide +kernel)
set_option maxRecDepth 20000 in
theorem gX11_count_X6_allWeights : GoodIn wsX11_count (wsV RX11 264 RX6 yX6_allWeights wsX6_allWeights) := goodIn_app (goodIn_of _ (by decide +kernel)) ggX11_count_X6_allWeights
set_option maxRecDepth 20000 in
theorem ggX11_count_X5_failedOnes : GoodIn wsX11_count wsX5_failedOnes := goodIn_r _ [30, 31, 32, 45, 46, 47, 55, 56, 57, 58, 59, 60, 61, 62, 63, 64, 65, 66] (by decide +kernel) (by decide +kernel)
set_option maxRecDepth 20000 in
theorem gX11_count_X5_failedOnes : GoodIn wsX11_count (wsV RX11 267 RX5 yX5_failedOnes wsX5_failedOnes) := goodIn_app (goodIn_of _ (by decide +kernel)) ggX11_count_X5_failedOnes
theorem dX11_count_0 : decode cX11_count 0 = .ok (.iload_n 1, 1) := by decide +kernel
theorem dX11_count_1 : decode cX11_count 1 = .ok (.tableswitch 87 0 5 #[39, 47, 55, 63, 71, 79], 39) := by decide +kernel
theorem dX11_count_40 : decode cX11_count 40 = .ok (.aload_n 0, 1) := by decide +kernel
theorem dX11_count_41 : decode cX11_count 41 = .ok (.getfield 12, 3) := by decide +kernel
theorem dX11_count_44 : decode cX11_count 44 = .ok (.invokevirtual 261, 3) := by decide +kernel
theorem dX11_count_47 : decode cX11_count 47 = .ok (.ireturn, 1) := by decide +kernel
theorem dX11_count_48 : decode cX11_count 48 = .ok (.aload_n 0, 1) := by decide +kernel
theorem dX11_count_49 : decode cX11_count 49 = .ok (.getfield 19, 3) := by decide +kernel
theorem dX11_count_52 : decode cX11_count 52 = .ok (.getfield 104, 3) := by decide +kernel
theorem dX11_count_55 : decode cX11_count 55 = .ok (.ireturn, 1) := by decide +kernel
theorem dX11_count_56 : decode cX11_count 56 = .ok (.aload_n 0, 1) := by decide +kernel
theorem dX11_count_57 : decode cX11_count 57 = .ok (.getfield 19, 3) := by decide +kernel
theorem dX11_count_60 : decode cX11_count 60 = .ok (.invokevirtual 264, 3) := by decide +kernel
theorem dX11_count_63 : decode cX11_count 63 = .ok (.ireturn, 1) := by decide +kernel
theorem dX11_count_64 : decode cX11_count 64 = .ok (.aload_n 0, 1) := by decide +kernel
theorem dX11_count_65 : decode cX11_count 65 = .ok (.getfield 44, 3) := by decide +kernel
theorem dX11_count_68 : decode cX11_count 68 = .ok (.getfield 179, 3) := by decide +kernel
theorem dX11_count_71 : decode cX11_count 71 = .ok (.ireturn, 1) := by decide +kernel
theorem dX11_count_72 : decode cX11_count 72 = .ok (.aload_n 0, 1) := by decide +kernel
theorem dX11_count_73 : decode cX11_count 73 = .ok (.getfield 44, 3) := by decide +kernel
theorem dX11_count_76 : decode cX11_count 76 = .ok (.invokevirtual 267, 3) := by decide +kernel
theorem dX11_count_79 : decode cX11_count 79 = .ok (.ireturn, 1) := by decide +kernel
theorem dX11_count_80 : decode cX11_count 80 = .ok (.aload_n 0, 1) := by decide +kernel
theorem dX11_count_81 : decode cX11_count 81 = .ok (.getfield 51, 3) := by decide +kernel
theorem dX11_count_84 : decode cX11_count 84 = .ok (.getfield 220, 3) := by decide +kernel
theorem dX11_count_87 : decode cX11_count 87 = .ok (.ireturn, 1) := by decide +kernel
theorem dX11_count_88 : decode cX11_count 88 = .ok (.ldc 70, 2) := by decide +kernel
theorem dX11_count_90 : decode cX11_count 90 = .ok (.ireturn, 1) := by decide +kernel
theorem dX11_status_0 : decode cX11_status 0 = .ok (.aload_n 0, 1) := by decide +kernel
theorem dX11_status_1 : decode cX11_status 1 = .ok (.getfield 62, 3) := by decide +kernel
theorem dX11_status_4 : decode cX11_status 4 = .ok (.ireturn, 1) := by decide +kernel
theorem dX11_found_0 : decode cX11_found 0 = .ok (.aload_n 0, 1) := by decide +kernel
theorem dX11_found_1 : decode cX11_found 1 = .ok (.iload_n 1, 1) := by decide +kernel
theorem dX11_found_2 : decode cX11_found 2 = .ok (.putfield 62, 3) := by decide +kernel
theorem dX11_found_5 : decode cX11_found 5 = .ok (.ldc_w 270, 3) := by decide +kernel
theorem dX11_found_8 : decode cX11_found 8 = .ok (.iload_n 1, 1) := by decide +kernel
theorem dX11_found_9 : decode cX11_found 9 = .ok (.isub, 1) := by decide +kernel
theorem dX11_found_10 : decode cX11_found 10 = .ok (.ireturn, 1) := by decide +kernel
theorem dX11_fine_0 : decode cX11_fine 0 = .ok (.aload_n 0, 1) := by decide +kernel
theorem dX11_fine_1 : decode cX11_fine 1 = .ok (.iconst 0, 1) := by decide +kernel
theorem dX11_fine_2 : decode cX11_fine 2 = .ok (.putfield 62, 3) := by decide +kernel
theorem dX11_fine_5 : decode cX11_fine 5 = .ok (.iload_n 1, 1) := by decide +kernel
theorem dX11_fine_6 : decode cX11_fine 6 = .ok (.ireturn, 1) := by decide +kernel
theorem dX11_within_0 : decode cX11_within 0 = .ok (.iload_n 1, 1) := by decide +kernel
theorem dX11_within_1 : decode cX11_within 1 = .ok (.iload_n 0, 1) := by decide +kernel
theorem dX11_within_2 : decode cX11_within 2 = .ok (.if_icmp .gt 12, 3) := by decide +kernel
theorem dX11_within_5 : decode cX11_within 5 = .ok (.iload_n 0, 1) := by decide +kernel
theorem dX11_within_6 : decode cX11_within 6 = .ok (.iload_n 2, 1) := by decide +kernel
theorem dX11_within_7 : decode cX11_within 7 = .ok (.if_icmp .gt 7, 3) := by decide +kernel
theorem dX11_within_10 : decode cX11_within 10 = .ok (.iconst 1, 1) := by decide +kernel
theorem dX11_within_11 : decode cX11_within 11 = .ok (.goto 4, 3) := by decide +kernel
theorem dX11_within_14 : decode cX11_within 14 = .ok (.iconst 0, 1) := by decide +kernel
theorem dX11_within_15 : decode cX11_within 15 = .ok (.ireturn, 1) := by decide +kernel
theorem dX12_init_0 : decode cX12_init 0 = .ok (.aload_n 0, 1) := by decide +kernel
theorem dX12_init_1 : decode cX12_init 1 = .ok (.invokespecial 1, 3) := by decide +kernel
theorem dX12_init_4 : decode cX12_init 4 = .ok (.aload_n 0, 1) := by decide +kernel
theorem dX12_init_5 : decode cX12_init 5 = .ok (.bipush 8, 2) := by decide +kernel
theorem dX12_init_7 : decode cX12_init 7 = .ok (.newarray .int, 2) := by decide +kernel
theorem dX12_init_9 : decode cX12_init 9 = .ok (.dup, 1) := by decide +kernel
theorem dX12_init_10 : decode cX12_init 10 = .ok (.iconst 0, 1) := by decide +kernel
theorem dX12_init_11 : decode cX12_init 11 = .ok (.iconst 1, 1) := by decide +kernel
theorem dX12_init_12 : decode cX12_init 12 = .ok (.iastore, 1) := by decide +kernel
theorem dX12_init_13 : decode cX12_init 13 = .ok (.dup, 1) := by decide +kernel
theorem dX12_init_14 : decode cX12_init 14 = .ok (.iconst 1, 1) := by decide +kernel
theorem dX12_init_15 : decode cX12_init 15 = .ok (.iconst 1, 1) := by decide +kernel
theorem dX12_init_16 : decode cX12_init 16 = .ok (.iastore, 1) := by decide +kernel
theorem dX12_init_17 : decode cX12_init 17 = .ok (.dup, 1) := by decide +kernel
theorem dX12_init_18 : decode cX12_init 18 = .ok (.iconst 2, 1) := by decide +kernel
theorem dX12_init_19 : decode cX12_init 19 = .ok (.sipush 300, 3) := by decide +kernel
theorem dX12_init_22 : decode cX12_init 22 = .ok (.iastore, 1) := by decide +kernel
theorem dX12_init_23 : decode cX12_init 23 = .ok (.dup, 1) := by decide +kernel
theorem dX12_init_24 : decode cX12_init 24 = .ok (.iconst 3, 1) := by decide +kernel
theorem dX12_init_25 : decode cX12_init 25 = .ok (.sipush 200, 3) := by decide +kernel
theorem dX12_init_28 : decode cX12_init 28 = .ok (.iastore, 1) := by decide +kernel
theorem dX12_init_29 : decode cX12_init 29 = .ok (.dup, 1) := by decide +kernel
theorem dX12_init_30 : decode cX12_init 30 = .ok (.iconst 4, 1) := by decide +kernel
theorem dX12_init_31 : decode cX12_init 31 = .ok (.bipush 50, 2) := by decide +kernel
theorem dX12_init_33 : decode cX12_init 33 = .ok (.iastore, 1) := by decide +kernel
theorem dX12_init_34 : decode cX12_init 34 = .ok (.dup, 1) := by decide +kernel
theorem dX12_init_35 : decode cX12_init 35 = .ok (.iconst 5, 1) := by decide +kernel
theorem dX12_init_36 : decode cX12_init 36 = .ok (.iconst 5, 1) := by decide +kernel
theorem dX12_init_37 : decode cX12_init 37 = .ok (.iastore, 1) := by decide +kernel
theorem dX12_init_38 : decode cX12_init 38 = .ok (.dup, 1) := by decide +kernel
theorem dX12_init_39 : decode cX12_init 39 = .ok (.bipush 6, 2) := by decide +kernel
theorem dX12_init_41 : decode cX12_init 41 = .ok (.bipush 10, 2) := by decide +kernel
theorem dX12_init_43 : decode cX12_init 43 = .ok (.iastore, 1) := by decide +kernel
theorem dX12_init_44 : decode cX12_init 44 = .ok (.dup, 1) := by decide +kernel
theorem dX12_init_45 : decode cX12_init 45 = .ok (.bipush 7, 2) := by decide +kernel
theorem dX12_init_47 : decode cX12_init 47 = .ok (.iconst 3, 1) := by decide +kernel
theorem dX12_init_48 : decode cX12_init 48 = .ok (.iastore, 1) := by decide +kernel
theorem dX12_init_49 : decode cX12_init 49 = .ok (.putfield 7, 3) := by decide +kernel
theorem dX12_init_52 : decode cX12_init 52 = .ok (.aload_n 0, 1) := by decide +kernel
theorem dX12_init_53 : decode cX12_init 53 = .ok (.bipush 8, 2) := by decide +kernel
theorem dX12_init_55 : decode cX12_init 55 = .ok (.newarray .int, 2) := by decide +kernel
theorem dX12_init_57 : decode cX12_init 57 = .ok (.dup, 1) := by decide +kernel
theorem dX12_init_58 : decode cX12_init 58 = .ok (.iconst 0, 1) := by decide +kernel
theorem dX12_init_59 : decode cX12_init 59 = .ok (.bipush 10, 2) := by decide +kernel
theorem dX12_init_61 : decode cX12_init 61 = .ok (.iastore, 1) := by decide +kernel
theorem dX12_init_62 : decode cX12_init 62 = .ok (.dup, 1) := by decide +kernel
theorem dX12_init_63 : decode cX12_init 63 = .ok (.iconst 1, 1) := by decide +kernel
theorem dX12_init_64 : decode cX12_init 64 = .ok (.bipush 10, 2) := by decide +kernel
theorem dX12_init_66 : decode cX12_init 66 = .ok (.iastore, 1) := by decide +kernel
theorem dX12_init_67 : decode cX12_init 67 = .ok (.dup, 1) := by decide +kernel
theorem dX12_init_68 : decode cX12_init 68 = .ok (.iconst 2, 1) := by decide +kernel
theorem dX12_init_69 : decode cX12_init 69 = .ok (.bipush 10, 2) := by decide +kernel
theorem dX12_init_71 : decode cX12_init 71 = .ok (.iastore, 1) := by decide +kernel
theorem dX12_init_72 : decode cX12_init 72 = .ok (.dup, 1) := by decide +kernel
theorem dX12_init_73 : decode cX12_init 73 = .ok (.iconst 3, 1) := by decide +kernel
theorem dX12_init_74 : decode cX12_init 74 = .ok (.bipush 10, 2) := by decide +kernel
theorem dX12_init_76 : decode cX12_init 76 = .ok (.iastore, 1) := by decide +kernel
theorem dX12_init_77 : decode cX12_init 77 = .ok (.dup, 1) := by decide +kernel
theorem dX12_init_78 : decode cX12_init 78 = .ok (.iconst 4, 1) := by decide +kernel
theorem dX12_init_79 : decode cX12_init 79 = .ok (.bipush 10, 2) := by decide +kernel
theorem dX12_init_81 : decode cX12_init 81 = .ok (.iastore, 1) := by decide +kernel
theorem dX12_init_82 : decode cX12_init 82 = .ok (.dup, 1) := by decide +kernel
theorem dX12_init_83 : decode cX12_init 83 = .ok (.iconst 5, 1) := by decide +kernel
theorem dX12_init_84 : decode cX12_init 84 = .ok (.bipush 10, 2) := by decide +kernel
theorem dX12_init_86 : decode cX12_init 86 = .ok (.iastore, 1) := by decide +kernel
theorem dX12_init_87 : decode cX12_init 87 = .ok (.dup, 1) := by decide +kernel
theorem dX12_init_88 : decode cX12_init 88 = .ok (.bipush 6, 2) := by decide +kernel
theorem dX12_init_90 : decode cX12_init 90 = .ok (.bipush 10, 2) := by decide +kernel
theorem dX12_init_92 : decode cX12_init 92 = .ok (.iastore, 1) := by decide +kernel
theorem dX12_init_93 : decode cX12_init 93 = .ok (.dup, 1) := by decide +kernel
theorem dX12_init_94 : decode cX12_init 94 = .ok (.bipush 7, 2) := by decide +kernel
theorem dX12_init_96 : decode cX12_init 96 = .ok (.bipush 10, 2) := by decide +kernel
theorem dX12_init_98 : decode cX12_init 98 = .ok (.iastore, 1) := by decide +kernel
theorem dX12_init_99 : decode cX12_init 99 = .ok (.putfield 13, 3) := by decide +kernel
theorem dX12_init_102 : decode cX12_init 102 = .ok (.aload_n 0, 1) := by decide +kernel
theorem dX12_init_103 : decode cX12_init 103 = .ok (.bipush 8, 2) := by decide +kernel
theorem dX12_init_105 : decode cX12_init 105 = .ok (.newarray .int, 2) := by decide +kernel
theorem dX12_init_107 : decode cX12_init 107 = .ok (.dup, 1) := by decide +kernel
theorem dX12_init_108 : decode cX12_init 108 = .ok (.iconst 0, 1) := by decide +kernel
theorem dX12_init_109 : decode cX12_init 109 = .ok (.iconst (-1), 1) := by decide +kernel
theorem dX12_init_110 : decode cX12_init 110 = .ok (.iastore, 1) := by decide +kernel
theorem dX12_init_111 : decode cX12_init 111 = .ok (.dup, 1) := by decide +kernel
theorem dX12_init_112 : decode cX12_init 112 = .ok (.iconst 1, 1) := by decide +kernel
theorem dX12_init_113 : decode cX12_init 113 = .ok (.iconst (-1), 1) := by decide +kernel
theorem dX12_init_114 : decode cX12_init 114 = .ok (.iastore, 1) := by decide +kernel
theorem dX12_init_115 : decode cX12_init 115 = .ok (.dup, 1) := by decide +kernel
theorem dX12_init_116 : decode cX12_init 116 = .ok (.iconst 2, 1) := by decide +kernel
theorem dX12_init_117 : decode cX12_init 117 = .ok (.iconst (-1), 1) := by decide +kernel
theorem dX12_init_118 : decode cX12_init 118 = .ok (.iastore, 1) := by decide +kernel
theorem dX12_init_119 : decode cX12_init 119 = .ok (.dup, 1) := by decide +kernel
theorem dX12_init_120 : decode cX12_init 120 = .ok (.iconst 3, 1) := by decide +kernel
theorem dX12_init_121 : decode cX12_init 121 = .ok (.iconst (-1), 1) := by decide +kernel
theorem dX12_init_122 : decode cX12_init 122 = .ok (.iastore, 1) := by decide +kernel
theorem dX12_init_123 : decode cX12_init 123 = .ok (.dup, 1) := by decide +kernel
theorem dX12_init_124 : decode cX12_init 124 = .ok (.iconst 4, 1) := by decide +kernel
theorem dX12_init_125 : decode cX12_init 125 = .ok (.iconst (-1), 1) := by decide +kernel
theorem dX12_init_126 : decode cX12_init 126 = .ok (.iastore, 1) := by decide +kernel
theorem dX12_init_127 : decode cX12_init 127 = .ok (.dup, 1) := by decide +kernel
theorem dX12_init_128 : decode cX12_init 128 = .ok (.iconst 5, 1) := by decide +kernel
theorem dX12_init_129 : decode cX12_init 129 = .ok (.iconst (-1), 1) := by decide +kernel
theorem dX12_init_130 : decode cX12_init 130 = .ok (.iastore, 1) := by decide +kernel
theorem dX12_init_131 : decode cX12_init 131 = .ok (.dup, 1) := by decide +kernel
theorem dX12_init_132 : decode cX12_init 132 = .ok (.bipush 6, 2) := by decide +kernel
theorem dX12_init_134 : decode cX12_init 134 = .ok (.iconst (-1), 1) := by decide +kernel
theorem dX12_init_135 : decode cX12_init 135 = .ok (.iastore, 1) := by decide +kernel
theorem dX12_init_136 : decode cX12_init 136 = .ok (.dup, 1) := by decide +kernel
theorem dX12_init_137 : decode cX12_init 137 = .ok (.bipush 7, 2) := by decide +kernel
theorem dX12_init_139 : decode cX12_init 139 = .ok (.iconst (-1), 1) := by decide +kernel
theorem dX12_init_140 : decode cX12_init 140 = .ok (.iastore, 1) := by decide +kernel
theorem dX12_init_141 : decode cX12_init 141 = .ok (.putfield 16, 3) := by decide +kernel
theorem dX12_init_144 : decode cX12_init 144 = .ok (.aload_n 0, 1) := by decide +kernel
theorem dX12_init_145 : decode cX12_init 145 = .ok (.bipush 8, 2) := by decide +kernel
theorem dX12_init_147 : decode cX12_init 147 = .ok (.newarray .int, 2) := by decide +kernel
theorem dX12_init_149 : decode cX12_init 149 = .ok (.putfield 19, 3) := by decide +kernel
theorem dX12_init_152 : decode cX12_init 152 = .ok (.aload_n 0, 1) := by decide +kernel
theorem dX12_init_153 : decode cX12_init 153 = .ok (.sipush 480, 3) := by decide +kernel
theorem dX12_init_156 : decode cX12_init 156 = .ok (.newarray .int, 2) := by decide +kernel
theorem dX12_init_158 : decode cX12_init 158 = .ok (.putfield 22, 3) := by decide +kernel
theorem dX12_init_161 : decode cX12_init 161 = .ok (.aload_n 0, 1) := by decide +kernel
theorem dX12_init_162 : decode cX12_init 162 = .ok (.bipush 8, 2) := by decide +kernel
theorem dX12_init_164 : decode cX12_init 164 = .ok (.newarray .int, 2) := by decide +kernel
theorem dX12_init_166 : decode cX12_init 166 = .ok (.putfield 25, 3) := by decide +kernel
theorem dX12_init_169 : decode cX12_init 169 = .ok (.aload_n 0, 1) := by decide +kernel
theorem dX12_init_170 : decode cX12_init 170 = .ok (.bipush 64, 2) := by decide +kernel
theorem dX12_init_172 : decode cX12_init 172 = .ok (.newarray .int, 2) := by decide +kernel
theorem dX12_init_174 : decode cX12_init 174 = .ok (.putfield 28, 3) := by decide +kernel
theorem dX12_init_177 : decode cX12_init 177 = .ok (.aload_n 0, 1) := by decide +kernel
theorem dX12_init_178 : decode cX12_init 178 = .ok (.sipush 1152, 3) := by decide +kernel
theorem dX12_init_181 : decode cX12_init 181 = .ok (.newarray .long, 2) := by decide +kernel
theorem dX12_init_183 : decode cX12_init 183 = .ok (.putfield 31, 3) := by decide +kernel
theorem dX12_init_186 : decode cX12_init 186 = .ok (.aload_n 0, 1) := by decide +kernel
theorem dX12_init_187 : decode cX12_init 187 = .ok (.sipush 1152, 3) := by decide +kernel
theorem dX12_init_190 : decode cX12_init 190 = .ok (.newarray .boolean, 2) := by decide +kernel
theorem dX12_init_192 : decode cX12_init 192 = .ok (.putfield 35, 3) := by decide +kernel
theorem dX12_init_195 : decode cX12_init 195 = .ok (.aload_n 0, 1) := by decide +kernel
theorem dX12_init_196 : decode cX12_init 196 = .ok (.bipush 6, 2) := by decide +kernel
theorem dX12_init_198 : decode cX12_init 198 = .ok (.newarray .int, 2) := by decide +kernel
theorem dX12_init_200 : decode cX12_init 200 = .ok (.putfield 39, 3) := by decide +kernel
theorem dX12_init_203 : decode cX12_init 203 = .ok (.aload_n 0, 1) := by decide +kernel
theorem dX12_init_204 : decode cX12_init 204 = .ok (.bipush 6, 2) := by decide +kernel
theorem dX12_init_206 : decode cX12_init 206 = .ok (.newarray .int, 2) := by decide +kernel
theorem dX12_init_208 : decode cX12_init 208 = .ok (.putfield 42, 3) := by decide +kernel
theorem dX12_init_211 : decode cX12_init 211 = .ok (.aload_n 0, 1) := by decide +kernel
theorem dX12_init_212 : decode cX12_init 212 = .ok (.bipush 6, 2) := by decide +kernel
theorem dX12_init_214 : decode cX12_init 214 = .ok (.newarray .boolean, 2) := by decide +kernel
theorem dX12_init_216 : decode cX12_init 216 = .ok (.putfield 45, 3) := by decide +kernel
theorem dX12_init_219 : decode cX12_init 219 = .ok (.aload_n 0, 1) := by decide +kernel
theorem dX12_init_220 : decode cX12_init 220 = .ok (.iconst 3, 1) := by decide +kernel
theorem dX12_init_221 : decode cX12_init 221 = .ok (.newarray .int, 2) := by decide +kernel
theorem dX12_init_223 : decode cX12_init 223 = .ok (.putfield 48, 3) := by decide +kernel
theorem dX12_init_226 : decode cX12_init 226 = .ok (.aload_n 0, 1) := by decide +kernel
theorem dX12_init_227 : decode cX12_init 227 = .ok (.bipush 20, 2) := by decide +kernel
theorem dX12_init_229 : decode cX12_init 229 = .ok (.newarray .int, 2) := by decide +kernel
theorem dX12_init_231 : decode cX12_init 231 = .ok (.putfield 51, 3) := by decide +kernel
theorem dX12_init_234 : decode cX12_init 234 = .ok (.aload_n 0, 1) := by decide +kernel
theorem dX12_init_235 : decode cX12_init 235 = .ok (.bipush 20, 2) := by decide +kernel
theorem dX12_init_237 : decode cX12_init 237 = .ok (.newarray .int, 2) := by decide +kernel
theorem dX12_init_239 : decode cX12_init 239 = .ok (.putfield 54, 3) := by decide +kernel
theorem dX12_init_242 : decode cX12_init 242 = .ok (.aload_n 0, 1) := by decide +kernel
theorem dX12_init_243 : decode cX12_init 243 = .ok (.bipush 16, 2) := by decide +kernel
theorem dX12_init_245 : decode cX12_init 245 = .ok (.newarray .int, 2) := by decide +kernel
theorem dX12_init_247 : decode cX12_init 247 = .ok (.putfield 57, 3) := by decide +kernel
theorem dX12_init_250 : decode cX12_init 250 = .ok (.return_, 1) := by decide +kernel
theorem dX12_in_0 : decode cX12_in 0 = .ok (.lload_n 0, 1) := by decide +kernel
theorem dX12_in_1 : decode cX12_in 1 = .ok (.lload_n 2, 1) := by decide +kernel
theorem dX12_in_2 : decode cX12_in 2 = .ok (.lcmp, 1) := by decide +kernel
theorem dX12_in_3 : decode cX12_in 3 = .ok (.ifCond .lt 14, 3) := by decide +kernel
theorem dX12_in_6 : decode cX12_in 6 = .ok (.lload_n 0, 1) := by decide +kernel
theorem dX12_in_7 : decode cX12_in 7 = .ok (.lload 4, 2) := by decide +kernel
theorem dX12_in_9 : decode cX12_in 9 = .ok (.lcmp, 1) := by decide +kernel
theorem dX12_in_10 : decode cX12_in 10 = .ok (.ifCond .gt 7, 3) := by decide +kernel
theorem dX12_in_13 : decode cX12_in 13 = .ok (.iconst 1, 1) := by decide +kernel
theorem dX12_in_14 : decode cX12_in 14 = .ok (.goto 4, 3) := by decide +kernel
theorem dX12_in_17 : decode cX12_in 17 = .ok (.iconst 0, 1) := by decide +kernel
theorem dX12_in_18 : decode cX12_in 18 = .ok (.ireturn, 1) := by decide +kernel
theorem dX12_found_0 : decode cX12_found 0 = .ok (.aload_n 0, 1) := by decide +kernel
theorem dX12_found_1 : decode cX12_found 1 = .ok (.iload_n 1, 1) := by decide +kernel
theorem dX12_found_2 : decode cX12_found 2 = .ok (.putfield 64, 3) := by decide +kernel
theorem dX12_found_5 : decode cX12_found 5 = .ok (.ldc 67, 2) := by decide +kernel
theorem dX12_found_7 : decode cX12_found 7 = .ok (.iload_n 1, 1) := by decide +kernel
theorem dX12_found_8 : decode cX12_found 8 = .ok (.isub, 1) := by decide +kernel
theorem dX12_found_9 : decode cX12_found 9 = .ok (.ireturn, 1) := by decide +kernel
set_option maxRecDepth 20000 in
theorem ggX12_isSheet_X12_in : GoodIn wsX12_isSheet wsX12_in := goodIn_r _ [5] (by decide +kernel) (by decide +kernel)
set_option maxRecDepth 20000 in
theorem gX12_isSheet_X12_in : GoodIn wsX12_isSheet (va_wsS RX12 70 yX12_in wsX12_in) := goodIn_app (goodIn_of _ (by decide +kernel)) ggX12_isSheet_X12_in
theorem dX12_isSheet_0 : decode cX12_isSheet 0 = .ok (.iload_n 0, 1) := by decide +kernel
theorem dX12_isSheet_1 : decode cX12_isSheet 1 = .ok (.i2l, 1) := by decide +kernel
theorem dX12_isSheet_2 : decode cX12_isSheet 2 = .ok (.lconst 0, 1) := by decide +kernel
theorem dX12_isSheet_3 : decode cX12_isSheet 3 = .ok (.ldc2_w 68, 3) := by decide +kernel
theorem dX12_isSheet_6 : decode cX12_isSheet 6 = .ok (.invokestatic 70, 3) := by decide +kernel
theorem dX12_isSheet_9 : decode cX12_isSheet 9 = .ok (.ireturn, 1) := by decide +kernel
set_option maxRecDepth 20000 in
theorem ggX12_sheet_X12_isSheet : GoodIn wsX12_sheet wsX12_isSheet := goodIn_r _ [11, 12, 13, 14, 10, 15] (by decide +kernel) (by decide +kernel)
set_option maxRecDepth 20000 in
theorem gX12_sheet_X12_isSheet : GoodIn wsX12_sheet (va_wsS RX12 74 yX12_isSheet wsX12_isSheet) := goodIn_app (goodIn_of _ (by decide +kernel)) ggX12_sheet_X12_isSheet
set_option maxRecDepth 20000 in
theorem ggX12_sheet_X12_in : GoodIn wsX12_sheet wsX12_in := goodIn_r _ [15] (by decide +kernel) (by decide +kernel)
set_option maxRecDepth 20000 in
theorem gX12_sheet_X12_in : GoodIn wsX12_sheet (va_wsS RX12 70 yX12_in wsX12_in) := goodIn_app (goodIn_of _ (by decide +kernel)) ggX12_sheet_X12_in
set_option maxRecDepth 20000 in
theorem ggX12_sheet_X12_found : GoodIn wsX12_sheet wsX12_found := goodIn_r _ [19, 4, 20, 21, 22, 23, 24, 25, 26, 27, 28, 29, 30, 31, 32, 33, 34, 35, 36, 37, 38, 39, 40, 41, 42] (by decide +kernel) (by decide +kernel)
set_option maxRecDepth 20000 in
theorem gX12_sheet_X12_found : GoodIn wsX12_sheet (wsV RX12 81 RX12 yX12_found wsX12_found) := goodIn_app (goodIn_of _ (by decide +kernel)) ggX12_sheet_X12_found
theorem dX12_sheet_0 : decode cX12_sheet 0 = .ok (.aload_n 0, 1) := by decide +kernel
theorem dX12_sheet_1 : decode cX12_sheet 1 = .ok (.iconst 0, 1) := by decide +kernel
theorem dX12_sheet_2 : decode cX12_sheet 2 = .ok (.putfield 60, 3) := by decide +kernel
theorem dX12_sheet_5 : decode cX12_sheet 5 = .ok (.iload_n 1, 1) := by decide +kernel
theorem dX12_sheet_6 : decode cX12_sheet 6 = .ok (.invokestatic 74, 3) := by decide +kernel
theorem dX12_sheet_9 : decode cX12_sheet 9 = .ok (.ifCond .eq 21, 3) := by decide +kernel
theorem dX12_sheet_12 : decode cX12_sheet 12 = .ok (.iload_n 2, 1) := by decide +kernel
theorem dX12_sheet_13 : decode cX12_sheet 13 = .ok (.i2l, 1) := by decide +kernel
theorem dX12_sheet_14 : decode cX12_sheet 14 = .ok (.lconst 0, 1) := by decide +kernel
theorem dX12_sheet_15 : decode cX12_sheet 15 = .ok (.ldc2_w 78, 3) := by decide +kernel
theorem dX12_sheet_18 : decode cX12_sheet 18 = .ok (.invokestatic 70, 3) := by decide +kernel
theorem dX12_sheet_21 : decode cX12_sheet 21 = .ok (.ifCond .eq 9, 3) := by decide +kernel
theorem dX12_sheet_24 : decode cX12_sheet 24 = .ok (.iload_n 3, 1) := by decide +kernel
theorem dX12_sheet_25 : decode cX12_sheet 25 = .ok (.bipush 60, 2) := by decide +kernel
theorem dX12_sheet_27 : decode cX12_sheet 27 = .ok (.if_icmp .le 6, 3) := by decide +kernel
theorem dX12_sheet_30 : decode cX12_sheet 30 = .ok (.ldc 80, 2) := by decide +kernel
theorem dX12_sheet_32 : decode cX12_sheet 32 = .ok (.ireturn, 1) := by decide +kernel
theorem dX12_sheet_33 : decode cX12_sheet 33 = .ok (.aload_n 0, 1) := by decide +kernel
theorem dX12_sheet_34 : decode cX12_sheet 34 = .ok (.iconst 0, 1) := by decide +kernel
theorem dX12_sheet_35 : decode cX12_sheet 35 = .ok (.putfield 64, 3) := by decide +kernel
theorem dX12_sheet_38 : decode cX12_sheet 38 = .ok (.iload_n 3, 1) := by decide +kernel
theorem dX12_sheet_39 : decode cX12_sheet 39 = .ok (.ifCond .ge 9, 3) := by decide +kernel
theorem dX12_sheet_42 : decode cX12_sheet 42 = .ok (.aload_n 0, 1) := by decide +kernel
theorem dX12_sheet_43 : decode cX12_sheet 43 = .ok (.iconst 4, 1) := by decide +kernel
theorem dX12_sheet_44 : decode cX12_sheet 44 = .ok (.invokevirtual 81, 3) := by decide +kernel
theorem dX12_sheet_47 : decode cX12_sheet 47 = .ok (.ireturn, 1) := by decide +kernel
theorem dX12_sheet_48 : decode cX12_sheet 48 = .ok (.aload_n 0, 1) := by decide +kernel
theorem dX12_sheet_49 : decode cX12_sheet 49 = .ok (.getfield 16, 3) := by decide +kernel
theorem dX12_sheet_52 : decode cX12_sheet 52 = .ok (.iload_n 1, 1) := by decide +kernel
theorem dX12_sheet_53 : decode cX12_sheet 53 = .ok (.iload_n 2, 1) := by decide +kernel
theorem dX12_sheet_54 : decode cX12_sheet 54 = .ok (.iastore, 1) := by decide +kernel
theorem dX12_sheet_55 : decode cX12_sheet 55 = .ok (.aload_n 0, 1) := by decide +kernel
theorem dX12_sheet_56 : decode cX12_sheet 56 = .ok (.getfield 19, 3) := by decide +kernel
theorem dX12_sheet_59 : decode cX12_sheet 59 = .ok (.iload_n 1, 1) := by decide +kernel
theorem dX12_sheet_60 : decode cX12_sheet 60 = .ok (.iload_n 3, 1) := by decide +kernel
theorem dX12_sheet_61 : decode cX12_sheet 61 = .ok (.iastore, 1) := by decide +kernel
theorem dX12_sheet_62 : decode cX12_sheet 62 = .ok (.iconst 0, 1) := by decide +kernel
theorem dX12_sheet_63 : decode cX12_sheet 63 = .ok (.istore 4, 2) := by decide +kernel
theorem dX12_sheet_65 : decode cX12_sheet 65 = .ok (.iload 4, 2) := by decide +kernel
theorem dX12_sheet_67 : decode cX12_sheet 67 = .ok (.bipush 60, 2) := by decide +kernel
theorem dX12_sheet_69 : decode cX12_sheet 69 = .ok (.if_icmp .ge 22, 3) := by decide +kernel
theorem dX12_sheet_72 : decode cX12_sheet 72 = .ok (.aload_n 0, 1) := by decide +kernel
theorem dX12_sheet_73 : decode cX12_sheet 73 = .ok (.getfield 22, 3) := by decide +kernel
theorem dX12_sheet_76 : decode cX12_sheet 76 = .ok (.bipush 60, 2) := by decide +kernel
theorem dX12_sheet_78 : decode cX12_sheet 78 = .ok (.iload_n 1, 1) := by decide +kernel
theorem dX12_sheet_79 : decode cX12_sheet 79 = .ok (.imul, 1) := by decide +kernel
theorem dX12_sheet_80 : decode cX12_sheet 80 = .ok (.iload 4, 2) := by decide +kernel
theorem dX12_sheet_82 : decode cX12_sheet 82 = .ok (.iadd, 1) := by decide +kernel
theorem dX12_sheet_83 : decode cX12_sheet 83 = .ok (.iconst 0, 1) := by decide +kernel
theorem dX12_sheet_84 : decode cX12_sheet 84 = .ok (.iastore, 1) := by decide +kernel
theorem dX12_sheet_85 : decode cX12_sheet 85 = .ok (.iinc 4 1, 3) := by decide +kernel
theorem dX12_sheet_88 : decode cX12_sheet 88 = .ok (.goto (-23), 3) := by decide +kernel
theorem dX12_sheet_91 : decode cX12_sheet 91 = .ok (.iload_n 3, 1) := by decide +kernel
theorem dX12_sheet_92 : decode cX12_sheet 92 = .ok (.ireturn, 1) := by decide +kernel
set_option maxRecDepth 20000 in
theorem ggX12_set_X12_isSheet : GoodIn wsX12_set wsX12_isSheet := goodIn_r _ [10, 11, 12, 13, 9, 14] (by decide +kernel) (by decide +kernel)
set_option maxRecDepth 20000 in
theorem gX12_set_X12_isSheet : GoodIn wsX12_set (va_wsS RX12 74 yX12_isSheet wsX12_isSheet) := goodIn_app (goodIn_of _ (by decide +kernel)) ggX12_set_X12_isSheet
set_option maxRecDepth 20000 in
theorem ggX12_set_X12_found : GoodIn wsX12_set wsX12_found := goodIn_r _ [18, 3, 19, 20, 21, 22, 23, 24, 25, 26, 27, 28, 29, 30, 31, 32, 33, 34, 35, 36, 37, 38, 39, 40, 41] (by decide +kernel) (by decide +kernel)
set_option maxRecDepth 20000 in
theorem gX12_set_X12_found : GoodIn wsX12_set (wsV RX12 81 RX12 yX12_found wsX12_found) := goodIn_app (goodIn_of _ (by decide +kernel)) ggX12_set_X12_found
set_option maxRecDepth 20000 in
theorem ggX12_set_X12_in : GoodIn wsX12_set wsX12_in := goodIn_r _ [14] (by decide +kernel) (by decide +kernel)
set_option maxRecDepth 20000 in
theorem gX12_set_X12_in : GoodIn wsX12_set (va_wsS RX12 70 yX12_in wsX12_in) := goodIn_app (goodIn_of _ (by decide +kernel)) ggX12_set_X12_in
theorem dX12_set_0 : decode cX12_set 0 = .ok (.aload_n 0, 1) := by decide +kernel
theorem dX12_set_1 : decode cX12_set 1 = .ok (.iconst 0, 1) := by decide +kernel
theorem dX12_set_2 : decode cX12_set 2 = .ok (.putfield 60, 3) := by decide +kernel
theorem dX12_set_5 : decode cX12_set 5 = .ok (.iload_n 1, 1) := by decide +kernel
theorem dX12_set_6 : decode cX12_set 6 = .ok (.invokestatic 74, 3) := by decide +kernel
theorem dX12_set_9 : decode cX12_set 9 = .ok (.ifCond .ne 6, 3) := by decide +kernel
theorem dX12_set_12 : decode cX12_set 12 = .ok (.ldc 80, 2) := by decide +kernel
theorem dX12_set_14 : decode cX12_set 14 = .ok (.ireturn, 1) := by decide +kernel
theorem dX12_set_15 : decode cX12_set 15 = .ok (.aload_n 0, 1) := by decide +kernel
theorem dX12_set_16 : decode cX12_set 16 = .ok (.iconst 0, 1) := by decide +kernel
theorem dX12_set_17 : decode cX12_set 17 = .ok (.putfield 64, 3) := by decide +kernel
theorem dX12_set_20 : decode cX12_set 20 = .ok (.aload_n 0, 1) := by decide +kernel
theorem dX12_set_21 : decode cX12_set 21 = .ok (.getfield 16, 3) := by decide +kernel
theorem dX12_set_24 : decode cX12_set 24 = .ok (.iload_n 1, 1) := by decide +kernel
theorem dX12_set_25 : decode cX12_set 25 = .ok (.iaload, 1) := by decide +kernel
theorem dX12_set_26 : decode cX12_set 26 = .ok (.ifCond .ge 9, 3) := by decide +kernel
theorem dX12_set_29 : decode cX12_set 29 = .ok (.aload_n 0, 1) := by decide +kernel
theorem dX12_set_30 : decode cX12_set 30 = .ok (.iconst 1, 1) := by decide +kernel
theorem dX12_set_31 : decode cX12_set 31 = .ok (.invokevirtual 81, 3) := by decide +kernel
theorem dX12_set_34 : decode cX12_set 34 = .ok (.ireturn, 1) := by decide +kernel
theorem dX12_set_35 : decode cX12_set 35 = .ok (.iload_n 2, 1) := by decide +kernel
theorem dX12_set_36 : decode cX12_set 36 = .ok (.i2l, 1) := by decide +kernel
theorem dX12_set_37 : decode cX12_set 37 = .ok (.lconst 0, 1) := by decide +kernel
theorem dX12_set_38 : decode cX12_set 38 = .ok (.aload_n 0, 1) := by decide +kernel
theorem dX12_set_39 : decode cX12_set 39 = .ok (.getfield 19, 3) := by decide +kernel
theorem dX12_set_42 : decode cX12_set 42 = .ok (.iload_n 1, 1) := by decide +kernel
theorem dX12_set_43 : decode cX12_set 43 = .ok (.iaload, 1) := by decide +kernel
theorem dX12_set_44 : decode cX12_set 44 = .ok (.iconst 1, 1) := by decide +kernel
theorem dX12_set_45 : decode cX12_set 45 = .ok (.isub, 1) := by decide +kernel
theorem dX12_set_46 : decode cX12_set 46 = .ok (.i2l, 1) := by decide +kernel
theorem dX12_set_47 : decode cX12_set 47 = .ok (.invokestatic 70, 3) := by decide +kernel
theorem dX12_set_50 : decode cX12_set 50 = .ok (.ifCond .ne 9, 3) := by decide +kernel
theorem dX12_set_53 : decode cX12_set 53 = .ok (.aload_n 0, 1) := by decide +kernel
theorem dX12_set_54 : decode cX12_set 54 = .ok (.iconst 2, 1) := by decide +kernel
theorem dX12_set_55 : decode cX12_set 55 = .ok (.invokevirtual 81, 3) := by decide +kernel
theorem dX12_set_58 : decode cX12_set 58 = .ok (.ireturn, 1) := by decide +kernel
theorem dX12_set_59 : decode cX12_set 59 = .ok (.aload_n 0, 1) := by decide +kernel
theorem dX12_set_60 : decode cX12_set 60 = .ok (.getfield 22, 3) := by decide +kernel
theorem dX12_set_63 : decode cX12_set 63 = .ok (.bipush 60, 2) := by decide +kernel
theorem dX12_set_65 : decode cX12_set 65 = .ok (.iload_n 1, 1) := by decide +kernel
theorem dX12_set_66 : decode cX12_set 66 = .ok (.imul, 1) := by decide +kernel
theorem dX12_set_67 : decode cX12_set 67 = .ok (.iload_n 2, 1) := by decide +kernel
theorem dX12_set_68 : decode cX12_set 68 = .ok (.iadd, 1) := by decide +kernel
theorem dX12_set_69 : decode cX12_set 69 = .ok (.aload_n 0, 1) := by decide +kernel
theorem dX12_set_70 : decode cX12_set 70 = .ok (.getfield 16, 3) := by decide +kernel
theorem dX12_set_73 : decode cX12_set 73 = .ok (.iload_n 1, 1) := by decide +kernel
theorem dX12_set_74 : decode cX12_set 74 = .ok (.iaload, 1) := by decide +kernel
theorem dX12_set_75 : decode cX12_set 75 = .ok (.ifCond .ne 8, 3) := by decide +kernel
theorem dX12_set_78 : decode cX12_set 78 = .ok (.iload_n 3, 1) := by decide +kernel
theorem dX12_set_79 : decode cX12_set 79 = .ok (.i2b, 1) := by decide +kernel
theorem dX12_set_80 : decode cX12_set 80 = .ok (.goto 19, 3) := by decide +kernel
theorem dX12_set_83 : decode cX12_set 83 = .ok (.aload_n 0, 1) := by decide +kernel
theorem dX12_set_84 : decode cX12_set 84 = .ok (.getfield 16, 3) := by decide +kernel
theorem dX12_set_87 : decode cX12_set 87 = .ok (.iload_n 1, 1) := by decide +kernel
