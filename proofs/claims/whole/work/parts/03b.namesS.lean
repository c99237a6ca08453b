theorem dJ7_fill_53178_0 : decode cJ7_fill_53178 0 = .ok (.iconst 0, 1) := by decide +kernel
theorem dJ7_fill_53178_1 : decode cJ7_fill_53178 1 = .ok (.istore_n 2, 1) := by decide +kernel
theorem dJ7_fill_53178_2 : decode cJ7_fill_53178 2 = .ok (.aload_n 0, 1) := by decide +kernel
theorem dJ7_fill_53178_3 : decode cJ7_fill_53178 3 = .ok (.arraylength, 1) := by decide +kernel
theorem dJ7_fill_53178_4 : decode cJ7_fill_53178 4 = .ok (.istore_n 3, 1) := by decide +kernel
theorem dJ7_fill_53178_5 : decode cJ7_fill_53178 5 = .ok (.iload_n 2, 1) := by decide +kernel
theorem dJ7_fill_53178_6 : decode cJ7_fill_53178 6 = .ok (.iload_n 3, 1) := by decide +kernel
theorem dJ7_fill_53178_7 : decode cJ7_fill_53178 7 = .ok (.if_icmp .ge 13, 3) := by decide +kernel
theorem dJ7_fill_53178_10 : decode cJ7_fill_53178 10 = .ok (.aload_n 0, 1) := by decide +kernel
theorem dJ7_fill_53178_11 : decode cJ7_fill_53178 11 = .ok (.iload_n 2, 1) := by decide +kernel
theorem dJ7_fill_53178_12 : decode cJ7_fill_53178 12 = .ok (.iload_n 1, 1) := by decide +kernel
theorem dJ7_fill_53178_13 : decode cJ7_fill_53178 13 = .ok (.iastore, 1) := by decide +kernel
theorem dJ7_fill_53178_14 : decode cJ7_fill_53178 14 = .ok (.iinc 2 1, 3) := by decide +kernel
theorem dJ7_fill_53178_17 : decode cJ7_fill_53178 17 = .ok (.goto (-12), 3) := by decide +kernel
theorem dJ7_fill_53178_20 : decode cJ7_fill_53178 20 = .ok (.return_, 1) := by decide +kernel
theorem dJ9_max_7cf53_0 : decode cJ9_max_7cf53 0 = .ok (.iload_n 0, 1) := by decide +kernel
theorem dJ9_max_7cf53_1 : decode cJ9_max_7cf53 1 = .ok (.iload_n 1, 1) := by decide +kernel
theorem dJ9_max_7cf53_2 : decode cJ9_max_7cf53 2 = .ok (.if_icmp .lt 7, 3) := by decide +kernel
theorem dJ9_max_7cf53_5 : decode cJ9_max_7cf53 5 = .ok (.iload_n 0, 1) := by decide +kernel
theorem dJ9_max_7cf53_6 : decode cJ9_max_7cf53 6 = .ok (.goto 4, 3) := by decide +kernel
theorem dJ9_max_7cf53_9 : decode cJ9_max_7cf53 9 = .ok (.iload_n 1, 1) := by decide +kernel
theorem dJ9_max_7cf53_10 : decode cJ9_max_7cf53 10 = .ok (.ireturn, 1) := by decide +kernel
theorem dJ9_min_7cf53_0 : decode cJ9_min_7cf53 0 = .ok (.iload_n 0, 1) := by decide +kernel
theorem dJ9_min_7cf53_1 : decode cJ9_min_7cf53 1 = .ok (.iload_n 1, 1) := by decide +kernel
theorem dJ9_min_7cf53_2 : decode cJ9_min_7cf53 2 = .ok (.if_icmp .gt 7, 3) := by decide +kernel
theorem dJ9_min_7cf53_5 : decode cJ9_min_7cf53 5 = .ok (.iload_n 0, 1) := by decide +kernel
theorem dJ9_min_7cf53_6 : decode cJ9_min_7cf53 6 = .ok (.goto 4, 3) := by decide +kernel
theorem dJ9_min_7cf53_9 : decode cJ9_min_7cf53 9 = .ok (.iload_n 1, 1) := by decide +kernel
theorem dJ9_min_7cf53_10 : decode cJ9_min_7cf53 10 = .ok (.ireturn, 1) := by decide +kernel
theorem dX9_init_0 : decode cX9_init 0 = .ok (.aload_n 0, 1) := by decide +kernel
theorem dX9_init_1 : decode cX9_init 1 = .ok (.invokespecial 3, 3) := by decide +kernel
theorem dX9_init_4 : decode cX9_init 4 = .ok (.aload_n 0, 1) := by decide +kernel
theorem dX9_init_5 : decode cX9_init 5 = .ok (.bipush 16, 2) := by decide +kernel
theorem dX9_init_7 : decode cX9_init 7 = .ok (.newarray .int, 2) := by decide +kernel
theorem dX9_init_9 : decode cX9_init 9 = .ok (.putfield 9, 3) := by decide +kernel
theorem dX9_init_12 : decode cX9_init 12 = .ok (.aload_n 0, 1) := by decide +kernel
theorem dX9_init_13 : decode cX9_init 13 = .ok (.iconst 0, 1) := by decide +kernel
theorem dX9_init_14 : decode cX9_init 14 = .ok (.putfield 15, 3) := by decide +kernel
theorem dX9_init_17 : decode cX9_init 17 = .ok (.return_, 1) := by decide +kernel
theorem dX9_leave_0 : decode cX9_leave 0 = .ok (.aload_n 0, 1) := by decide +kernel
theorem dX9_leave_1 : decode cX9_leave 1 = .ok (.getfield 15, 3) := by decide +kernel
theorem dX9_leave_4 : decode cX9_leave 4 = .ok (.bipush 16, 2) := by decide +kernel
theorem dX9_leave_6 : decode cX9_leave 6 = .ok (.if_icmp .ge 23, 3) := by decide +kernel
theorem dX9_leave_9 : decode cX9_leave 9 = .ok (.aload_n 0, 1) := by decide +kernel
theorem dX9_leave_10 : decode cX9_leave 10 = .ok (.getfield 9, 3) := by decide +kernel
theorem dX9_leave_13 : decode cX9_leave 13 = .ok (.aload_n 0, 1) := by decide +kernel
theorem dX9_leave_14 : decode cX9_leave 14 = .ok (.getfield 15, 3) := by decide +kernel
theorem dX9_leave_17 : decode cX9_leave 17 = .ok (.iload_n 1, 1) := by decide +kernel
theorem dX9_leave_18 : decode cX9_leave 18 = .ok (.iastore, 1) := by decide +kernel
theorem dX9_leave_19 : decode cX9_leave 19 = .ok (.aload_n 0, 1) := by decide +kernel
theorem dX9_leave_20 : decode cX9_leave 20 = .ok (.dup, 1) := by decide +kernel
theorem dX9_leave_21 : decode cX9_leave 21 = .ok (.getfield 15, 3) := by decide +kernel
theorem dX9_leave_24 : decode cX9_leave 24 = .ok (.iconst 1, 1) := by decide +kernel
theorem dX9_leave_25 : decode cX9_leave 25 = .ok (.iadd, 1) := by decide +kernel
theorem dX9_leave_26 : decode cX9_leave 26 = .ok (.putfield 15, 3) := by decide +kernel
theorem dX9_leave_29 : decode cX9_leave 29 = .ok (.return_, 1) := by decide +kernel
theorem dX2_init_0 : decode cX2_init 0 = .ok (.aload_n 0, 1) := by decide +kernel
theorem dX2_init_1 : decode cX2_init 1 = .ok (.invokespecial 3, 3) := by decide +kernel
theorem dX2_init_4 : decode cX2_init 4 = .ok (.aload_n 0, 1) := by decide +kernel
theorem dX2_init_5 : decode cX2_init 5 = .ok (.iconst 0, 1) := by decide +kernel
theorem dX2_init_6 : decode cX2_init 6 = .ok (.putfield 9, 3) := by decide +kernel
theorem dX2_init_9 : decode cX2_init 9 = .ok (.aload_n 0, 1) := by decide +kernel
theorem dX2_init_10 : decode cX2_init 10 = .ok (.iload_n 1, 1) := by decide +kernel
theorem dX2_init_11 : decode cX2_init 11 = .ok (.putfield 15, 3) := by decide +kernel
theorem dX2_init_14 : decode cX2_init 14 = .ok (.aload_n 0, 1) := by decide +kernel
theorem dX2_init_15 : decode cX2_init 15 = .ok (.iload_n 2, 1) := by decide +kernel
theorem dX2_init_16 : decode cX2_init 16 = .ok (.putfield 19, 3) := by decide +kernel
theorem dX2_init_19 : decode cX2_init 19 = .ok (.return_, 1) := by decide +kernel
theorem dX2_toldAs_0 : decode cX2_toldAs 0 = .ok (.iconst 0, 1) := by decide +kernel
theorem dX2_toldAs_1 : decode cX2_toldAs 1 = .ok (.ireturn, 1) := by decide +kernel
set_option maxRecDepth 20000 in
theorem ggX2_cost_X9_leave : GoodIn wsX2_cost wsX9_leave := goodIn_r _ [6, 7, 8, 21, 22] (by decide +kernel) (by decide +kernel)
set_option maxRecDepth 20000 in
theorem gX2_cost_X9_leave : GoodIn wsX2_cost (wsV RX2 22 RX9 yX9_leave wsX9_leave) := goodIn_app (goodIn_of _ (by decide +kernel)) ggX2_cost_X9_leave
theorem dX2_cost_0 : decode cX2_cost 0 = .ok (.aload_n 1, 1) := by decide +kernel
theorem dX2_cost_1 : decode cX2_cost 1 = .ok (.bipush 10, 2) := by decide +kernel
theorem dX2_cost_3 : decode cX2_cost 3 = .ok (.invokevirtual 22, 3) := by decide +kernel
theorem dX2_cost_6 : decode cX2_cost 6 = .ok (.aload_n 0, 1) := by decide +kernel
theorem dX2_cost_7 : decode cX2_cost 7 = .ok (.getfield 15, 3) := by decide +kernel
theorem dX2_cost_10 : decode cX2_cost 10 = .ok (.ireturn, 1) := by decide +kernel
set_option maxRecDepth 20000 in
theorem ggX2_mark_X9_leave : GoodIn wsX2_mark wsX9_leave := goodIn_r _ [6, 7, 8, 21, 22] (by decide +kernel) (by decide +kernel)
set_option maxRecDepth 20000 in
theorem gX2_mark_X9_leave : GoodIn wsX2_mark (wsV RX2 22 RX9 yX9_leave wsX9_leave) := goodIn_app (goodIn_of _ (by decide +kernel)) ggX2_mark_X9_leave
theorem dX2_mark_0 : decode cX2_mark 0 = .ok (.aload_n 1, 1) := by decide +kernel
theorem dX2_mark_1 : decode cX2_mark 1 = .ok (.bipush 20, 2) := by decide +kernel
theorem dX2_mark_3 : decode cX2_mark 3 = .ok (.invokevirtual 22, 3) := by decide +kernel
theorem dX2_mark_6 : decode cX2_mark 6 = .ok (.aload_n 0, 1) := by decide +kernel
theorem dX2_mark_7 : decode cX2_mark 7 = .ok (.getfield 9, 3) := by decide +kernel
theorem dX2_mark_10 : decode cX2_mark 10 = .ok (.ifCond .eq 7, 3) := by decide +kernel
theorem dX2_mark_13 : decode cX2_mark 13 = .ok (.iconst 1, 1) := by decide +kernel
theorem dX2_mark_14 : decode cX2_mark 14 = .ok (.goto 4, 3) := by decide +kernel
theorem dX2_mark_17 : decode cX2_mark 17 = .ok (.iconst 0, 1) := by decide +kernel
theorem dX2_mark_18 : decode cX2_mark 18 = .ok (.ireturn, 1) := by decide +kernel
set_option maxRecDepth 20000 in
theorem ggX3_init_X2_init : GoodIn wsX3_init wsX2_init := goodIn_r _ [4, 5, 6, 7, 8, 9, 10, 11, 12, 13, 14, 15, 16, 17, 18, 19, 20, 21, 22] (by decide +kernel) (by decide +kernel)
set_option maxRecDepth 20000 in
theorem gX3_init_X2_init : GoodIn wsX3_init (wsX2_init) := ggX3_init_X2_init
theorem dX3_init_0 : decode cX3_init 0 = .ok (.aload_n 0, 1) := by decide +kernel
theorem dX3_init_1 : decode cX3_init 1 = .ok (.iload_n 1, 1) := by decide +kernel
theorem dX3_init_2 : decode cX3_init 2 = .ok (.iload_n 2, 1) := by decide +kernel
theorem dX3_init_3 : decode cX3_init 3 = .ok (.invokespecial 3, 3) := by decide +kernel
theorem dX3_init_6 : decode cX3_init 6 = .ok (.return_, 1) := by decide +kernel
theorem dX3_toldAs_0 : decode cX3_toldAs 0 = .ok (.iconst 1, 1) := by decide +kernel
theorem dX3_toldAs_1 : decode cX3_toldAs 1 = .ok (.ireturn, 1) := by decide +kernel
set_option maxRecDepth 20000 in
theorem ggX3_cost_X9_leave : GoodIn wsX3_cost wsX9_leave := goodIn_r _ [7, 8, 9, 30, 31] (by decide +kernel) (by decide +kernel)
set_option maxRecDepth 20000 in
theorem gX3_cost_X9_leave : GoodIn wsX3_cost (wsV RX3 9 RX9 yX9_leave wsX9_leave) := goodIn_app (goodIn_of _ (by decide +kernel)) ggX3_cost_X9_leave
set_option maxRecDepth 20000 in
theorem ggX3_cost_X2_cost : GoodIn wsX3_cost wsX2_cost := goodIn_r _ [15, 16, 17, 4, 5, 6, 7, 8, 9, 18, 19, 20, 21, 22, 23, 24, 25, 26, 27, 28, 29, 30, 31] (by decide +kernel) (by decide +kernel)
set_option maxRecDepth 20000 in
theorem gX3_cost_X2_cost_s15 : GoodIn wsX3_cost (va_wsSU RX3 15 yX2_cost wsX2_cost) := goodIn_app (goodIn_of _ (by decide +kernel)) ggX3_cost_X2_cost
theorem dX3_cost_0 : decode cX3_cost 0 = .ok (.aload_n 1, 1) := by decide +kernel
theorem dX3_cost_1 : decode cX3_cost 1 = .ok (.bipush 11, 2) := by decide +kernel
theorem dX3_cost_3 : decode cX3_cost 3 = .ok (.invokevirtual 9, 3) := by decide +kernel
theorem dX3_cost_6 : decode cX3_cost 6 = .ok (.aload_n 0, 1) := by decide +kernel
theorem dX3_cost_7 : decode cX3_cost 7 = .ok (.aload_n 1, 1) := by decide +kernel
theorem dX3_cost_8 : decode cX3_cost 8 = .ok (.invokespecial 15, 3) := by decide +kernel
theorem dX3_cost_11 : decode cX3_cost 11 = .ok (.aload_n 0, 1) := by decide +kernel
theorem dX3_cost_12 : decode cX3_cost 12 = .ok (.getfield 19, 3) := by decide +kernel
theorem dX3_cost_15 : decode cX3_cost 15 = .ok (.iadd, 1) := by decide +kernel
theorem dX3_cost_16 : decode cX3_cost 16 = .ok (.ireturn, 1) := by decide +kernel
set_option maxRecDepth 20000 in
theorem ggX3_mark_X9_leave : GoodIn wsX3_mark wsX9_leave := goodIn_r _ [5, 6, 7, 38, 39] (by decide +kernel) (by decide +kernel)
set_option maxRecDepth 20000 in
theorem gX3_mark_X9_leave : GoodIn wsX3_mark (wsV RX3 9 RX9 yX9_leave wsX9_leave) := goodIn_app (goodIn_of _ (by decide +kernel)) ggX3_mark_X9_leave
set_option maxRecDepth 20000 in
theorem ggX3_mark_X2_mark : GoodIn wsX3_mark wsX2_mark := goodIn_r _ [13, 14, 15, 2, 3, 4, 5, 6, 7, 40, 41, 42, 43, 44, 45, 46, 47, 48, 49, 50, 51, 38, 39] (by decide +kernel) (by decide +kernel)
set_option maxRecDepth 20000 in
theorem gX3_mark_X2_mark_s25 : GoodIn wsX3_mark (va_wsSU RX3 25 yX2_mark wsX2_mark) := goodIn_app (goodIn_of _ (by decide +kernel)) ggX3_mark_X2_mark
set_option maxRecDepth 20000 in
theorem ggX3_mark_X3_cost : GoodIn wsX3_mark wsX3_cost := goodIn_r _ [20, 21, 22, 1, 2, 3, 4, 5, 6, 7, 23, 24, 10, 25, 12, 26, 27, 15, 40, 41, 42, 43, 44, 45, 46, 47, 48, 49, 50, 51, 38, 39] (by decide +kernel) (by decide +kernel)
set_option maxRecDepth 20000 in
theorem gX3_mark_X3_cost : GoodIn wsX3_mark (wsV RX3 28 RX3 yX3_cost wsX3_cost) := goodIn_app (goodIn_of _ (by decide +kernel)) ggX3_mark_X3_cost
set_option maxRecDepth 20000 in
theorem ggX3_mark_X10_cost : GoodIn wsX3_mark wsX10_cost := goodIn_r _ [34, 35, 2, 3, 4, 5, 6, 7, 36, 29, 37, 17, 19, 20, 21, 22, 1, 23, 24, 10, 25, 12, 26, 27, 15, 38, 39, 40, 41, 42, 43, 44, 45, 46, 47, 48, 49, 50, 51] (by decide +kernel) (by decide +kernel)
set_option maxRecDepth 20000 in
theorem gX3_mark_X10_cost_u28X10 : GoodIn wsX3_mark (va_wsO RX3 28 RX10 "SeaGates$Handed" ⟨"SeaGates$Handed", "cost", "(LSeaGates$Trace;)I"⟩ yX10_cost wsX10_cost) := goodIn_app (goodIn_of _ (by decide +kernel)) ggX3_mark_X10_cost
theorem dX3_mark_0 : decode cX3_mark 0 = .ok (.aload_n 1, 1) := by decide +kernel
theorem dX3_mark_1 : decode cX3_mark 1 = .ok (.bipush 21, 2) := by decide +kernel
theorem dX3_mark_3 : decode cX3_mark 3 = .ok (.invokevirtual 9, 3) := by decide +kernel
theorem dX3_mark_6 : decode cX3_mark 6 = .ok (.aload_n 0, 1) := by decide +kernel
theorem dX3_mark_7 : decode cX3_mark 7 = .ok (.aload_n 1, 1) := by decide +kernel
theorem dX3_mark_8 : decode cX3_mark 8 = .ok (.invokespecial 25, 3) := by decide +kernel
theorem dX3_mark_11 : decode cX3_mark 11 = .ok (.aload_n 0, 1) := by decide +kernel
theorem dX3_mark_12 : decode cX3_mark 12 = .ok (.aload_n 1, 1) := by decide +kernel
theorem dX3_mark_13 : decode cX3_mark 13 = .ok (.invokevirtual 28, 3) := by decide +kernel
theorem dX3_mark_16 : decode cX3_mark 16 = .ok (.iadd, 1) := by decide +kernel
theorem dX3_mark_17 : decode cX3_mark 17 = .ok (.ireturn, 1) := by decide +kernel
set_option maxRecDepth 20000 in
theorem ggX10_init_X3_init : GoodIn wsX10_init wsX3_init := goodIn_r _ [4, 5, 6, 7, 8, 9, 10, 11, 12, 13, 14, 15, 16, 17, 18, 19, 20, 21, 22, 23, 24, 25, 26] (by decide +kernel) (by decide +kernel)
set_option maxRecDepth 20000 in
theorem gX10_init_X3_init : GoodIn wsX10_init (wsX3_init) := ggX10_init_X3_init
theorem dX10_init_0 : decode cX10_init 0 = .ok (.aload_n 0, 1) := by decide +kernel
theorem dX10_init_1 : decode cX10_init 1 = .ok (.iload_n 1, 1) := by decide +kernel
theorem dX10_init_2 : decode cX10_init 2 = .ok (.iload_n 2, 1) := by decide +kernel
theorem dX10_init_3 : decode cX10_init 3 = .ok (.invokespecial 3, 3) := by decide +kernel
theorem dX10_init_6 : decode cX10_init 6 = .ok (.return_, 1) := by decide +kernel
theorem dX10_toldAs_0 : decode cX10_toldAs 0 = .ok (.iconst 2, 1) := by decide +kernel
theorem dX10_toldAs_1 : decode cX10_toldAs 1 = .ok (.ireturn, 1) := by decide +kernel
set_option maxRecDepth 20000 in
theorem ggX10_cost_X9_leave : GoodIn wsX10_cost wsX9_leave := goodIn_r _ [5, 6, 7, 25, 26] (by decide +kernel) (by decide +kernel)
set_option maxRecDepth 20000 in
theorem gX10_cost_X9_leave : GoodIn wsX10_cost (wsV RX10 9 RX9 yX9_leave wsX9_leave) := goodIn_app (goodIn_of _ (by decide +kernel)) ggX10_cost_X9_leave
set_option maxRecDepth 20000 in
theorem ggX10_cost_X3_cost : GoodIn wsX10_cost wsX3_cost := goodIn_r _ [13, 14, 15, 16, 2, 3, 4, 5, 6, 7, 17, 18, 19, 20, 21, 22, 23, 24, 27, 28, 29, 30, 31, 32, 33, 34, 35, 36, 37, 38, 25, 26] (by decide +kernel) (by decide +kernel)
set_option maxRecDepth 20000 in
theorem gX10_cost_X3_cost_s15 : GoodIn wsX10_cost (va_wsSU RX10 15 yX3_cost wsX3_cost) := goodIn_app (goodIn_of _ (by decide +kernel)) ggX10_cost_X3_cost
theorem dX10_cost_0 : decode cX10_cost 0 = .ok (.aload_n 1, 1) := by decide +kernel
theorem dX10_cost_1 : decode cX10_cost 1 = .ok (.bipush 12, 2) := by decide +kernel
theorem dX10_cost_3 : decode cX10_cost 3 = .ok (.invokevirtual 9, 3) := by decide +kernel
theorem dX10_cost_6 : decode cX10_cost 6 = .ok (.aload_n 0, 1) := by decide +kernel
theorem dX10_cost_7 : decode cX10_cost 7 = .ok (.aload_n 1, 1) := by decide +kernel
theorem dX10_cost_8 : decode cX10_cost 8 = .ok (.invokespecial 15, 3) := by decide +kernel
theorem dX10_cost_11 : decode cX10_cost 11 = .ok (.iconst 2, 1) := by decide +kernel
theorem dX10_cost_12 : decode cX10_cost 12 = .ok (.idiv, 1) := by decide +kernel
theorem dX10_cost_13 : decode cX10_cost 13 = .ok (.ireturn, 1) := by decide +kernel
set_option maxRecDepth 20000 in
theorem ggX8_init_X2_init : GoodIn wsX8_init wsX2_init := goodIn_r _ [4, 5, 6, 7, 8, 9, 10, 11, 12, 13, 14, 15, 16, 17, 18, 19, 20, 21, 22] (by decide +kernel) (by decide +kernel)
set_option maxRecDepth 20000 in
theorem gX8_init_X2_init : GoodIn wsX8_init (wsX2_init) := ggX8_init_X2_init
theorem dX8_init_0 : decode cX8_init 0 = .ok (.aload_n 0, 1) := by decide +kernel
theorem dX8_init_1 : decode cX8_init 1 = .ok (.iload_n 1, 1) := by decide +kernel
theorem dX8_init_2 : decode cX8_init 2 = .ok (.iconst 0, 1) := by decide +kernel
theorem dX8_init_3 : decode cX8_init 3 = .ok (.invokespecial 3, 3) := by decide +kernel
theorem dX8_init_6 : decode cX8_init 6 = .ok (.return_, 1) := by decide +kernel
theorem dX8_toldAs_0 : decode cX8_toldAs 0 = .ok (.iconst 3, 1) := by decide +kernel
theorem dX8_toldAs_1 : decode cX8_toldAs 1 = .ok (.ireturn, 1) := by decide +kernel
set_option maxRecDepth 20000 in
theorem ggX8_cost_X9_leave : GoodIn wsX8_cost wsX9_leave := goodIn_r _ [5, 6, 7, 16, 17] (by decide +kernel) (by decide +kernel)
set_option maxRecDepth 20000 in
theorem gX8_cost_X9_leave : GoodIn wsX8_cost (wsV RX8 9 RX9 yX9_leave wsX9_leave) := goodIn_app (goodIn_of _ (by decide +kernel)) ggX8_cost_X9_leave
set_option maxRecDepth 20000 in
theorem ggX8_cost_X2_cost : GoodIn wsX8_cost wsX2_cost := goodIn_r _ [13, 14, 15, 2, 3, 4, 5, 6, 7, 18, 19, 20, 21, 22, 23, 24, 25, 26, 27, 28, 29, 16, 17] (by decide +kernel) (by decide +kernel)
set_option maxRecDepth 20000 in
theorem gX8_cost_X2_cost_s15 : GoodIn wsX8_cost (va_wsSU RX8 15 yX2_cost wsX2_cost) := goodIn_app (goodIn_of _ (by decide +kernel)) ggX8_cost_X2_cost
theorem dX8_cost_0 : decode cX8_cost 0 = .ok (.aload_n 1, 1) := by decide +kernel
theorem dX8_cost_1 : decode cX8_cost 1 = .ok (.bipush 13, 2) := by decide +kernel
theorem dX8_cost_3 : decode cX8_cost 3 = .ok (.invokevirtual 9, 3) := by decide +kernel
theorem dX8_cost_6 : decode cX8_cost 6 = .ok (.aload_n 0, 1) := by decide +kernel
theorem dX8_cost_7 : decode cX8_cost 7 = .ok (.aload_n 1, 1) := by decide +kernel
theorem dX8_cost_8 : decode cX8_cost 8 = .ok (.invokespecial 15, 3) := by decide +kernel
theorem dX8_cost_11 : decode cX8_cost 11 = .ok (.sipush 1000, 3) := by decide +kernel
theorem dX8_cost_14 : decode cX8_cost 14 = .ok (.iadd, 1) := by decide +kernel
theorem dX8_cost_15 : decode cX8_cost 15 = .ok (.ireturn, 1) := by decide +kernel
set_option maxRecDepth 20000 in
theorem ggX8_mark_X9_leave : GoodIn wsX8_mark wsX9_leave := goodIn_r _ [5, 6, 7, 26, 27] (by decide +kernel) (by decide +kernel)
set_option maxRecDepth 20000 in
theorem gX8_mark_X9_leave : GoodIn wsX8_mark (wsV RX8 9 RX9 yX9_leave wsX9_leave) := goodIn_app (goodIn_of _ (by decide +kernel)) ggX8_mark_X9_leave
set_option maxRecDepth 20000 in
theorem ggX8_mark_X2_mark : GoodIn wsX8_mark wsX2_mark := goodIn_r _ [13, 14, 15, 2, 3, 4, 5, 6, 7, 28, 29, 30, 31, 32, 33, 34, 35, 36, 37, 38, 39, 26, 27] (by decide +kernel) (by decide +kernel)
set_option maxRecDepth 20000 in
theorem gX8_mark_X2_mark_s19 : GoodIn wsX8_mark (va_wsSU RX8 19 yX2_mark wsX2_mark) := goodIn_app (goodIn_of _ (by decide +kernel)) ggX8_mark_X2_mark
set_option maxRecDepth 20000 in
theorem ggX8_mark_X8_cost : GoodIn wsX8_mark wsX8_cost := goodIn_r _ [20, 1, 2, 3, 4, 5, 6, 7, 21, 22, 10, 23, 12, 24, 25, 15, 26, 27, 28, 29, 30, 31, 32, 33, 34, 35, 36, 37, 38, 39] (by decide +kernel) (by decide +kernel)
set_option maxRecDepth 20000 in
theorem gX8_mark_X8_cost : GoodIn wsX8_mark (wsV RX8 22 RX8 yX8_cost wsX8_cost) := goodIn_app (goodIn_of _ (by decide +kernel)) ggX8_mark_X8_cost
theorem dX8_mark_0 : decode cX8_mark 0 = .ok (.aload_n 1, 1) := by decide +kernel
theorem dX8_mark_1 : decode cX8_mark 1 = .ok (.bipush 22, 2) := by decide +kernel
theorem dX8_mark_3 : decode cX8_mark 3 = .ok (.invokevirtual 9, 3) := by decide +kernel
theorem dX8_mark_6 : decode cX8_mark 6 = .ok (.aload_n 0, 1) := by decide +kernel
theorem dX8_mark_7 : decode cX8_mark 7 = .ok (.aload_n 1, 1) := by decide +kernel
theorem dX8_mark_8 : decode cX8_mark 8 = .ok (.invokespecial 19, 3) := by decide +kernel
theorem dX8_mark_11 : decode cX8_mark 11 = .ok (.aload_n 0, 1) := by decide +kernel
theorem dX8_mark_12 : decode cX8_mark 12 = .ok (.aload_n 1, 1) := by decide +kernel
theorem dX8_mark_13 : decode cX8_mark 13 = .ok (.invokevirtual 22, 3) := by decide +kernel
theorem dX8_mark_16 : decode cX8_mark 16 = .ok (.isub, 1) := by decide +kernel
theorem dX8_mark_17 : decode cX8_mark 17 = .ok (.ireturn, 1) := by decide +kernel
theorem dX0_init_0 : decode cX0_init 0 = .ok (.aload_n 0, 1) := by decide +kernel
theorem dX0_init_1 : decode cX0_init 1 = .ok (.invokespecial 3, 3) := by decide +kernel
theorem dX0_init_4 : decode cX0_init 4 = .ok (.aload_n 0, 1) := by decide +kernel
theorem dX0_init_5 : decode cX0_init 5 = .ok (.bipush 8, 2) := by decide +kernel
theorem dX0_init_7 : decode cX0_init 7 = .ok (.newarray .int, 2) := by decide +kernel
theorem dX0_init_9 : decode cX0_init 9 = .ok (.dup, 1) := by decide +kernel
theorem dX0_init_10 : decode cX0_init 10 = .ok (.iconst 0, 1) := by decide +kernel
theorem dX0_init_11 : decode cX0_init 11 = .ok (.iconst 1, 1) := by decide +kernel
theorem dX0_init_12 : decode cX0_init 12 = .ok (.iastore, 1) := by decide +kernel
theorem dX0_init_13 : decode cX0_init 13 = .ok (.dup, 1) := by decide +kernel
theorem dX0_init_14 : decode cX0_init 14 = .ok (.iconst 1, 1) := by decide +kernel
theorem dX0_init_15 : decode cX0_init 15 = .ok (.iconst 1, 1) := by decide +kernel
theorem dX0_init_16 : decode cX0_init 16 = .ok (.iastore, 1) := by decide +kernel
theorem dX0_init_17 : decode cX0_init 17 = .ok (.dup, 1) := by decide +kernel
theorem dX0_init_18 : decode cX0_init 18 = .ok (.iconst 2, 1) := by decide +kernel
theorem dX0_init_19 : decode cX0_init 19 = .ok (.sipush 300, 3) := by decide +kernel
theorem dX0_init_22 : decode cX0_init 22 = .ok (.iastore, 1) := by decide +kernel
theorem dX0_init_23 : decode cX0_init 23 = .ok (.dup, 1) := by decide +kernel
theorem dX0_init_24 : decode cX0_init 24 = .ok (.iconst 3, 1) := by decide +kernel
theorem dX0_init_25 : decode cX0_init 25 = .ok (.sipush 200, 3) := by decide +kernel
theorem dX0_init_28 : decode cX0_init 28 = .ok (.iastore, 1) := by decide +kernel
theorem dX0_init_29 : decode cX0_init 29 = .ok (.dup, 1) := by decide +kernel
theorem dX0_init_30 : decode cX0_init 30 = .ok (.iconst 4, 1) := by decide +kernel
theorem dX0_init_31 : decode cX0_init 31 = .ok (.bipush 50, 2) := by decide +kernel
theorem dX0_init_33 : decode cX0_init 33 = .ok (.iastore, 1) := by decide +kernel
theorem dX0_init_34 : decode cX0_init 34 = .ok (.dup, 1) := by decide +kernel
theorem dX0_init_35 : decode cX0_init 35 = .ok (.iconst 5, 1) := by decide +kernel
theorem dX0_init_36 : decode cX0_init 36 = .ok (.iconst 5, 1) := by decide +kernel
theorem dX0_init_37 : decode cX0_init 37 = .ok (.iastore, 1) := by decide +kernel
theorem dX0_init_38 : decode cX0_init 38 = .ok (.dup, 1) := by decide +kernel
theorem dX0_init_39 : decode cX0_init 39 = .ok (.bipush 6, 2) := by decide +kernel
theorem dX0_init_41 : decode cX0_init 41 = .ok (.bipush 10, 2) := by decide +kernel
theorem dX0_init_43 : decode cX0_init 43 = .ok (.iastore, 1) := by decide +kernel
theorem dX0_init_44 : decode cX0_init 44 = .ok (.dup, 1) := by decide +kernel
theorem dX0_init_45 : decode cX0_init 45 = .ok (.bipush 7, 2) := by decide +kernel
theorem dX0_init_47 : decode cX0_init 47 = .ok (.iconst 3, 1) := by decide +kernel
theorem dX0_init_48 : decode cX0_init 48 = .ok (.iastore, 1) := by decide +kernel
theorem dX0_init_49 : decode cX0_init 49 = .ok (.putfield 9, 3) := by decide +kernel
theorem dX0_init_52 : decode cX0_init 52 = .ok (.aload_n 0, 1) := by decide +kernel
theorem dX0_init_53 : decode cX0_init 53 = .ok (.bipush 8, 2) := by decide +kernel
theorem dX0_init_55 : decode cX0_init 55 = .ok (.newarray .int, 2) := by decide +kernel
theorem dX0_init_57 : decode cX0_init 57 = .ok (.dup, 1) := by decide +kernel
theorem dX0_init_58 : decode cX0_init 58 = .ok (.iconst 0, 1) := by decide +kernel
theorem dX0_init_59 : decode cX0_init 59 = .ok (.bipush 10, 2) := by decide +kernel
theorem dX0_init_61 : decode cX0_init 61 = .ok (.iastore, 1) := by decide +kernel
theorem dX0_init_62 : decode cX0_init 62 = .ok (.dup, 1) := by decide +kernel
theorem dX0_init_63 : decode cX0_init 63 = .ok (.iconst 1, 1) := by decide +kernel
theorem dX0_init_64 : decode cX0_init 64 = .ok (.bipush 10, 2) := by decide +kernel
theorem dX0_init_66 : decode cX0_init 66 = .ok (.iastore, 1) := by decide +kernel
theorem dX0_init_67 : decode cX0_init 67 = .ok (.dup, 1) := by decide +kernel
theorem dX0_init_68 : decode cX0_init 68 = .ok (.iconst 2, 1) := by decide +kernel
theorem dX0_init_69 : decode cX0_init 69 = .ok (.bipush 10, 2) := by decide +kernel
theorem dX0_init_71 : decode cX0_init 71 = .ok (.iastore, 1) := by decide +kernel
theorem dX0_init_72 : decode cX0_init 72 = .ok (.dup, 1) := by decide +kernel
theorem dX0_init_73 : decode cX0_init 73 = .ok (.iconst 3, 1) := by decide +kernel
theorem dX0_init_74 : decode cX0_init 74 = .ok (.bipush 10, 2) := by decide +kernel
theorem dX0_init_76 : decode cX0_init 76 = .ok (.iastore, 1) := by decide +kernel
theorem dX0_init_77 : decode cX0_init 77 = .ok (.dup, 1) := by decide +kernel
theorem dX0_init_78 : decode cX0_init 78 = .ok (.iconst 4, 1) := by decide +kernel
theorem dX0_init_79 : decode cX0_init 79 = .ok (.bipush 10, 2) := by decide +kernel
theorem dX0_init_81 : decode cX0_init 81 = .ok (.iastore, 1) := by decide +kernel
theorem dX0_init_82 : decode cX0_init 82 = .ok (.dup, 1) := by decide +kernel
theorem dX0_init_83 : decode cX0_init 83 = .ok (.iconst 5, 1) := by decide +kernel
theorem dX0_init_84 : decode cX0_init 84 = .ok (.bipush 10, 2) := by decide +kernel
theorem dX0_init_86 : decode cX0_init 86 = .ok (.iastore, 1) := by decide +kernel
theorem dX0_init_87 : decode cX0_init 87 = .ok (.dup, 1) := by decide +kernel
theorem dX0_init_88 : decode cX0_init 88 = .ok (.bipush 6, 2) := by decide +kernel
theorem dX0_init_90 : decode cX0_init 90 = .ok (.bipush 10, 2) := by decide +kernel
theorem dX0_init_92 : decode cX0_init 92 = .ok (.iastore, 1) := by decide +kernel
theorem dX0_init_93 : decode cX0_init 93 = .ok (.dup, 1) := by decide +kernel
theorem dX0_init_94 : decode cX0_init 94 = .ok (.bipush 7, 2) := by decide +kernel
theorem dX0_init_96 : decode cX0_init 96 = .ok (.bipush 10, 2) := by decide +kernel
theorem dX0_init_98 : decode cX0_init 98 = .ok (.iastore, 1) := by decide +kernel
theorem dX0_init_99 : decode cX0_init 99 = .ok (.putfield 15, 3) := by decide +kernel
theorem dX0_init_102 : decode cX0_init 102 = .ok (.aload_n 0, 1) := by decide +kernel
theorem dX0_init_103 : decode cX0_init 103 = .ok (.aload_n 1, 1) := by decide +kernel
theorem dX0_init_104 : decode cX0_init 104 = .ok (.putfield 18, 3) := by decide +kernel
theorem dX0_init_107 : decode cX0_init 107 = .ok (.return_, 1) := by decide +kernel
theorem dX0_mayBeTold_0 : decode cX0_mayBeTold 0 = .ok (.iload_n 0, 1) := by decide +kernel
theorem dX0_mayBeTold_1 : decode cX0_mayBeTold 1 = .ok (.ifCond .eq 9, 3) := by decide +kernel
theorem dX0_mayBeTold_4 : decode cX0_mayBeTold 4 = .ok (.iload_n 0, 1) := by decide +kernel
theorem dX0_mayBeTold_5 : decode cX0_mayBeTold 5 = .ok (.bipush 7, 2) := by decide +kernel
theorem dX0_mayBeTold_7 : decode cX0_mayBeTold 7 = .ok (.if_icmp .lt 7, 3) := by decide +kernel
theorem dX0_mayBeTold_10 : decode cX0_mayBeTold 10 = .ok (.iconst 1, 1) := by decide +kernel
theorem dX0_mayBeTold_11 : decode cX0_mayBeTold 11 = .ok (.goto 4, 3) := by decide +kernel
theorem dX0_mayBeTold_14 : decode cX0_mayBeTold 14 = .ok (.iconst 0, 1) := by decide +kernel
theorem dX0_mayBeTold_15 : decode cX0_mayBeTold 15 = .ok (.ireturn, 1) := by decide +kernel
theorem dX0_order_0 : decode cX0_order 0 = .ok (.iload_n 1, 1) := by decide +kernel
theorem dX0_order_1 : decode cX0_order 1 = .ok (.ifCond .ne 5, 3) := by decide +kernel
theorem dX0_order_4 : decode cX0_order 4 = .ok (.iconst 0, 1) := by decide +kernel
theorem dX0_order_5 : decode cX0_order 5 = .ok (.ireturn, 1) := by decide +kernel
theorem dX0_order_6 : decode cX0_order 6 = .ok (.iload_n 0, 1) := by decide +kernel
theorem dX0_order_7 : decode cX0_order 7 = .ok (.ifCond .ne 7, 3) := by decide +kernel
theorem dX0_order_10 : decode cX0_order 10 = .ok (.iconst 1, 1) := by decide +kernel
theorem dX0_order_11 : decode cX0_order 11 = .ok (.goto 4, 3) := by decide +kernel
theorem dX0_order_14 : decode cX0_order 14 = .ok (.iconst 2, 1) := by decide +kernel
theorem dX0_order_15 : decode cX0_order 15 = .ok (.ireturn, 1) := by decide +kernel
theorem dX0_how_0 : decode cX0_how 0 = .ok (.iload_n 0, 1) := by decide +kernel
theorem dX0_how_1 : decode cX0_how 1 = .ok (.ifCond .ne 5, 3) := by decide +kernel
theorem dX0_how_4 : decode cX0_how 4 = .ok (.iconst 0, 1) := by decide +kernel
theorem dX0_how_5 : decode cX0_how 5 = .ok (.ireturn, 1) := by decide +kernel
theorem dX0_how_6 : decode cX0_how 6 = .ok (.iload_n 0, 1) := by decide +kernel
theorem dX0_how_7 : decode cX0_how 7 = .ok (.bipush 7, 2) := by decide +kernel
theorem dX0_how_9 : decode cX0_how 9 = .ok (.if_icmp .lt 5, 3) := by decide +kernel
theorem dX0_how_12 : decode cX0_how 12 = .ok (.iconst 2, 1) := by decide +kernel
theorem dX0_how_13 : decode cX0_how 13 = .ok (.ireturn, 1) := by decide +kernel
theorem dX0_how_14 : decode cX0_how 14 = .ok (.iload_n 0, 1) := by decide +kernel
theorem dX0_how_15 : decode cX0_how 15 = .ok (.iconst 4, 1) := by decide +kernel
theorem dX0_how_16 : decode cX0_how 16 = .ok (.if_icmp .ge 7, 3) := by decide +kernel
theorem dX0_how_19 : decode cX0_how 19 = .ok (.iconst 1, 1) := by decide +kernel
theorem dX0_how_20 : decode cX0_how 20 = .ok (.goto 4, 3) := by decide +kernel
theorem dX0_how_23 : decode cX0_how 23 = .ok (.iconst 3, 1) := by decide +kernel
theorem dX0_how_24 : decode cX0_how 24 = .ok (.ireturn, 1) := by decide +kernel
theorem dX0_stands_0 : decode cX0_stands 0 = .ok (.iload_n 2, 1) := by decide +kernel
theorem dX0_stands_1 : decode cX0_stands 1 = .ok (.ifCond .ne 5, 3) := by decide +kernel
theorem dX0_stands_4 : decode cX0_stands 4 = .ok (.iload_n 1, 1) := by decide +kernel
theorem dX0_stands_5 : decode cX0_stands 5 = .ok (.ireturn, 1) := by decide +kernel
theorem dX0_stands_6 : decode cX0_stands 6 = .ok (.iload_n 1, 1) := by decide +kernel
theorem dX0_stands_7 : decode cX0_stands 7 = .ok (.ifCond .ne 16, 3) := by decide +kernel
theorem dX0_stands_10 : decode cX0_stands 10 = .ok (.iconst 1, 1) := by decide +kernel
theorem dX0_stands_11 : decode cX0_stands 11 = .ok (.aload_n 0, 1) := by decide +kernel
theorem dX0_stands_12 : decode cX0_stands 12 = .ok (.getfield 9, 3) := by decide +kernel
theorem dX0_stands_15 : decode cX0_stands 15 = .ok (.iconst 0, 1) := by decide +kernel
theorem dX0_stands_16 : decode cX0_stands 16 = .ok (.iaload, 1) := by decide +kernel
theorem dX0_stands_17 : decode cX0_stands 17 = .ok (.iadd, 1) := by decide +kernel
theorem dX0_stands_18 : decode cX0_stands 18 = .ok (.iconst 1, 1) := by decide +kernel
theorem dX0_stands_19 : decode cX0_stands 19 = .ok (.isub, 1) := by decide +kernel
theorem dX0_stands_20 : decode cX0_stands 20 = .ok (.goto 13, 3) := by decide +kernel
theorem dX0_stands_23 : decode cX0_stands 23 = .ok (.iconst 4, 1) := by decide +kernel
theorem dX0_stands_24 : decode cX0_stands 24 = .ok (.aload_n 0, 1) := by decide +kernel
theorem dX0_stands_25 : decode cX0_stands 25 = .ok (.getfield 9, 3) := by decide +kernel
theorem dX0_stands_28 : decode cX0_stands 28 = .ok (.iconst 1, 1) := by decide +kernel
theorem dX0_stands_29 : decode cX0_stands 29 = .ok (.iaload, 1) := by decide +kernel
theorem dX0_stands_30 : decode cX0_stands 30 = .ok (.iadd, 1) := by decide +kernel
theorem dX0_stands_31 : decode cX0_stands 31 = .ok (.iconst 1, 1) := by decide +kernel
theorem dX0_stands_32 : decode cX0_stands 32 = .ok (.isub, 1) := by decide +kernel
theorem dX0_stands_33 : decode cX0_stands 33 = .ok (.ireturn, 1) := by decide +kernel
set_option maxRecDepth 20000 in
theorem ggX0_next_X0_mayBeTold : GoodIn wsX0_next wsX0_mayBeTold := goodIn_r _ [4] (by decide +kernel) (by decide +kernel)
set_option maxRecDepth 20000 in
theorem gX0_next_X0_mayBeTold : GoodIn wsX0_next (va_wsS RX0 22 yX0_mayBeTold wsX0_mayBeTold) := goodIn_app (goodIn_of _ (by decide +kernel)) ggX0_next_X0_mayBeTold
theorem dX0_next_0 : decode cX0_next 0 = .ok (.iload_n 0, 1) := by decide +kernel
theorem dX0_next_1 : decode cX0_next 1 = .ok (.iconst 1, 1) := by decide +kernel
theorem dX0_next_2 : decode cX0_next 2 = .ok (.if_icmp .ne 8, 3) := by decide +kernel
theorem dX0_next_5 : decode cX0_next 5 = .ok (.bipush 7, 2) := by decide +kernel
theorem dX0_next_7 : decode cX0_next 7 = .ok (.iload_n 1, 1) := by decide +kernel
theorem dX0_next_8 : decode cX0_next 8 = .ok (.iadd, 1) := by decide +kernel
theorem dX0_next_9 : decode cX0_next 9 = .ok (.ireturn, 1) := by decide +kernel
theorem dX0_next_10 : decode cX0_next 10 = .ok (.iload_n 0, 1) := by decide +kernel
theorem dX0_next_11 : decode cX0_next 11 = .ok (.iconst 4, 1) := by decide +kernel
theorem dX0_next_12 : decode cX0_next 12 = .ok (.if_icmp .ne 5, 3) := by decide +kernel
theorem dX0_next_15 : decode cX0_next 15 = .ok (.iconst 0, 1) := by decide +kernel
theorem dX0_next_16 : decode cX0_next 16 = .ok (.ireturn, 1) := by decide +kernel
theorem dX0_next_17 : decode cX0_next 17 = .ok (.iload_n 0, 1) := by decide +kernel
theorem dX0_next_18 : decode cX0_next 18 = .ok (.invokestatic 22, 3) := by decide +kernel
theorem dX0_next_21 : decode cX0_next 21 = .ok (.ifCond .eq 7, 3) := by decide +kernel
theorem dX0_next_24 : decode cX0_next 24 = .ok (.iload_n 0, 1) := by decide +kernel
theorem dX0_next_25 : decode cX0_next 25 = .ok (.goto 6, 3) := by decide +kernel
theorem dX0_next_28 : decode cX0_next 28 = .ok (.iload_n 0, 1) := by decide +kernel
theorem dX0_next_29 : decode cX0_next 29 = .ok (.iconst 1, 1) := by decide +kernel
theorem dX0_next_30 : decode cX0_next 30 = .ok (.isub, 1) := by decide +kernel
theorem dX0_next_31 : decode cX0_next 31 = .ok (.ireturn, 1) := by decide +kernel
theorem dX0_water_0 : decode cX0_water 0 = .ok (.iload_n 3, 1) := by decide +kernel
theorem dX0_water_1 : decode cX0_water 1 = .ok (.bipush 7, 2) := by decide +kernel
theorem dX0_water_3 : decode cX0_water 3 = .ok (.if_icmp .ge 15, 3) := by decide +kernel
theorem dX0_water_6 : decode cX0_water 6 = .ok (.aload_n 0, 1) := by decide +kernel
theorem dX0_water_7 : decode cX0_water 7 = .ok (.getfield 18, 3) := by decide +kernel
theorem dX0_water_10 : decode cX0_water 10 = .ok (.getfield 26, 3) := by decide +kernel
theorem dX0_water_13 : decode cX0_water 13 = .ok (.iload_n 1, 1) := by decide +kernel
theorem dX0_water_14 : decode cX0_water 14 = .ok (.aaload, 1) := by decide +kernel
theorem dX0_water_15 : decode cX0_water 15 = .ok (.iload_n 2, 1) := by decide +kernel
theorem dX0_water_16 : decode cX0_water 16 = .ok (.iaload, 1) := by decide +kernel
theorem dX0_water_17 : decode cX0_water 17 = .ok (.ireturn, 1) := by decide +kernel
theorem dX0_water_18 : decode cX0_water 18 = .ok (.iload_n 3, 1) := by decide +kernel
theorem dX0_water_19 : decode cX0_water 19 = .ok (.bipush 7, 2) := by decide +kernel
theorem dX0_water_21 : decode cX0_water 21 = .ok (.isub, 1) := by decide +kernel
theorem dX0_water_22 : decode cX0_water 22 = .ok (.iload_n 2, 1) := by decide +kernel
theorem dX0_water_23 : decode cX0_water 23 = .ok (.invokestatic 32, 3) := by decide +kernel
theorem dX0_water_26 : decode cX0_water 26 = .ok (.istore 4, 2) := by decide +kernel
theorem dX0_water_28 : decode cX0_water 28 = .ok (.aload_n 0, 1) := by decide +kernel
theorem dX0_water_29 : decode cX0_water 29 = .ok (.getfield 18, 3) := by decide +kernel
theorem dX0_water_32 : decode cX0_water 32 = .ok (.getfield 26, 3) := by decide +kernel
theorem dX0_water_35 : decode cX0_water 35 = .ok (.iload_n 1, 1) := by decide +kernel
theorem dX0_water_36 : decode cX0_water 36 = .ok (.aaload, 1) := by decide +kernel
theorem dX0_water_37 : decode cX0_water 37 = .ok (.iload 4, 2) := by decide +kernel
theorem dX0_water_39 : decode cX0_water 39 = .ok (.iaload, 1) := by decide +kernel
theorem dX0_water_40 : decode cX0_water 40 = .ok (.istore 5, 2) := by decide +kernel
theorem dX0_water_42 : decode cX0_water 42 = .ok (.iload 4, 2) := by decide +kernel
theorem dX0_water_44 : decode cX0_water 44 = .ok (.iconst 1, 1) := by decide +kernel
theorem dX0_water_45 : decode cX0_water 45 = .ok (.iadd, 1) := by decide +kernel
theorem dX0_water_46 : decode cX0_water 46 = .ok (.istore 6, 2) := by decide +kernel
theorem dX0_water_48 : decode cX0_water 48 = .ok (.iload 6, 2) := by decide +kernel
theorem dX0_water_50 : decode cX0_water 50 = .ok (.iload_n 2, 1) := by decide +kernel
theorem dX0_water_51 : decode cX0_water 51 = .ok (.if_icmp .gt 21, 3) := by decide +kernel
theorem dX0_water_54 : decode cX0_water 54 = .ok (.iload 5, 2) := by decide +kernel
theorem dX0_water_56 : decode cX0_water 56 = .ok (.aload_n 0, 1) := by decide +kernel
theorem dX0_water_57 : decode cX0_water 57 = .ok (.getfield 15, 3) := by decide +kernel
theorem dX0_water_60 : decode cX0_water 60 = .ok (.iload 6, 2) := by decide +kernel
theorem dX0_water_62 : decode cX0_water 62 = .ok (.iaload, 1) := by decide +kernel
theorem dX0_water_63 : decode cX0_water 63 = .ok (.iadd, 1) := by decide +kernel
theorem dX0_water_64 : decode cX0_water 64 = .ok (.istore 5, 2) := by decide +kernel
theorem dX0_water_66 : decode cX0_water 66 = .ok (.iinc 6 1, 3) := by decide +kernel
theorem dX0_water_69 : decode cX0_water 69 = .ok (.goto (-21), 3) := by decide +kernel
theorem dX0_water_72 : decode cX0_water 72 = .ok (.iload 5, 2) := by decide +kernel
theorem dX0_water_74 : decode cX0_water 74 = .ok (.ireturn, 1) := by decide +kernel
set_option maxRecDepth 20000 in
theorem ggX0_lost_X0_stands : GoodIn wsX0_lost wsX0_stands := goodIn_r _ [10, 1, 21, 22, 23] (by decide +kernel) (by decide +kernel)
set_option maxRecDepth 20000 in
theorem gX0_lost_X0_stands : GoodIn wsX0_lost (wsV RX0 38 RX0 yX0_stands wsX0_stands) := goodIn_app (goodIn_of _ (by decide +kernel)) ggX0_lost_X0_stands
set_option maxRecDepth 20000 in
theorem ggX0_lost_X0_water : GoodIn wsX0_lost wsX0_water := goodIn_r _ [14, 15, 16, 17, 18, 4, 19, 20, 21, 22, 23, 24, 25, 26, 27] (by decide +kernel) (by decide +kernel)
set_option maxRecDepth 20000 in
theorem gX0_lost_X0_water : GoodIn wsX0_lost (wsV RX0 42 RX0 yX0_water wsX0_water) := goodIn_app (goodIn_of _ (by decide +kernel)) ggX0_lost_X0_water
theorem dX0_lost_0 : decode cX0_lost 0 = .ok (.aload_n 0, 1) := by decide +kernel
theorem dX0_lost_1 : decode cX0_lost 1 = .ok (.iload_n 3, 1) := by decide +kernel
theorem dX0_lost_2 : decode cX0_lost 2 = .ok (.iload 4, 2) := by decide +kernel
theorem dX0_lost_4 : decode cX0_lost 4 = .ok (.invokevirtual 38, 3) := by decide +kernel
theorem dX0_lost_7 : decode cX0_lost 7 = .ok (.istore 5, 2) := by decide +kernel
theorem dX0_lost_9 : decode cX0_lost 9 = .ok (.aload_n 0, 1) := by decide +kernel
theorem dX0_lost_10 : decode cX0_lost 10 = .ok (.iload_n 1, 1) := by decide +kernel
theorem dX0_lost_11 : decode cX0_lost 11 = .ok (.iload_n 2, 1) := by decide +kernel
theorem dX0_lost_12 : decode cX0_lost 12 = .ok (.iload 5, 2) := by decide +kernel
theorem dX0_lost_14 : decode cX0_lost 14 = .ok (.invokevirtual 42, 3) := by decide +kernel
theorem dX0_lost_17 : decode cX0_lost 17 = .ok (.istore 6, 2) := by decide +kernel
theorem dX0_lost_19 : decode cX0_lost 19 = .ok (.iload 5, 2) := by decide +kernel
theorem dX0_lost_21 : decode cX0_lost 21 = .ok (.bipush 7, 2) := by decide +kernel
theorem dX0_lost_23 : decode cX0_lost 23 = .ok (.if_icmp .lt 32, 3) := by decide +kernel
theorem dX0_lost_26 : decode cX0_lost 26 = .ok (.aload_n 0, 1) := by decide +kernel
theorem dX0_lost_27 : decode cX0_lost 27 = .ok (.getfield 9, 3) := by decide +kernel
theorem dX0_lost_30 : decode cX0_lost 30 = .ok (.iconst 5, 1) := by decide +kernel
theorem dX0_lost_31 : decode cX0_lost 31 = .ok (.iaload, 1) := by decide +kernel
theorem dX0_lost_32 : decode cX0_lost 32 = .ok (.aload_n 0, 1) := by decide +kernel
theorem dX0_lost_33 : decode cX0_lost 33 = .ok (.getfield 9, 3) := by decide +kernel
theorem dX0_lost_36 : decode cX0_lost 36 = .ok (.bipush 7, 2) := by decide +kernel
theorem dX0_lost_38 : decode cX0_lost 38 = .ok (.iaload, 1) := by decide +kernel
theorem dX0_lost_39 : decode cX0_lost 39 = .ok (.iconst 0, 1) := by decide +kernel
theorem dX0_lost_40 : decode cX0_lost 40 = .ok (.iload 6, 2) := by decide +kernel
theorem dX0_lost_42 : decode cX0_lost 42 = .ok (.aload_n 0, 1) := by decide +kernel
theorem dX0_lost_43 : decode cX0_lost 43 = .ok (.getfield 9, 3) := by decide +kernel
theorem dX0_lost_46 : decode cX0_lost 46 = .ok (.iconst 3, 1) := by decide +kernel
theorem dX0_lost_47 : decode cX0_lost 47 = .ok (.iaload, 1) := by decide +kernel
theorem dX0_lost_48 : decode cX0_lost 48 = .ok (.isub, 1) := by decide +kernel
theorem dX0_lost_49 : decode cX0_lost 49 = .ok (.invokestatic 46, 3) := by decide +kernel
theorem dX0_lost_52 : decode cX0_lost 52 = .ok (.imul, 1) := by decide +kernel
theorem dX0_lost_53 : decode cX0_lost 53 = .ok (.iadd, 1) := by decide +kernel
theorem dX0_lost_54 : decode cX0_lost 54 = .ok (.ireturn, 1) := by decide +kernel
theorem dX0_lost_55 : decode cX0_lost 55 = .ok (.iload 4, 2) := by decide +kernel
theorem dX0_lost_57 : decode cX0_lost 57 = .ok (.ifCond .eq 16, 3) := by decide +kernel
theorem dX0_lost_60 : decode cX0_lost 60 = .ok (.iload_n 3, 1) := by decide +kernel
theorem dX0_lost_61 : decode cX0_lost 61 = .ok (.ifCond .ne 12, 3) := by decide +kernel
theorem dX0_lost_64 : decode cX0_lost 64 = .ok (.aload_n 0, 1) := by decide +kernel
theorem dX0_lost_65 : decode cX0_lost 65 = .ok (.getfield 9, 3) := by decide +kernel
theorem dX0_lost_68 : decode cX0_lost 68 = .ok (.iconst 4, 1) := by decide +kernel
theorem dX0_lost_69 : decode cX0_lost 69 = .ok (.iaload, 1) := by decide +kernel
theorem dX0_lost_70 : decode cX0_lost 70 = .ok (.goto 4, 3) := by decide +kernel
theorem dX0_lost_73 : decode cX0_lost 73 = .ok (.iconst 0, 1) := by decide +kernel
theorem dX0_lost_74 : decode cX0_lost 74 = .ok (.istore 7, 2) := by decide +kernel
theorem dX0_lost_76 : decode cX0_lost 76 = .ok (.iload 7, 2) := by decide +kernel
theorem dX0_lost_78 : decode cX0_lost 78 = .ok (.aload_n 0, 1) := by decide +kernel
theorem dX0_lost_79 : decode cX0_lost 79 = .ok (.getfield 9, 3) := by decide +kernel
theorem dX0_lost_82 : decode cX0_lost 82 = .ok (.bipush 6, 2) := by decide +kernel
theorem dX0_lost_84 : decode cX0_lost 84 = .ok (.iaload, 1) := by decide +kernel
theorem dX0_lost_85 : decode cX0_lost 85 = .ok (.iconst 0, 1) := by decide +kernel
theorem dX0_lost_86 : decode cX0_lost 86 = .ok (.iload 6, 2) := by decide +kernel
theorem dX0_lost_88 : decode cX0_lost 88 = .ok (.aload_n 0, 1) := by decide +kernel
theorem dX0_lost_89 : decode cX0_lost 89 = .ok (.getfield 9, 3) := by decide +kernel
theorem dX0_lost_92 : decode cX0_lost 92 = .ok (.iconst 2, 1) := by decide +kernel
theorem dX0_lost_93 : decode cX0_lost 93 = .ok (.iaload, 1) := by decide +kernel
theorem dX0_lost_94 : decode cX0_lost 94 = .ok (.isub, 1) := by decide +kernel
theorem dX0_lost_95 : decode cX0_lost 95 = .ok (.invokestatic 46, 3) := by decide +kernel
theorem dX0_lost_98 : decode cX0_lost 98 = .ok (.imul, 1) := by decide +kernel
theorem dX0_lost_99 : decode cX0_lost 99 = .ok (.iadd, 1) := by decide +kernel
theorem dX0_lost_100 : decode cX0_lost 100 = .ok (.ireturn, 1) := by decide +kernel
set_option maxRecDepth 20000 in
theorem ggX0_lossOfOneOrder_X0_lost : GoodIn wsX0_lossOfOneOrder wsX0_lost := goodIn_r _ [8, 9, 10, 11, 12, 13, 14, 15, 16, 7, 17, 18, 19, 20, 21, 1, 22, 23, 24, 25, 26, 33, 34, 35, 36, 37, 38, 39] (by decide +kernel) (by decide +kernel)
set_option maxRecDepth 20000 in
theorem gX0_lossOfOneOrder_X0_lost : GoodIn wsX0_lossOfOneOrder (wsV RX0 56 RX0 yX0_lost wsX0_lost) := goodIn_app (goodIn_of _ (by decide +kernel)) ggX0_lossOfOneOrder_X0_lost
set_option maxRecDepth 20000 in
theorem ggX0_lossOfOneOrder_X0_stands : GoodIn wsX0_lossOfOneOrder wsX0_stands := goodIn_r _ [17, 9, 33, 34, 35] (by decide +kernel) (by decide +kernel)
set_option maxRecDepth 20000 in
theorem gX0_lossOfOneOrder_X0_stands : GoodIn wsX0_lossOfOneOrder (wsV RX0 38 RX0 yX0_stands wsX0_stands) := goodIn_app (goodIn_of _ (by decide +kernel)) ggX0_lossOfOneOrder_X0_stands
set_option maxRecDepth 20000 in
theorem ggX0_lossOfOneOrder_X0_next : GoodIn wsX0_lossOfOneOrder wsX0_next := goodIn_r _ [29, 30, 31, 7, 32] (by decide +kernel) (by decide +kernel)
set_option maxRecDepth 20000 in
theorem gX0_lossOfOneOrder_X0_next : GoodIn wsX0_lossOfOneOrder (va_wsS RX0 60 yX0_next wsX0_next) := goodIn_app (goodIn_of _ (by decide +kernel)) ggX0_lossOfOneOrder_X0_next
theorem dX0_lossOfOneOrder_0 : decode cX0_lossOfOneOrder 0 = .ok (.lconst 0, 1) := by decide +kernel
theorem dX0_lossOfOneOrder_1 : decode cX0_lossOfOneOrder 1 = .ok (.lstore_n 2, 1) := by decide +kernel
theorem dX0_lossOfOneOrder_2 : decode cX0_lossOfOneOrder 2 = .ok (.iconst 0, 1) := by decide +kernel
theorem dX0_lossOfOneOrder_3 : decode cX0_lossOfOneOrder 3 = .ok (.istore 4, 2) := by decide +kernel
theorem dX0_lossOfOneOrder_5 : decode cX0_lossOfOneOrder 5 = .ok (.iload 4, 2) := by decide +kernel
theorem dX0_lossOfOneOrder_7 : decode cX0_lossOfOneOrder 7 = .ok (.aload_n 0, 1) := by decide +kernel
theorem dX0_lossOfOneOrder_8 : decode cX0_lossOfOneOrder 8 = .ok (.getfield 18, 3) := by decide +kernel
theorem dX0_lossOfOneOrder_11 : decode cX0_lossOfOneOrder 11 = .ok (.getfield 49, 3) := by decide +kernel
theorem dX0_lossOfOneOrder_14 : decode cX0_lossOfOneOrder 14 = .ok (.if_icmp .ge 84, 3) := by decide +kernel
theorem dX0_lossOfOneOrder_17 : decode cX0_lossOfOneOrder 17 = .ok (.iconst 0, 1) := by decide +kernel
theorem dX0_lossOfOneOrder_18 : decode cX0_lossOfOneOrder 18 = .ok (.istore 5, 2) := by decide +kernel
theorem dX0_lossOfOneOrder_20 : decode cX0_lossOfOneOrder 20 = .ok (.iconst 0, 1) := by decide +kernel
theorem dX0_lossOfOneOrder_21 : decode cX0_lossOfOneOrder 21 = .ok (.istore 6, 2) := by decide +kernel
theorem dX0_lossOfOneOrder_23 : decode cX0_lossOfOneOrder 23 = .ok (.iload 6, 2) := by decide +kernel
theorem dX0_lossOfOneOrder_25 : decode cX0_lossOfOneOrder 25 = .ok (.bipush 8, 2) := by decide +kernel
theorem dX0_lossOfOneOrder_27 : decode cX0_lossOfOneOrder 27 = .ok (.if_icmp .ge 65, 3) := by decide +kernel
theorem dX0_lossOfOneOrder_30 : decode cX0_lossOfOneOrder 30 = .ok (.iload 6, 2) := by decide +kernel
theorem dX0_lossOfOneOrder_32 : decode cX0_lossOfOneOrder 32 = .ok (.iload_n 1, 1) := by decide +kernel
theorem dX0_lossOfOneOrder_33 : decode cX0_lossOfOneOrder 33 = .ok (.if_icmp .ne 7, 3) := by decide +kernel
theorem dX0_lossOfOneOrder_36 : decode cX0_lossOfOneOrder 36 = .ok (.iconst 1, 1) := by decide +kernel
theorem dX0_lossOfOneOrder_37 : decode cX0_lossOfOneOrder 37 = .ok (.goto 4, 3) := by decide +kernel
theorem dX0_lossOfOneOrder_40 : decode cX0_lossOfOneOrder 40 = .ok (.iconst 0, 1) := by decide +kernel
theorem dX0_lossOfOneOrder_41 : decode cX0_lossOfOneOrder 41 = .ok (.istore 7, 2) := by decide +kernel
theorem dX0_lossOfOneOrder_43 : decode cX0_lossOfOneOrder 43 = .ok (.lload_n 2, 1) := by decide +kernel
theorem dX0_lossOfOneOrder_44 : decode cX0_lossOfOneOrder 44 = .ok (.aload_n 0, 1) := by decide +kernel
theorem dX0_lossOfOneOrder_45 : decode cX0_lossOfOneOrder 45 = .ok (.getfield 18, 3) := by decide +kernel
theorem dX0_lossOfOneOrder_48 : decode cX0_lossOfOneOrder 48 = .ok (.getfield 53, 3) := by decide +kernel
theorem dX0_lossOfOneOrder_51 : decode cX0_lossOfOneOrder 51 = .ok (.iload 4, 2) := by decide +kernel
theorem dX0_lossOfOneOrder_53 : decode cX0_lossOfOneOrder 53 = .ok (.iaload, 1) := by decide +kernel
theorem dX0_lossOfOneOrder_54 : decode cX0_lossOfOneOrder 54 = .ok (.i2l, 1) := by decide +kernel
theorem dX0_lossOfOneOrder_55 : decode cX0_lossOfOneOrder 55 = .ok (.aload_n 0, 1) := by decide +kernel
theorem dX0_lossOfOneOrder_56 : decode cX0_lossOfOneOrder 56 = .ok (.iload 4, 2) := by decide +kernel
theorem dX0_lossOfOneOrder_58 : decode cX0_lossOfOneOrder 58 = .ok (.iload 6, 2) := by decide +kernel
theorem dX0_lossOfOneOrder_60 : decode cX0_lossOfOneOrder 60 = .ok (.iload 5, 2) := by decide +kernel
theorem dX0_lossOfOneOrder_62 : decode cX0_lossOfOneOrder 62 = .ok (.iload 7, 2) := by decide +kernel
theorem dX0_lossOfOneOrder_64 : decode cX0_lossOfOneOrder 64 = .ok (.invokevirtual 56, 3) := by decide +kernel
theorem dX0_lossOfOneOrder_67 : decode cX0_lossOfOneOrder 67 = .ok (.i2l, 1) := by decide +kernel
theorem dX0_lossOfOneOrder_68 : decode cX0_lossOfOneOrder 68 = .ok (.lmul, 1) := by decide +kernel
theorem dX0_lossOfOneOrder_69 : decode cX0_lossOfOneOrder 69 = .ok (.ladd, 1) := by decide +kernel
theorem dX0_lossOfOneOrder_70 : decode cX0_lossOfOneOrder 70 = .ok (.lstore_n 2, 1) := by decide +kernel
theorem dX0_lossOfOneOrder_71 : decode cX0_lossOfOneOrder 71 = .ok (.aload_n 0, 1) := by decide +kernel
theorem dX0_lossOfOneOrder_72 : decode cX0_lossOfOneOrder 72 = .ok (.iload 5, 2) := by decide +kernel
theorem dX0_lossOfOneOrder_74 : decode cX0_lossOfOneOrder 74 = .ok (.iload 7, 2) := by decide +kernel
theorem dX0_lossOfOneOrder_76 : decode cX0_lossOfOneOrder 76 = .ok (.invokevirtual 38, 3) := by decide +kernel
theorem dX0_lossOfOneOrder_79 : decode cX0_lossOfOneOrder 79 = .ok (.iload 6, 2) := by decide +kernel
theorem dX0_lossOfOneOrder_81 : decode cX0_lossOfOneOrder 81 = .ok (.invokestatic 60, 3) := by decide +kernel
theorem dX0_lossOfOneOrder_84 : decode cX0_lossOfOneOrder 84 = .ok (.istore 5, 2) := by decide +kernel
theorem dX0_lossOfOneOrder_86 : decode cX0_lossOfOneOrder 86 = .ok (.iinc 6 1, 3) := by decide +kernel
theorem dX0_lossOfOneOrder_89 : decode cX0_lossOfOneOrder 89 = .ok (.goto (-66), 3) := by decide +kernel
theorem dX0_lossOfOneOrder_92 : decode cX0_lossOfOneOrder 92 = .ok (.iinc 4 1, 3) := by decide +kernel
theorem dX0_lossOfOneOrder_95 : decode cX0_lossOfOneOrder 95 = .ok (.goto (-90), 3) := by decide +kernel
theorem dX0_lossOfOneOrder_98 : decode cX0_lossOfOneOrder 98 = .ok (.lload_n 2, 1) := by decide +kernel
theorem dX0_lossOfOneOrder_99 : decode cX0_lossOfOneOrder 99 = .ok (.lreturn, 1) := by decide +kernel
theorem dX6_init_0 : decode cX6_init 0 = .ok (.aload_n 0, 1) := by decide +kernel
theorem dX6_init_1 : decode cX6_init 1 = .ok (.invokespecial 3, 3) := by decide +kernel
theorem dX6_init_4 : decode cX6_init 4 = .ok (.aload_n 0, 1) := by decide +kernel
theorem dX6_init_5 : decode cX6_init 5 = .ok (.bipush 8, 2) := by decide +kernel
theorem dX6_init_7 : decode cX6_init 7 = .ok (.newarray .int, 2) := by decide +kernel
theorem dX6_init_9 : decode cX6_init 9 = .ok (.putfield 9, 3) := by decide +kernel
theorem dX6_init_12 : decode cX6_init 12 = .ok (.aload_n 0, 1) := by decide +kernel
theorem dX6_init_13 : decode cX6_init 13 = .ok (.bipush 8, 2) := by decide +kernel
theorem dX6_init_15 : decode cX6_init 15 = .ok (.bipush 8, 2) := by decide +kernel
theorem dX6_init_17 : decode cX6_init 17 = .ok (.multianewarray 15 2, 4) := by decide +kernel
theorem dX6_init_21 : decode cX6_init 21 = .ok (.putfield 17, 3) := by decide +kernel
theorem dX6_init_24 : decode cX6_init 24 = .ok (.aload_n 0, 1) := by decide +kernel
theorem dX6_init_25 : decode cX6_init 25 = .ok (.bipush 8, 2) := by decide +kernel
theorem dX6_init_27 : decode cX6_init 27 = .ok (.bipush 8, 2) := by decide +kernel
theorem dX6_init_29 : decode cX6_init 29 = .ok (.multianewarray 15 2, 4) := by decide +kernel
theorem dX6_init_33 : decode cX6_init 33 = .ok (.putfield 20, 3) := by decide +kernel
theorem dX6_init_36 : decode cX6_init 36 = .ok (.aload_n 0, 1) := by decide +kernel
theorem dX6_init_37 : decode cX6_init 37 = .ok (.iconst 0, 1) := by decide +kernel
theorem dX6_init_38 : decode cX6_init 38 = .ok (.putfield 23, 3) := by decide +kernel
theorem dX6_init_41 : decode cX6_init 41 = .ok (.return_, 1) := by decide +kernel
set_option maxRecDepth 20000 in
theorem ggX6_add_X6_headOf : GoodIn wsX6_add wsX6_headOf := goodIn_r _ [13, 14, 15, 16, 12, 17, 2, 18, 19, 20, 21] (by decide +kernel) (by decide +kernel)
set_option maxRecDepth 20000 in
theorem gX6_add_X6_headOf : GoodIn wsX6_add (wsV RX6 33 RX6 yX6_headOf wsX6_headOf) := goodIn_app (goodIn_of _ (by decide +kernel)) ggX6_add_X6_headOf
theorem dX6_add_0 : decode cX6_add 0 = .ok (.aload_n 0, 1) := by decide +kernel
theorem dX6_add_1 : decode cX6_add 1 = .ok (.getfield 23, 3) := by decide +kernel
theorem dX6_add_4 : decode cX6_add 4 = .ok (.istore 4, 2) := by decide +kernel
theorem dX6_add_6 : decode cX6_add 6 = .ok (.aload_n 2, 1) := by decide +kernel
theorem dX6_add_7 : decode cX6_add 7 = .ok (.iload_n 3, 1) := by decide +kernel
theorem dX6_add_8 : decode cX6_add 8 = .ok (.aload_n 0, 1) := by decide +kernel
theorem dX6_add_9 : decode cX6_add 9 = .ok (.getfield 17, 3) := by decide +kernel
theorem dX6_add_12 : decode cX6_add 12 = .ok (.iload 4, 2) := by decide +kernel
theorem dX6_add_14 : decode cX6_add 14 = .ok (.aaload, 1) := by decide +kernel
theorem dX6_add_15 : decode cX6_add 15 = .ok (.iconst 0, 1) := by decide +kernel
theorem dX6_add_16 : decode cX6_add 16 = .ok (.bipush 8, 2) := by decide +kernel
theorem dX6_add_18 : decode cX6_add 18 = .ok (.invokestatic 27, 3) := by decide +kernel
theorem dX6_add_21 : decode cX6_add 21 = .ok (.aload_n 0, 1) := by decide +kernel
theorem dX6_add_22 : decode cX6_add 22 = .ok (.getfield 9, 3) := by decide +kernel
theorem dX6_add_25 : decode cX6_add 25 = .ok (.iload 4, 2) := by decide +kernel
theorem dX6_add_27 : decode cX6_add 27 = .ok (.iload_n 1, 1) := by decide +kernel
theorem dX6_add_28 : decode cX6_add 28 = .ok (.iastore, 1) := by decide +kernel
theorem dX6_add_29 : decode cX6_add 29 = .ok (.iconst 0, 1) := by decide +kernel
theorem dX6_add_30 : decode cX6_add 30 = .ok (.istore 5, 2) := by decide +kernel
theorem dX6_add_32 : decode cX6_add 32 = .ok (.iload 5, 2) := by decide +kernel
theorem dX6_add_34 : decode cX6_add 34 = .ok (.bipush 8, 2) := by decide +kernel
theorem dX6_add_36 : decode cX6_add 36 = .ok (.if_icmp .ge 27, 3) := by decide +kernel
theorem dX6_add_39 : decode cX6_add 39 = .ok (.aload_n 0, 1) := by decide +kernel
theorem dX6_add_40 : decode cX6_add 40 = .ok (.getfield 20, 3) := by decide +kernel
theorem dX6_add_43 : decode cX6_add 43 = .ok (.iload 5, 2) := by decide +kernel
theorem dX6_add_45 : decode cX6_add 45 = .ok (.aaload, 1) := by decide +kernel
theorem dX6_add_46 : decode cX6_add 46 = .ok (.iload 4, 2) := by decide +kernel
theorem dX6_add_48 : decode cX6_add 48 = .ok (.aload_n 0, 1) := by decide +kernel
theorem dX6_add_49 : decode cX6_add 49 = .ok (.iload 4, 2) := by decide +kernel
theorem dX6_add_51 : decode cX6_add 51 = .ok (.iload 5, 2) := by decide +kernel
theorem dX6_add_53 : decode cX6_add 53 = .ok (.invokevirtual 33, 3) := by decide +kernel
theorem dX6_add_56 : decode cX6_add 56 = .ok (.iastore, 1) := by decide +kernel
theorem dX6_add_57 : decode cX6_add 57 = .ok (.iinc 5 1, 3) := by decide +kernel
theorem dX6_add_60 : decode cX6_add 60 = .ok (.goto (-28), 3) := by decide +kernel
theorem dX6_add_63 : decode cX6_add 63 = .ok (.aload_n 0, 1) := by decide +kernel
theorem dX6_add_64 : decode cX6_add 64 = .ok (.dup, 1) := by decide +kernel
theorem dX6_add_65 : decode cX6_add 65 = .ok (.getfield 23, 3) := by decide +kernel
theorem dX6_add_68 : decode cX6_add 68 = .ok (.iconst 1, 1) := by decide +kernel
theorem dX6_add_69 : decode cX6_add 69 = .ok (.iadd, 1) := by decide +kernel
theorem dX6_add_70 : decode cX6_add 70 = .ok (.putfield 23, 3) := by decide +kernel
theorem dX6_add_73 : decode cX6_add 73 = .ok (.iload 4, 2) := by decide +kernel
theorem dX6_add_75 : decode cX6_add 75 = .ok (.ireturn, 1) := by decide +kernel
set_option maxRecDepth 20000 in
theorem ggX6_headOf_X6_areAlike : GoodIn wsX6_headOf wsX6_areAlike := goodIn_r _ [5, 6, 7, 8, 9, 10] (by decide +kernel) (by decide +kernel)
set_option maxRecDepth 20000 in
theorem gX6_headOf_X6_areAlike : GoodIn wsX6_headOf (wsV RX6 37 RX6 yX6_areAlike wsX6_areAlike) := goodIn_app (goodIn_of _ (by decide +kernel)) ggX6_headOf_X6_areAlike
theorem dX6_headOf_0 : decode cX6_headOf 0 = .ok (.iconst 0, 1) := by decide +kernel
theorem dX6_headOf_1 : decode cX6_headOf 1 = .ok (.istore_n 3, 1) := by decide +kernel
theorem dX6_headOf_2 : decode cX6_headOf 2 = .ok (.iload_n 3, 1) := by decide +kernel
theorem dX6_headOf_3 : decode cX6_headOf 3 = .ok (.iload_n 1, 1) := by decide +kernel
theorem dX6_headOf_4 : decode cX6_headOf 4 = .ok (.if_icmp .ge 19, 3) := by decide +kernel
theorem dX6_headOf_7 : decode cX6_headOf 7 = .ok (.aload_n 0, 1) := by decide +kernel
theorem dX6_headOf_8 : decode cX6_headOf 8 = .ok (.iload_n 3, 1) := by decide +kernel
theorem dX6_headOf_9 : decode cX6_headOf 9 = .ok (.iload_n 1, 1) := by decide +kernel
theorem dX6_headOf_10 : decode cX6_headOf 10 = .ok (.iload_n 2, 1) := by decide +kernel
theorem dX6_headOf_11 : decode cX6_headOf 11 = .ok (.invokevirtual 37, 3) := by decide +kernel
theorem dX6_headOf_14 : decode cX6_headOf 14 = .ok (.ifCond .ne 9, 3) := by decide +kernel
theorem dX6_headOf_17 : decode cX6_headOf 17 = .ok (.iinc 3 1, 3) := by decide +kernel
theorem dX6_headOf_20 : decode cX6_headOf 20 = .ok (.goto (-18), 3) := by decide +kernel
theorem dX6_headOf_23 : decode cX6_headOf 23 = .ok (.iload_n 3, 1) := by decide +kernel
theorem dX6_headOf_24 : decode cX6_headOf 24 = .ok (.ireturn, 1) := by decide +kernel
theorem dX6_areAlike_0 : decode cX6_areAlike 0 = .ok (.iconst 0, 1) := by decide +kernel
theorem dX6_areAlike_1 : decode cX6_areAlike 1 = .ok (.istore 4, 2) := by decide +kernel
theorem dX6_areAlike_3 : decode cX6_areAlike 3 = .ok (.iload 4, 2) := by decide +kernel
theorem dX6_areAlike_5 : decode cX6_areAlike 5 = .ok (.iload_n 3, 1) := by decide +kernel
theorem dX6_areAlike_6 : decode cX6_areAlike 6 = .ok (.if_icmp .gt 32, 3) := by decide +kernel
theorem dX6_areAlike_9 : decode cX6_areAlike 9 = .ok (.aload_n 0, 1) := by decide +kernel
theorem dX6_areAlike_10 : decode cX6_areAlike 10 = .ok (.getfield 17, 3) := by decide +kernel
theorem dX6_areAlike_13 : decode cX6_areAlike 13 = .ok (.iload_n 1, 1) := by decide +kernel
theorem dX6_areAlike_14 : decode cX6_areAlike 14 = .ok (.aaload, 1) := by decide +kernel
theorem dX6_areAlike_15 : decode cX6_areAlike 15 = .ok (.iload 4, 2) := by decide +kernel
theorem dX6_areAlike_17 : decode cX6_areAlike 17 = .ok (.iaload, 1) := by decide +kernel
theorem dX6_areAlike_18 : decode cX6_areAlike 18 = .ok (.aload_n 0, 1) := by decide +kernel
theorem dX6_areAlike_19 : decode cX6_areAlike 19 = .ok (.getfield 17, 3) := by decide +kernel
theorem dX6_areAlike_22 : decode cX6_areAlike 22 = .ok (.iload_n 2, 1) := by decide +kernel
theorem dX6_areAlike_23 : decode cX6_areAlike 23 = .ok (.aaload, 1) := by decide +kernel
theorem dX6_areAlike_24 : decode cX6_areAlike 24 = .ok (.iload 4, 2) := by decide +kernel
theorem dX6_areAlike_26 : decode cX6_areAlike 26 = .ok (.iaload, 1) := by decide +kernel
theorem dX6_areAlike_27 : decode cX6_areAlike 27 = .ok (.if_icmp .eq 5, 3) := by decide +kernel
theorem dX6_areAlike_30 : decode cX6_areAlike 30 = .ok (.iconst 0, 1) := by decide +kernel
theorem dX6_areAlike_31 : decode cX6_areAlike 31 = .ok (.ireturn, 1) := by decide +kernel
theorem dX6_areAlike_32 : decode cX6_areAlike 32 = .ok (.iinc 4 1, 3) := by decide +kernel
theorem dX6_areAlike_35 : decode cX6_areAlike 35 = .ok (.goto (-32), 3) := by decide +kernel
theorem dX6_areAlike_38 : decode cX6_areAlike 38 = .ok (.iconst 1, 1) := by decide +kernel
theorem dX6_areAlike_39 : decode cX6_areAlike 39 = .ok (.ireturn, 1) := by decide +kernel
theorem dX6_groupsAt_0 : decode cX6_groupsAt 0 = .ok (.iconst 0, 1) := by decide +kernel
theorem dX6_groupsAt_1 : decode cX6_groupsAt 1 = .ok (.istore_n 2, 1) := by decide +kernel
theorem dX6_groupsAt_2 : decode cX6_groupsAt 2 = .ok (.iconst 0, 1) := by decide +kernel
theorem dX6_groupsAt_3 : decode cX6_groupsAt 3 = .ok (.istore_n 3, 1) := by decide +kernel
theorem dX6_groupsAt_4 : decode cX6_groupsAt 4 = .ok (.iload_n 3, 1) := by decide +kernel
theorem dX6_groupsAt_5 : decode cX6_groupsAt 5 = .ok (.aload_n 0, 1) := by decide +kernel
theorem dX6_groupsAt_6 : decode cX6_groupsAt 6 = .ok (.getfield 23, 3) := by decide +kernel
theorem dX6_groupsAt_9 : decode cX6_groupsAt 9 = .ok (.if_icmp .ge 24, 3) := by decide +kernel
theorem dX6_groupsAt_12 : decode cX6_groupsAt 12 = .ok (.aload_n 0, 1) := by decide +kernel
theorem dX6_groupsAt_13 : decode cX6_groupsAt 13 = .ok (.getfield 20, 3) := by decide +kernel
theorem dX6_groupsAt_16 : decode cX6_groupsAt 16 = .ok (.iload_n 1, 1) := by decide +kernel
theorem dX6_groupsAt_17 : decode cX6_groupsAt 17 = .ok (.aaload, 1) := by decide +kernel
theorem dX6_groupsAt_18 : decode cX6_groupsAt 18 = .ok (.iload_n 3, 1) := by decide +kernel
theorem dX6_groupsAt_19 : decode cX6_groupsAt 19 = .ok (.iaload, 1) := by decide +kernel
theorem dX6_groupsAt_20 : decode cX6_groupsAt 20 = .ok (.iload_n 3, 1) := by decide +kernel
theorem dX6_groupsAt_21 : decode cX6_groupsAt 21 = .ok (.if_icmp .ne 6, 3) := by decide +kernel
theorem dX6_groupsAt_24 : decode cX6_groupsAt 24 = .ok (.iinc 2 1, 3) := by decide +kernel
theorem dX6_groupsAt_27 : decode cX6_groupsAt 27 = .ok (.iinc 3 1, 3) := by decide +kernel
theorem dX6_groupsAt_30 : decode cX6_groupsAt 30 = .ok (.goto (-26), 3) := by decide +kernel
theorem dX6_groupsAt_33 : decode cX6_groupsAt 33 = .ok (.iload_n 2, 1) := by decide +kernel
theorem dX6_groupsAt_34 : decode cX6_groupsAt 34 = .ok (.ireturn, 1) := by decide +kernel
theorem dX6_weightOfGroup_0 : decode cX6_weightOfGroup 0 = .ok (.iconst 0, 1) := by decide +kernel
theorem dX6_weightOfGroup_1 : decode cX6_weightOfGroup 1 = .ok (.istore_n 3, 1) := by decide +kernel
theorem dX6_weightOfGroup_2 : decode cX6_weightOfGroup 2 = .ok (.iload_n 2, 1) := by decide +kernel
theorem dX6_weightOfGroup_3 : decode cX6_weightOfGroup 3 = .ok (.istore 4, 2) := by decide +kernel
theorem dX6_weightOfGroup_5 : decode cX6_weightOfGroup 5 = .ok (.iload 4, 2) := by decide +kernel
theorem dX6_weightOfGroup_7 : decode cX6_weightOfGroup 7 = .ok (.aload_n 0, 1) := by decide +kernel
theorem dX6_weightOfGroup_8 : decode cX6_weightOfGroup 8 = .ok (.getfield 23, 3) := by decide +kernel
theorem dX6_weightOfGroup_11 : decode cX6_weightOfGroup 11 = .ok (.if_icmp .ge 32, 3) := by decide +kernel
theorem dX6_weightOfGroup_14 : decode cX6_weightOfGroup 14 = .ok (.aload_n 0, 1) := by decide +kernel
theorem dX6_weightOfGroup_15 : decode cX6_weightOfGroup 15 = .ok (.getfield 20, 3) := by decide +kernel
theorem dX6_weightOfGroup_18 : decode cX6_weightOfGroup 18 = .ok (.iload_n 1, 1) := by decide +kernel
theorem dX6_weightOfGroup_19 : decode cX6_weightOfGroup 19 = .ok (.aaload, 1) := by decide +kernel
theorem dX6_weightOfGroup_20 : decode cX6_weightOfGroup 20 = .ok (.iload 4, 2) := by decide +kernel
theorem dX6_weightOfGroup_22 : decode cX6_weightOfGroup 22 = .ok (.iaload, 1) := by decide +kernel
theorem dX6_weightOfGroup_23 : decode cX6_weightOfGroup 23 = .ok (.iload_n 2, 1) := by decide +kernel
theorem dX6_weightOfGroup_24 : decode cX6_weightOfGroup 24 = .ok (.if_icmp .ne 13, 3) := by decide +kernel
theorem dX6_weightOfGroup_27 : decode cX6_weightOfGroup 27 = .ok (.iload_n 3, 1) := by decide +kernel
theorem dX6_weightOfGroup_28 : decode cX6_weightOfGroup 28 = .ok (.aload_n 0, 1) := by decide +kernel
theorem dX6_weightOfGroup_29 : decode cX6_weightOfGroup 29 = .ok (.getfield 9, 3) := by decide +kernel
theorem dX6_weightOfGroup_32 : decode cX6_weightOfGroup 32 = .ok (.iload 4, 2) := by decide +kernel
theorem dX6_weightOfGroup_34 : decode cX6_weightOfGroup 34 = .ok (.iaload, 1) := by decide +kernel
theorem dX6_weightOfGroup_35 : decode cX6_weightOfGroup 35 = .ok (.iadd, 1) := by decide +kernel
theorem dX6_weightOfGroup_36 : decode cX6_weightOfGroup 36 = .ok (.istore_n 3, 1) := by decide +kernel
theorem dX6_weightOfGroup_37 : decode cX6_weightOfGroup 37 = .ok (.iinc 4 1, 3) := by decide +kernel
theorem dX6_weightOfGroup_40 : decode cX6_weightOfGroup 40 = .ok (.goto (-35), 3) := by decide +kernel
theorem dX6_weightOfGroup_43 : decode cX6_weightOfGroup 43 = .ok (.iload_n 3, 1) := by decide +kernel
theorem dX6_weightOfGroup_44 : decode cX6_weightOfGroup 44 = .ok (.ireturn, 1) := by decide +kernel
theorem dX6_allWeights_0 : decode cX6_allWeights 0 = .ok (.iconst 0, 1) := by decide +kernel
theorem dX6_allWeights_1 : decode cX6_allWeights 1 = .ok (.istore_n 1, 1) := by decide +kernel
theorem dX6_allWeights_2 : decode cX6_allWeights 2 = .ok (.iconst 0, 1) := by decide +kernel
theorem dX6_allWeights_3 : decode cX6_allWeights 3 = .ok (.istore_n 2, 1) := by decide +kernel
theorem dX6_allWeights_4 : decode cX6_allWeights 4 = .ok (.iload_n 2, 1) := by decide +kernel
theorem dX6_allWeights_5 : decode cX6_allWeights 5 = .ok (.aload_n 0, 1) := by decide +kernel
theorem dX6_allWeights_6 : decode cX6_allWeights 6 = .ok (.getfield 23, 3) := by decide +kernel
theorem dX6_allWeights_9 : decode cX6_allWeights 9 = .ok (.if_icmp .ge 18, 3) := by decide +kernel
theorem dX6_allWeights_12 : decode cX6_allWeights 12 = .ok (.iload_n 1, 1) := by decide +kernel
theorem dX6_allWeights_13 : decode cX6_allWeights 13 = .ok (.aload_n 0, 1) := by decide +kernel
theorem dX6_allWeights_14 : decode cX6_allWeights 14 = .ok (.getfield 9, 3) := by decide +kernel
theorem dX6_allWeights_17 : decode cX6_allWeights 17 = .ok (.iload_n 2, 1) := by decide +kernel
theorem dX6_allWeights_18 : decode cX6_allWeights 18 = .ok (.iaload, 1) := by decide +kernel
theorem dX6_allWeights_19 : decode cX6_allWeights 19 = .ok (.iadd, 1) := by decide +kernel
theorem dX6_allWeights_20 : decode cX6_allWeights 20 = .ok (.istore_n 1, 1) := by decide +kernel
theorem dX6_allWeights_21 : decode cX6_allWeights 21 = .ok (.iinc 2 1, 3) := by decide +kernel
theorem dX6_allWeights_24 : decode cX6_allWeights 24 = .ok (.goto (-20), 3) := by decide +kernel
theorem dX6_allWeights_27 : decode cX6_allWeights 27 = .ok (.iload_n 1, 1) := by decide +kernel
theorem dX6_allWeights_28 : decode cX6_allWeights 28 = .ok (.ireturn, 1) := by decide +kernel
theorem dX6_firstAbove_0 : decode cX6_firstAbove 0 = .ok (.iconst 0, 1) := by decide +kernel
theorem dX6_firstAbove_1 : decode cX6_firstAbove 1 = .ok (.istore_n 2, 1) := by decide +kernel
theorem dX6_firstAbove_2 : decode cX6_firstAbove 2 = .ok (.iload_n 2, 1) := by decide +kernel
theorem dX6_firstAbove_3 : decode cX6_firstAbove 3 = .ok (.bipush 8, 2) := by decide +kernel
theorem dX6_firstAbove_5 : decode cX6_firstAbove 5 = .ok (.if_icmp .ge 39, 3) := by decide +kernel
theorem dX6_firstAbove_8 : decode cX6_firstAbove 8 = .ok (.iconst 0, 1) := by decide +kernel
theorem dX6_firstAbove_9 : decode cX6_firstAbove 9 = .ok (.istore_n 3, 1) := by decide +kernel
theorem dX6_firstAbove_10 : decode cX6_firstAbove 10 = .ok (.iload_n 3, 1) := by decide +kernel
theorem dX6_firstAbove_11 : decode cX6_firstAbove 11 = .ok (.aload_n 0, 1) := by decide +kernel
theorem dX6_firstAbove_12 : decode cX6_firstAbove 12 = .ok (.getfield 23, 3) := by decide +kernel
theorem dX6_firstAbove_15 : decode cX6_firstAbove 15 = .ok (.if_icmp .ge 23, 3) := by decide +kernel
theorem dX6_firstAbove_18 : decode cX6_firstAbove 18 = .ok (.aload_n 0, 1) := by decide +kernel
theorem dX6_firstAbove_19 : decode cX6_firstAbove 19 = .ok (.getfield 17, 3) := by decide +kernel
theorem dX6_firstAbove_22 : decode cX6_firstAbove 22 = .ok (.iload_n 3, 1) := by decide +kernel
theorem dX6_firstAbove_23 : decode cX6_firstAbove 23 = .ok (.aaload, 1) := by decide +kernel
theorem dX6_firstAbove_24 : decode cX6_firstAbove 24 = .ok (.iload_n 2, 1) := by decide +kernel
theorem dX6_firstAbove_25 : decode cX6_firstAbove 25 = .ok (.iaload, 1) := by decide +kernel
theorem dX6_firstAbove_26 : decode cX6_firstAbove 26 = .ok (.iload_n 1, 1) := by decide +kernel
theorem dX6_firstAbove_27 : decode cX6_firstAbove 27 = .ok (.if_icmp .le 5, 3) := by decide +kernel
theorem dX6_firstAbove_30 : decode cX6_firstAbove 30 = .ok (.iload_n 2, 1) := by decide +kernel
theorem dX6_firstAbove_31 : decode cX6_firstAbove 31 = .ok (.ireturn, 1) := by decide +kernel
theorem dX6_firstAbove_32 : decode cX6_firstAbove 32 = .ok (.iinc 3 1, 3) := by decide +kernel
theorem dX6_firstAbove_35 : decode cX6_firstAbove 35 = .ok (.goto (-25), 3) := by decide +kernel
theorem dX6_firstAbove_38 : decode cX6_firstAbove 38 = .ok (.iinc 2 1, 3) := by decide +kernel
theorem dX6_firstAbove_41 : decode cX6_firstAbove 41 = .ok (.goto (-39), 3) := by decide +kernel
theorem dX6_firstAbove_44 : decode cX6_firstAbove 44 = .ok (.bipush 8, 2) := by decide +kernel
theorem dX6_firstAbove_46 : decode cX6_firstAbove 46 = .ok (.ireturn, 1) := by decide +kernel
set_option maxRecDepth 20000 in
theorem ggX7_init_J7_fill_53178 : GoodIn wsX7_init wsJ7_fill_53178 := goodIn_r _ [12] (by decide +kernel) (by decide +kernel)
set_option maxRecDepth 20000 in
theorem gX7_init_J7_fill_53178 : GoodIn wsX7_init (va_wsS RX7 23 yJ7_fill_53178 wsJ7_fill_53178) := goodIn_app (goodIn_of _ (by decide +kernel)) ggX7_init_J7_fill_53178
theorem dX7_init_0 : decode cX7_init 0 = .ok (.aload_n 0, 1) := by decide +kernel
theorem dX7_init_1 : decode cX7_init 1 = .ok (.invokespecial 3, 3) := by decide +kernel
theorem dX7_init_4 : decode cX7_init 4 = .ok (.aload_n 0, 1) := by decide +kernel
theorem dX7_init_5 : decode cX7_init 5 = .ok (.bipush 8, 2) := by decide +kernel
theorem dX7_init_7 : decode cX7_init 7 = .ok (.bipush 60, 2) := by decide +kernel
theorem dX7_init_9 : decode cX7_init 9 = .ok (.multianewarray 9 2, 4) := by decide +kernel
theorem dX7_init_13 : decode cX7_init 13 = .ok (.putfield 11, 3) := by decide +kernel
theorem dX7_init_16 : decode cX7_init 16 = .ok (.aload_n 0, 1) := by decide +kernel
theorem dX7_init_17 : decode cX7_init 17 = .ok (.bipush 8, 2) := by decide +kernel
theorem dX7_init_19 : decode cX7_init 19 = .ok (.newarray .int, 2) := by decide +kernel
theorem dX7_init_21 : decode cX7_init 21 = .ok (.putfield 16, 3) := by decide +kernel
theorem dX7_init_24 : decode cX7_init 24 = .ok (.aload_n 0, 1) := by decide +kernel
theorem dX7_init_25 : decode cX7_init 25 = .ok (.bipush 8, 2) := by decide +kernel
theorem dX7_init_27 : decode cX7_init 27 = .ok (.newarray .int, 2) := by decide +kernel
theorem dX7_init_29 : decode cX7_init 29 = .ok (.putfield 20, 3) := by decide +kernel
theorem dX7_init_32 : decode cX7_init 32 = .ok (.aload_n 0, 1) := by decide +kernel
theorem dX7_init_33 : decode cX7_init 33 = .ok (.getfield 20, 3) := by decide +kernel
theorem dX7_init_36 : decode cX7_init 36 = .ok (.iconst (-1), 1) := by decide +kernel
theorem dX7_init_37 : decode cX7_init 37 = .ok (.invokestatic 23, 3) := by decide +kernel
theorem dX7_init_40 : decode cX7_init 40 = .ok (.return_, 1) := by decide +kernel
theorem dX7_isMissing_0 : decode cX7_isMissing 0 = .ok (.aload_n 0, 1) := by decide +kernel
theorem dX7_isMissing_1 : decode cX7_isMissing 1 = .ok (.getfield 20, 3) := by decide +kernel
theorem dX7_isMissing_4 : decode cX7_isMissing 4 = .ok (.iload_n 1, 1) := by decide +kernel
theorem dX7_isMissing_5 : decode cX7_isMissing 5 = .ok (.iaload, 1) := by decide +kernel
theorem dX7_isMissing_6 : decode cX7_isMissing 6 = .ok (.iconst (-1), 1) := by decide +kernel
theorem dX7_isMissing_7 : decode cX7_isMissing 7 = .ok (.if_icmp .ne 7, 3) := by decide +kernel
theorem dX7_isMissing_10 : decode cX7_isMissing 10 = .ok (.iconst 1, 1) := by decide +kernel
theorem dX7_isMissing_11 : decode cX7_isMissing 11 = .ok (.goto 4, 3) := by decide +kernel
theorem dX7_isMissing_14 : decode cX7_isMissing 14 = .ok (.iconst 0, 1) := by decide +kernel
theorem dX7_isMissing_15 : decode cX7_isMissing 15 = .ok (.ireturn, 1) := by decide +kernel
set_option maxRecDepth 20000 in
theorem ggX7_lay_J7_fill_53178 : GoodIn wsX7_lay wsJ7_fill_53178 := goodIn_r _ [7] (by decide +kernel) (by decide +kernel)
set_option maxRecDepth 20000 in
theorem gX7_lay_J7_fill_53178 : GoodIn wsX7_lay (va_wsS RX7 23 yJ7_fill_53178 wsJ7_fill_53178) := goodIn_app (goodIn_of _ (by decide +kernel)) ggX7_lay_J7_fill_53178
theorem dX7_lay_0 : decode cX7_lay 0 = .ok (.aload_n 0, 1) := by decide +kernel
theorem dX7_lay_1 : decode cX7_lay 1 = .ok (.getfield 16, 3) := by decide +kernel
theorem dX7_lay_4 : decode cX7_lay 4 = .ok (.iload_n 1, 1) := by decide +kernel
theorem dX7_lay_5 : decode cX7_lay 5 = .ok (.iload_n 2, 1) := by decide +kernel
theorem dX7_lay_6 : decode cX7_lay 6 = .ok (.iastore, 1) := by decide +kernel
theorem dX7_lay_7 : decode cX7_lay 7 = .ok (.aload_n 0, 1) := by decide +kernel
theorem dX7_lay_8 : decode cX7_lay 8 = .ok (.getfield 20, 3) := by decide +kernel
theorem dX7_lay_11 : decode cX7_lay 11 = .ok (.iload_n 1, 1) := by decide +kernel
theorem dX7_lay_12 : decode cX7_lay 12 = .ok (.iload_n 3, 1) := by decide +kernel
theorem dX7_lay_13 : decode cX7_lay 13 = .ok (.iastore, 1) := by decide +kernel
theorem dX7_lay_14 : decode cX7_lay 14 = .ok (.aload_n 0, 1) := by decide +kernel
theorem dX7_lay_15 : decode cX7_lay 15 = .ok (.getfield 11, 3) := by decide +kernel
theorem dX7_lay_18 : decode cX7_lay 18 = .ok (.iload_n 1, 1) := by decide +kernel
theorem dX7_lay_19 : decode cX7_lay 19 = .ok (.aaload, 1) := by decide +kernel
theorem dX7_lay_20 : decode cX7_lay 20 = .ok (.iconst 0, 1) := by decide +kernel
theorem dX7_lay_21 : decode cX7_lay 21 = .ok (.invokestatic 23, 3) := by decide +kernel
theorem dX7_lay_24 : decode cX7_lay 24 = .ok (.return_, 1) := by decide +kernel
theorem dX7_takeAway_0 : decode cX7_takeAway 0 = .ok (.aload_n 0, 1) := by decide +kernel
theorem dX7_takeAway_1 : decode cX7_takeAway 1 = .ok (.getfield 20, 3) := by decide +kernel
theorem dX7_takeAway_4 : decode cX7_takeAway 4 = .ok (.iload_n 1, 1) := by decide +kernel
theorem dX7_takeAway_5 : decode cX7_takeAway 5 = .ok (.iaload, 1) := by decide +kernel
theorem dX7_takeAway_6 : decode cX7_takeAway 6 = .ok (.istore_n 2, 1) := by decide +kernel
theorem dX7_takeAway_7 : decode cX7_takeAway 7 = .ok (.aload_n 0, 1) := by decide +kernel
theorem dX7_takeAway_8 : decode cX7_takeAway 8 = .ok (.getfield 20, 3) := by decide +kernel
theorem dX7_takeAway_11 : decode cX7_takeAway 11 = .ok (.iload_n 1, 1) := by decide +kernel
theorem dX7_takeAway_12 : decode cX7_takeAway 12 = .ok (.iconst (-1), 1) := by decide +kernel
theorem dX7_takeAway_13 : decode cX7_takeAway 13 = .ok (.iastore, 1) := by decide +kernel
theorem dX7_takeAway_14 : decode cX7_takeAway 14 = .ok (.iload_n 2, 1) := by decide +kernel
theorem dX7_takeAway_15 : decode cX7_takeAway 15 = .ok (.ireturn, 1) := by decide +kernel
set_option maxRecDepth 20000 in
theorem ggX7_look_X7_isMissing : GoodIn wsX7_look wsX7_isMissing := goodIn_r _ [5, 6, 11, 12, 13] (by decide +kernel) (by decide +kernel)
set_option maxRecDepth 20000 in
theorem gX7_look_X7_isMissing : GoodIn wsX7_look (wsV RX7 29 RX7 yX7_isMissing wsX7_isMissing) := goodIn_app (goodIn_of _ (by decide +kernel)) ggX7_look_X7_isMissing
set_option maxRecDepth 20000 in
theorem ggX7_look_X7_hasPlaces : GoodIn wsX7_look wsX7_hasPlaces := goodIn_r _ [10, 6, 11, 12, 13] (by decide +kernel) (by decide +kernel)
set_option maxRecDepth 20000 in
theorem gX7_look_X7_hasPlaces : GoodIn wsX7_look (wsV RX7 33 RX7 yX7_hasPlaces wsX7_hasPlaces) := goodIn_app (goodIn_of _ (by decide +kernel)) ggX7_look_X7_hasPlaces
theorem dX7_look_0 : decode cX7_look 0 = .ok (.aload_n 0, 1) := by decide +kernel
theorem dX7_look_1 : decode cX7_look 1 = .ok (.iload_n 1, 1) := by decide +kernel
theorem dX7_look_2 : decode cX7_look 2 = .ok (.invokevirtual 29, 3) := by decide +kernel
theorem dX7_look_5 : decode cX7_look 5 = .ok (.ifCond .eq 5, 3) := by decide +kernel
theorem dX7_look_8 : decode cX7_look 8 = .ok (.iconst 1, 1) := by decide +kernel
theorem dX7_look_9 : decode cX7_look 9 = .ok (.ireturn, 1) := by decide +kernel
theorem dX7_look_10 : decode cX7_look 10 = .ok (.aload_n 0, 1) := by decide +kernel
theorem dX7_look_11 : decode cX7_look 11 = .ok (.iload_n 1, 1) := by decide +kernel
theorem dX7_look_12 : decode cX7_look 12 = .ok (.iload_n 2, 1) := by decide +kernel
theorem dX7_look_13 : decode cX7_look 13 = .ok (.iload_n 3, 1) := by decide +kernel
theorem dX7_look_14 : decode cX7_look 14 = .ok (.invokevirtual 33, 3) := by decide +kernel
theorem dX7_look_17 : decode cX7_look 17 = .ok (.ifCond .eq 7, 3) := by decide +kernel
theorem dX7_look_20 : decode cX7_look 20 = .ok (.iconst 0, 1) := by decide +kernel
theorem dX7_look_21 : decode cX7_look 21 = .ok (.goto 4, 3) := by decide +kernel
theorem dX7_look_24 : decode cX7_look 24 = .ok (.iconst 2, 1) := by decide +kernel
theorem dX7_look_25 : decode cX7_look 25 = .ok (.ireturn, 1) := by decide +kernel
set_option maxRecDepth 20000 in
theorem ggX7_lookAtBoth_X7_isMissing : GoodIn wsX7_lookAtBoth wsX7_isMissing := goodIn_r _ [6, 7, 12, 13, 14] (by decide +kernel) (by decide +kernel)
set_option maxRecDepth 20000 in
theorem gX7_lookAtBoth_X7_isMissing : GoodIn wsX7_lookAtBoth (wsV RX7 29 RX7 yX7_isMissing wsX7_isMissing) := goodIn_app (goodIn_of _ (by decide +kernel)) ggX7_lookAtBoth_X7_isMissing
set_option maxRecDepth 20000 in
theorem ggX7_lookAtBoth_X7_hasPlaces : GoodIn wsX7_lookAtBoth wsX7_hasPlaces := goodIn_r _ [11, 7, 12, 13, 14] (by decide +kernel) (by decide +kernel)
set_option maxRecDepth 20000 in
theorem gX7_lookAtBoth_X7_hasPlaces : GoodIn wsX7_lookAtBoth (wsV RX7 33 RX7 yX7_hasPlaces wsX7_hasPlaces) := goodIn_app (goodIn_of _ (by decide +kernel)) ggX7_lookAtBoth_X7_hasPlaces
theorem dX7_lookAtBoth_0 : decode cX7_lookAtBoth 0 = .ok (.aload_n 0, 1) := by decide +kernel
theorem dX7_lookAtBoth_1 : decode cX7_lookAtBoth 1 = .ok (.iload_n 1, 1) := by decide +kernel
theorem dX7_lookAtBoth_2 : decode cX7_lookAtBoth 2 = .ok (.invokevirtual 29, 3) := by decide +kernel
theorem dX7_lookAtBoth_5 : decode cX7_lookAtBoth 5 = .ok (.ifCond .ne 11, 3) := by decide +kernel
theorem dX7_lookAtBoth_8 : decode cX7_lookAtBoth 8 = .ok (.aload_n 0, 1) := by decide +kernel
theorem dX7_lookAtBoth_9 : decode cX7_lookAtBoth 9 = .ok (.iload_n 3, 1) := by decide +kernel
theorem dX7_lookAtBoth_10 : decode cX7_lookAtBoth 10 = .ok (.invokevirtual 29, 3) := by decide +kernel
theorem dX7_lookAtBoth_13 : decode cX7_lookAtBoth 13 = .ok (.ifCond .eq 5, 3) := by decide +kernel
theorem dX7_lookAtBoth_16 : decode cX7_lookAtBoth 16 = .ok (.iconst 1, 1) := by decide +kernel
theorem dX7_lookAtBoth_17 : decode cX7_lookAtBoth 17 = .ok (.ireturn, 1) := by decide +kernel
theorem dX7_lookAtBoth_18 : decode cX7_lookAtBoth 18 = .ok (.aload_n 0, 1) := by decide +kernel
theorem dX7_lookAtBoth_19 : decode cX7_lookAtBoth 19 = .ok (.getfield 16, 3) := by decide +kernel
theorem dX7_lookAtBoth_22 : decode cX7_lookAtBoth 22 = .ok (.iload_n 1, 1) := by decide +kernel
theorem dX7_lookAtBoth_23 : decode cX7_lookAtBoth 23 = .ok (.iaload, 1) := by decide +kernel
theorem dX7_lookAtBoth_24 : decode cX7_lookAtBoth 24 = .ok (.aload_n 0, 1) := by decide +kernel
theorem dX7_lookAtBoth_25 : decode cX7_lookAtBoth 25 = .ok (.getfield 16, 3) := by decide +kernel
theorem dX7_lookAtBoth_28 : decode cX7_lookAtBoth 28 = .ok (.iload_n 3, 1) := by decide +kernel
theorem dX7_lookAtBoth_29 : decode cX7_lookAtBoth 29 = .ok (.iaload, 1) := by decide +kernel
theorem dX7_lookAtBoth_30 : decode cX7_lookAtBoth 30 = .ok (.if_icmp .eq 5, 3) := by decide +kernel
theorem dX7_lookAtBoth_33 : decode cX7_lookAtBoth 33 = .ok (.iconst 5, 1) := by decide +kernel
theorem dX7_lookAtBoth_34 : decode cX7_lookAtBoth 34 = .ok (.ireturn, 1) := by decide +kernel
theorem dX7_lookAtBoth_35 : decode cX7_lookAtBoth 35 = .ok (.aload_n 0, 1) := by decide +kernel
theorem dX7_lookAtBoth_36 : decode cX7_lookAtBoth 36 = .ok (.iload_n 1, 1) := by decide +kernel
theorem dX7_lookAtBoth_37 : decode cX7_lookAtBoth 37 = .ok (.iload_n 2, 1) := by decide +kernel
theorem dX7_lookAtBoth_38 : decode cX7_lookAtBoth 38 = .ok (.iload 5, 2) := by decide +kernel
theorem dX7_lookAtBoth_40 : decode cX7_lookAtBoth 40 = .ok (.invokevirtual 33, 3) := by decide +kernel
theorem dX7_lookAtBoth_43 : decode cX7_lookAtBoth 43 = .ok (.ifCond .eq 19, 3) := by decide +kernel
theorem dX7_lookAtBoth_46 : decode cX7_lookAtBoth 46 = .ok (.aload_n 0, 1) := by decide +kernel
theorem dX7_lookAtBoth_47 : decode cX7_lookAtBoth 47 = .ok (.iload_n 3, 1) := by decide +kernel
theorem dX7_lookAtBoth_48 : decode cX7_lookAtBoth 48 = .ok (.iload 4, 2) := by decide +kernel
theorem dX7_lookAtBoth_50 : decode cX7_lookAtBoth 50 = .ok (.iload 5, 2) := by decide +kernel
theorem dX7_lookAtBoth_52 : decode cX7_lookAtBoth 52 = .ok (.invokevirtual 33, 3) := by decide +kernel
theorem dX7_lookAtBoth_55 : decode cX7_lookAtBoth 55 = .ok (.ifCond .eq 7, 3) := by decide +kernel
theorem dX7_lookAtBoth_58 : decode cX7_lookAtBoth 58 = .ok (.iconst 0, 1) := by decide +kernel
theorem dX7_lookAtBoth_59 : decode cX7_lookAtBoth 59 = .ok (.goto 4, 3) := by decide +kernel
theorem dX7_lookAtBoth_62 : decode cX7_lookAtBoth 62 = .ok (.iconst 2, 1) := by decide +kernel
theorem dX7_lookAtBoth_63 : decode cX7_lookAtBoth 63 = .ok (.ireturn, 1) := by decide +kernel
theorem dX7_hasPlaces_0 : decode cX7_hasPlaces 0 = .ok (.iload_n 3, 1) := by decide +kernel
theorem dX7_hasPlaces_1 : decode cX7_hasPlaces 1 = .ok (.ifCond .lt 23, 3) := by decide +kernel
theorem dX7_hasPlaces_4 : decode cX7_hasPlaces 4 = .ok (.iload_n 2, 1) := by decide +kernel
theorem dX7_hasPlaces_5 : decode cX7_hasPlaces 5 = .ok (.ifCond .lt 19, 3) := by decide +kernel
theorem dX7_hasPlaces_8 : decode cX7_hasPlaces 8 = .ok (.iload_n 2, 1) := by decide +kernel
theorem dX7_hasPlaces_9 : decode cX7_hasPlaces 9 = .ok (.aload_n 0, 1) := by decide +kernel
theorem dX7_hasPlaces_10 : decode cX7_hasPlaces 10 = .ok (.getfield 20, 3) := by decide +kernel
theorem dX7_hasPlaces_13 : decode cX7_hasPlaces 13 = .ok (.iload_n 1, 1) := by decide +kernel
theorem dX7_hasPlaces_14 : decode cX7_hasPlaces 14 = .ok (.iaload, 1) := by decide +kernel
theorem dX7_hasPlaces_15 : decode cX7_hasPlaces 15 = .ok (.iload_n 3, 1) := by decide +kernel
theorem dX7_hasPlaces_16 : decode cX7_hasPlaces 16 = .ok (.isub, 1) := by decide +kernel
theorem dX7_hasPlaces_17 : decode cX7_hasPlaces 17 = .ok (.if_icmp .gt 7, 3) := by decide +kernel
theorem dX7_hasPlaces_20 : decode cX7_hasPlaces 20 = .ok (.iconst 1, 1) := by decide +kernel
theorem dX7_hasPlaces_21 : decode cX7_hasPlaces 21 = .ok (.goto 4, 3) := by decide +kernel
theorem dX7_hasPlaces_24 : decode cX7_hasPlaces 24 = .ok (.iconst 0, 1) := by decide +kernel
theorem dX7_hasPlaces_25 : decode cX7_hasPlaces 25 = .ok (.ireturn, 1) := by decide +kernel
set_option maxRecDepth 20000 in
theorem ggX7_put_X7_narrowed : GoodIn wsX7_put wsX7_narrowed := goodIn_r _ [6] (by decide +kernel) (by decide +kernel)
set_option maxRecDepth 20000 in
theorem gX7_put_X7_narrowed : GoodIn wsX7_put (va_wsS RX7 37 yX7_narrowed wsX7_narrowed) := goodIn_app (goodIn_of _ (by decide +kernel)) ggX7_put_X7_narrowed
theorem dX7_put_0 : decode cX7_put 0 = .ok (.aload_n 0, 1) := by decide +kernel
theorem dX7_put_1 : decode cX7_put 1 = .ok (.getfield 11, 3) := by decide +kernel
theorem dX7_put_4 : decode cX7_put 4 = .ok (.iload_n 1, 1) := by decide +kernel
theorem dX7_put_5 : decode cX7_put 5 = .ok (.aaload, 1) := by decide +kernel
theorem dX7_put_6 : decode cX7_put 6 = .ok (.iload_n 2, 1) := by decide +kernel
theorem dX7_put_7 : decode cX7_put 7 = .ok (.aload_n 0, 1) := by decide +kernel
theorem dX7_put_8 : decode cX7_put 8 = .ok (.getfield 16, 3) := by decide +kernel
theorem dX7_put_11 : decode cX7_put 11 = .ok (.iload_n 1, 1) := by decide +kernel
theorem dX7_put_12 : decode cX7_put 12 = .ok (.iaload, 1) := by decide +kernel
theorem dX7_put_13 : decode cX7_put 13 = .ok (.iload_n 3, 1) := by decide +kernel
theorem dX7_put_14 : decode cX7_put 14 = .ok (.invokestatic 37, 3) := by decide +kernel
theorem dX7_put_17 : decode cX7_put 17 = .ok (.iastore, 1) := by decide +kernel
theorem dX7_put_18 : decode cX7_put 18 = .ok (.aload_n 0, 1) := by decide +kernel
theorem dX7_put_19 : decode cX7_put 19 = .ok (.getfield 11, 3) := by decide +kernel
theorem dX7_put_22 : decode cX7_put 22 = .ok (.iload_n 1, 1) := by decide +kernel
theorem dX7_put_23 : decode cX7_put 23 = .ok (.aaload, 1) := by decide +kernel
theorem dX7_put_24 : decode cX7_put 24 = .ok (.iload_n 2, 1) := by decide +kernel
theorem dX7_put_25 : decode cX7_put 25 = .ok (.iaload, 1) := by decide +kernel
theorem dX7_put_26 : decode cX7_put 26 = .ok (.ireturn, 1) := by decide +kernel
theorem dX7_narrowed_0 : decode cX7_narrowed 0 = .ok (.iload_n 0, 1) := by decide +kernel
theorem dX7_narrowed_1 : decode cX7_narrowed 1 = .ok (.ifCond .ne 6, 3) := by decide +kernel
theorem dX7_narrowed_4 : decode cX7_narrowed 4 = .ok (.iload_n 1, 1) := by decide +kernel
theorem dX7_narrowed_5 : decode cX7_narrowed 5 = .ok (.i2b, 1) := by decide +kernel
theorem dX7_narrowed_6 : decode cX7_narrowed 6 = .ok (.ireturn, 1) := by decide +kernel
theorem dX7_narrowed_7 : decode cX7_narrowed 7 = .ok (.iload_n 0, 1) := by decide +kernel
theorem dX7_narrowed_8 : decode cX7_narrowed 8 = .ok (.iconst 1, 1) := by decide +kernel
theorem dX7_narrowed_9 : decode cX7_narrowed 9 = .ok (.if_icmp .ne 8, 3) := by decide +kernel
theorem dX7_narrowed_12 : decode cX7_narrowed 12 = .ok (.iload_n 1, 1) := by decide +kernel
theorem dX7_narrowed_13 : decode cX7_narrowed 13 = .ok (.i2s, 1) := by decide +kernel
theorem dX7_narrowed_14 : decode cX7_narrowed 14 = .ok (.goto 4, 3) := by decide +kernel
theorem dX7_narrowed_17 : decode cX7_narrowed 17 = .ok (.iload_n 1, 1) := by decide +kernel
theorem dX7_narrowed_18 : decode cX7_narrowed 18 = .ok (.ireturn, 1) := by decide +kernel
theorem dX7_move_0 : decode cX7_move 0 = .ok (.aload_n 0, 1) := by decide +kernel
theorem dX7_move_1 : decode cX7_move 1 = .ok (.getfield 11, 3) := by decide +kernel
theorem dX7_move_4 : decode cX7_move 4 = .ok (.iload_n 1, 1) := by decide +kernel
theorem dX7_move_5 : decode cX7_move 5 = .ok (.aaload, 1) := by decide +kernel
theorem dX7_move_6 : decode cX7_move 6 = .ok (.iload_n 2, 1) := by decide +kernel
theorem dX7_move_7 : decode cX7_move 7 = .ok (.aload_n 0, 1) := by decide +kernel
theorem dX7_move_8 : decode cX7_move 8 = .ok (.getfield 11, 3) := by decide +kernel
theorem dX7_move_11 : decode cX7_move 11 = .ok (.iload_n 3, 1) := by decide +kernel
theorem dX7_move_12 : decode cX7_move 12 = .ok (.aaload, 1) := by decide +kernel
theorem dX7_move_13 : decode cX7_move 13 = .ok (.iload 4, 2) := by decide +kernel
theorem dX7_move_15 : decode cX7_move 15 = .ok (.iload 5, 2) := by decide +kernel
theorem dX7_move_17 : decode cX7_move 17 = .ok (.invokestatic 41, 3) := by decide +kernel
theorem dX7_move_20 : decode cX7_move 20 = .ok (.return_, 1) := by decide +kernel
set_option maxRecDepth 20000 in
theorem ggX7_areWithin_X11_within : GoodIn wsX7_areWithin wsX11_within := goodIn_r _ [4] (by decide +kernel) (by decide +kernel)
set_option maxRecDepth 20000 in
theorem gX7_areWithin_X11_within_n47 : GoodIn wsX7_areWithin (wsX11_within) := ggX7_areWithin_X11_within
theorem dX7_areWithin_0 : decode cX7_areWithin 0 = .ok (.iload_n 2, 1) := by decide +kernel
theorem dX7_areWithin_1 : decode cX7_areWithin 1 = .ok (.istore 5, 2) := by decide +kernel
theorem dX7_areWithin_3 : decode cX7_areWithin 3 = .ok (.iload 5, 2) := by decide +kernel
theorem dX7_areWithin_5 : decode cX7_areWithin 5 = .ok (.iload_n 2, 1) := by decide +kernel
theorem dX7_areWithin_6 : decode cX7_areWithin 6 = .ok (.iload_n 3, 1) := by decide +kernel
theorem dX7_areWithin_7 : decode cX7_areWithin 7 = .ok (.iadd, 1) := by decide +kernel
theorem dX7_areWithin_8 : decode cX7_areWithin 8 = .ok (.if_icmp .ge 29, 3) := by decide +kernel
theorem dX7_areWithin_11 : decode cX7_areWithin 11 = .ok (.aload_n 0, 1) := by decide +kernel
theorem dX7_areWithin_12 : decode cX7_areWithin 12 = .ok (.getfield 11, 3) := by decide +kernel
theorem dX7_areWithin_15 : decode cX7_areWithin 15 = .ok (.iload_n 1, 1) := by decide +kernel
theorem dX7_areWithin_16 : decode cX7_areWithin 16 = .ok (.aaload, 1) := by decide +kernel
theorem dX7_areWithin_17 : decode cX7_areWithin 17 = .ok (.iload 5, 2) := by decide +kernel
theorem dX7_areWithin_19 : decode cX7_areWithin 19 = .ok (.iaload, 1) := by decide +kernel
theorem dX7_areWithin_20 : decode cX7_areWithin 20 = .ok (.iconst 0, 1) := by decide +kernel
theorem dX7_areWithin_21 : decode cX7_areWithin 21 = .ok (.iload 4, 2) := by decide +kernel
theorem dX7_areWithin_23 : decode cX7_areWithin 23 = .ok (.invokestatic 47, 3) := by decide +kernel
theorem dX7_areWithin_26 : decode cX7_areWithin 26 = .ok (.ifCond .ne 5, 3) := by decide +kernel
theorem dX7_areWithin_29 : decode cX7_areWithin 29 = .ok (.iconst 0, 1) := by decide +kernel
theorem dX7_areWithin_30 : decode cX7_areWithin 30 = .ok (.ireturn, 1) := by decide +kernel
theorem dX7_areWithin_31 : decode cX7_areWithin 31 = .ok (.iinc 5 1, 3) := by decide +kernel
theorem dX7_areWithin_34 : decode cX7_areWithin 34 = .ok (.goto (-31), 3) := by decide +kernel
theorem dX7_areWithin_37 : decode cX7_areWithin 37 = .ok (.iconst 1, 1) := by decide +kernel
theorem dX7_areWithin_38 : decode cX7_areWithin 38 = .ok (.ireturn, 1) := by decide +kernel
theorem dX7_above_0 : decode cX7_above 0 = .ok (.iconst 0, 1) := by decide +kernel
theorem dX7_above_1 : decode cX7_above 1 = .ok (.istore 6, 2) := by decide +kernel
theorem dX7_above_3 : decode cX7_above 3 = .ok (.iload_n 2, 1) := by decide +kernel
theorem dX7_above_4 : decode cX7_above 4 = .ok (.istore 7, 2) := by decide +kernel
theorem dX7_above_6 : decode cX7_above 6 = .ok (.iload 7, 2) := by decide +kernel
theorem dX7_above_8 : decode cX7_above 8 = .ok (.iload_n 2, 1) := by decide +kernel
theorem dX7_above_9 : decode cX7_above 9 = .ok (.iload_n 3, 1) := by decide +kernel
theorem dX7_above_10 : decode cX7_above 10 = .ok (.iadd, 1) := by decide +kernel
theorem dX7_above_11 : decode cX7_above 11 = .ok (.if_icmp .ge 28, 3) := by decide +kernel
theorem dX7_above_14 : decode cX7_above 14 = .ok (.aload_n 0, 1) := by decide +kernel
theorem dX7_above_15 : decode cX7_above 15 = .ok (.getfield 11, 3) := by decide +kernel
theorem dX7_above_18 : decode cX7_above 18 = .ok (.iload_n 1, 1) := by decide +kernel
theorem dX7_above_19 : decode cX7_above 19 = .ok (.aaload, 1) := by decide +kernel
theorem dX7_above_20 : decode cX7_above 20 = .ok (.iload 7, 2) := by decide +kernel
theorem dX7_above_22 : decode cX7_above 22 = .ok (.iaload, 1) := by decide +kernel
theorem dX7_above_23 : decode cX7_above 23 = .ok (.i2l, 1) := by decide +kernel
theorem dX7_above_24 : decode cX7_above 24 = .ok (.lload 4, 2) := by decide +kernel
theorem dX7_above_26 : decode cX7_above 26 = .ok (.lcmp, 1) := by decide +kernel
theorem dX7_above_27 : decode cX7_above 27 = .ok (.ifCond .le 6, 3) := by decide +kernel
theorem dX7_above_30 : decode cX7_above 30 = .ok (.iinc 6 1, 3) := by decide +kernel
theorem dX7_above_33 : decode cX7_above 33 = .ok (.iinc 7 1, 3) := by decide +kernel
theorem dX7_above_36 : decode cX7_above 36 = .ok (.goto (-30), 3) := by decide +kernel
theorem dX7_above_39 : decode cX7_above 39 = .ok (.iload 6, 2) := by decide +kernel
theorem dX7_above_41 : decode cX7_above 41 = .ok (.ireturn, 1) := by decide +kernel
set_option maxRecDepth 20000 in
theorem ggX7_present_X7_isMissing : GoodIn wsX7_present wsX7_isMissing := goodIn_r _ [5, 6, 7, 8, 9] (by decide +kernel) (by decide +kernel)
set_option maxRecDepth 20000 in
theorem gX7_present_X7_isMissing : GoodIn wsX7_present (wsV RX7 29 RX7 yX7_isMissing wsX7_isMissing) := goodIn_app (goodIn_of _ (by decide +kernel)) ggX7_present_X7_isMissing
theorem dX7_present_0 : decode cX7_present 0 = .ok (.iconst 0, 1) := by decide +kernel
theorem dX7_present_1 : decode cX7_present 1 = .ok (.istore_n 1, 1) := by decide +kernel
theorem dX7_present_2 : decode cX7_present 2 = .ok (.iconst 0, 1) := by decide +kernel
theorem dX7_present_3 : decode cX7_present 3 = .ok (.istore_n 2, 1) := by decide +kernel
theorem dX7_present_4 : decode cX7_present 4 = .ok (.iload_n 2, 1) := by decide +kernel
theorem dX7_present_5 : decode cX7_present 5 = .ok (.bipush 8, 2) := by decide +kernel
theorem dX7_present_7 : decode cX7_present 7 = .ok (.if_icmp .ge 20, 3) := by decide +kernel
theorem dX7_present_10 : decode cX7_present 10 = .ok (.aload_n 0, 1) := by decide +kernel
theorem dX7_present_11 : decode cX7_present 11 = .ok (.iload_n 2, 1) := by decide +kernel
theorem dX7_present_12 : decode cX7_present 12 = .ok (.invokevirtual 29, 3) := by decide +kernel
theorem dX7_present_15 : decode cX7_present 15 = .ok (.ifCond .ne 6, 3) := by decide +kernel
theorem dX7_present_18 : decode cX7_present 18 = .ok (.iinc 1 1, 3) := by decide +kernel
theorem dX7_present_21 : decode cX7_present 21 = .ok (.iinc 2 1, 3) := by decide +kernel
theorem dX7_present_24 : decode cX7_present 24 = .ok (.goto (-20), 3) := by decide +kernel
theorem dX7_present_27 : decode cX7_present 27 = .ok (.iload_n 1, 1) := by decide +kernel
theorem dX7_present_28 : decode cX7_present 28 = .ok (.ireturn, 1) := by decide +kernel
theorem dX4_init_0 : decode cX4_init 0 = .ok (.aload_n 0, 1) := by decide +kernel
theorem dX4_init_1 : decode cX4_init 1 = .ok (.invokespecial 3, 3) := by decide +kernel
theorem dX4_init_4 : decode cX4_init 4 = .ok (.aload_n 0, 1) := by decide +kernel
theorem dX4_init_5 : decode cX4_init 5 = .ok (.bipush 8, 2) := by decide +kernel
theorem dX4_init_7 : decode cX4_init 7 = .ok (.bipush 8, 2) := by decide +kernel
theorem dX4_init_9 : decode cX4_init 9 = .ok (.multianewarray 9 2, 4) := by decide +kernel
theorem dX4_init_13 : decode cX4_init 13 = .ok (.putfield 11, 3) := by decide +kernel
theorem dX4_init_16 : decode cX4_init 16 = .ok (.aload_n 0, 1) := by decide +kernel
theorem dX4_init_17 : decode cX4_init 17 = .ok (.bipush 8, 2) := by decide +kernel
theorem dX4_init_19 : decode cX4_init 19 = .ok (.bipush 15, 2) := by decide +kernel
theorem dX4_init_21 : decode cX4_init 21 = .ok (.multianewarray 16 2, 4) := by decide +kernel
theorem dX4_init_25 : decode cX4_init 25 = .ok (.putfield 18, 3) := by decide +kernel
theorem dX4_init_28 : decode cX4_init 28 = .ok (.aload_n 0, 1) := by decide +kernel
theorem dX4_init_29 : decode cX4_init 29 = .ok (.bipush 8, 2) := by decide +kernel
theorem dX4_init_31 : decode cX4_init 31 = .ok (.bipush 15, 2) := by decide +kernel
theorem dX4_init_33 : decode cX4_init 33 = .ok (.multianewarray 16 2, 4) := by decide +kernel
theorem dX4_init_37 : decode cX4_init 37 = .ok (.putfield 21, 3) := by decide +kernel
theorem dX4_init_40 : decode cX4_init 40 = .ok (.aload_n 0, 1) := by decide +kernel
theorem dX4_init_41 : decode cX4_init 41 = .ok (.lconst 0, 1) := by decide +kernel
theorem dX4_init_42 : decode cX4_init 42 = .ok (.putfield 24, 3) := by decide +kernel
theorem dX4_init_45 : decode cX4_init 45 = .ok (.aload_n 0, 1) := by decide +kernel
theorem dX4_init_46 : decode cX4_init 46 = .ok (.iconst 0, 1) := by decide +kernel
theorem dX4_init_47 : decode cX4_init 47 = .ok (.putfield 28, 3) := by decide +kernel
theorem dX4_init_50 : decode cX4_init 50 = .ok (.aload_n 0, 1) := by decide +kernel
theorem dX4_init_51 : decode cX4_init 51 = .ok (.aload_n 1, 1) := by decide +kernel
theorem dX4_init_52 : decode cX4_init 52 = .ok (.putfield 32, 3) := by decide +kernel
theorem dX4_init_55 : decode cX4_init 55 = .ok (.aload_n 0, 1) := by decide +kernel
theorem dX4_init_56 : decode cX4_init 56 = .ok (.aload_n 2, 1) := by decide +kernel
theorem dX4_init_57 : decode cX4_init 57 = .ok (.putfield 36, 3) := by decide +kernel
theorem dX4_init_60 : decode cX4_init 60 = .ok (.return_, 1) := by decide +kernel
set_option maxRecDepth 20000 in
theorem ggX4_refresh_X4_decideHour : GoodIn wsX4_refresh wsX4_decideHour := goodIn_r _ [11, 3, 4, 6, 12, 13, 14, 15, 16, 17, 5, 18, 19, 20, 10, 21, 22, 23, 24, 25, 26, 27, 28, 29, 30, 31, 32, 33, 34, 35, 36, 37, 38, 39, 40, 41, 42, 43, 44, 45, 46, 47, 48, 49, 50, 51, 52, 53, 54, 55, 56, 57, 58, 59, 60, 61, 62, 63, 64, 65, 66, 67, 68, 69, 70, 71, 72, 73, 74, 75, 76, 77, 78, 79, 80] (by decide +kernel) (by decide +kernel)
set_option maxRecDepth 20000 in
theorem gX4_refresh_X4_decideHour : GoodIn wsX4_refresh (wsV RX4 40 RX4 yX4_decideHour wsX4_decideHour) := goodIn_app (goodIn_of _ (by decide +kernel)) ggX4_refresh_X4_decideHour
theorem dX4_refresh_0 : decode cX4_refresh 0 = .ok (.aload_n 0, 1) := by decide +kernel
theorem dX4_refresh_1 : decode cX4_refresh 1 = .ok (.getfield 28, 3) := by decide +kernel
theorem dX4_refresh_4 : decode cX4_refresh 4 = .ok (.ifCond .ne 4, 3) := by decide +kernel
theorem dX4_refresh_7 : decode cX4_refresh 7 = .ok (.return_, 1) := by decide +kernel
theorem dX4_refresh_8 : decode cX4_refresh 8 = .ok (.bipush 7, 2) := by decide +kernel
theorem dX4_refresh_10 : decode cX4_refresh 10 = .ok (.istore_n 1, 1) := by decide +kernel
theorem dX4_refresh_11 : decode cX4_refresh 11 = .ok (.iload_n 1, 1) := by decide +kernel
theorem dX4_refresh_12 : decode cX4_refresh 12 = .ok (.ifCond .lt 14, 3) := by decide +kernel
theorem dX4_refresh_15 : decode cX4_refresh 15 = .ok (.aload_n 0, 1) := by decide +kernel
theorem dX4_refresh_16 : decode cX4_refresh 16 = .ok (.iload_n 1, 1) := by decide +kernel
theorem dX4_refresh_17 : decode cX4_refresh 17 = .ok (.invokevirtual 40, 3) := by decide +kernel
theorem dX4_refresh_20 : decode cX4_refresh 20 = .ok (.iinc 1 (-1), 3) := by decide +kernel
theorem dX4_refresh_23 : decode cX4_refresh 23 = .ok (.goto (-12), 3) := by decide +kernel
theorem dX4_refresh_26 : decode cX4_refresh 26 = .ok (.aload_n 0, 1) := by decide +kernel
theorem dX4_refresh_27 : decode cX4_refresh 27 = .ok (.lconst 0, 1) := by decide +kernel
theorem dX4_refresh_28 : decode cX4_refresh 28 = .ok (.putfield 24, 3) := by decide +kernel
theorem dX4_refresh_31 : decode cX4_refresh 31 = .ok (.iconst 0, 1) := by decide +kernel
theorem dX4_refresh_32 : decode cX4_refresh 32 = .ok (.istore_n 1, 1) := by decide +kernel
theorem dX4_refresh_33 : decode cX4_refresh 33 = .ok (.iload_n 1, 1) := by decide +kernel
theorem dX4_refresh_34 : decode cX4_refresh 34 = .ok (.aload_n 0, 1) := by decide +kernel
theorem dX4_refresh_35 : decode cX4_refresh 35 = .ok (.getfield 32, 3) := by decide +kernel
theorem dX4_refresh_38 : decode cX4_refresh 38 = .ok (.getfield 44, 3) := by decide +kernel
theorem dX4_refresh_41 : decode cX4_refresh 41 = .ok (.if_icmp .ge 41, 3) := by decide +kernel
theorem dX4_refresh_44 : decode cX4_refresh 44 = .ok (.aload_n 0, 1) := by decide +kernel
theorem dX4_refresh_45 : decode cX4_refresh 45 = .ok (.getfield 32, 3) := by decide +kernel
theorem dX4_refresh_48 : decode cX4_refresh 48 = .ok (.getfield 50, 3) := by decide +kernel
theorem dX4_refresh_51 : decode cX4_refresh 51 = .ok (.iconst 0, 1) := by decide +kernel
theorem dX4_refresh_52 : decode cX4_refresh 52 = .ok (.aaload, 1) := by decide +kernel
theorem dX4_refresh_53 : decode cX4_refresh 53 = .ok (.iload_n 1, 1) := by decide +kernel
theorem dX4_refresh_54 : decode cX4_refresh 54 = .ok (.iaload, 1) := by decide +kernel
theorem dX4_refresh_55 : decode cX4_refresh 55 = .ok (.iload_n 1, 1) := by decide +kernel
theorem dX4_refresh_56 : decode cX4_refresh 56 = .ok (.if_icmp .ne 20, 3) := by decide +kernel
theorem dX4_refresh_59 : decode cX4_refresh 59 = .ok (.aload_n 0, 1) := by decide +kernel
theorem dX4_refresh_60 : decode cX4_refresh 60 = .ok (.dup, 1) := by decide +kernel
theorem dX4_refresh_61 : decode cX4_refresh 61 = .ok (.getfield 24, 3) := by decide +kernel
theorem dX4_refresh_64 : decode cX4_refresh 64 = .ok (.aload_n 0, 1) := by decide +kernel
theorem dX4_refresh_65 : decode cX4_refresh 65 = .ok (.getfield 18, 3) := by decide +kernel
theorem dX4_refresh_68 : decode cX4_refresh 68 = .ok (.iload_n 1, 1) := by decide +kernel
theorem dX4_refresh_69 : decode cX4_refresh 69 = .ok (.aaload, 1) := by decide +kernel
theorem dX4_refresh_70 : decode cX4_refresh 70 = .ok (.iconst 0, 1) := by decide +kernel
theorem dX4_refresh_71 : decode cX4_refresh 71 = .ok (.laload, 1) := by decide +kernel
theorem dX4_refresh_72 : decode cX4_refresh 72 = .ok (.ladd, 1) := by decide +kernel
theorem dX4_refresh_73 : decode cX4_refresh 73 = .ok (.putfield 24, 3) := by decide +kernel
theorem dX4_refresh_76 : decode cX4_refresh 76 = .ok (.iinc 1 1, 3) := by decide +kernel
theorem dX4_refresh_79 : decode cX4_refresh 79 = .ok (.goto (-46), 3) := by decide +kernel
theorem dX4_refresh_82 : decode cX4_refresh 82 = .ok (.aload_n 0, 1) := by decide +kernel
theorem dX4_refresh_83 : decode cX4_refresh 83 = .ok (.iconst 0, 1) := by decide +kernel
theorem dX4_refresh_84 : decode cX4_refresh 84 = .ok (.putfield 28, 3) := by decide +kernel
theorem dX4_refresh_87 : decode cX4_refresh 87 = .ok (.return_, 1) := by decide +kernel
set_option maxRecDepth 20000 in
theorem ggX4_decideHour_X4_decideGroup : GoodIn wsX4_decideHour wsX4_decideGroup := goodIn_r _ [15, 1, 9, 3, 16, 17, 18, 19, 20, 21, 22, 23, 24, 25, 26, 14, 27, 28, 2, 10, 4, 29, 30, 31, 32, 33, 34, 35, 36, 37, 38, 39, 40, 41, 42, 43, 44, 45, 46, 47, 48, 49, 50, 51, 52, 53, 54, 55, 56, 57, 58, 59, 60, 61, 62, 63, 64, 65, 66, 67, 68, 69, 70, 71, 72, 73, 74] (by decide +kernel) (by decide +kernel)
set_option maxRecDepth 20000 in
theorem gX4_decideHour_X4_decideGroup : GoodIn wsX4_decideHour (wsV RX4 59 RX4 yX4_decideGroup wsX4_decideGroup) := goodIn_app (goodIn_of _ (by decide +kernel)) ggX4_decideHour_X4_decideGroup
theorem dX4_decideHour_0 : decode cX4_decideHour 0 = .ok (.iconst 0, 1) := by decide +kernel
theorem dX4_decideHour_1 : decode cX4_decideHour 1 = .ok (.istore_n 2, 1) := by decide +kernel
theorem dX4_decideHour_2 : decode cX4_decideHour 2 = .ok (.iload_n 2, 1) := by decide +kernel
theorem dX4_decideHour_3 : decode cX4_decideHour 3 = .ok (.aload_n 0, 1) := by decide +kernel
theorem dX4_decideHour_4 : decode cX4_decideHour 4 = .ok (.getfield 32, 3) := by decide +kernel
theorem dX4_decideHour_7 : decode cX4_decideHour 7 = .ok (.getfield 44, 3) := by decide +kernel
theorem dX4_decideHour_10 : decode cX4_decideHour 10 = .ok (.if_icmp .ge 28, 3) := by decide +kernel
theorem dX4_decideHour_13 : decode cX4_decideHour 13 = .ok (.aload_n 0, 1) := by decide +kernel
theorem dX4_decideHour_14 : decode cX4_decideHour 14 = .ok (.getfield 18, 3) := by decide +kernel
theorem dX4_decideHour_17 : decode cX4_decideHour 17 = .ok (.iload_n 2, 1) := by decide +kernel
theorem dX4_decideHour_18 : decode cX4_decideHour 18 = .ok (.aaload, 1) := by decide +kernel
theorem dX4_decideHour_19 : decode cX4_decideHour 19 = .ok (.iconst 0, 1) := by decide +kernel
theorem dX4_decideHour_20 : decode cX4_decideHour 20 = .ok (.aload_n 0, 1) := by decide +kernel
theorem dX4_decideHour_21 : decode cX4_decideHour 21 = .ok (.getfield 21, 3) := by decide +kernel
theorem dX4_decideHour_24 : decode cX4_decideHour 24 = .ok (.iload_n 2, 1) := by decide +kernel
theorem dX4_decideHour_25 : decode cX4_decideHour 25 = .ok (.aaload, 1) := by decide +kernel
theorem dX4_decideHour_26 : decode cX4_decideHour 26 = .ok (.iconst 0, 1) := by decide +kernel
theorem dX4_decideHour_27 : decode cX4_decideHour 27 = .ok (.bipush 15, 2) := by decide +kernel
theorem dX4_decideHour_29 : decode cX4_decideHour 29 = .ok (.invokestatic 53, 3) := by decide +kernel
theorem dX4_decideHour_32 : decode cX4_decideHour 32 = .ok (.iinc 2 1, 3) := by decide +kernel
theorem dX4_decideHour_35 : decode cX4_decideHour 35 = .ok (.goto (-33), 3) := by decide +kernel
theorem dX4_decideHour_38 : decode cX4_decideHour 38 = .ok (.iconst 0, 1) := by decide +kernel
theorem dX4_decideHour_39 : decode cX4_decideHour 39 = .ok (.istore_n 2, 1) := by decide +kernel
theorem dX4_decideHour_40 : decode cX4_decideHour 40 = .ok (.iload_n 2, 1) := by decide +kernel
theorem dX4_decideHour_41 : decode cX4_decideHour 41 = .ok (.aload_n 0, 1) := by decide +kernel
theorem dX4_decideHour_42 : decode cX4_decideHour 42 = .ok (.getfield 32, 3) := by decide +kernel
theorem dX4_decideHour_45 : decode cX4_decideHour 45 = .ok (.getfield 44, 3) := by decide +kernel
theorem dX4_decideHour_48 : decode cX4_decideHour 48 = .ok (.if_icmp .ge 39, 3) := by decide +kernel
theorem dX4_decideHour_51 : decode cX4_decideHour 51 = .ok (.aload_n 0, 1) := by decide +kernel
theorem dX4_decideHour_52 : decode cX4_decideHour 52 = .ok (.getfield 11, 3) := by decide +kernel
theorem dX4_decideHour_55 : decode cX4_decideHour 55 = .ok (.iload_n 1, 1) := by decide +kernel
theorem dX4_decideHour_56 : decode cX4_decideHour 56 = .ok (.aaload, 1) := by decide +kernel
theorem dX4_decideHour_57 : decode cX4_decideHour 57 = .ok (.iload_n 2, 1) := by decide +kernel
theorem dX4_decideHour_58 : decode cX4_decideHour 58 = .ok (.iconst 0, 1) := by decide +kernel
theorem dX4_decideHour_59 : decode cX4_decideHour 59 = .ok (.iastore, 1) := by decide +kernel
theorem dX4_decideHour_60 : decode cX4_decideHour 60 = .ok (.aload_n 0, 1) := by decide +kernel
theorem dX4_decideHour_61 : decode cX4_decideHour 61 = .ok (.getfield 32, 3) := by decide +kernel
theorem dX4_decideHour_64 : decode cX4_decideHour 64 = .ok (.getfield 50, 3) := by decide +kernel
theorem dX4_decideHour_67 : decode cX4_decideHour 67 = .ok (.iload_n 1, 1) := by decide +kernel
theorem dX4_decideHour_68 : decode cX4_decideHour 68 = .ok (.aaload, 1) := by decide +kernel
theorem dX4_decideHour_69 : decode cX4_decideHour 69 = .ok (.iload_n 2, 1) := by decide +kernel
theorem dX4_decideHour_70 : decode cX4_decideHour 70 = .ok (.iaload, 1) := by decide +kernel
theorem dX4_decideHour_71 : decode cX4_decideHour 71 = .ok (.iload_n 2, 1) := by decide +kernel
theorem dX4_decideHour_72 : decode cX4_decideHour 72 = .ok (.if_icmp .ne 9, 3) := by decide +kernel
theorem dX4_decideHour_75 : decode cX4_decideHour 75 = .ok (.aload_n 0, 1) := by decide +kernel
theorem dX4_decideHour_76 : decode cX4_decideHour 76 = .ok (.iload_n 1, 1) := by decide +kernel
theorem dX4_decideHour_77 : decode cX4_decideHour 77 = .ok (.iload_n 2, 1) := by decide +kernel
theorem dX4_decideHour_78 : decode cX4_decideHour 78 = .ok (.invokevirtual 59, 3) := by decide +kernel
theorem dX4_decideHour_81 : decode cX4_decideHour 81 = .ok (.iinc 2 1, 3) := by decide +kernel
theorem dX4_decideHour_84 : decode cX4_decideHour 84 = .ok (.goto (-44), 3) := by decide +kernel
theorem dX4_decideHour_87 : decode cX4_decideHour 87 = .ok (.return_, 1) := by decide +kernel
set_option maxRecDepth 20000 in
theorem ggX4_decideGroup_X6_weightOfGroup : GoodIn wsX4_decideGroup wsX6_weightOfGroup := goodIn_r _ [8, 9, 10, 11, 60, 61, 62, 63] (by decide +kernel) (by decide +kernel)
set_option maxRecDepth 20000 in
theorem gX4_decideGroup_X6_weightOfGroup : GoodIn wsX4_decideGroup (wsV RX4 63 RX6 yX6_weightOfGroup wsX6_weightOfGroup) := goodIn_app (goodIn_of _ (by decide +kernel)) ggX4_decideGroup_X6_weightOfGroup
set_option maxRecDepth 20000 in
theorem ggX4_decideGroup_X4_lossFrom : GoodIn wsX4_decideGroup wsX4_lossFrom := goodIn_r _ [16, 17, 1, 18, 19, 20, 21, 22, 23, 24, 25, 26, 27, 28, 29, 30, 31, 32, 33, 34, 35, 36, 37, 38, 39, 40, 41, 42, 43, 44, 45, 46, 47, 48, 49, 50, 51, 53, 54, 55, 56, 57, 58, 59, 60, 61, 62, 63, 64, 65, 66] (by decide +kernel) (by decide +kernel)
set_option maxRecDepth 20000 in
theorem gX4_decideGroup_X4_lossFrom : GoodIn wsX4_decideGroup (wsV RX4 67 RX4 yX4_lossFrom wsX4_lossFrom) := goodIn_app (goodIn_of _ (by decide +kernel)) ggX4_decideGroup_X4_lossFrom
set_option maxRecDepth 20000 in
theorem ggX4_decideGroup_X0_mayBeTold : GoodIn wsX4_decideGroup wsX0_mayBeTold := goodIn_r _ [51] (by decide +kernel) (by decide +kernel)
set_option maxRecDepth 20000 in
theorem gX4_decideGroup_X0_mayBeTold : GoodIn wsX4_decideGroup (va_wsS RX4 71 yX0_mayBeTold wsX0_mayBeTold) := goodIn_app (goodIn_of _ (by decide +kernel)) ggX4_decideGroup_X0_mayBeTold
theorem dX4_decideGroup_0 : decode cX4_decideGroup 0 = .ok (.aload_n 0, 1) := by decide +kernel
theorem dX4_decideGroup_1 : decode cX4_decideGroup 1 = .ok (.getfield 32, 3) := by decide +kernel
theorem dX4_decideGroup_4 : decode cX4_decideGroup 4 = .ok (.iload_n 1, 1) := by decide +kernel
theorem dX4_decideGroup_5 : decode cX4_decideGroup 5 = .ok (.iload_n 2, 1) := by decide +kernel
theorem dX4_decideGroup_6 : decode cX4_decideGroup 6 = .ok (.invokevirtual 63, 3) := by decide +kernel
theorem dX4_decideGroup_9 : decode cX4_decideGroup 9 = .ok (.istore_n 3, 1) := by decide +kernel
theorem dX4_decideGroup_10 : decode cX4_decideGroup 10 = .ok (.iconst 0, 1) := by decide +kernel
theorem dX4_decideGroup_11 : decode cX4_decideGroup 11 = .ok (.istore 4, 2) := by decide +kernel
theorem dX4_decideGroup_13 : decode cX4_decideGroup 13 = .ok (.iload 4, 2) := by decide +kernel
theorem dX4_decideGroup_15 : decode cX4_decideGroup 15 = .ok (.bipush 7, 2) := by decide +kernel
theorem dX4_decideGroup_17 : decode cX4_decideGroup 17 = .ok (.iload_n 1, 1) := by decide +kernel
theorem dX4_decideGroup_18 : decode cX4_decideGroup 18 = .ok (.iadd, 1) := by decide +kernel
theorem dX4_decideGroup_19 : decode cX4_decideGroup 19 = .ok (.if_icmp .ge 79, 3) := by decide +kernel
theorem dX4_decideGroup_22 : decode cX4_decideGroup 22 = .ok (.aload_n 0, 1) := by decide +kernel
theorem dX4_decideGroup_23 : decode cX4_decideGroup 23 = .ok (.iload_n 1, 1) := by decide +kernel
theorem dX4_decideGroup_24 : decode cX4_decideGroup 24 = .ok (.iload_n 2, 1) := by decide +kernel
theorem dX4_decideGroup_25 : decode cX4_decideGroup 25 = .ok (.iload_n 3, 1) := by decide +kernel
theorem dX4_decideGroup_26 : decode cX4_decideGroup 26 = .ok (.iload 4, 2) := by decide +kernel
theorem dX4_decideGroup_28 : decode cX4_decideGroup 28 = .ok (.iconst 0, 1) := by decide +kernel
theorem dX4_decideGroup_29 : decode cX4_decideGroup 29 = .ok (.invokevirtual 67, 3) := by decide +kernel
theorem dX4_decideGroup_32 : decode cX4_decideGroup 32 = .ok (.lstore 5, 2) := by decide +kernel
theorem dX4_decideGroup_34 : decode cX4_decideGroup 34 = .ok (.iload 4, 2) := by decide +kernel
theorem dX4_decideGroup_36 : decode cX4_decideGroup 36 = .ok (.invokestatic 71, 3) := by decide +kernel
theorem dX4_decideGroup_39 : decode cX4_decideGroup 39 = .ok (.ifCond .eq 42, 3) := by decide +kernel
theorem dX4_decideGroup_42 : decode cX4_decideGroup 42 = .ok (.aload_n 0, 1) := by decide +kernel
theorem dX4_decideGroup_43 : decode cX4_decideGroup 43 = .ok (.iload_n 1, 1) := by decide +kernel
theorem dX4_decideGroup_44 : decode cX4_decideGroup 44 = .ok (.iload_n 2, 1) := by decide +kernel
theorem dX4_decideGroup_45 : decode cX4_decideGroup 45 = .ok (.iload_n 3, 1) := by decide +kernel
theorem dX4_decideGroup_46 : decode cX4_decideGroup 46 = .ok (.iload 4, 2) := by decide +kernel
theorem dX4_decideGroup_48 : decode cX4_decideGroup 48 = .ok (.iconst 1, 1) := by decide +kernel
theorem dX4_decideGroup_49 : decode cX4_decideGroup 49 = .ok (.invokevirtual 67, 3) := by decide +kernel
theorem dX4_decideGroup_52 : decode cX4_decideGroup 52 = .ok (.lstore 7, 2) := by decide +kernel
theorem dX4_decideGroup_54 : decode cX4_decideGroup 54 = .ok (.lload 7, 2) := by decide +kernel
theorem dX4_decideGroup_56 : decode cX4_decideGroup 56 = .ok (.lload 5, 2) := by decide +kernel
theorem dX4_decideGroup_58 : decode cX4_decideGroup 58 = .ok (.lcmp, 1) := by decide +kernel
theorem dX4_decideGroup_59 : decode cX4_decideGroup 59 = .ok (.ifCond .ge 22, 3) := by decide +kernel
theorem dX4_decideGroup_62 : decode cX4_decideGroup 62 = .ok (.lload 7, 2) := by decide +kernel
theorem dX4_decideGroup_64 : decode cX4_decideGroup 64 = .ok (.lstore 5, 2) := by decide +kernel
theorem dX4_decideGroup_66 : decode cX4_decideGroup 66 = .ok (.aload_n 0, 1) := by decide +kernel
theorem dX4_decideGroup_67 : decode cX4_decideGroup 67 = .ok (.getfield 11, 3) := by decide +kernel
theorem dX4_decideGroup_70 : decode cX4_decideGroup 70 = .ok (.iload_n 1, 1) := by decide +kernel
theorem dX4_decideGroup_71 : decode cX4_decideGroup 71 = .ok (.aaload, 1) := by decide +kernel
theorem dX4_decideGroup_72 : decode cX4_decideGroup 72 = .ok (.iload_n 2, 1) := by decide +kernel
theorem dX4_decideGroup_73 : decode cX4_decideGroup 73 = .ok (.dup2, 1) := by decide +kernel
theorem dX4_decideGroup_74 : decode cX4_decideGroup 74 = .ok (.iaload, 1) := by decide +kernel
theorem dX4_decideGroup_75 : decode cX4_decideGroup 75 = .ok (.iconst 1, 1) := by decide +kernel
theorem dX4_decideGroup_76 : decode cX4_decideGroup 76 = .ok (.iload 4, 2) := by decide +kernel
theorem dX4_decideGroup_78 : decode cX4_decideGroup 78 = .ok (.ishl, 1) := by decide +kernel
theorem dX4_decideGroup_79 : decode cX4_decideGroup 79 = .ok (.ior, 1) := by decide +kernel
theorem dX4_decideGroup_80 : decode cX4_decideGroup 80 = .ok (.iastore, 1) := by decide +kernel
theorem dX4_decideGroup_81 : decode cX4_decideGroup 81 = .ok (.aload_n 0, 1) := by decide +kernel
theorem dX4_decideGroup_82 : decode cX4_decideGroup 82 = .ok (.getfield 18, 3) := by decide +kernel
theorem dX4_decideGroup_85 : decode cX4_decideGroup 85 = .ok (.iload_n 2, 1) := by decide +kernel
theorem dX4_decideGroup_86 : decode cX4_decideGroup 86 = .ok (.aaload, 1) := by decide +kernel
theorem dX4_decideGroup_87 : decode cX4_decideGroup 87 = .ok (.iload 4, 2) := by decide +kernel
theorem dX4_decideGroup_89 : decode cX4_decideGroup 89 = .ok (.lload 5, 2) := by decide +kernel
theorem dX4_decideGroup_91 : decode cX4_decideGroup 91 = .ok (.lastore, 1) := by decide +kernel
theorem dX4_decideGroup_92 : decode cX4_decideGroup 92 = .ok (.iinc 4 1, 3) := by decide +kernel
theorem dX4_decideGroup_95 : decode cX4_decideGroup 95 = .ok (.goto (-82), 3) := by decide +kernel
theorem dX4_decideGroup_98 : decode cX4_decideGroup 98 = .ok (.return_, 1) := by decide +kernel
set_option maxRecDepth 20000 in
theorem ggX4_lossFrom_X0_lost : GoodIn wsX4_lossFrom wsX0_lost := goodIn_r _ [10, 11, 12, 13, 14, 15, 16, 17, 18, 9, 19, 20, 21, 22, 23, 24, 25, 26, 27, 28, 29, 48, 49, 50, 44, 45, 46, 47] (by decide +kernel) (by decide +kernel)
set_option maxRecDepth 20000 in
theorem gX4_lossFrom_X0_lost : GoodIn wsX4_lossFrom (wsV RX4 77 RX0 yX0_lost wsX0_lost) := goodIn_app (goodIn_of _ (by decide +kernel)) ggX4_lossFrom_X0_lost
set_option maxRecDepth 20000 in
theorem ggX4_lossFrom_X0_stands : GoodIn wsX4_lossFrom wsX0_stands := goodIn_r _ [19, 11, 48, 49, 50] (by decide +kernel) (by decide +kernel)
set_option maxRecDepth 20000 in
theorem gX4_lossFrom_X0_stands : GoodIn wsX4_lossFrom (wsV RX4 81 RX0 yX0_stands wsX0_stands) := goodIn_app (goodIn_of _ (by decide +kernel)) ggX4_lossFrom_X0_stands
set_option maxRecDepth 20000 in
theorem ggX4_lossFrom_X0_next : GoodIn wsX4_lossFrom wsX0_next := goodIn_r _ [33, 34, 35, 9, 36] (by decide +kernel) (by decide +kernel)
set_option maxRecDepth 20000 in
theorem gX4_lossFrom_X0_next : GoodIn wsX4_lossFrom (va_wsS RX4 85 yX0_next wsX0_next) := goodIn_app (goodIn_of _ (by decide +kernel)) ggX4_lossFrom_X0_next
theorem dX4_lossFrom_0 : decode cX4_lossFrom 0 = .ok (.iload_n 3, 1) := by decide +kernel
theorem dX4_lossFrom_1 : decode cX4_lossFrom 1 = .ok (.i2l, 1) := by decide +kernel
theorem dX4_lossFrom_2 : decode cX4_lossFrom 2 = .ok (.aload_n 0, 1) := by decide +kernel
theorem dX4_lossFrom_3 : decode cX4_lossFrom 3 = .ok (.getfield 36, 3) := by decide +kernel
theorem dX4_lossFrom_6 : decode cX4_lossFrom 6 = .ok (.iload_n 2, 1) := by decide +kernel
theorem dX4_lossFrom_7 : decode cX4_lossFrom 7 = .ok (.iload_n 1, 1) := by decide +kernel
theorem dX4_lossFrom_8 : decode cX4_lossFrom 8 = .ok (.iload 4, 2) := by decide +kernel
theorem dX4_lossFrom_10 : decode cX4_lossFrom 10 = .ok (.iload 5, 2) := by decide +kernel
theorem dX4_lossFrom_12 : decode cX4_lossFrom 12 = .ok (.invokevirtual 77, 3) := by decide +kernel
theorem dX4_lossFrom_15 : decode cX4_lossFrom 15 = .ok (.i2l, 1) := by decide +kernel
theorem dX4_lossFrom_16 : decode cX4_lossFrom 16 = .ok (.lmul, 1) := by decide +kernel
theorem dX4_lossFrom_17 : decode cX4_lossFrom 17 = .ok (.lstore 6, 2) := by decide +kernel
theorem dX4_lossFrom_19 : decode cX4_lossFrom 19 = .ok (.iload_n 1, 1) := by decide +kernel
theorem dX4_lossFrom_20 : decode cX4_lossFrom 20 = .ok (.bipush 7, 2) := by decide +kernel
theorem dX4_lossFrom_22 : decode cX4_lossFrom 22 = .ok (.if_icmp .ne 6, 3) := by decide +kernel
theorem dX4_lossFrom_25 : decode cX4_lossFrom 25 = .ok (.lload 6, 2) := by decide +kernel
theorem dX4_lossFrom_27 : decode cX4_lossFrom 27 = .ok (.lreturn, 1) := by decide +kernel
theorem dX4_lossFrom_28 : decode cX4_lossFrom 28 = .ok (.aload_n 0, 1) := by decide +kernel
theorem dX4_lossFrom_29 : decode cX4_lossFrom 29 = .ok (.getfield 36, 3) := by decide +kernel
theorem dX4_lossFrom_32 : decode cX4_lossFrom 32 = .ok (.iload 4, 2) := by decide +kernel
theorem dX4_lossFrom_34 : decode cX4_lossFrom 34 = .ok (.iload 5, 2) := by decide +kernel
theorem dX4_lossFrom_36 : decode cX4_lossFrom 36 = .ok (.invokevirtual 81, 3) := by decide +kernel
theorem dX4_lossFrom_39 : decode cX4_lossFrom 39 = .ok (.iload_n 1, 1) := by decide +kernel
theorem dX4_lossFrom_40 : decode cX4_lossFrom 40 = .ok (.invokestatic 85, 3) := by decide +kernel
theorem dX4_lossFrom_43 : decode cX4_lossFrom 43 = .ok (.istore 8, 2) := by decide +kernel
theorem dX4_lossFrom_45 : decode cX4_lossFrom 45 = .ok (.iload_n 2, 1) := by decide +kernel
theorem dX4_lossFrom_46 : decode cX4_lossFrom 46 = .ok (.istore 9, 2) := by decide +kernel
theorem dX4_lossFrom_48 : decode cX4_lossFrom 48 = .ok (.iload 9, 2) := by decide +kernel
theorem dX4_lossFrom_50 : decode cX4_lossFrom 50 = .ok (.aload_n 0, 1) := by decide +kernel
theorem dX4_lossFrom_51 : decode cX4_lossFrom 51 = .ok (.getfield 32, 3) := by decide +kernel
theorem dX4_lossFrom_54 : decode cX4_lossFrom 54 = .ok (.getfield 44, 3) := by decide +kernel
theorem dX4_lossFrom_57 : decode cX4_lossFrom 57 = .ok (.if_icmp .ge 59, 3) := by decide +kernel
theorem dX4_lossFrom_60 : decode cX4_lossFrom 60 = .ok (.aload_n 0, 1) := by decide +kernel
theorem dX4_lossFrom_61 : decode cX4_lossFrom 61 = .ok (.getfield 32, 3) := by decide +kernel
theorem dX4_lossFrom_64 : decode cX4_lossFrom 64 = .ok (.getfield 50, 3) := by decide +kernel
theorem dX4_lossFrom_67 : decode cX4_lossFrom 67 = .ok (.iload_n 1, 1) := by decide +kernel
theorem dX4_lossFrom_68 : decode cX4_lossFrom 68 = .ok (.aaload, 1) := by decide +kernel
theorem dX4_lossFrom_69 : decode cX4_lossFrom 69 = .ok (.iload 9, 2) := by decide +kernel
theorem dX4_lossFrom_71 : decode cX4_lossFrom 71 = .ok (.iaload, 1) := by decide +kernel
theorem dX4_lossFrom_72 : decode cX4_lossFrom 72 = .ok (.iload_n 2, 1) := by decide +kernel
theorem dX4_lossFrom_73 : decode cX4_lossFrom 73 = .ok (.if_icmp .ne 37, 3) := by decide +kernel
theorem dX4_lossFrom_76 : decode cX4_lossFrom 76 = .ok (.aload_n 0, 1) := by decide +kernel
theorem dX4_lossFrom_77 : decode cX4_lossFrom 77 = .ok (.getfield 32, 3) := by decide +kernel
theorem dX4_lossFrom_80 : decode cX4_lossFrom 80 = .ok (.getfield 50, 3) := by decide +kernel
theorem dX4_lossFrom_83 : decode cX4_lossFrom 83 = .ok (.iload_n 1, 1) := by decide +kernel
theorem dX4_lossFrom_84 : decode cX4_lossFrom 84 = .ok (.iconst 1, 1) := by decide +kernel
theorem dX4_lossFrom_85 : decode cX4_lossFrom 85 = .ok (.iadd, 1) := by decide +kernel
theorem dX4_lossFrom_86 : decode cX4_lossFrom 86 = .ok (.aaload, 1) := by decide +kernel
theorem dX4_lossFrom_87 : decode cX4_lossFrom 87 = .ok (.iload 9, 2) := by decide +kernel
theorem dX4_lossFrom_89 : decode cX4_lossFrom 89 = .ok (.iaload, 1) := by decide +kernel
theorem dX4_lossFrom_90 : decode cX4_lossFrom 90 = .ok (.iload 9, 2) := by decide +kernel
theorem dX4_lossFrom_92 : decode cX4_lossFrom 92 = .ok (.if_icmp .ne 18, 3) := by decide +kernel
theorem dX4_lossFrom_95 : decode cX4_lossFrom 95 = .ok (.lload 6, 2) := by decide +kernel
theorem dX4_lossFrom_97 : decode cX4_lossFrom 97 = .ok (.aload_n 0, 1) := by decide +kernel
theorem dX4_lossFrom_98 : decode cX4_lossFrom 98 = .ok (.getfield 21, 3) := by decide +kernel
theorem dX4_lossFrom_101 : decode cX4_lossFrom 101 = .ok (.iload 9, 2) := by decide +kernel
theorem dX4_lossFrom_103 : decode cX4_lossFrom 103 = .ok (.aaload, 1) := by decide +kernel
theorem dX4_lossFrom_104 : decode cX4_lossFrom 104 = .ok (.iload 8, 2) := by decide +kernel
theorem dX4_lossFrom_106 : decode cX4_lossFrom 106 = .ok (.laload, 1) := by decide +kernel
theorem dX4_lossFrom_107 : decode cX4_lossFrom 107 = .ok (.ladd, 1) := by decide +kernel
theorem dX4_lossFrom_108 : decode cX4_lossFrom 108 = .ok (.lstore 6, 2) := by decide +kernel
theorem dX4_lossFrom_110 : decode cX4_lossFrom 110 = .ok (.iinc 9 1, 3) := by decide +kernel
theorem dX4_lossFrom_113 : decode cX4_lossFrom 113 = .ok (.goto (-65), 3) := by decide +kernel
theorem dX4_lossFrom_116 : decode cX4_lossFrom 116 = .ok (.lload 6, 2) := by decide +kernel
theorem dX4_lossFrom_118 : decode cX4_lossFrom 118 = .ok (.lreturn, 1) := by decide +kernel
theorem dX4_tells_0 : decode cX4_tells 0 = .ok (.aload_n 0, 1) := by decide +kernel
theorem dX4_tells_1 : decode cX4_tells 1 = .ok (.getfield 11, 3) := by decide +kernel
theorem dX4_tells_4 : decode cX4_tells 4 = .ok (.iload_n 1, 1) := by decide +kernel
theorem dX4_tells_5 : decode cX4_tells 5 = .ok (.aaload, 1) := by decide +kernel
theorem dX4_tells_6 : decode cX4_tells 6 = .ok (.aload_n 0, 1) := by decide +kernel
theorem dX4_tells_7 : decode cX4_tells 7 = .ok (.getfield 32, 3) := by decide +kernel
theorem dX4_tells_10 : decode cX4_tells 10 = .ok (.getfield 50, 3) := by decide +kernel
theorem dX4_tells_13 : decode cX4_tells 13 = .ok (.iload_n 1, 1) := by decide +kernel
theorem dX4_tells_14 : decode cX4_tells 14 = .ok (.aaload, 1) := by decide +kernel
theorem dX4_tells_15 : decode cX4_tells 15 = .ok (.iload_n 2, 1) := by decide +kernel
theorem dX4_tells_16 : decode cX4_tells 16 = .ok (.iaload, 1) := by decide +kernel
theorem dX4_tells_17 : decode cX4_tells 17 = .ok (.iaload, 1) := by decide +kernel
theorem dX4_tells_18 : decode cX4_tells 18 = .ok (.iload_n 3, 1) := by decide +kernel
theorem dX4_tells_19 : decode cX4_tells 19 = .ok (.ishr, 1) := by decide +kernel
theorem dX4_tells_20 : decode cX4_tells 20 = .ok (.iconst 1, 1) := by decide +kernel
theorem dX4_tells_21 : decode cX4_tells 21 = .ok (.iand, 1) := by decide +kernel
theorem dX4_tells_22 : decode cX4_tells 22 = .ok (.iconst 1, 1) := by decide +kernel
theorem dX4_tells_23 : decode cX4_tells 23 = .ok (.if_icmp .ne 7, 3) := by decide +kernel
theorem dX4_tells_26 : decode cX4_tells 26 = .ok (.iconst 1, 1) := by decide +kernel
theorem dX4_tells_27 : decode cX4_tells 27 = .ok (.goto 4, 3) := by decide +kernel
theorem dX4_tells_30 : decode cX4_tells 30 = .ok (.iconst 0, 1) := by decide +kernel
theorem dX4_tells_31 : decode cX4_tells 31 = .ok (.ireturn, 1) := by decide +kernel
set_option maxRecDepth 20000 in
theorem ggX4_stateAt_X4_tells : GoodIn wsX4_stateAt wsX4_tells := goodIn_r _ [6, 7, 8, 9, 22, 23, 24, 25, 26, 27, 28, 29, 30, 31, 32] (by decide +kernel) (by decide +kernel)
set_option maxRecDepth 20000 in
theorem gX4_stateAt_X4_tells : GoodIn wsX4_stateAt (wsV RX4 88 RX4 yX4_tells wsX4_tells) := goodIn_app (goodIn_of _ (by decide +kernel)) ggX4_stateAt_X4_tells
set_option maxRecDepth 20000 in
theorem ggX4_stateAt_X0_stands : GoodIn wsX4_stateAt wsX0_stands := goodIn_r _ [14, 15, 33, 34, 35] (by decide +kernel) (by decide +kernel)
set_option maxRecDepth 20000 in
theorem gX4_stateAt_X0_stands : GoodIn wsX4_stateAt (wsV RX4 81 RX0 yX0_stands wsX0_stands) := goodIn_app (goodIn_of _ (by decide +kernel)) ggX4_stateAt_X0_stands
set_option maxRecDepth 20000 in
theorem ggX4_stateAt_X0_next : GoodIn wsX4_stateAt wsX0_next := goodIn_r _ [18, 19, 20, 13, 21] (by decide +kernel) (by decide +kernel)
set_option maxRecDepth 20000 in
theorem gX4_stateAt_X0_next : GoodIn wsX4_stateAt (va_wsS RX4 85 yX0_next wsX0_next) := goodIn_app (goodIn_of _ (by decide +kernel)) ggX4_stateAt_X0_next
theorem dX4_stateAt_0 : decode cX4_stateAt 0 = .ok (.iconst 0, 1) := by decide +kernel
theorem dX4_stateAt_1 : decode cX4_stateAt 1 = .ok (.istore_n 3, 1) := by decide +kernel
theorem dX4_stateAt_2 : decode cX4_stateAt 2 = .ok (.iconst 0, 1) := by decide +kernel
theorem dX4_stateAt_3 : decode cX4_stateAt 3 = .ok (.istore 4, 2) := by decide +kernel
theorem dX4_stateAt_5 : decode cX4_stateAt 5 = .ok (.iload 4, 2) := by decide +kernel
theorem dX4_stateAt_7 : decode cX4_stateAt 7 = .ok (.iload_n 2, 1) := by decide +kernel
theorem dX4_stateAt_8 : decode cX4_stateAt 8 = .ok (.if_icmp .ge 31, 3) := by decide +kernel
theorem dX4_stateAt_11 : decode cX4_stateAt 11 = .ok (.aload_n 0, 1) := by decide +kernel
theorem dX4_stateAt_12 : decode cX4_stateAt 12 = .ok (.getfield 36, 3) := by decide +kernel
theorem dX4_stateAt_15 : decode cX4_stateAt 15 = .ok (.iload_n 3, 1) := by decide +kernel
theorem dX4_stateAt_16 : decode cX4_stateAt 16 = .ok (.aload_n 0, 1) := by decide +kernel
theorem dX4_stateAt_17 : decode cX4_stateAt 17 = .ok (.iload 4, 2) := by decide +kernel
theorem dX4_stateAt_19 : decode cX4_stateAt 19 = .ok (.iload_n 1, 1) := by decide +kernel
theorem dX4_stateAt_20 : decode cX4_stateAt 20 = .ok (.iload_n 3, 1) := by decide +kernel
theorem dX4_stateAt_21 : decode cX4_stateAt 21 = .ok (.invokevirtual 88, 3) := by decide +kernel
theorem dX4_stateAt_24 : decode cX4_stateAt 24 = .ok (.invokevirtual 81, 3) := by decide +kernel
theorem dX4_stateAt_27 : decode cX4_stateAt 27 = .ok (.iload 4, 2) := by decide +kernel
theorem dX4_stateAt_29 : decode cX4_stateAt 29 = .ok (.invokestatic 85, 3) := by decide +kernel
theorem dX4_stateAt_32 : decode cX4_stateAt 32 = .ok (.istore_n 3, 1) := by decide +kernel
theorem dX4_stateAt_33 : decode cX4_stateAt 33 = .ok (.iinc 4 1, 3) := by decide +kernel
theorem dX4_stateAt_36 : decode cX4_stateAt 36 = .ok (.goto (-31), 3) := by decide +kernel
theorem dX4_stateAt_39 : decode cX4_stateAt 39 = .ok (.iload_n 3, 1) := by decide +kernel
theorem dX4_stateAt_40 : decode cX4_stateAt 40 = .ok (.ireturn, 1) := by decide +kernel
theorem dX5_init_0 : decode cX5_init 0 = .ok (.aload_n 0, 1) := by decide +kernel
theorem dX5_init_1 : decode cX5_init 1 = .ok (.invokespecial 3, 3) := by decide +kernel
theorem dX5_init_4 : decode cX5_init 4 = .ok (.aload_n 0, 1) := by decide +kernel
theorem dX5_init_5 : decode cX5_init 5 = .ok (.bipush 6, 2) := by decide +kernel
theorem dX5_init_7 : decode cX5_init 7 = .ok (.anewarray 9, 3) := by decide +kernel
theorem dX5_init_10 : decode cX5_init 10 = .ok (.putfield 11, 3) := by decide +kernel
theorem dX5_init_13 : decode cX5_init 13 = .ok (.aload_n 0, 1) := by decide +kernel
theorem dX5_init_14 : decode cX5_init 14 = .ok (.iconst 3, 1) := by decide +kernel
theorem dX5_init_15 : decode cX5_init 15 = .ok (.newarray .int, 2) := by decide +kernel
theorem dX5_init_17 : decode cX5_init 17 = .ok (.putfield 17, 3) := by decide +kernel
theorem dX5_init_20 : decode cX5_init 20 = .ok (.aload_n 0, 1) := by decide +kernel
theorem dX5_init_21 : decode cX5_init 21 = .ok (.iconst 0, 1) := by decide +kernel
theorem dX5_init_22 : decode cX5_init 22 = .ok (.putfield 21, 3) := by decide +kernel
theorem dX5_init_25 : decode cX5_init 25 = .ok (.return_, 1) := by decide +kernel
theorem dX5_add_0 : decode cX5_add 0 = .ok (.aload_n 0, 1) := by decide +kernel
theorem dX5_add_1 : decode cX5_add 1 = .ok (.getfield 11, 3) := by decide +kernel
theorem dX5_add_4 : decode cX5_add 4 = .ok (.aload_n 0, 1) := by decide +kernel
theorem dX5_add_5 : decode cX5_add 5 = .ok (.getfield 21, 3) := by decide +kernel
theorem dX5_add_8 : decode cX5_add 8 = .ok (.aload_n 1, 1) := by decide +kernel
theorem dX5_add_9 : decode cX5_add 9 = .ok (.aastore, 1) := by decide +kernel
theorem dX5_add_10 : decode cX5_add 10 = .ok (.aload_n 0, 1) := by decide +kernel
theorem dX5_add_11 : decode cX5_add 11 = .ok (.dup, 1) := by decide +kernel
theorem dX5_add_12 : decode cX5_add 12 = .ok (.getfield 21, 3) := by decide +kernel
theorem dX5_add_15 : decode cX5_add 15 = .ok (.iconst 1, 1) := by decide +kernel
theorem dX5_add_16 : decode cX5_add 16 = .ok (.iadd, 1) := by decide +kernel
theorem dX5_add_17 : decode cX5_add 17 = .ok (.putfield 21, 3) := by decide +kernel
theorem dX5_add_20 : decode cX5_add 20 = .ok (.aload_n 0, 1) := by decide +kernel
theorem dX5_add_21 : decode cX5_add 21 = .ok (.getfield 21, 3) := by decide +kernel
theorem dX5_add_24 : decode cX5_add 24 = .ok (.iconst 1, 1) := by decide +kernel
theorem dX5_add_25 : decode cX5_add 25 = .ok (.isub, 1) := by decide +kernel
theorem dX5_add_26 : decode cX5_add 26 = .ok (.ireturn, 1) := by decide +kernel
set_option maxRecDepth 20000 in
theorem ggX5_at_X11_within : GoodIn wsX5_at wsX11_within := goodIn_r _ [5] (by decide +kernel) (by decide +kernel)
set_option maxRecDepth 20000 in
theorem gX5_at_X11_within_n25 : GoodIn wsX5_at (wsX11_within) := ggX5_at_X11_within
theorem dX5_at_0 : decode cX5_at 0 = .ok (.iload_n 1, 1) := by decide +kernel
theorem dX5_at_1 : decode cX5_at 1 = .ok (.iconst 0, 1) := by decide +kernel
theorem dX5_at_2 : decode cX5_at 2 = .ok (.aload_n 0, 1) := by decide +kernel
theorem dX5_at_3 : decode cX5_at 3 = .ok (.getfield 21, 3) := by decide +kernel
theorem dX5_at_6 : decode cX5_at 6 = .ok (.iconst 1, 1) := by decide +kernel
theorem dX5_at_7 : decode cX5_at 7 = .ok (.isub, 1) := by decide +kernel
theorem dX5_at_8 : decode cX5_at 8 = .ok (.invokestatic 25, 3) := by decide +kernel
theorem dX5_at_11 : decode cX5_at 11 = .ok (.ifCond .eq 12, 3) := by decide +kernel
theorem dX5_at_14 : decode cX5_at 14 = .ok (.aload_n 0, 1) := by decide +kernel
theorem dX5_at_15 : decode cX5_at 15 = .ok (.getfield 11, 3) := by decide +kernel
theorem dX5_at_18 : decode cX5_at 18 = .ok (.iload_n 1, 1) := by decide +kernel
theorem dX5_at_19 : decode cX5_at 19 = .ok (.aaload, 1) := by decide +kernel
theorem dX5_at_20 : decode cX5_at 20 = .ok (.goto 4, 3) := by decide +kernel
theorem dX5_at_23 : decode cX5_at 23 = .ok (.aconst_null, 1) := by decide +kernel
theorem dX5_at_24 : decode cX5_at 24 = .ok (.areturn, 1) := by decide +kernel
theorem dX5_failedOnes_0 : decode cX5_failedOnes 0 = .ok (.iconst 0, 1) := by decide +kernel
theorem dX5_failedOnes_1 : decode cX5_failedOnes 1 = .ok (.istore_n 1, 1) := by decide +kernel
theorem dX5_failedOnes_2 : decode cX5_failedOnes 2 = .ok (.aload_n 0, 1) := by decide +kernel
theorem dX5_failedOnes_3 : decode cX5_failedOnes 3 = .ok (.getfield 11, 3) := by decide +kernel
theorem dX5_failedOnes_6 : decode cX5_failedOnes 6 = .ok (.astore_n 2, 1) := by decide +kernel
theorem dX5_failedOnes_7 : decode cX5_failedOnes 7 = .ok (.aload_n 2, 1) := by decide +kernel
theorem dX5_failedOnes_8 : decode cX5_failedOnes 8 = .ok (.arraylength, 1) := by decide +kernel
theorem dX5_failedOnes_9 : decode cX5_failedOnes 9 = .ok (.istore_n 3, 1) := by decide +kernel
theorem dX5_failedOnes_10 : decode cX5_failedOnes 10 = .ok (.iconst 0, 1) := by decide +kernel
theorem dX5_failedOnes_11 : decode cX5_failedOnes 11 = .ok (.istore 4, 2) := by decide +kernel
theorem dX5_failedOnes_13 : decode cX5_failedOnes 13 = .ok (.iload 4, 2) := by decide +kernel
theorem dX5_failedOnes_15 : decode cX5_failedOnes 15 = .ok (.iload_n 3, 1) := by decide +kernel
theorem dX5_failedOnes_16 : decode cX5_failedOnes 16 = .ok (.if_icmp .ge 31, 3) := by decide +kernel
theorem dX5_failedOnes_19 : decode cX5_failedOnes 19 = .ok (.aload_n 2, 1) := by decide +kernel
theorem dX5_failedOnes_20 : decode cX5_failedOnes 20 = .ok (.iload 4, 2) := by decide +kernel
theorem dX5_failedOnes_22 : decode cX5_failedOnes 22 = .ok (.aaload, 1) := by decide +kernel
theorem dX5_failedOnes_23 : decode cX5_failedOnes 23 = .ok (.astore 5, 2) := by decide +kernel
