theorem dX12_marked_27 : decode cX12_marked 27 = .ok (.aload_n 0, 1) := by decide +kernel
theorem dX12_marked_28 : decode cX12_marked 28 = .ok (.bipush 22, 2) := by decide +kernel
theorem dX12_marked_30 : decode cX12_marked 30 = .ok (.invokevirtual 160, 3) := by decide +kernel
theorem dX12_marked_33 : decode cX12_marked 33 = .ok (.iload_n 3, 1) := by decide +kernel
theorem dX12_marked_34 : decode cX12_marked 34 = .ok (.ifCond .eq 9, 3) := by decide +kernel
theorem dX12_marked_37 : decode cX12_marked 37 = .ok (.aload_n 0, 1) := by decide +kernel
theorem dX12_marked_38 : decode cX12_marked 38 = .ok (.bipush 21, 2) := by decide +kernel
theorem dX12_marked_40 : decode cX12_marked 40 = .ok (.invokevirtual 160, 3) := by decide +kernel
theorem dX12_marked_43 : decode cX12_marked 43 = .ok (.aload_n 0, 1) := by decide +kernel
theorem dX12_marked_44 : decode cX12_marked 44 = .ok (.bipush 20, 2) := by decide +kernel
theorem dX12_marked_46 : decode cX12_marked 46 = .ok (.invokevirtual 160, 3) := by decide +kernel
theorem dX12_marked_49 : decode cX12_marked 49 = .ok (.aload_n 0, 1) := by decide +kernel
theorem dX12_marked_50 : decode cX12_marked 50 = .ok (.getfield 45, 3) := by decide +kernel
theorem dX12_marked_53 : decode cX12_marked 53 = .ok (.iload_n 1, 1) := by decide +kernel
theorem dX12_marked_54 : decode cX12_marked 54 = .ok (.baload, 1) := by decide +kernel
theorem dX12_marked_55 : decode cX12_marked 55 = .ok (.ifCond .eq 7, 3) := by decide +kernel
theorem dX12_marked_58 : decode cX12_marked 58 = .ok (.iconst 1, 1) := by decide +kernel
theorem dX12_marked_59 : decode cX12_marked 59 = .ok (.goto 4, 3) := by decide +kernel
theorem dX12_marked_62 : decode cX12_marked 62 = .ok (.iconst 0, 1) := by decide +kernel
theorem dX12_marked_63 : decode cX12_marked 63 = .ok (.istore 4, 2) := by decide +kernel
theorem dX12_marked_65 : decode cX12_marked 65 = .ok (.iload_n 2, 1) := by decide +kernel
theorem dX12_marked_66 : decode cX12_marked 66 = .ok (.iconst 3, 1) := by decide +kernel
theorem dX12_marked_67 : decode cX12_marked 67 = .ok (.if_icmp .ne 14, 3) := by decide +kernel
theorem dX12_marked_70 : decode cX12_marked 70 = .ok (.iload 4, 2) := by decide +kernel
theorem dX12_marked_72 : decode cX12_marked 72 = .ok (.aload_n 0, 1) := by decide +kernel
theorem dX12_marked_73 : decode cX12_marked 73 = .ok (.iload_n 1, 1) := by decide +kernel
theorem dX12_marked_74 : decode cX12_marked 74 = .ok (.invokevirtual 164, 3) := by decide +kernel
theorem dX12_marked_77 : decode cX12_marked 77 = .ok (.isub, 1) := by decide +kernel
theorem dX12_marked_78 : decode cX12_marked 78 = .ok (.goto 20, 3) := by decide +kernel
theorem dX12_marked_81 : decode cX12_marked 81 = .ok (.iload_n 3, 1) := by decide +kernel
theorem dX12_marked_82 : decode cX12_marked 82 = .ok (.ifCond .eq 14, 3) := by decide +kernel
theorem dX12_marked_85 : decode cX12_marked 85 = .ok (.iload 4, 2) := by decide +kernel
theorem dX12_marked_87 : decode cX12_marked 87 = .ok (.aload_n 0, 1) := by decide +kernel
theorem dX12_marked_88 : decode cX12_marked 88 = .ok (.iload_n 1, 1) := by decide +kernel
theorem dX12_marked_89 : decode cX12_marked 89 = .ok (.invokevirtual 164, 3) := by decide +kernel
theorem dX12_marked_92 : decode cX12_marked 92 = .ok (.iadd, 1) := by decide +kernel
theorem dX12_marked_93 : decode cX12_marked 93 = .ok (.goto 5, 3) := by decide +kernel
theorem dX12_marked_96 : decode cX12_marked 96 = .ok (.iload 4, 2) := by decide +kernel
theorem dX12_marked_98 : decode cX12_marked 98 = .ok (.ireturn, 1) := by decide +kernel
set_option maxRecDepth 20000 in
theorem ggX12_ask_X12_isGate : GoodIn wsX12_ask wsX12_isGate := goodIn_r _ [8, 9, 10, 11, 7, 12, 33, 34, 35, 36, 37, 38, 39, 40, 41, 42, 43, 44, 45, 46, 47, 48, 49, 50, 51, 52, 53, 54] (by decide +kernel) (by decide +kernel)
set_option maxRecDepth 20000 in
theorem gX12_ask_X12_isGate : GoodIn wsX12_ask (wsV RX12 135 RX12 yX12_isGate wsX12_isGate) := goodIn_app (goodIn_of _ (by decide +kernel)) ggX12_ask_X12_isGate
set_option maxRecDepth 20000 in
theorem ggX12_ask_X12_in : GoodIn wsX12_ask wsX12_in := goodIn_r _ [12] (by decide +kernel) (by decide +kernel)
set_option maxRecDepth 20000 in
theorem gX12_ask_X12_in : GoodIn wsX12_ask (va_wsS RX12 70 yX12_in wsX12_in) := goodIn_app (goodIn_of _ (by decide +kernel)) ggX12_ask_X12_in
set_option maxRecDepth 20000 in
theorem ggX12_ask_X12_cost : GoodIn wsX12_ask wsX12_cost := goodIn_r _ [16, 17, 18, 19, 20, 21, 7, 22, 23, 24, 25, 26, 3, 27, 33, 34, 35, 36, 37, 38, 39, 40, 41, 42, 43, 44, 45, 46, 47, 48, 49, 50, 51, 52, 53, 54] (by decide +kernel) (by decide +kernel)
set_option maxRecDepth 20000 in
theorem gX12_ask_X12_cost : GoodIn wsX12_ask (wsV RX12 164 RX12 yX12_cost wsX12_cost) := goodIn_app (goodIn_of _ (by decide +kernel)) ggX12_ask_X12_cost
set_option maxRecDepth 20000 in
theorem ggX12_ask_X12_marked : GoodIn wsX12_ask wsX12_marked := goodIn_r _ [31, 32, 19, 20, 21, 7, 22, 18, 17, 23, 24, 25, 26, 3, 27, 13, 14, 15, 16, 33, 34, 35, 36, 37, 38, 39, 40, 41, 42, 43, 44, 45, 46, 47, 48, 49, 50, 51, 52, 53, 54] (by decide +kernel) (by decide +kernel)
set_option maxRecDepth 20000 in
theorem gX12_ask_X12_marked : GoodIn wsX12_ask (wsV RX12 167 RX12 yX12_marked wsX12_marked) := goodIn_app (goodIn_of _ (by decide +kernel)) ggX12_ask_X12_marked
theorem dX12_ask_0 : decode cX12_ask 0 = .ok (.aload_n 0, 1) := by decide +kernel
theorem dX12_ask_1 : decode cX12_ask 1 = .ok (.iconst 0, 1) := by decide +kernel
theorem dX12_ask_2 : decode cX12_ask 2 = .ok (.putfield 60, 3) := by decide +kernel
theorem dX12_ask_5 : decode cX12_ask 5 = .ok (.aload_n 0, 1) := by decide +kernel
theorem dX12_ask_6 : decode cX12_ask 6 = .ok (.iload_n 1, 1) := by decide +kernel
theorem dX12_ask_7 : decode cX12_ask 7 = .ok (.invokevirtual 135, 3) := by decide +kernel
theorem dX12_ask_10 : decode cX12_ask 10 = .ok (.ifCond .eq 13, 3) := by decide +kernel
theorem dX12_ask_13 : decode cX12_ask 13 = .ok (.iload_n 2, 1) := by decide +kernel
theorem dX12_ask_14 : decode cX12_ask 14 = .ok (.i2l, 1) := by decide +kernel
theorem dX12_ask_15 : decode cX12_ask 15 = .ok (.lconst 0, 1) := by decide +kernel
theorem dX12_ask_16 : decode cX12_ask 16 = .ok (.lconst 1, 1) := by decide +kernel
theorem dX12_ask_17 : decode cX12_ask 17 = .ok (.invokestatic 70, 3) := by decide +kernel
theorem dX12_ask_20 : decode cX12_ask 20 = .ok (.ifCond .ne 6, 3) := by decide +kernel
theorem dX12_ask_23 : decode cX12_ask 23 = .ok (.ldc 80, 2) := by decide +kernel
theorem dX12_ask_25 : decode cX12_ask 25 = .ok (.ireturn, 1) := by decide +kernel
theorem dX12_ask_26 : decode cX12_ask 26 = .ok (.aload_n 0, 1) := by decide +kernel
theorem dX12_ask_27 : decode cX12_ask 27 = .ok (.iconst 0, 1) := by decide +kernel
theorem dX12_ask_28 : decode cX12_ask 28 = .ok (.putfield 157, 3) := by decide +kernel
theorem dX12_ask_31 : decode cX12_ask 31 = .ok (.iload_n 2, 1) := by decide +kernel
theorem dX12_ask_32 : decode cX12_ask 32 = .ok (.ifCond .ne 11, 3) := by decide +kernel
theorem dX12_ask_35 : decode cX12_ask 35 = .ok (.aload_n 0, 1) := by decide +kernel
theorem dX12_ask_36 : decode cX12_ask 36 = .ok (.iload_n 1, 1) := by decide +kernel
theorem dX12_ask_37 : decode cX12_ask 37 = .ok (.invokevirtual 164, 3) := by decide +kernel
theorem dX12_ask_40 : decode cX12_ask 40 = .ok (.goto 8, 3) := by decide +kernel
theorem dX12_ask_43 : decode cX12_ask 43 = .ok (.aload_n 0, 1) := by decide +kernel
theorem dX12_ask_44 : decode cX12_ask 44 = .ok (.iload_n 1, 1) := by decide +kernel
theorem dX12_ask_45 : decode cX12_ask 45 = .ok (.invokevirtual 167, 3) := by decide +kernel
theorem dX12_ask_48 : decode cX12_ask 48 = .ok (.ireturn, 1) := by decide +kernel
set_option maxRecDepth 20000 in
theorem ggX12_trace_X12_in : GoodIn wsX12_trace wsX12_in := goodIn_r _ [8] (by decide +kernel) (by decide +kernel)
set_option maxRecDepth 20000 in
theorem gX12_trace_X12_in : GoodIn wsX12_trace (va_wsS RX12 70 yX12_in wsX12_in) := goodIn_app (goodIn_of _ (by decide +kernel)) ggX12_trace_X12_in
theorem dX12_trace_0 : decode cX12_trace 0 = .ok (.aload_n 0, 1) := by decide +kernel
theorem dX12_trace_1 : decode cX12_trace 1 = .ok (.iconst 0, 1) := by decide +kernel
theorem dX12_trace_2 : decode cX12_trace 2 = .ok (.putfield 60, 3) := by decide +kernel
theorem dX12_trace_5 : decode cX12_trace 5 = .ok (.iload_n 1, 1) := by decide +kernel
theorem dX12_trace_6 : decode cX12_trace 6 = .ok (.i2l, 1) := by decide +kernel
theorem dX12_trace_7 : decode cX12_trace 7 = .ok (.lconst 0, 1) := by decide +kernel
theorem dX12_trace_8 : decode cX12_trace 8 = .ok (.aload_n 0, 1) := by decide +kernel
theorem dX12_trace_9 : decode cX12_trace 9 = .ok (.getfield 157, 3) := by decide +kernel
theorem dX12_trace_12 : decode cX12_trace 12 = .ok (.iconst 1, 1) := by decide +kernel
theorem dX12_trace_13 : decode cX12_trace 13 = .ok (.isub, 1) := by decide +kernel
theorem dX12_trace_14 : decode cX12_trace 14 = .ok (.i2l, 1) := by decide +kernel
theorem dX12_trace_15 : decode cX12_trace 15 = .ok (.invokestatic 70, 3) := by decide +kernel
theorem dX12_trace_18 : decode cX12_trace 18 = .ok (.ifCond .eq 12, 3) := by decide +kernel
theorem dX12_trace_21 : decode cX12_trace 21 = .ok (.aload_n 0, 1) := by decide +kernel
theorem dX12_trace_22 : decode cX12_trace 22 = .ok (.getfield 57, 3) := by decide +kernel
theorem dX12_trace_25 : decode cX12_trace 25 = .ok (.iload_n 1, 1) := by decide +kernel
theorem dX12_trace_26 : decode cX12_trace 26 = .ok (.iaload, 1) := by decide +kernel
theorem dX12_trace_27 : decode cX12_trace 27 = .ok (.goto 5, 3) := by decide +kernel
theorem dX12_trace_30 : decode cX12_trace 30 = .ok (.ldc 127, 2) := by decide +kernel
theorem dX12_trace_32 : decode cX12_trace 32 = .ok (.ireturn, 1) := by decide +kernel
theorem dX12_count_0 : decode cX12_count 0 = .ok (.aload_n 0, 1) := by decide +kernel
theorem dX12_count_1 : decode cX12_count 1 = .ok (.iconst 0, 1) := by decide +kernel
theorem dX12_count_2 : decode cX12_count 2 = .ok (.putfield 60, 3) := by decide +kernel
theorem dX12_count_5 : decode cX12_count 5 = .ok (.iconst 0, 1) := by decide +kernel
theorem dX12_count_6 : decode cX12_count 6 = .ok (.istore_n 2, 1) := by decide +kernel
theorem dX12_count_7 : decode cX12_count 7 = .ok (.iload_n 1, 1) := by decide +kernel
theorem dX12_count_8 : decode cX12_count 8 = .ok (.tableswitch 150 0 5 #[40, 73, 78, 105, 110, 145], 40) := by decide +kernel
theorem dX12_count_48 : decode cX12_count 48 = .ok (.iconst 0, 1) := by decide +kernel
theorem dX12_count_49 : decode cX12_count 49 = .ok (.istore_n 3, 1) := by decide +kernel
theorem dX12_count_50 : decode cX12_count 50 = .ok (.iload_n 3, 1) := by decide +kernel
theorem dX12_count_51 : decode cX12_count 51 = .ok (.bipush 8, 2) := by decide +kernel
theorem dX12_count_53 : decode cX12_count 53 = .ok (.if_icmp .ge 26, 3) := by decide +kernel
theorem dX12_count_56 : decode cX12_count 56 = .ok (.iload_n 2, 1) := by decide +kernel
theorem dX12_count_57 : decode cX12_count 57 = .ok (.aload_n 0, 1) := by decide +kernel
theorem dX12_count_58 : decode cX12_count 58 = .ok (.getfield 16, 3) := by decide +kernel
theorem dX12_count_61 : decode cX12_count 61 = .ok (.iload_n 3, 1) := by decide +kernel
theorem dX12_count_62 : decode cX12_count 62 = .ok (.iaload, 1) := by decide +kernel
theorem dX12_count_63 : decode cX12_count 63 = .ok (.ifCond .lt 7, 3) := by decide +kernel
theorem dX12_count_66 : decode cX12_count 66 = .ok (.iconst 1, 1) := by decide +kernel
theorem dX12_count_67 : decode cX12_count 67 = .ok (.goto 4, 3) := by decide +kernel
theorem dX12_count_70 : decode cX12_count 70 = .ok (.iconst 0, 1) := by decide +kernel
theorem dX12_count_71 : decode cX12_count 71 = .ok (.iadd, 1) := by decide +kernel
theorem dX12_count_72 : decode cX12_count 72 = .ok (.istore_n 2, 1) := by decide +kernel
theorem dX12_count_73 : decode cX12_count 73 = .ok (.iinc 3 1, 3) := by decide +kernel
theorem dX12_count_76 : decode cX12_count 76 = .ok (.goto (-26), 3) := by decide +kernel
theorem dX12_count_79 : decode cX12_count 79 = .ok (.iload_n 2, 1) := by decide +kernel
theorem dX12_count_80 : decode cX12_count 80 = .ok (.ireturn, 1) := by decide +kernel
theorem dX12_count_81 : decode cX12_count 81 = .ok (.aload_n 0, 1) := by decide +kernel
theorem dX12_count_82 : decode cX12_count 82 = .ok (.getfield 87, 3) := by decide +kernel
theorem dX12_count_85 : decode cX12_count 85 = .ok (.ireturn, 1) := by decide +kernel
theorem dX12_count_86 : decode cX12_count 86 = .ok (.iconst 0, 1) := by decide +kernel
theorem dX12_count_87 : decode cX12_count 87 = .ok (.istore_n 3, 1) := by decide +kernel
theorem dX12_count_88 : decode cX12_count 88 = .ok (.iload_n 3, 1) := by decide +kernel
theorem dX12_count_89 : decode cX12_count 89 = .ok (.aload_n 0, 1) := by decide +kernel
theorem dX12_count_90 : decode cX12_count 90 = .ok (.getfield 87, 3) := by decide +kernel
theorem dX12_count_93 : decode cX12_count 93 = .ok (.if_icmp .ge 18, 3) := by decide +kernel
theorem dX12_count_96 : decode cX12_count 96 = .ok (.iload_n 2, 1) := by decide +kernel
theorem dX12_count_97 : decode cX12_count 97 = .ok (.aload_n 0, 1) := by decide +kernel
theorem dX12_count_98 : decode cX12_count 98 = .ok (.getfield 25, 3) := by decide +kernel
theorem dX12_count_101 : decode cX12_count 101 = .ok (.iload_n 3, 1) := by decide +kernel
theorem dX12_count_102 : decode cX12_count 102 = .ok (.iaload, 1) := by decide +kernel
theorem dX12_count_103 : decode cX12_count 103 = .ok (.iadd, 1) := by decide +kernel
theorem dX12_count_104 : decode cX12_count 104 = .ok (.istore_n 2, 1) := by decide +kernel
theorem dX12_count_105 : decode cX12_count 105 = .ok (.iinc 3 1, 3) := by decide +kernel
theorem dX12_count_108 : decode cX12_count 108 = .ok (.goto (-20), 3) := by decide +kernel
theorem dX12_count_111 : decode cX12_count 111 = .ok (.iload_n 2, 1) := by decide +kernel
theorem dX12_count_112 : decode cX12_count 112 = .ok (.ireturn, 1) := by decide +kernel
theorem dX12_count_113 : decode cX12_count 113 = .ok (.aload_n 0, 1) := by decide +kernel
theorem dX12_count_114 : decode cX12_count 114 = .ok (.getfield 128, 3) := by decide +kernel
theorem dX12_count_117 : decode cX12_count 117 = .ok (.ireturn, 1) := by decide +kernel
theorem dX12_count_118 : decode cX12_count 118 = .ok (.iconst 0, 1) := by decide +kernel
theorem dX12_count_119 : decode cX12_count 119 = .ok (.istore_n 3, 1) := by decide +kernel
theorem dX12_count_120 : decode cX12_count 120 = .ok (.iload_n 3, 1) := by decide +kernel
theorem dX12_count_121 : decode cX12_count 121 = .ok (.aload_n 0, 1) := by decide +kernel
theorem dX12_count_122 : decode cX12_count 122 = .ok (.getfield 128, 3) := by decide +kernel
theorem dX12_count_125 : decode cX12_count 125 = .ok (.if_icmp .ge 26, 3) := by decide +kernel
theorem dX12_count_128 : decode cX12_count 128 = .ok (.iload_n 2, 1) := by decide +kernel
theorem dX12_count_129 : decode cX12_count 129 = .ok (.aload_n 0, 1) := by decide +kernel
theorem dX12_count_130 : decode cX12_count 130 = .ok (.getfield 45, 3) := by decide +kernel
theorem dX12_count_133 : decode cX12_count 133 = .ok (.iload_n 3, 1) := by decide +kernel
theorem dX12_count_134 : decode cX12_count 134 = .ok (.baload, 1) := by decide +kernel
theorem dX12_count_135 : decode cX12_count 135 = .ok (.ifCond .eq 7, 3) := by decide +kernel
theorem dX12_count_138 : decode cX12_count 138 = .ok (.iconst 1, 1) := by decide +kernel
theorem dX12_count_139 : decode cX12_count 139 = .ok (.goto 4, 3) := by decide +kernel
theorem dX12_count_142 : decode cX12_count 142 = .ok (.iconst 0, 1) := by decide +kernel
theorem dX12_count_143 : decode cX12_count 143 = .ok (.iadd, 1) := by decide +kernel
theorem dX12_count_144 : decode cX12_count 144 = .ok (.istore_n 2, 1) := by decide +kernel
theorem dX12_count_145 : decode cX12_count 145 = .ok (.iinc 3 1, 3) := by decide +kernel
theorem dX12_count_148 : decode cX12_count 148 = .ok (.goto (-28), 3) := by decide +kernel
theorem dX12_count_151 : decode cX12_count 151 = .ok (.iload_n 2, 1) := by decide +kernel
theorem dX12_count_152 : decode cX12_count 152 = .ok (.ireturn, 1) := by decide +kernel
theorem dX12_count_153 : decode cX12_count 153 = .ok (.aload_n 0, 1) := by decide +kernel
theorem dX12_count_154 : decode cX12_count 154 = .ok (.getfield 143, 3) := by decide +kernel
theorem dX12_count_157 : decode cX12_count 157 = .ok (.ireturn, 1) := by decide +kernel
theorem dX12_count_158 : decode cX12_count 158 = .ok (.ldc 80, 2) := by decide +kernel
theorem dX12_count_160 : decode cX12_count 160 = .ok (.ireturn, 1) := by decide +kernel
theorem dX12_status_0 : decode cX12_status 0 = .ok (.aload_n 0, 1) := by decide +kernel
theorem dX12_status_1 : decode cX12_status 1 = .ok (.iconst 0, 1) := by decide +kernel
theorem dX12_status_2 : decode cX12_status 2 = .ok (.putfield 60, 3) := by decide +kernel
theorem dX12_status_5 : decode cX12_status 5 = .ok (.aload_n 0, 1) := by decide +kernel
theorem dX12_status_6 : decode cX12_status 6 = .ok (.getfield 64, 3) := by decide +kernel
theorem dX12_status_9 : decode cX12_status 9 = .ok (.ireturn, 1) := by decide +kernel
theorem dJ9_max_7cf53_0 : decode cJ9_max_7cf53 0 = .ok (.iload_n 0, 1) := by decide +kernel
theorem dJ9_max_7cf53_1 : decode cJ9_max_7cf53 1 = .ok (.iload_n 1, 1) := by decide +kernel
theorem dJ9_max_7cf53_2 : decode cJ9_max_7cf53 2 = .ok (.if_icmp .lt 7, 3) := by decide +kernel
theorem dJ9_max_7cf53_5 : decode cJ9_max_7cf53 5 = .ok (.iload_n 0, 1) := by decide +kernel
theorem dJ9_max_7cf53_6 : decode cJ9_max_7cf53 6 = .ok (.goto 4, 3) := by decide +kernel
theorem dJ9_max_7cf53_9 : decode cJ9_max_7cf53 9 = .ok (.iload_n 1, 1) := by decide +kernel
theorem dJ9_max_7cf53_10 : decode cJ9_max_7cf53 10 = .ok (.ireturn, 1) := by decide +kernel
theorem dJ9_min_7cf53_0 : decode cJ9_min_7cf53 0 = .ok (.iload_n 0, 1) := by decide +kernel
theorem dJ9_min_7cf53_1 : decode cJ9_min_7cf53 1 = .ok (.iload_n 1, 1) := by decide +kernel
theorem dJ9_min_7cf53_2 : decode cJ9_min_7cf53 2 = .ok (.if_icmp .gt 7, 3) := by decide +kernel
theorem dJ9_min_7cf53_5 : decode cJ9_min_7cf53 5 = .ok (.iload_n 0, 1) := by decide +kernel
theorem dJ9_min_7cf53_6 : decode cJ9_min_7cf53 6 = .ok (.goto 4, 3) := by decide +kernel
theorem dJ9_min_7cf53_9 : decode cJ9_min_7cf53 9 = .ok (.iload_n 1, 1) := by decide +kernel
theorem dJ9_min_7cf53_10 : decode cJ9_min_7cf53 10 = .ok (.ireturn, 1) := by decide +kernel
theorem dJ7_fill_53178_0 : decode cJ7_fill_53178 0 = .ok (.iconst 0, 1) := by decide +kernel
theorem dJ7_fill_53178_1 : decode cJ7_fill_53178 1 = .ok (.istore_n 2, 1) := by decide +kernel
theorem dJ7_fill_53178_2 : decode cJ7_fill_53178 2 = .ok (.aload_n 0, 1) := by decide +kernel
theorem dJ7_fill_53178_3 : decode cJ7_fill_53178 3 = .ok (.arraylength, 1) := by decide +kernel
theorem dJ7_fill_53178_4 : decode cJ7_fill_53178 4 = .ok (.istore_n 3, 1) := by decide +kernel
theorem dJ7_fill_53178_5 : decode cJ7_fill_53178 5 = .ok (.iload_n 2, 1) := by decide +kernel
theorem dJ7_fill_53178_6 : decode cJ7_fill_53178 6 = .ok (.iload_n 3, 1) := by decide +kernel
theorem dJ7_fill_53178_7 : decode cJ7_fill_53178 7 = .ok (.if_icmp .ge 13, 3) := by decide +kernel
theorem dJ7_fill_53178_10 : decode cJ7_fill_53178 10 = .ok (.aload_n 0, 1) := by decide +kernel
theorem dJ7_fill_53178_11 : decode cJ7_fill_53178 11 = .ok (.iload_n 2, 1) := by decide +kernel
theorem dJ7_fill_53178_12 : decode cJ7_fill_53178 12 = .ok (.iload_n 1, 1) := by decide +kernel
theorem dJ7_fill_53178_13 : decode cJ7_fill_53178 13 = .ok (.iastore, 1) := by decide +kernel
theorem dJ7_fill_53178_14 : decode cJ7_fill_53178 14 = .ok (.iinc 2 1, 3) := by decide +kernel
theorem dJ7_fill_53178_17 : decode cJ7_fill_53178 17 = .ok (.goto (-12), 3) := by decide +kernel
theorem dJ7_fill_53178_20 : decode cJ7_fill_53178 20 = .ok (.return_, 1) := by decide +kernel
