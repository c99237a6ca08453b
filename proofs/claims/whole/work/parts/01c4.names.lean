theorem dX12_set_88 : decode cX12_set 88 = .ok (.iaload, 1) := by decide +kernel
theorem dX12_set_89 : decode cX12_set 89 = .ok (.iconst 1, 1) := by decide +kernel
theorem dX12_set_90 : decode cX12_set 90 = .ok (.if_icmp .ne 8, 3) := by decide +kernel
theorem dX12_set_93 : decode cX12_set 93 = .ok (.iload_n 3, 1) := by decide +kernel
theorem dX12_set_94 : decode cX12_set 94 = .ok (.i2s, 1) := by decide +kernel
theorem dX12_set_95 : decode cX12_set 95 = .ok (.goto 4, 3) := by decide +kernel
theorem dX12_set_98 : decode cX12_set 98 = .ok (.iload_n 3, 1) := by decide +kernel
theorem dX12_set_99 : decode cX12_set 99 = .ok (.iastore, 1) := by decide +kernel
theorem dX12_set_100 : decode cX12_set 100 = .ok (.aload_n 0, 1) := by decide +kernel
theorem dX12_set_101 : decode cX12_set 101 = .ok (.getfield 22, 3) := by decide +kernel
theorem dX12_set_104 : decode cX12_set 104 = .ok (.bipush 60, 2) := by decide +kernel
theorem dX12_set_106 : decode cX12_set 106 = .ok (.iload_n 1, 1) := by decide +kernel
theorem dX12_set_107 : decode cX12_set 107 = .ok (.imul, 1) := by decide +kernel
theorem dX12_set_108 : decode cX12_set 108 = .ok (.iload_n 2, 1) := by decide +kernel
theorem dX12_set_109 : decode cX12_set 109 = .ok (.iadd, 1) := by decide +kernel
theorem dX12_set_110 : decode cX12_set 110 = .ok (.iaload, 1) := by decide +kernel
theorem dX12_set_111 : decode cX12_set 111 = .ok (.ireturn, 1) := by decide +kernel
set_option maxRecDepth 20000 in
theorem ggX12_copy_X12_isSheet : GoodIn wsX12_copy wsX12_isSheet := goodIn_r _ [10, 11, 12, 13, 9, 14] (by decide +kernel) (by decide +kernel)
set_option maxRecDepth 20000 in
theorem gX12_copy_X12_isSheet : GoodIn wsX12_copy (va_wsS RX12 74 yX12_isSheet wsX12_isSheet) := goodIn_app (goodIn_of _ (by decide +kernel)) ggX12_copy_X12_isSheet
set_option maxRecDepth 20000 in
theorem ggX12_copy_X12_found : GoodIn wsX12_copy wsX12_found := goodIn_r _ [18, 3, 19, 20, 21, 22, 23, 24, 25, 26, 27, 28, 29, 30, 31, 32, 33, 34, 35, 36, 37, 38, 39, 40, 41] (by decide +kernel) (by decide +kernel)
set_option maxRecDepth 20000 in
theorem gX12_copy_X12_found : GoodIn wsX12_copy (wsV RX12 81 RX12 yX12_found wsX12_found) := goodIn_app (goodIn_of _ (by decide +kernel)) ggX12_copy_X12_found
theorem dX12_copy_0 : decode cX12_copy 0 = .ok (.aload_n 0, 1) := by decide +kernel
theorem dX12_copy_1 : decode cX12_copy 1 = .ok (.iconst 0, 1) := by decide +kernel
theorem dX12_copy_2 : decode cX12_copy 2 = .ok (.putfield 60, 3) := by decide +kernel
theorem dX12_copy_5 : decode cX12_copy 5 = .ok (.iload_n 1, 1) := by decide +kernel
theorem dX12_copy_6 : decode cX12_copy 6 = .ok (.invokestatic 74, 3) := by decide +kernel
theorem dX12_copy_9 : decode cX12_copy 9 = .ok (.ifCond .eq 10, 3) := by decide +kernel
theorem dX12_copy_12 : decode cX12_copy 12 = .ok (.iload_n 3, 1) := by decide +kernel
theorem dX12_copy_13 : decode cX12_copy 13 = .ok (.invokestatic 74, 3) := by decide +kernel
theorem dX12_copy_16 : decode cX12_copy 16 = .ok (.ifCond .ne 6, 3) := by decide +kernel
theorem dX12_copy_19 : decode cX12_copy 19 = .ok (.ldc 80, 2) := by decide +kernel
theorem dX12_copy_21 : decode cX12_copy 21 = .ok (.ireturn, 1) := by decide +kernel
theorem dX12_copy_22 : decode cX12_copy 22 = .ok (.aload_n 0, 1) := by decide +kernel
theorem dX12_copy_23 : decode cX12_copy 23 = .ok (.iconst 0, 1) := by decide +kernel
theorem dX12_copy_24 : decode cX12_copy 24 = .ok (.putfield 64, 3) := by decide +kernel
theorem dX12_copy_27 : decode cX12_copy 27 = .ok (.aload_n 0, 1) := by decide +kernel
theorem dX12_copy_28 : decode cX12_copy 28 = .ok (.getfield 16, 3) := by decide +kernel
theorem dX12_copy_31 : decode cX12_copy 31 = .ok (.iload_n 1, 1) := by decide +kernel
theorem dX12_copy_32 : decode cX12_copy 32 = .ok (.iaload, 1) := by decide +kernel
theorem dX12_copy_33 : decode cX12_copy 33 = .ok (.ifCond .lt 12, 3) := by decide +kernel
theorem dX12_copy_36 : decode cX12_copy 36 = .ok (.aload_n 0, 1) := by decide +kernel
theorem dX12_copy_37 : decode cX12_copy 37 = .ok (.getfield 16, 3) := by decide +kernel
theorem dX12_copy_40 : decode cX12_copy 40 = .ok (.iload_n 3, 1) := by decide +kernel
theorem dX12_copy_41 : decode cX12_copy 41 = .ok (.iaload, 1) := by decide +kernel
theorem dX12_copy_42 : decode cX12_copy 42 = .ok (.ifCond .ge 9, 3) := by decide +kernel
theorem dX12_copy_45 : decode cX12_copy 45 = .ok (.aload_n 0, 1) := by decide +kernel
theorem dX12_copy_46 : decode cX12_copy 46 = .ok (.iconst 1, 1) := by decide +kernel
theorem dX12_copy_47 : decode cX12_copy 47 = .ok (.invokevirtual 81, 3) := by decide +kernel
theorem dX12_copy_50 : decode cX12_copy 50 = .ok (.ireturn, 1) := by decide +kernel
theorem dX12_copy_51 : decode cX12_copy 51 = .ok (.aload_n 0, 1) := by decide +kernel
theorem dX12_copy_52 : decode cX12_copy 52 = .ok (.getfield 16, 3) := by decide +kernel
theorem dX12_copy_55 : decode cX12_copy 55 = .ok (.iload_n 1, 1) := by decide +kernel
theorem dX12_copy_56 : decode cX12_copy 56 = .ok (.iaload, 1) := by decide +kernel
theorem dX12_copy_57 : decode cX12_copy 57 = .ok (.aload_n 0, 1) := by decide +kernel
theorem dX12_copy_58 : decode cX12_copy 58 = .ok (.getfield 16, 3) := by decide +kernel
theorem dX12_copy_61 : decode cX12_copy 61 = .ok (.iload_n 3, 1) := by decide +kernel
theorem dX12_copy_62 : decode cX12_copy 62 = .ok (.iaload, 1) := by decide +kernel
theorem dX12_copy_63 : decode cX12_copy 63 = .ok (.if_icmp .eq 9, 3) := by decide +kernel
theorem dX12_copy_66 : decode cX12_copy 66 = .ok (.aload_n 0, 1) := by decide +kernel
theorem dX12_copy_67 : decode cX12_copy 67 = .ok (.iconst 5, 1) := by decide +kernel
theorem dX12_copy_68 : decode cX12_copy 68 = .ok (.invokevirtual 81, 3) := by decide +kernel
theorem dX12_copy_71 : decode cX12_copy 71 = .ok (.ireturn, 1) := by decide +kernel
theorem dX12_copy_72 : decode cX12_copy 72 = .ok (.iload_n 2, 1) := by decide +kernel
theorem dX12_copy_73 : decode cX12_copy 73 = .ok (.ifCond .lt 48, 3) := by decide +kernel
theorem dX12_copy_76 : decode cX12_copy 76 = .ok (.iload 4, 2) := by decide +kernel
theorem dX12_copy_78 : decode cX12_copy 78 = .ok (.ifCond .lt 43, 3) := by decide +kernel
theorem dX12_copy_81 : decode cX12_copy 81 = .ok (.iload 5, 2) := by decide +kernel
theorem dX12_copy_83 : decode cX12_copy 83 = .ok (.ifCond .lt 38, 3) := by decide +kernel
theorem dX12_copy_86 : decode cX12_copy 86 = .ok (.iload_n 2, 1) := by decide +kernel
theorem dX12_copy_87 : decode cX12_copy 87 = .ok (.i2l, 1) := by decide +kernel
theorem dX12_copy_88 : decode cX12_copy 88 = .ok (.iload 5, 2) := by decide +kernel
theorem dX12_copy_90 : decode cX12_copy 90 = .ok (.i2l, 1) := by decide +kernel
theorem dX12_copy_91 : decode cX12_copy 91 = .ok (.ladd, 1) := by decide +kernel
theorem dX12_copy_92 : decode cX12_copy 92 = .ok (.aload_n 0, 1) := by decide +kernel
theorem dX12_copy_93 : decode cX12_copy 93 = .ok (.getfield 19, 3) := by decide +kernel
theorem dX12_copy_96 : decode cX12_copy 96 = .ok (.iload_n 1, 1) := by decide +kernel
theorem dX12_copy_97 : decode cX12_copy 97 = .ok (.iaload, 1) := by decide +kernel
theorem dX12_copy_98 : decode cX12_copy 98 = .ok (.i2l, 1) := by decide +kernel
theorem dX12_copy_99 : decode cX12_copy 99 = .ok (.lcmp, 1) := by decide +kernel
theorem dX12_copy_100 : decode cX12_copy 100 = .ok (.ifCond .gt 21, 3) := by decide +kernel
theorem dX12_copy_103 : decode cX12_copy 103 = .ok (.iload 4, 2) := by decide +kernel
theorem dX12_copy_105 : decode cX12_copy 105 = .ok (.i2l, 1) := by decide +kernel
theorem dX12_copy_106 : decode cX12_copy 106 = .ok (.iload 5, 2) := by decide +kernel
theorem dX12_copy_108 : decode cX12_copy 108 = .ok (.i2l, 1) := by decide +kernel
theorem dX12_copy_109 : decode cX12_copy 109 = .ok (.ladd, 1) := by decide +kernel
theorem dX12_copy_110 : decode cX12_copy 110 = .ok (.aload_n 0, 1) := by decide +kernel
theorem dX12_copy_111 : decode cX12_copy 111 = .ok (.getfield 19, 3) := by decide +kernel
theorem dX12_copy_114 : decode cX12_copy 114 = .ok (.iload_n 3, 1) := by decide +kernel
theorem dX12_copy_115 : decode cX12_copy 115 = .ok (.iaload, 1) := by decide +kernel
theorem dX12_copy_116 : decode cX12_copy 116 = .ok (.i2l, 1) := by decide +kernel
theorem dX12_copy_117 : decode cX12_copy 117 = .ok (.lcmp, 1) := by decide +kernel
theorem dX12_copy_118 : decode cX12_copy 118 = .ok (.ifCond .le 9, 3) := by decide +kernel
theorem dX12_copy_121 : decode cX12_copy 121 = .ok (.aload_n 0, 1) := by decide +kernel
theorem dX12_copy_122 : decode cX12_copy 122 = .ok (.iconst 2, 1) := by decide +kernel
theorem dX12_copy_123 : decode cX12_copy 123 = .ok (.invokevirtual 81, 3) := by decide +kernel
theorem dX12_copy_126 : decode cX12_copy 126 = .ok (.ireturn, 1) := by decide +kernel
theorem dX12_copy_127 : decode cX12_copy 127 = .ok (.iload_n 2, 1) := by decide +kernel
theorem dX12_copy_128 : decode cX12_copy 128 = .ok (.iload 4, 2) := by decide +kernel
theorem dX12_copy_130 : decode cX12_copy 130 = .ok (.if_icmp .lt 7, 3) := by decide +kernel
theorem dX12_copy_133 : decode cX12_copy 133 = .ok (.iconst 1, 1) := by decide +kernel
theorem dX12_copy_134 : decode cX12_copy 134 = .ok (.goto 4, 3) := by decide +kernel
theorem dX12_copy_137 : decode cX12_copy 137 = .ok (.iconst 0, 1) := by decide +kernel
theorem dX12_copy_138 : decode cX12_copy 138 = .ok (.istore 6, 2) := by decide +kernel
theorem dX12_copy_140 : decode cX12_copy 140 = .ok (.iconst 0, 1) := by decide +kernel
theorem dX12_copy_141 : decode cX12_copy 141 = .ok (.istore 7, 2) := by decide +kernel
theorem dX12_copy_143 : decode cX12_copy 143 = .ok (.iload 7, 2) := by decide +kernel
theorem dX12_copy_145 : decode cX12_copy 145 = .ok (.iload 5, 2) := by decide +kernel
theorem dX12_copy_147 : decode cX12_copy 147 = .ok (.if_icmp .ge 57, 3) := by decide +kernel
theorem dX12_copy_150 : decode cX12_copy 150 = .ok (.iload 6, 2) := by decide +kernel
theorem dX12_copy_152 : decode cX12_copy 152 = .ok (.ifCond .eq 8, 3) := by decide +kernel
theorem dX12_copy_155 : decode cX12_copy 155 = .ok (.iload 7, 2) := by decide +kernel
theorem dX12_copy_157 : decode cX12_copy 157 = .ok (.goto 10, 3) := by decide +kernel
theorem dX12_copy_160 : decode cX12_copy 160 = .ok (.iload 5, 2) := by decide +kernel
theorem dX12_copy_162 : decode cX12_copy 162 = .ok (.iconst 1, 1) := by decide +kernel
theorem dX12_copy_163 : decode cX12_copy 163 = .ok (.isub, 1) := by decide +kernel
theorem dX12_copy_164 : decode cX12_copy 164 = .ok (.iload 7, 2) := by decide +kernel
theorem dX12_copy_166 : decode cX12_copy 166 = .ok (.isub, 1) := by decide +kernel
theorem dX12_copy_167 : decode cX12_copy 167 = .ok (.istore 8, 2) := by decide +kernel
theorem dX12_copy_169 : decode cX12_copy 169 = .ok (.aload_n 0, 1) := by decide +kernel
theorem dX12_copy_170 : decode cX12_copy 170 = .ok (.getfield 22, 3) := by decide +kernel
theorem dX12_copy_173 : decode cX12_copy 173 = .ok (.bipush 60, 2) := by decide +kernel
theorem dX12_copy_175 : decode cX12_copy 175 = .ok (.iload_n 3, 1) := by decide +kernel
theorem dX12_copy_176 : decode cX12_copy 176 = .ok (.imul, 1) := by decide +kernel
theorem dX12_copy_177 : decode cX12_copy 177 = .ok (.iload 4, 2) := by decide +kernel
theorem dX12_copy_179 : decode cX12_copy 179 = .ok (.iadd, 1) := by decide +kernel
theorem dX12_copy_180 : decode cX12_copy 180 = .ok (.iload 8, 2) := by decide +kernel
theorem dX12_copy_182 : decode cX12_copy 182 = .ok (.iadd, 1) := by decide +kernel
theorem dX12_copy_183 : decode cX12_copy 183 = .ok (.aload_n 0, 1) := by decide +kernel
theorem dX12_copy_184 : decode cX12_copy 184 = .ok (.getfield 22, 3) := by decide +kernel
theorem dX12_copy_187 : decode cX12_copy 187 = .ok (.bipush 60, 2) := by decide +kernel
theorem dX12_copy_189 : decode cX12_copy 189 = .ok (.iload_n 1, 1) := by decide +kernel
theorem dX12_copy_190 : decode cX12_copy 190 = .ok (.imul, 1) := by decide +kernel
theorem dX12_copy_191 : decode cX12_copy 191 = .ok (.iload_n 2, 1) := by decide +kernel
theorem dX12_copy_192 : decode cX12_copy 192 = .ok (.iadd, 1) := by decide +kernel
theorem dX12_copy_193 : decode cX12_copy 193 = .ok (.iload 8, 2) := by decide +kernel
theorem dX12_copy_195 : decode cX12_copy 195 = .ok (.iadd, 1) := by decide +kernel
theorem dX12_copy_196 : decode cX12_copy 196 = .ok (.iaload, 1) := by decide +kernel
theorem dX12_copy_197 : decode cX12_copy 197 = .ok (.iastore, 1) := by decide +kernel
theorem dX12_copy_198 : decode cX12_copy 198 = .ok (.iinc 7 1, 3) := by decide +kernel
theorem dX12_copy_201 : decode cX12_copy 201 = .ok (.goto (-58), 3) := by decide +kernel
theorem dX12_copy_204 : decode cX12_copy 204 = .ok (.iload 5, 2) := by decide +kernel
theorem dX12_copy_206 : decode cX12_copy 206 = .ok (.ireturn, 1) := by decide +kernel
set_option maxRecDepth 20000 in
theorem ggX12_drop_X12_isSheet : GoodIn wsX12_drop wsX12_isSheet := goodIn_r _ [9, 10, 11, 12, 8, 13] (by decide +kernel) (by decide +kernel)
set_option maxRecDepth 20000 in
theorem gX12_drop_X12_isSheet : GoodIn wsX12_drop (va_wsS RX12 74 yX12_isSheet wsX12_isSheet) := goodIn_app (goodIn_of _ (by decide +kernel)) ggX12_drop_X12_isSheet
set_option maxRecDepth 20000 in
theorem ggX12_drop_X12_found : GoodIn wsX12_drop wsX12_found := goodIn_r _ [17, 3, 18, 19, 20, 21, 22, 23, 24, 25, 26, 27, 28, 29, 30, 31, 32, 33, 34, 35, 36, 37, 38, 39, 40] (by decide +kernel) (by decide +kernel)
set_option maxRecDepth 20000 in
theorem gX12_drop_X12_found : GoodIn wsX12_drop (wsV RX12 81 RX12 yX12_found wsX12_found) := goodIn_app (goodIn_of _ (by decide +kernel)) ggX12_drop_X12_found
theorem dX12_drop_0 : decode cX12_drop 0 = .ok (.aload_n 0, 1) := by decide +kernel
theorem dX12_drop_1 : decode cX12_drop 1 = .ok (.iconst 0, 1) := by decide +kernel
theorem dX12_drop_2 : decode cX12_drop 2 = .ok (.putfield 60, 3) := by decide +kernel
theorem dX12_drop_5 : decode cX12_drop 5 = .ok (.iload_n 1, 1) := by decide +kernel
theorem dX12_drop_6 : decode cX12_drop 6 = .ok (.invokestatic 74, 3) := by decide +kernel
theorem dX12_drop_9 : decode cX12_drop 9 = .ok (.ifCond .ne 6, 3) := by decide +kernel
theorem dX12_drop_12 : decode cX12_drop 12 = .ok (.ldc 80, 2) := by decide +kernel
theorem dX12_drop_14 : decode cX12_drop 14 = .ok (.ireturn, 1) := by decide +kernel
theorem dX12_drop_15 : decode cX12_drop 15 = .ok (.aload_n 0, 1) := by decide +kernel
theorem dX12_drop_16 : decode cX12_drop 16 = .ok (.iconst 0, 1) := by decide +kernel
theorem dX12_drop_17 : decode cX12_drop 17 = .ok (.putfield 64, 3) := by decide +kernel
theorem dX12_drop_20 : decode cX12_drop 20 = .ok (.aload_n 0, 1) := by decide +kernel
theorem dX12_drop_21 : decode cX12_drop 21 = .ok (.getfield 16, 3) := by decide +kernel
theorem dX12_drop_24 : decode cX12_drop 24 = .ok (.iload_n 1, 1) := by decide +kernel
theorem dX12_drop_25 : decode cX12_drop 25 = .ok (.iaload, 1) := by decide +kernel
theorem dX12_drop_26 : decode cX12_drop 26 = .ok (.ifCond .ge 9, 3) := by decide +kernel
theorem dX12_drop_29 : decode cX12_drop 29 = .ok (.aload_n 0, 1) := by decide +kernel
theorem dX12_drop_30 : decode cX12_drop 30 = .ok (.iconst 1, 1) := by decide +kernel
theorem dX12_drop_31 : decode cX12_drop 31 = .ok (.invokevirtual 81, 3) := by decide +kernel
theorem dX12_drop_34 : decode cX12_drop 34 = .ok (.ireturn, 1) := by decide +kernel
theorem dX12_drop_35 : decode cX12_drop 35 = .ok (.aload_n 0, 1) := by decide +kernel
theorem dX12_drop_36 : decode cX12_drop 36 = .ok (.getfield 16, 3) := by decide +kernel
theorem dX12_drop_39 : decode cX12_drop 39 = .ok (.iload_n 1, 1) := by decide +kernel
theorem dX12_drop_40 : decode cX12_drop 40 = .ok (.iconst (-1), 1) := by decide +kernel
theorem dX12_drop_41 : decode cX12_drop 41 = .ok (.iastore, 1) := by decide +kernel
theorem dX12_drop_42 : decode cX12_drop 42 = .ok (.aload_n 0, 1) := by decide +kernel
theorem dX12_drop_43 : decode cX12_drop 43 = .ok (.getfield 19, 3) := by decide +kernel
theorem dX12_drop_46 : decode cX12_drop 46 = .ok (.iload_n 1, 1) := by decide +kernel
theorem dX12_drop_47 : decode cX12_drop 47 = .ok (.iaload, 1) := by decide +kernel
theorem dX12_drop_48 : decode cX12_drop 48 = .ok (.ireturn, 1) := by decide +kernel
set_option maxRecDepth 20000 in
theorem ggX12_world_X12_in : GoodIn wsX12_world wsX12_in := goodIn_r _ [17] (by decide +kernel) (by decide +kernel)
set_option maxRecDepth 20000 in
theorem gX12_world_X12_in : GoodIn wsX12_world (va_wsS RX12 70 yX12_in wsX12_in) := goodIn_app (goodIn_of _ (by decide +kernel)) ggX12_world_X12_in
set_option maxRecDepth 20000 in
theorem ggX12_world_X12_isSheet : GoodIn wsX12_world wsX12_isSheet := goodIn_r _ [20, 21, 14, 15, 16, 17] (by decide +kernel) (by decide +kernel)
set_option maxRecDepth 20000 in
theorem gX12_world_X12_isSheet : GoodIn wsX12_world (va_wsS RX12 74 yX12_isSheet wsX12_isSheet) := goodIn_app (goodIn_of _ (by decide +kernel)) ggX12_world_X12_isSheet
set_option maxRecDepth 20000 in
theorem ggX12_world_X12_found : GoodIn wsX12_world wsX12_found := goodIn_r _ [25, 11, 26, 27, 28, 29, 30, 31, 32, 33, 34, 35, 36, 37, 38, 39, 40, 41, 42, 43, 44, 45, 46, 47, 48] (by decide +kernel) (by decide +kernel)
set_option maxRecDepth 20000 in
theorem gX12_world_X12_found : GoodIn wsX12_world (wsV RX12 81 RX12 yX12_found wsX12_found) := goodIn_app (goodIn_of _ (by decide +kernel)) ggX12_world_X12_found
theorem dX12_world_0 : decode cX12_world 0 = .ok (.aload_n 0, 1) := by decide +kernel
theorem dX12_world_1 : decode cX12_world 1 = .ok (.iconst 0, 1) := by decide +kernel
theorem dX12_world_2 : decode cX12_world 2 = .ok (.putfield 60, 3) := by decide +kernel
theorem dX12_world_5 : decode cX12_world 5 = .ok (.iload_n 1, 1) := by decide +kernel
theorem dX12_world_6 : decode cX12_world 6 = .ok (.i2l, 1) := by decide +kernel
theorem dX12_world_7 : decode cX12_world 7 = .ok (.lconst 1, 1) := by decide +kernel
theorem dX12_world_8 : decode cX12_world 8 = .ok (.ldc2_w 85, 3) := by decide +kernel
theorem dX12_world_11 : decode cX12_world 11 = .ok (.invokestatic 70, 3) := by decide +kernel
theorem dX12_world_14 : decode cX12_world 14 = .ok (.ifCond .eq 10, 3) := by decide +kernel
theorem dX12_world_17 : decode cX12_world 17 = .ok (.iload_n 2, 1) := by decide +kernel
theorem dX12_world_18 : decode cX12_world 18 = .ok (.invokestatic 74, 3) := by decide +kernel
theorem dX12_world_21 : decode cX12_world 21 = .ok (.ifCond .ne 6, 3) := by decide +kernel
theorem dX12_world_24 : decode cX12_world 24 = .ok (.ldc 80, 2) := by decide +kernel
theorem dX12_world_26 : decode cX12_world 26 = .ok (.ireturn, 1) := by decide +kernel
theorem dX12_world_27 : decode cX12_world 27 = .ok (.aload_n 0, 1) := by decide +kernel
theorem dX12_world_28 : decode cX12_world 28 = .ok (.getfield 87, 3) := by decide +kernel
theorem dX12_world_31 : decode cX12_world 31 = .ok (.bipush 8, 2) := by decide +kernel
theorem dX12_world_33 : decode cX12_world 33 = .ok (.if_icmp .ne 6, 3) := by decide +kernel
theorem dX12_world_36 : decode cX12_world 36 = .ok (.ldc 90, 2) := by decide +kernel
theorem dX12_world_38 : decode cX12_world 38 = .ok (.ireturn, 1) := by decide +kernel
theorem dX12_world_39 : decode cX12_world 39 = .ok (.aload_n 0, 1) := by decide +kernel
theorem dX12_world_40 : decode cX12_world 40 = .ok (.getfield 16, 3) := by decide +kernel
theorem dX12_world_43 : decode cX12_world 43 = .ok (.iload_n 2, 1) := by decide +kernel
theorem dX12_world_44 : decode cX12_world 44 = .ok (.iaload, 1) := by decide +kernel
theorem dX12_world_45 : decode cX12_world 45 = .ok (.ifCond .ge 9, 3) := by decide +kernel
theorem dX12_world_48 : decode cX12_world 48 = .ok (.aload_n 0, 1) := by decide +kernel
theorem dX12_world_49 : decode cX12_world 49 = .ok (.iconst 1, 1) := by decide +kernel
theorem dX12_world_50 : decode cX12_world 50 = .ok (.invokevirtual 81, 3) := by decide +kernel
theorem dX12_world_53 : decode cX12_world 53 = .ok (.ireturn, 1) := by decide +kernel
theorem dX12_world_54 : decode cX12_world 54 = .ok (.iload_n 3, 1) := by decide +kernel
theorem dX12_world_55 : decode cX12_world 55 = .ok (.ifCond .lt 20, 3) := by decide +kernel
theorem dX12_world_58 : decode cX12_world 58 = .ok (.iload_n 3, 1) := by decide +kernel
theorem dX12_world_59 : decode cX12_world 59 = .ok (.i2l, 1) := by decide +kernel
theorem dX12_world_60 : decode cX12_world 60 = .ok (.ldc2_w 91, 3) := by decide +kernel
theorem dX12_world_63 : decode cX12_world 63 = .ok (.ladd, 1) := by decide +kernel
theorem dX12_world_64 : decode cX12_world 64 = .ok (.aload_n 0, 1) := by decide +kernel
theorem dX12_world_65 : decode cX12_world 65 = .ok (.getfield 19, 3) := by decide +kernel
theorem dX12_world_68 : decode cX12_world 68 = .ok (.iload_n 2, 1) := by decide +kernel
theorem dX12_world_69 : decode cX12_world 69 = .ok (.iaload, 1) := by decide +kernel
theorem dX12_world_70 : decode cX12_world 70 = .ok (.i2l, 1) := by decide +kernel
theorem dX12_world_71 : decode cX12_world 71 = .ok (.lcmp, 1) := by decide +kernel
theorem dX12_world_72 : decode cX12_world 72 = .ok (.ifCond .le 9, 3) := by decide +kernel
theorem dX12_world_75 : decode cX12_world 75 = .ok (.aload_n 0, 1) := by decide +kernel
theorem dX12_world_76 : decode cX12_world 76 = .ok (.iconst 2, 1) := by decide +kernel
theorem dX12_world_77 : decode cX12_world 77 = .ok (.invokevirtual 81, 3) := by decide +kernel
theorem dX12_world_80 : decode cX12_world 80 = .ok (.ireturn, 1) := by decide +kernel
theorem dX12_world_81 : decode cX12_world 81 = .ok (.iconst 0, 1) := by decide +kernel
theorem dX12_world_82 : decode cX12_world 82 = .ok (.istore 4, 2) := by decide +kernel
theorem dX12_world_84 : decode cX12_world 84 = .ok (.iload 4, 2) := by decide +kernel
theorem dX12_world_86 : decode cX12_world 86 = .ok (.bipush 8, 2) := by decide +kernel
theorem dX12_world_88 : decode cX12_world 88 = .ok (.if_icmp .ge 37, 3) := by decide +kernel
theorem dX12_world_91 : decode cX12_world 91 = .ok (.aload_n 0, 1) := by decide +kernel
theorem dX12_world_92 : decode cX12_world 92 = .ok (.getfield 22, 3) := by decide +kernel
theorem dX12_world_95 : decode cX12_world 95 = .ok (.bipush 60, 2) := by decide +kernel
theorem dX12_world_97 : decode cX12_world 97 = .ok (.iload_n 2, 1) := by decide +kernel
theorem dX12_world_98 : decode cX12_world 98 = .ok (.imul, 1) := by decide +kernel
theorem dX12_world_99 : decode cX12_world 99 = .ok (.iload_n 3, 1) := by decide +kernel
theorem dX12_world_100 : decode cX12_world 100 = .ok (.iadd, 1) := by decide +kernel
theorem dX12_world_101 : decode cX12_world 101 = .ok (.iload 4, 2) := by decide +kernel
theorem dX12_world_103 : decode cX12_world 103 = .ok (.iadd, 1) := by decide +kernel
theorem dX12_world_104 : decode cX12_world 104 = .ok (.iaload, 1) := by decide +kernel
theorem dX12_world_105 : decode cX12_world 105 = .ok (.i2l, 1) := by decide +kernel
theorem dX12_world_106 : decode cX12_world 106 = .ok (.lconst 0, 1) := by decide +kernel
theorem dX12_world_107 : decode cX12_world 107 = .ok (.ldc2_w 93, 3) := by decide +kernel
theorem dX12_world_110 : decode cX12_world 110 = .ok (.invokestatic 70, 3) := by decide +kernel
theorem dX12_world_113 : decode cX12_world 113 = .ok (.ifCond .ne 6, 3) := by decide +kernel
theorem dX12_world_116 : decode cX12_world 116 = .ok (.ldc 80, 2) := by decide +kernel
theorem dX12_world_118 : decode cX12_world 118 = .ok (.ireturn, 1) := by decide +kernel
theorem dX12_world_119 : decode cX12_world 119 = .ok (.iinc 4 1, 3) := by decide +kernel
theorem dX12_world_122 : decode cX12_world 122 = .ok (.goto (-38), 3) := by decide +kernel
theorem dX12_world_125 : decode cX12_world 125 = .ok (.aload_n 0, 1) := by decide +kernel
theorem dX12_world_126 : decode cX12_world 126 = .ok (.iconst 0, 1) := by decide +kernel
theorem dX12_world_127 : decode cX12_world 127 = .ok (.putfield 64, 3) := by decide +kernel
theorem dX12_world_130 : decode cX12_world 130 = .ok (.iconst 0, 1) := by decide +kernel
theorem dX12_world_131 : decode cX12_world 131 = .ok (.istore 4, 2) := by decide +kernel
theorem dX12_world_133 : decode cX12_world 133 = .ok (.iload 4, 2) := by decide +kernel
theorem dX12_world_135 : decode cX12_world 135 = .ok (.bipush 8, 2) := by decide +kernel
theorem dX12_world_137 : decode cX12_world 137 = .ok (.if_icmp .ge 38, 3) := by decide +kernel
theorem dX12_world_140 : decode cX12_world 140 = .ok (.aload_n 0, 1) := by decide +kernel
theorem dX12_world_141 : decode cX12_world 141 = .ok (.getfield 28, 3) := by decide +kernel
theorem dX12_world_144 : decode cX12_world 144 = .ok (.bipush 8, 2) := by decide +kernel
theorem dX12_world_146 : decode cX12_world 146 = .ok (.aload_n 0, 1) := by decide +kernel
theorem dX12_world_147 : decode cX12_world 147 = .ok (.getfield 87, 3) := by decide +kernel
theorem dX12_world_150 : decode cX12_world 150 = .ok (.imul, 1) := by decide +kernel
theorem dX12_world_151 : decode cX12_world 151 = .ok (.iload 4, 2) := by decide +kernel
theorem dX12_world_153 : decode cX12_world 153 = .ok (.iadd, 1) := by decide +kernel
theorem dX12_world_154 : decode cX12_world 154 = .ok (.aload_n 0, 1) := by decide +kernel
theorem dX12_world_155 : decode cX12_world 155 = .ok (.getfield 22, 3) := by decide +kernel
theorem dX12_world_158 : decode cX12_world 158 = .ok (.bipush 60, 2) := by decide +kernel
theorem dX12_world_160 : decode cX12_world 160 = .ok (.iload_n 2, 1) := by decide +kernel
theorem dX12_world_161 : decode cX12_world 161 = .ok (.imul, 1) := by decide +kernel
theorem dX12_world_162 : decode cX12_world 162 = .ok (.iload_n 3, 1) := by decide +kernel
theorem dX12_world_163 : decode cX12_world 163 = .ok (.iadd, 1) := by decide +kernel
theorem dX12_world_164 : decode cX12_world 164 = .ok (.iload 4, 2) := by decide +kernel
theorem dX12_world_166 : decode cX12_world 166 = .ok (.iadd, 1) := by decide +kernel
theorem dX12_world_167 : decode cX12_world 167 = .ok (.iaload, 1) := by decide +kernel
theorem dX12_world_168 : decode cX12_world 168 = .ok (.iastore, 1) := by decide +kernel
theorem dX12_world_169 : decode cX12_world 169 = .ok (.iinc 4 1, 3) := by decide +kernel
theorem dX12_world_172 : decode cX12_world 172 = .ok (.goto (-39), 3) := by decide +kernel
theorem dX12_world_175 : decode cX12_world 175 = .ok (.aload_n 0, 1) := by decide +kernel
theorem dX12_world_176 : decode cX12_world 176 = .ok (.getfield 25, 3) := by decide +kernel
theorem dX12_world_179 : decode cX12_world 179 = .ok (.aload_n 0, 1) := by decide +kernel
theorem dX12_world_180 : decode cX12_world 180 = .ok (.getfield 87, 3) := by decide +kernel
theorem dX12_world_183 : decode cX12_world 183 = .ok (.iload_n 1, 1) := by decide +kernel
theorem dX12_world_184 : decode cX12_world 184 = .ok (.iastore, 1) := by decide +kernel
theorem dX12_world_185 : decode cX12_world 185 = .ok (.aload_n 0, 1) := by decide +kernel
theorem dX12_world_186 : decode cX12_world 186 = .ok (.dup, 1) := by decide +kernel
theorem dX12_world_187 : decode cX12_world 187 = .ok (.getfield 87, 3) := by decide +kernel
theorem dX12_world_190 : decode cX12_world 190 = .ok (.iconst 1, 1) := by decide +kernel
theorem dX12_world_191 : decode cX12_world 191 = .ok (.iadd, 1) := by decide +kernel
theorem dX12_world_192 : decode cX12_world 192 = .ok (.putfield 87, 3) := by decide +kernel
theorem dX12_world_195 : decode cX12_world 195 = .ok (.aload_n 0, 1) := by decide +kernel
theorem dX12_world_196 : decode cX12_world 196 = .ok (.getfield 87, 3) := by decide +kernel
theorem dX12_world_199 : decode cX12_world 199 = .ok (.iconst 1, 1) := by decide +kernel
theorem dX12_world_200 : decode cX12_world 200 = .ok (.isub, 1) := by decide +kernel
theorem dX12_world_201 : decode cX12_world 201 = .ok (.ireturn, 1) := by decide +kernel
set_option maxRecDepth 20000 in
theorem ggX12_river_X12_in : GoodIn wsX12_river wsX12_in := goodIn_r _ [9] (by decide +kernel) (by decide +kernel)
set_option maxRecDepth 20000 in
theorem gX12_river_X12_in : GoodIn wsX12_river (va_wsS RX12 70 yX12_in wsX12_in) := goodIn_app (goodIn_of _ (by decide +kernel)) ggX12_river_X12_in
theorem dX12_river_0 : decode cX12_river 0 = .ok (.aload_n 0, 1) := by decide +kernel
theorem dX12_river_1 : decode cX12_river 1 = .ok (.iconst 0, 1) := by decide +kernel
theorem dX12_river_2 : decode cX12_river 2 = .ok (.putfield 60, 3) := by decide +kernel
theorem dX12_river_5 : decode cX12_river 5 = .ok (.iload_n 1, 1) := by decide +kernel
theorem dX12_river_6 : decode cX12_river 6 = .ok (.i2l, 1) := by decide +kernel
theorem dX12_river_7 : decode cX12_river 7 = .ok (.lconst 0, 1) := by decide +kernel
theorem dX12_river_8 : decode cX12_river 8 = .ok (.ldc2_w 68, 3) := by decide +kernel
theorem dX12_river_11 : decode cX12_river 11 = .ok (.invokestatic 70, 3) := by decide +kernel
theorem dX12_river_14 : decode cX12_river 14 = .ok (.ifCond .eq 15, 3) := by decide +kernel
theorem dX12_river_17 : decode cX12_river 17 = .ok (.iload_n 2, 1) := by decide +kernel
theorem dX12_river_18 : decode cX12_river 18 = .ok (.i2l, 1) := by decide +kernel
theorem dX12_river_19 : decode cX12_river 19 = .ok (.lconst 0, 1) := by decide +kernel
theorem dX12_river_20 : decode cX12_river 20 = .ok (.ldc2_w 95, 3) := by decide +kernel
theorem dX12_river_23 : decode cX12_river 23 = .ok (.invokestatic 70, 3) := by decide +kernel
theorem dX12_river_26 : decode cX12_river 26 = .ok (.ifCond .ne 6, 3) := by decide +kernel
theorem dX12_river_29 : decode cX12_river 29 = .ok (.ldc 80, 2) := by decide +kernel
theorem dX12_river_31 : decode cX12_river 31 = .ok (.ireturn, 1) := by decide +kernel
theorem dX12_river_32 : decode cX12_river 32 = .ok (.aload_n 0, 1) := by decide +kernel
theorem dX12_river_33 : decode cX12_river 33 = .ok (.getfield 13, 3) := by decide +kernel
theorem dX12_river_36 : decode cX12_river 36 = .ok (.iload_n 1, 1) := by decide +kernel
theorem dX12_river_37 : decode cX12_river 37 = .ok (.iaload, 1) := by decide +kernel
theorem dX12_river_38 : decode cX12_river 38 = .ok (.istore_n 3, 1) := by decide +kernel
theorem dX12_river_39 : decode cX12_river 39 = .ok (.aload_n 0, 1) := by decide +kernel
theorem dX12_river_40 : decode cX12_river 40 = .ok (.getfield 13, 3) := by decide +kernel
theorem dX12_river_43 : decode cX12_river 43 = .ok (.iload_n 1, 1) := by decide +kernel
theorem dX12_river_44 : decode cX12_river 44 = .ok (.iload_n 2, 1) := by decide +kernel
theorem dX12_river_45 : decode cX12_river 45 = .ok (.iastore, 1) := by decide +kernel
theorem dX12_river_46 : decode cX12_river 46 = .ok (.iload_n 3, 1) := by decide +kernel
theorem dX12_river_47 : decode cX12_river 47 = .ok (.ireturn, 1) := by decide +kernel
set_option maxRecDepth 20000 in
theorem ggX12_rule_X12_in : GoodIn wsX12_rule wsX12_in := goodIn_r _ [10] (by decide +kernel) (by decide +kernel)
set_option maxRecDepth 20000 in
theorem gX12_rule_X12_in : GoodIn wsX12_rule (va_wsS RX12 70 yX12_in wsX12_in) := goodIn_app (goodIn_of _ (by decide +kernel)) ggX12_rule_X12_in
theorem dX12_rule_0 : decode cX12_rule 0 = .ok (.aload_n 0, 1) := by decide +kernel
theorem dX12_rule_1 : decode cX12_rule 1 = .ok (.iconst 0, 1) := by decide +kernel
theorem dX12_rule_2 : decode cX12_rule 2 = .ok (.putfield 60, 3) := by decide +kernel
theorem dX12_rule_5 : decode cX12_rule 5 = .ok (.iload_n 1, 1) := by decide +kernel
theorem dX12_rule_6 : decode cX12_rule 6 = .ok (.i2l, 1) := by decide +kernel
theorem dX12_rule_7 : decode cX12_rule 7 = .ok (.lconst 0, 1) := by decide +kernel
theorem dX12_rule_8 : decode cX12_rule 8 = .ok (.ldc2_w 68, 3) := by decide +kernel
theorem dX12_rule_11 : decode cX12_rule 11 = .ok (.invokestatic 70, 3) := by decide +kernel
theorem dX12_rule_14 : decode cX12_rule 14 = .ok (.ifCond .eq 35, 3) := by decide +kernel
theorem dX12_rule_17 : decode cX12_rule 17 = .ok (.iload_n 1, 1) := by decide +kernel
theorem dX12_rule_18 : decode cX12_rule 18 = .ok (.iconst 2, 1) := by decide +kernel
theorem dX12_rule_19 : decode cX12_rule 19 = .ok (.if_icmp .ge 18, 3) := by decide +kernel
theorem dX12_rule_22 : decode cX12_rule 22 = .ok (.iload_n 2, 1) := by decide +kernel
theorem dX12_rule_23 : decode cX12_rule 23 = .ok (.i2l, 1) := by decide +kernel
theorem dX12_rule_24 : decode cX12_rule 24 = .ok (.lconst 1, 1) := by decide +kernel
theorem dX12_rule_25 : decode cX12_rule 25 = .ok (.ldc2_w 97, 3) := by decide +kernel
theorem dX12_rule_28 : decode cX12_rule 28 = .ok (.invokestatic 70, 3) := by decide +kernel
theorem dX12_rule_31 : decode cX12_rule 31 = .ok (.ifCond .ne 21, 3) := by decide +kernel
theorem dX12_rule_34 : decode cX12_rule 34 = .ok (.goto 15, 3) := by decide +kernel
theorem dX12_rule_37 : decode cX12_rule 37 = .ok (.iload_n 2, 1) := by decide +kernel
theorem dX12_rule_38 : decode cX12_rule 38 = .ok (.i2l, 1) := by decide +kernel
theorem dX12_rule_39 : decode cX12_rule 39 = .ok (.lconst 0, 1) := by decide +kernel
theorem dX12_rule_40 : decode cX12_rule 40 = .ok (.ldc2_w 93, 3) := by decide +kernel
theorem dX12_rule_43 : decode cX12_rule 43 = .ok (.invokestatic 70, 3) := by decide +kernel
theorem dX12_rule_46 : decode cX12_rule 46 = .ok (.ifCond .ne 6, 3) := by decide +kernel
theorem dX12_rule_49 : decode cX12_rule 49 = .ok (.ldc 80, 2) := by decide +kernel
theorem dX12_rule_51 : decode cX12_rule 51 = .ok (.ireturn, 1) := by decide +kernel
theorem dX12_rule_52 : decode cX12_rule 52 = .ok (.aload_n 0, 1) := by decide +kernel
theorem dX12_rule_53 : decode cX12_rule 53 = .ok (.getfield 7, 3) := by decide +kernel
theorem dX12_rule_56 : decode cX12_rule 56 = .ok (.iload_n 1, 1) := by decide +kernel
theorem dX12_rule_57 : decode cX12_rule 57 = .ok (.iaload, 1) := by decide +kernel
theorem dX12_rule_58 : decode cX12_rule 58 = .ok (.istore_n 3, 1) := by decide +kernel
theorem dX12_rule_59 : decode cX12_rule 59 = .ok (.aload_n 0, 1) := by decide +kernel
theorem dX12_rule_60 : decode cX12_rule 60 = .ok (.getfield 7, 3) := by decide +kernel
theorem dX12_rule_63 : decode cX12_rule 63 = .ok (.iload_n 1, 1) := by decide +kernel
theorem dX12_rule_64 : decode cX12_rule 64 = .ok (.iload_n 2, 1) := by decide +kernel
theorem dX12_rule_65 : decode cX12_rule 65 = .ok (.iastore, 1) := by decide +kernel
theorem dX12_rule_66 : decode cX12_rule 66 = .ok (.iload_n 3, 1) := by decide +kernel
theorem dX12_rule_67 : decode cX12_rule 67 = .ok (.ireturn, 1) := by decide +kernel
theorem dX12_groupOf_0 : decode cX12_groupOf 0 = .ok (.iconst 0, 1) := by decide +kernel
theorem dX12_groupOf_1 : decode cX12_groupOf 1 = .ok (.istore_n 3, 1) := by decide +kernel
theorem dX12_groupOf_2 : decode cX12_groupOf 2 = .ok (.iload_n 3, 1) := by decide +kernel
theorem dX12_groupOf_3 : decode cX12_groupOf 3 = .ok (.iload_n 1, 1) := by decide +kernel
theorem dX12_groupOf_4 : decode cX12_groupOf 4 = .ok (.if_icmp .ge 73, 3) := by decide +kernel
theorem dX12_groupOf_7 : decode cX12_groupOf 7 = .ok (.iconst 1, 1) := by decide +kernel
theorem dX12_groupOf_8 : decode cX12_groupOf 8 = .ok (.istore 4, 2) := by decide +kernel
theorem dX12_groupOf_10 : decode cX12_groupOf 10 = .ok (.iconst 0, 1) := by decide +kernel
theorem dX12_groupOf_11 : decode cX12_groupOf 11 = .ok (.istore 5, 2) := by decide +kernel
theorem dX12_groupOf_13 : decode cX12_groupOf 13 = .ok (.iload 5, 2) := by decide +kernel
theorem dX12_groupOf_15 : decode cX12_groupOf 15 = .ok (.iload_n 2, 1) := by decide +kernel
theorem dX12_groupOf_16 : decode cX12_groupOf 16 = .ok (.if_icmp .gt 48, 3) := by decide +kernel
theorem dX12_groupOf_19 : decode cX12_groupOf 19 = .ok (.iload 4, 2) := by decide +kernel
theorem dX12_groupOf_21 : decode cX12_groupOf 21 = .ok (.ifCond .eq 34, 3) := by decide +kernel
theorem dX12_groupOf_24 : decode cX12_groupOf 24 = .ok (.aload_n 0, 1) := by decide +kernel
theorem dX12_groupOf_25 : decode cX12_groupOf 25 = .ok (.getfield 28, 3) := by decide +kernel
theorem dX12_groupOf_28 : decode cX12_groupOf 28 = .ok (.bipush 8, 2) := by decide +kernel
theorem dX12_groupOf_30 : decode cX12_groupOf 30 = .ok (.iload_n 3, 1) := by decide +kernel
theorem dX12_groupOf_31 : decode cX12_groupOf 31 = .ok (.imul, 1) := by decide +kernel
theorem dX12_groupOf_32 : decode cX12_groupOf 32 = .ok (.iload 5, 2) := by decide +kernel
theorem dX12_groupOf_34 : decode cX12_groupOf 34 = .ok (.iadd, 1) := by decide +kernel
theorem dX12_groupOf_35 : decode cX12_groupOf 35 = .ok (.iaload, 1) := by decide +kernel
theorem dX12_groupOf_36 : decode cX12_groupOf 36 = .ok (.aload_n 0, 1) := by decide +kernel
theorem dX12_groupOf_37 : decode cX12_groupOf 37 = .ok (.getfield 28, 3) := by decide +kernel
theorem dX12_groupOf_40 : decode cX12_groupOf 40 = .ok (.bipush 8, 2) := by decide +kernel
theorem dX12_groupOf_42 : decode cX12_groupOf 42 = .ok (.iload_n 1, 1) := by decide +kernel
theorem dX12_groupOf_43 : decode cX12_groupOf 43 = .ok (.imul, 1) := by decide +kernel
theorem dX12_groupOf_44 : decode cX12_groupOf 44 = .ok (.iload 5, 2) := by decide +kernel
theorem dX12_groupOf_46 : decode cX12_groupOf 46 = .ok (.iadd, 1) := by decide +kernel
theorem dX12_groupOf_47 : decode cX12_groupOf 47 = .ok (.iaload, 1) := by decide +kernel
theorem dX12_groupOf_48 : decode cX12_groupOf 48 = .ok (.if_icmp .ne 7, 3) := by decide +kernel
theorem dX12_groupOf_51 : decode cX12_groupOf 51 = .ok (.iconst 1, 1) := by decide +kernel
theorem dX12_groupOf_52 : decode cX12_groupOf 52 = .ok (.goto 4, 3) := by decide +kernel
theorem dX12_groupOf_55 : decode cX12_groupOf 55 = .ok (.iconst 0, 1) := by decide +kernel
theorem dX12_groupOf_56 : decode cX12_groupOf 56 = .ok (.istore 4, 2) := by decide +kernel
theorem dX12_groupOf_58 : decode cX12_groupOf 58 = .ok (.iinc 5 1, 3) := by decide +kernel
theorem dX12_groupOf_61 : decode cX12_groupOf 61 = .ok (.goto (-48), 3) := by decide +kernel
theorem dX12_groupOf_64 : decode cX12_groupOf 64 = .ok (.iload 4, 2) := by decide +kernel
theorem dX12_groupOf_66 : decode cX12_groupOf 66 = .ok (.ifCond .eq 5, 3) := by decide +kernel
theorem dX12_groupOf_69 : decode cX12_groupOf 69 = .ok (.iload_n 3, 1) := by decide +kernel
theorem dX12_groupOf_70 : decode cX12_groupOf 70 = .ok (.ireturn, 1) := by decide +kernel
theorem dX12_groupOf_71 : decode cX12_groupOf 71 = .ok (.iinc 3 1, 3) := by decide +kernel
theorem dX12_groupOf_74 : decode cX12_groupOf 74 = .ok (.goto (-72), 3) := by decide +kernel
theorem dX12_groupOf_77 : decode cX12_groupOf 77 = .ok (.iload_n 1, 1) := by decide +kernel
theorem dX12_groupOf_78 : decode cX12_groupOf 78 = .ok (.ireturn, 1) := by decide +kernel
theorem dX12_stateIn_0 : decode cX12_stateIn 0 = .ok (.iload_n 0, 1) := by decide +kernel
theorem dX12_stateIn_1 : decode cX12_stateIn 1 = .ok (.ifCond .ne 13, 3) := by decide +kernel
theorem dX12_stateIn_4 : decode cX12_stateIn 4 = .ok (.iload_n 1, 1) := by decide +kernel
theorem dX12_stateIn_5 : decode cX12_stateIn 5 = .ok (.ifCond .eq 7, 3) := by decide +kernel
theorem dX12_stateIn_8 : decode cX12_stateIn 8 = .ok (.iconst 1, 1) := by decide +kernel
theorem dX12_stateIn_9 : decode cX12_stateIn 9 = .ok (.goto 4, 3) := by decide +kernel
theorem dX12_stateIn_12 : decode cX12_stateIn 12 = .ok (.iconst 0, 1) := by decide +kernel
theorem dX12_stateIn_13 : decode cX12_stateIn 13 = .ok (.ireturn, 1) := by decide +kernel
theorem dX12_stateIn_14 : decode cX12_stateIn 14 = .ok (.iload_n 0, 1) := by decide +kernel
theorem dX12_stateIn_15 : decode cX12_stateIn 15 = .ok (.iconst 3, 1) := by decide +kernel
theorem dX12_stateIn_16 : decode cX12_stateIn 16 = .ok (.if_icmp .ge 7, 3) := by decide +kernel
theorem dX12_stateIn_19 : decode cX12_stateIn 19 = .ok (.iconst 1, 1) := by decide +kernel
theorem dX12_stateIn_20 : decode cX12_stateIn 20 = .ok (.goto 22, 3) := by decide +kernel
theorem dX12_stateIn_23 : decode cX12_stateIn 23 = .ok (.iload_n 0, 1) := by decide +kernel
theorem dX12_stateIn_24 : decode cX12_stateIn 24 = .ok (.bipush 6, 2) := by decide +kernel
theorem dX12_stateIn_26 : decode cX12_stateIn 26 = .ok (.if_icmp .ge 7, 3) := by decide +kernel
theorem dX12_stateIn_29 : decode cX12_stateIn 29 = .ok (.iconst 3, 1) := by decide +kernel
theorem dX12_stateIn_30 : decode cX12_stateIn 30 = .ok (.goto 12, 3) := by decide +kernel
theorem dX12_stateIn_33 : decode cX12_stateIn 33 = .ok (.iload_n 1, 1) := by decide +kernel
theorem dX12_stateIn_34 : decode cX12_stateIn 34 = .ok (.ifCond .eq 7, 3) := by decide +kernel
theorem dX12_stateIn_37 : decode cX12_stateIn 37 = .ok (.iconst 3, 1) := by decide +kernel
theorem dX12_stateIn_38 : decode cX12_stateIn 38 = .ok (.goto 4, 3) := by decide +kernel
theorem dX12_stateIn_41 : decode cX12_stateIn 41 = .ok (.iconst 2, 1) := by decide +kernel
theorem dX12_stateIn_42 : decode cX12_stateIn 42 = .ok (.ireturn, 1) := by decide +kernel
theorem dX12_after_0 : decode cX12_after 0 = .ok (.iload_n 1, 1) := by decide +kernel
theorem dX12_after_1 : decode cX12_after 1 = .ok (.ifCond .ne 41, 3) := by decide +kernel
theorem dX12_after_4 : decode cX12_after 4 = .ok (.iload_n 2, 1) := by decide +kernel
theorem dX12_after_5 : decode cX12_after 5 = .ok (.ifCond .ne 7, 3) := by decide +kernel
theorem dX12_after_8 : decode cX12_after 8 = .ok (.iconst 0, 1) := by decide +kernel
theorem dX12_after_9 : decode cX12_after 9 = .ok (.goto 32, 3) := by decide +kernel
theorem dX12_after_12 : decode cX12_after 12 = .ok (.aload_n 0, 1) := by decide +kernel
theorem dX12_after_13 : decode cX12_after 13 = .ok (.getfield 7, 3) := by decide +kernel
theorem dX12_after_16 : decode cX12_after 16 = .ok (.iconst 0, 1) := by decide +kernel
theorem dX12_after_17 : decode cX12_after 17 = .ok (.iaload, 1) := by decide +kernel
theorem dX12_after_18 : decode cX12_after 18 = .ok (.iconst 1, 1) := by decide +kernel
theorem dX12_after_19 : decode cX12_after 19 = .ok (.if_icmp .ne 12, 3) := by decide +kernel
theorem dX12_after_22 : decode cX12_after 22 = .ok (.bipush 8, 2) := by decide +kernel
theorem dX12_after_24 : decode cX12_after 24 = .ok (.iload_n 3, 1) := by decide +kernel
theorem dX12_after_25 : decode cX12_after 25 = .ok (.iadd, 1) := by decide +kernel
theorem dX12_after_26 : decode cX12_after 26 = .ok (.iconst 1, 1) := by decide +kernel
theorem dX12_after_27 : decode cX12_after 27 = .ok (.iadd, 1) := by decide +kernel
theorem dX12_after_28 : decode cX12_after 28 = .ok (.goto 13, 3) := by decide +kernel
theorem dX12_after_31 : decode cX12_after 31 = .ok (.iconst 0, 1) := by decide +kernel
theorem dX12_after_32 : decode cX12_after 32 = .ok (.aload_n 0, 1) := by decide +kernel
theorem dX12_after_33 : decode cX12_after 33 = .ok (.getfield 7, 3) := by decide +kernel
theorem dX12_after_36 : decode cX12_after 36 = .ok (.iconst 0, 1) := by decide +kernel
theorem dX12_after_37 : decode cX12_after 37 = .ok (.iaload, 1) := by decide +kernel
theorem dX12_after_38 : decode cX12_after 38 = .ok (.iadd, 1) := by decide +kernel
theorem dX12_after_39 : decode cX12_after 39 = .ok (.iconst 1, 1) := by decide +kernel
theorem dX12_after_40 : decode cX12_after 40 = .ok (.isub, 1) := by decide +kernel
theorem dX12_after_41 : decode cX12_after 41 = .ok (.ireturn, 1) := by decide +kernel
theorem dX12_after_42 : decode cX12_after 42 = .ok (.iload_n 1, 1) := by decide +kernel
theorem dX12_after_43 : decode cX12_after 43 = .ok (.iconst 3, 1) := by decide +kernel
theorem dX12_after_44 : decode cX12_after 44 = .ok (.if_icmp .ge 21, 3) := by decide +kernel
theorem dX12_after_47 : decode cX12_after 47 = .ok (.iload_n 1, 1) := by decide +kernel
theorem dX12_after_48 : decode cX12_after 48 = .ok (.iconst 1, 1) := by decide +kernel
theorem dX12_after_49 : decode cX12_after 49 = .ok (.if_icmp .ne 12, 3) := by decide +kernel
theorem dX12_after_52 : decode cX12_after 52 = .ok (.bipush 8, 2) := by decide +kernel
theorem dX12_after_54 : decode cX12_after 54 = .ok (.iload_n 3, 1) := by decide +kernel
theorem dX12_after_55 : decode cX12_after 55 = .ok (.iadd, 1) := by decide +kernel
theorem dX12_after_56 : decode cX12_after 56 = .ok (.iconst 1, 1) := by decide +kernel
theorem dX12_after_57 : decode cX12_after 57 = .ok (.iadd, 1) := by decide +kernel
theorem dX12_after_58 : decode cX12_after 58 = .ok (.goto 6, 3) := by decide +kernel
theorem dX12_after_61 : decode cX12_after 61 = .ok (.iload_n 1, 1) := by decide +kernel
theorem dX12_after_62 : decode cX12_after 62 = .ok (.iconst 1, 1) := by decide +kernel
theorem dX12_after_63 : decode cX12_after 63 = .ok (.isub, 1) := by decide +kernel
theorem dX12_after_64 : decode cX12_after 64 = .ok (.ireturn, 1) := by decide +kernel
theorem dX12_after_65 : decode cX12_after 65 = .ok (.iload_n 1, 1) := by decide +kernel
theorem dX12_after_66 : decode cX12_after 66 = .ok (.bipush 6, 2) := by decide +kernel
theorem dX12_after_68 : decode cX12_after 68 = .ok (.if_icmp .ge 16, 3) := by decide +kernel
theorem dX12_after_71 : decode cX12_after 71 = .ok (.iload_n 1, 1) := by decide +kernel
theorem dX12_after_72 : decode cX12_after 72 = .ok (.iconst 4, 1) := by decide +kernel
theorem dX12_after_73 : decode cX12_after 73 = .ok (.if_icmp .ne 7, 3) := by decide +kernel
theorem dX12_after_76 : decode cX12_after 76 = .ok (.iconst 0, 1) := by decide +kernel
theorem dX12_after_77 : decode cX12_after 77 = .ok (.goto 6, 3) := by decide +kernel
theorem dX12_after_80 : decode cX12_after 80 = .ok (.iload_n 1, 1) := by decide +kernel
theorem dX12_after_81 : decode cX12_after 81 = .ok (.iconst 1, 1) := by decide +kernel
theorem dX12_after_82 : decode cX12_after 82 = .ok (.isub, 1) := by decide +kernel
theorem dX12_after_83 : decode cX12_after 83 = .ok (.ireturn, 1) := by decide +kernel
theorem dX12_after_84 : decode cX12_after 84 = .ok (.iload_n 2, 1) := by decide +kernel
theorem dX12_after_85 : decode cX12_after 85 = .ok (.ifCond .ne 7, 3) := by decide +kernel
theorem dX12_after_88 : decode cX12_after 88 = .ok (.iload_n 1, 1) := by decide +kernel
theorem dX12_after_89 : decode cX12_after 89 = .ok (.goto 27, 3) := by decide +kernel
theorem dX12_after_92 : decode cX12_after 92 = .ok (.aload_n 0, 1) := by decide +kernel
theorem dX12_after_93 : decode cX12_after 93 = .ok (.getfield 7, 3) := by decide +kernel
theorem dX12_after_96 : decode cX12_after 96 = .ok (.iconst 1, 1) := by decide +kernel
theorem dX12_after_97 : decode cX12_after 97 = .ok (.iaload, 1) := by decide +kernel
theorem dX12_after_98 : decode cX12_after 98 = .ok (.iconst 1, 1) := by decide +kernel
theorem dX12_after_99 : decode cX12_after 99 = .ok (.if_icmp .ne 7, 3) := by decide +kernel
theorem dX12_after_102 : decode cX12_after 102 = .ok (.iconst 0, 1) := by decide +kernel
theorem dX12_after_103 : decode cX12_after 103 = .ok (.goto 13, 3) := by decide +kernel
theorem dX12_after_106 : decode cX12_after 106 = .ok (.iconst 3, 1) := by decide +kernel
theorem dX12_after_107 : decode cX12_after 107 = .ok (.aload_n 0, 1) := by decide +kernel
theorem dX12_after_108 : decode cX12_after 108 = .ok (.getfield 7, 3) := by decide +kernel
theorem dX12_after_111 : decode cX12_after 111 = .ok (.iconst 1, 1) := by decide +kernel
theorem dX12_after_112 : decode cX12_after 112 = .ok (.iaload, 1) := by decide +kernel
theorem dX12_after_113 : decode cX12_after 113 = .ok (.iadd, 1) := by decide +kernel
theorem dX12_after_114 : decode cX12_after 114 = .ok (.iconst 1, 1) := by decide +kernel
theorem dX12_after_115 : decode cX12_after 115 = .ok (.isub, 1) := by decide +kernel
theorem dX12_after_116 : decode cX12_after 116 = .ok (.ireturn, 1) := by decide +kernel
set_option maxRecDepth 20000 in
theorem ggX12_waterIn_X12_stateIn : GoodIn wsX12_waterIn wsX12_stateIn := goodIn_r _ [6] (by decide +kernel) (by decide +kernel)
set_option maxRecDepth 20000 in
theorem gX12_waterIn_X12_stateIn : GoodIn wsX12_waterIn (va_wsS RX12 99 yX12_stateIn wsX12_stateIn) := goodIn_app (goodIn_of _ (by decide +kernel)) ggX12_waterIn_X12_stateIn
theorem dX12_waterIn_0 : decode cX12_waterIn 0 = .ok (.iload_n 2, 1) := by decide +kernel
theorem dX12_waterIn_1 : decode cX12_waterIn 1 = .ok (.iload_n 3, 1) := by decide +kernel
theorem dX12_waterIn_2 : decode cX12_waterIn 2 = .ok (.invokestatic 99, 3) := by decide +kernel
theorem dX12_waterIn_5 : decode cX12_waterIn 5 = .ok (.iconst 2, 1) := by decide +kernel
theorem dX12_waterIn_6 : decode cX12_waterIn 6 = .ok (.if_icmp .eq 16, 3) := by decide +kernel
theorem dX12_waterIn_9 : decode cX12_waterIn 9 = .ok (.aload_n 0, 1) := by decide +kernel
theorem dX12_waterIn_10 : decode cX12_waterIn 10 = .ok (.getfield 28, 3) := by decide +kernel
theorem dX12_waterIn_13 : decode cX12_waterIn 13 = .ok (.bipush 8, 2) := by decide +kernel
theorem dX12_waterIn_15 : decode cX12_waterIn 15 = .ok (.iload_n 1, 1) := by decide +kernel
theorem dX12_waterIn_16 : decode cX12_waterIn 16 = .ok (.imul, 1) := by decide +kernel
theorem dX12_waterIn_17 : decode cX12_waterIn 17 = .ok (.iload 4, 2) := by decide +kernel
theorem dX12_waterIn_19 : decode cX12_waterIn 19 = .ok (.iadd, 1) := by decide +kernel
theorem dX12_waterIn_20 : decode cX12_waterIn 20 = .ok (.iaload, 1) := by decide +kernel
theorem dX12_waterIn_21 : decode cX12_waterIn 21 = .ok (.ireturn, 1) := by decide +kernel
theorem dX12_waterIn_22 : decode cX12_waterIn 22 = .ok (.iload_n 2, 1) := by decide +kernel
theorem dX12_waterIn_23 : decode cX12_waterIn 23 = .ok (.bipush 8, 2) := by decide +kernel
theorem dX12_waterIn_25 : decode cX12_waterIn 25 = .ok (.isub, 1) := by decide +kernel
theorem dX12_waterIn_26 : decode cX12_waterIn 26 = .ok (.istore 5, 2) := by decide +kernel
theorem dX12_waterIn_28 : decode cX12_waterIn 28 = .ok (.aload_n 0, 1) := by decide +kernel
theorem dX12_waterIn_29 : decode cX12_waterIn 29 = .ok (.getfield 28, 3) := by decide +kernel
theorem dX12_waterIn_32 : decode cX12_waterIn 32 = .ok (.bipush 8, 2) := by decide +kernel
theorem dX12_waterIn_34 : decode cX12_waterIn 34 = .ok (.iload_n 1, 1) := by decide +kernel
theorem dX12_waterIn_35 : decode cX12_waterIn 35 = .ok (.imul, 1) := by decide +kernel
theorem dX12_waterIn_36 : decode cX12_waterIn 36 = .ok (.iload 5, 2) := by decide +kernel
theorem dX12_waterIn_38 : decode cX12_waterIn 38 = .ok (.iadd, 1) := by decide +kernel
theorem dX12_waterIn_39 : decode cX12_waterIn 39 = .ok (.iconst 1, 1) := by decide +kernel
theorem dX12_waterIn_40 : decode cX12_waterIn 40 = .ok (.isub, 1) := by decide +kernel
theorem dX12_waterIn_41 : decode cX12_waterIn 41 = .ok (.iaload, 1) := by decide +kernel
theorem dX12_waterIn_42 : decode cX12_waterIn 42 = .ok (.istore 6, 2) := by decide +kernel
theorem dX12_waterIn_44 : decode cX12_waterIn 44 = .ok (.iload 5, 2) := by decide +kernel
theorem dX12_waterIn_46 : decode cX12_waterIn 46 = .ok (.istore 7, 2) := by decide +kernel
theorem dX12_waterIn_48 : decode cX12_waterIn 48 = .ok (.iload 7, 2) := by decide +kernel
theorem dX12_waterIn_50 : decode cX12_waterIn 50 = .ok (.iload 4, 2) := by decide +kernel
theorem dX12_waterIn_52 : decode cX12_waterIn 52 = .ok (.if_icmp .gt 21, 3) := by decide +kernel
theorem dX12_waterIn_55 : decode cX12_waterIn 55 = .ok (.iload 6, 2) := by decide +kernel
theorem dX12_waterIn_57 : decode cX12_waterIn 57 = .ok (.aload_n 0, 1) := by decide +kernel
theorem dX12_waterIn_58 : decode cX12_waterIn 58 = .ok (.getfield 13, 3) := by decide +kernel
theorem dX12_waterIn_61 : decode cX12_waterIn 61 = .ok (.iload 7, 2) := by decide +kernel
theorem dX12_waterIn_63 : decode cX12_waterIn 63 = .ok (.iaload, 1) := by decide +kernel
theorem dX12_waterIn_64 : decode cX12_waterIn 64 = .ok (.iadd, 1) := by decide +kernel
theorem dX12_waterIn_65 : decode cX12_waterIn 65 = .ok (.istore 6, 2) := by decide +kernel
theorem dX12_waterIn_67 : decode cX12_waterIn 67 = .ok (.iinc 7 1, 3) := by decide +kernel
theorem dX12_waterIn_70 : decode cX12_waterIn 70 = .ok (.goto (-22), 3) := by decide +kernel
theorem dX12_waterIn_73 : decode cX12_waterIn 73 = .ok (.iload 6, 2) := by decide +kernel
theorem dX12_waterIn_75 : decode cX12_waterIn 75 = .ok (.ireturn, 1) := by decide +kernel
set_option maxRecDepth 20000 in
theorem ggX12_lostIn_X12_stateIn : GoodIn wsX12_lostIn wsX12_stateIn := goodIn_r _ [6] (by decide +kernel) (by decide +kernel)
set_option maxRecDepth 20000 in
theorem gX12_lostIn_X12_stateIn : GoodIn wsX12_lostIn (va_wsS RX12 99 yX12_stateIn wsX12_stateIn) := goodIn_app (goodIn_of _ (by decide +kernel)) ggX12_lostIn_X12_stateIn
set_option maxRecDepth 20000 in
theorem ggX12_lostIn_X12_waterIn : GoodIn wsX12_lostIn wsX12_waterIn := goodIn_r _ [10, 2, 11, 3, 4, 5, 6, 12, 13, 14, 15, 16, 17, 18, 19, 20, 21, 22, 23, 24, 25, 26, 27, 28, 29, 30, 31, 32, 33] (by decide +kernel) (by decide +kernel)
set_option maxRecDepth 20000 in
theorem gX12_lostIn_X12_waterIn : GoodIn wsX12_lostIn (wsV RX12 103 RX12 yX12_waterIn wsX12_waterIn) := goodIn_app (goodIn_of _ (by decide +kernel)) ggX12_lostIn_X12_waterIn
theorem dX12_lostIn_0 : decode cX12_lostIn 0 = .ok (.iload_n 2, 1) := by decide +kernel
theorem dX12_lostIn_1 : decode cX12_lostIn 1 = .ok (.ifCond .ne 16, 3) := by decide +kernel
theorem dX12_lostIn_4 : decode cX12_lostIn 4 = .ok (.iload_n 3, 1) := by decide +kernel
theorem dX12_lostIn_5 : decode cX12_lostIn 5 = .ok (.ifCond .eq 12, 3) := by decide +kernel
theorem dX12_lostIn_8 : decode cX12_lostIn 8 = .ok (.aload_n 0, 1) := by decide +kernel
theorem dX12_lostIn_9 : decode cX12_lostIn 9 = .ok (.getfield 7, 3) := by decide +kernel
theorem dX12_lostIn_12 : decode cX12_lostIn 12 = .ok (.iconst 4, 1) := by decide +kernel
theorem dX12_lostIn_13 : decode cX12_lostIn 13 = .ok (.iaload, 1) := by decide +kernel
theorem dX12_lostIn_14 : decode cX12_lostIn 14 = .ok (.goto 4, 3) := by decide +kernel
theorem dX12_lostIn_17 : decode cX12_lostIn 17 = .ok (.iconst 0, 1) := by decide +kernel
theorem dX12_lostIn_18 : decode cX12_lostIn 18 = .ok (.istore 5, 2) := by decide +kernel
theorem dX12_lostIn_20 : decode cX12_lostIn 20 = .ok (.iload_n 2, 1) := by decide +kernel
theorem dX12_lostIn_21 : decode cX12_lostIn 21 = .ok (.iload_n 3, 1) := by decide +kernel
theorem dX12_lostIn_22 : decode cX12_lostIn 22 = .ok (.invokestatic 99, 3) := by decide +kernel
theorem dX12_lostIn_25 : decode cX12_lostIn 25 = .ok (.iconst 2, 1) := by decide +kernel
theorem dX12_lostIn_26 : decode cX12_lostIn 26 = .ok (.if_icmp .ne 57, 3) := by decide +kernel
theorem dX12_lostIn_29 : decode cX12_lostIn 29 = .ok (.aload_n 0, 1) := by decide +kernel
theorem dX12_lostIn_30 : decode cX12_lostIn 30 = .ok (.iload_n 1, 1) := by decide +kernel
theorem dX12_lostIn_31 : decode cX12_lostIn 31 = .ok (.iload_n 2, 1) := by decide +kernel
theorem dX12_lostIn_32 : decode cX12_lostIn 32 = .ok (.iload_n 3, 1) := by decide +kernel
theorem dX12_lostIn_33 : decode cX12_lostIn 33 = .ok (.iload 4, 2) := by decide +kernel
theorem dX12_lostIn_35 : decode cX12_lostIn 35 = .ok (.invokevirtual 103, 3) := by decide +kernel
theorem dX12_lostIn_38 : decode cX12_lostIn 38 = .ok (.istore 6, 2) := by decide +kernel
theorem dX12_lostIn_40 : decode cX12_lostIn 40 = .ok (.iload 5, 2) := by decide +kernel
theorem dX12_lostIn_42 : decode cX12_lostIn 42 = .ok (.aload_n 0, 1) := by decide +kernel
theorem dX12_lostIn_43 : decode cX12_lostIn 43 = .ok (.getfield 7, 3) := by decide +kernel
theorem dX12_lostIn_46 : decode cX12_lostIn 46 = .ok (.iconst 5, 1) := by decide +kernel
theorem dX12_lostIn_47 : decode cX12_lostIn 47 = .ok (.iaload, 1) := by decide +kernel
theorem dX12_lostIn_48 : decode cX12_lostIn 48 = .ok (.iadd, 1) := by decide +kernel
theorem dX12_lostIn_49 : decode cX12_lostIn 49 = .ok (.iload 6, 2) := by decide +kernel
theorem dX12_lostIn_51 : decode cX12_lostIn 51 = .ok (.aload_n 0, 1) := by decide +kernel
theorem dX12_lostIn_52 : decode cX12_lostIn 52 = .ok (.getfield 7, 3) := by decide +kernel
theorem dX12_lostIn_55 : decode cX12_lostIn 55 = .ok (.iconst 3, 1) := by decide +kernel
theorem dX12_lostIn_56 : decode cX12_lostIn 56 = .ok (.iaload, 1) := by decide +kernel
theorem dX12_lostIn_57 : decode cX12_lostIn 57 = .ok (.if_icmp .le 23, 3) := by decide +kernel
theorem dX12_lostIn_60 : decode cX12_lostIn 60 = .ok (.aload_n 0, 1) := by decide +kernel
theorem dX12_lostIn_61 : decode cX12_lostIn 61 = .ok (.getfield 7, 3) := by decide +kernel
theorem dX12_lostIn_64 : decode cX12_lostIn 64 = .ok (.bipush 7, 2) := by decide +kernel
theorem dX12_lostIn_66 : decode cX12_lostIn 66 = .ok (.iaload, 1) := by decide +kernel
theorem dX12_lostIn_67 : decode cX12_lostIn 67 = .ok (.iload 6, 2) := by decide +kernel
theorem dX12_lostIn_69 : decode cX12_lostIn 69 = .ok (.aload_n 0, 1) := by decide +kernel
theorem dX12_lostIn_70 : decode cX12_lostIn 70 = .ok (.getfield 7, 3) := by decide +kernel
theorem dX12_lostIn_73 : decode cX12_lostIn 73 = .ok (.iconst 3, 1) := by decide +kernel
theorem dX12_lostIn_74 : decode cX12_lostIn 74 = .ok (.iaload, 1) := by decide +kernel
theorem dX12_lostIn_75 : decode cX12_lostIn 75 = .ok (.isub, 1) := by decide +kernel
theorem dX12_lostIn_76 : decode cX12_lostIn 76 = .ok (.imul, 1) := by decide +kernel
theorem dX12_lostIn_77 : decode cX12_lostIn 77 = .ok (.goto 4, 3) := by decide +kernel
theorem dX12_lostIn_80 : decode cX12_lostIn 80 = .ok (.iconst 0, 1) := by decide +kernel
theorem dX12_lostIn_81 : decode cX12_lostIn 81 = .ok (.iadd, 1) := by decide +kernel
theorem dX12_lostIn_82 : decode cX12_lostIn 82 = .ok (.ireturn, 1) := by decide +kernel
theorem dX12_lostIn_83 : decode cX12_lostIn 83 = .ok (.aload_n 0, 1) := by decide +kernel
theorem dX12_lostIn_84 : decode cX12_lostIn 84 = .ok (.getfield 28, 3) := by decide +kernel
theorem dX12_lostIn_87 : decode cX12_lostIn 87 = .ok (.bipush 8, 2) := by decide +kernel
theorem dX12_lostIn_89 : decode cX12_lostIn 89 = .ok (.iload_n 1, 1) := by decide +kernel
theorem dX12_lostIn_90 : decode cX12_lostIn 90 = .ok (.imul, 1) := by decide +kernel
theorem dX12_lostIn_91 : decode cX12_lostIn 91 = .ok (.iload 4, 2) := by decide +kernel
theorem dX12_lostIn_93 : decode cX12_lostIn 93 = .ok (.iadd, 1) := by decide +kernel
theorem dX12_lostIn_94 : decode cX12_lostIn 94 = .ok (.iaload, 1) := by decide +kernel
theorem dX12_lostIn_95 : decode cX12_lostIn 95 = .ok (.istore 6, 2) := by decide +kernel
theorem dX12_lostIn_97 : decode cX12_lostIn 97 = .ok (.iload 5, 2) := by decide +kernel
theorem dX12_lostIn_99 : decode cX12_lostIn 99 = .ok (.iload 6, 2) := by decide +kernel
theorem dX12_lostIn_101 : decode cX12_lostIn 101 = .ok (.aload_n 0, 1) := by decide +kernel
theorem dX12_lostIn_102 : decode cX12_lostIn 102 = .ok (.getfield 7, 3) := by decide +kernel
theorem dX12_lostIn_105 : decode cX12_lostIn 105 = .ok (.iconst 2, 1) := by decide +kernel
theorem dX12_lostIn_106 : decode cX12_lostIn 106 = .ok (.iaload, 1) := by decide +kernel
theorem dX12_lostIn_107 : decode cX12_lostIn 107 = .ok (.if_icmp .le 23, 3) := by decide +kernel
theorem dX12_lostIn_110 : decode cX12_lostIn 110 = .ok (.aload_n 0, 1) := by decide +kernel
theorem dX12_lostIn_111 : decode cX12_lostIn 111 = .ok (.getfield 7, 3) := by decide +kernel
theorem dX12_lostIn_114 : decode cX12_lostIn 114 = .ok (.bipush 6, 2) := by decide +kernel
theorem dX12_lostIn_116 : decode cX12_lostIn 116 = .ok (.iaload, 1) := by decide +kernel
theorem dX12_lostIn_117 : decode cX12_lostIn 117 = .ok (.iload 6, 2) := by decide +kernel
theorem dX12_lostIn_119 : decode cX12_lostIn 119 = .ok (.aload_n 0, 1) := by decide +kernel
theorem dX12_lostIn_120 : decode cX12_lostIn 120 = .ok (.getfield 7, 3) := by decide +kernel
theorem dX12_lostIn_123 : decode cX12_lostIn 123 = .ok (.iconst 2, 1) := by decide +kernel
theorem dX12_lostIn_124 : decode cX12_lostIn 124 = .ok (.iaload, 1) := by decide +kernel
theorem dX12_lostIn_125 : decode cX12_lostIn 125 = .ok (.isub, 1) := by decide +kernel
theorem dX12_lostIn_126 : decode cX12_lostIn 126 = .ok (.imul, 1) := by decide +kernel
theorem dX12_lostIn_127 : decode cX12_lostIn 127 = .ok (.goto 4, 3) := by decide +kernel
theorem dX12_lostIn_130 : decode cX12_lostIn 130 = .ok (.iconst 0, 1) := by decide +kernel
theorem dX12_lostIn_131 : decode cX12_lostIn 131 = .ok (.iadd, 1) := by decide +kernel
theorem dX12_lostIn_132 : decode cX12_lostIn 132 = .ok (.ireturn, 1) := by decide +kernel
set_option maxRecDepth 20000 in
theorem ggX12_lossBy_X12_after : GoodIn wsX12_lossBy wsX12_after := goodIn_r _ [8, 9, 27, 28, 29, 30, 31, 32, 33, 34, 35, 36, 37, 38, 39, 40, 41, 42, 43, 44, 45, 46, 47, 48] (by decide +kernel) (by decide +kernel)
set_option maxRecDepth 20000 in
theorem gX12_lossBy_X12_after : GoodIn wsX12_lossBy (wsV RX12 107 RX12 yX12_after wsX12_after) := goodIn_app (goodIn_of _ (by decide +kernel)) ggX12_lossBy_X12_after
set_option maxRecDepth 20000 in
theorem ggX12_lossBy_X12_groupOf : GoodIn wsX12_lossBy wsX12_groupOf := goodIn_r _ [13, 14, 27, 28, 29, 30, 31, 32, 33, 34, 35, 36, 37, 38, 39, 40, 41, 42, 43, 44, 45, 46, 47, 48] (by decide +kernel) (by decide +kernel)
set_option maxRecDepth 20000 in
theorem gX12_lossBy_X12_groupOf : GoodIn wsX12_lossBy (wsV RX12 111 RX12 yX12_groupOf wsX12_groupOf) := goodIn_app (goodIn_of _ (by decide +kernel)) ggX12_lossBy_X12_groupOf
set_option maxRecDepth 20000 in
theorem ggX12_lossBy_X12_lostIn : GoodIn wsX12_lossBy wsX12_lostIn := goodIn_r _ [18, 9, 14, 19, 20, 7, 21, 22, 23, 24, 25, 26, 27, 28, 29, 30, 31, 32, 33, 34, 35, 36, 37, 38, 39, 40, 41, 42, 43, 44, 45, 46, 47, 48] (by decide +kernel) (by decide +kernel)
set_option maxRecDepth 20000 in
theorem gX12_lossBy_X12_lostIn : GoodIn wsX12_lossBy (wsV RX12 115 RX12 yX12_lostIn wsX12_lostIn) := goodIn_app (goodIn_of _ (by decide +kernel)) ggX12_lossBy_X12_lostIn
theorem dX12_lossBy_0 : decode cX12_lossBy 0 = .ok (.lconst 0, 1) := by decide +kernel
theorem dX12_lossBy_1 : decode cX12_lossBy 1 = .ok (.lstore 5, 2) := by decide +kernel
theorem dX12_lossBy_3 : decode cX12_lossBy 3 = .ok (.aload_n 0, 1) := by decide +kernel
theorem dX12_lossBy_4 : decode cX12_lossBy 4 = .ok (.iload_n 2, 1) := by decide +kernel
theorem dX12_lossBy_5 : decode cX12_lossBy 5 = .ok (.iload_n 3, 1) := by decide +kernel
theorem dX12_lossBy_6 : decode cX12_lossBy 6 = .ok (.iload 4, 2) := by decide +kernel
theorem dX12_lossBy_8 : decode cX12_lossBy 8 = .ok (.invokevirtual 107, 3) := by decide +kernel
theorem dX12_lossBy_11 : decode cX12_lossBy 11 = .ok (.istore 7, 2) := by decide +kernel
theorem dX12_lossBy_13 : decode cX12_lossBy 13 = .ok (.iload_n 1, 1) := by decide +kernel
theorem dX12_lossBy_14 : decode cX12_lossBy 14 = .ok (.istore 8, 2) := by decide +kernel
theorem dX12_lossBy_16 : decode cX12_lossBy 16 = .ok (.iload 8, 2) := by decide +kernel
theorem dX12_lossBy_18 : decode cX12_lossBy 18 = .ok (.aload_n 0, 1) := by decide +kernel
theorem dX12_lossBy_19 : decode cX12_lossBy 19 = .ok (.getfield 87, 3) := by decide +kernel
theorem dX12_lossBy_22 : decode cX12_lossBy 22 = .ok (.if_icmp .ge 99, 3) := by decide +kernel
theorem dX12_lossBy_25 : decode cX12_lossBy 25 = .ok (.aload_n 0, 1) := by decide +kernel
theorem dX12_lossBy_26 : decode cX12_lossBy 26 = .ok (.iload 8, 2) := by decide +kernel
theorem dX12_lossBy_28 : decode cX12_lossBy 28 = .ok (.iload 4, 2) := by decide +kernel
theorem dX12_lossBy_30 : decode cX12_lossBy 30 = .ok (.invokevirtual 111, 3) := by decide +kernel
theorem dX12_lossBy_33 : decode cX12_lossBy 33 = .ok (.iload_n 1, 1) := by decide +kernel
theorem dX12_lossBy_34 : decode cX12_lossBy 34 = .ok (.if_icmp .ne 81, 3) := by decide +kernel
theorem dX12_lossBy_37 : decode cX12_lossBy 37 = .ok (.lload 5, 2) := by decide +kernel
theorem dX12_lossBy_39 : decode cX12_lossBy 39 = .ok (.aload_n 0, 1) := by decide +kernel
theorem dX12_lossBy_40 : decode cX12_lossBy 40 = .ok (.getfield 25, 3) := by decide +kernel
theorem dX12_lossBy_43 : decode cX12_lossBy 43 = .ok (.iload 8, 2) := by decide +kernel
theorem dX12_lossBy_45 : decode cX12_lossBy 45 = .ok (.iaload, 1) := by decide +kernel
theorem dX12_lossBy_46 : decode cX12_lossBy 46 = .ok (.i2l, 1) := by decide +kernel
theorem dX12_lossBy_47 : decode cX12_lossBy 47 = .ok (.aload_n 0, 1) := by decide +kernel
theorem dX12_lossBy_48 : decode cX12_lossBy 48 = .ok (.iload 8, 2) := by decide +kernel
theorem dX12_lossBy_50 : decode cX12_lossBy 50 = .ok (.iload_n 2, 1) := by decide +kernel
theorem dX12_lossBy_51 : decode cX12_lossBy 51 = .ok (.iload_n 3, 1) := by decide +kernel
theorem dX12_lossBy_52 : decode cX12_lossBy 52 = .ok (.iload 4, 2) := by decide +kernel
theorem dX12_lossBy_54 : decode cX12_lossBy 54 = .ok (.invokevirtual 115, 3) := by decide +kernel
theorem dX12_lossBy_57 : decode cX12_lossBy 57 = .ok (.i2l, 1) := by decide +kernel
theorem dX12_lossBy_58 : decode cX12_lossBy 58 = .ok (.lmul, 1) := by decide +kernel
theorem dX12_lossBy_59 : decode cX12_lossBy 59 = .ok (.ladd, 1) := by decide +kernel
theorem dX12_lossBy_60 : decode cX12_lossBy 60 = .ok (.lstore 5, 2) := by decide +kernel
theorem dX12_lossBy_62 : decode cX12_lossBy 62 = .ok (.lload 5, 2) := by decide +kernel
theorem dX12_lossBy_64 : decode cX12_lossBy 64 = .ok (.iload 4, 2) := by decide +kernel
theorem dX12_lossBy_66 : decode cX12_lossBy 66 = .ok (.bipush 7, 2) := by decide +kernel
theorem dX12_lossBy_68 : decode cX12_lossBy 68 = .ok (.if_icmp .ge 43, 3) := by decide +kernel
theorem dX12_lossBy_71 : decode cX12_lossBy 71 = .ok (.aload_n 0, 1) := by decide +kernel
theorem dX12_lossBy_72 : decode cX12_lossBy 72 = .ok (.iload 8, 2) := by decide +kernel
theorem dX12_lossBy_74 : decode cX12_lossBy 74 = .ok (.iload 4, 2) := by decide +kernel
theorem dX12_lossBy_76 : decode cX12_lossBy 76 = .ok (.iconst 1, 1) := by decide +kernel
theorem dX12_lossBy_77 : decode cX12_lossBy 77 = .ok (.iadd, 1) := by decide +kernel
theorem dX12_lossBy_78 : decode cX12_lossBy 78 = .ok (.invokevirtual 111, 3) := by decide +kernel
theorem dX12_lossBy_81 : decode cX12_lossBy 81 = .ok (.iload 8, 2) := by decide +kernel
theorem dX12_lossBy_83 : decode cX12_lossBy 83 = .ok (.if_icmp .ne 28, 3) := by decide +kernel
theorem dX12_lossBy_86 : decode cX12_lossBy 86 = .ok (.aload_n 0, 1) := by decide +kernel
theorem dX12_lossBy_87 : decode cX12_lossBy 87 = .ok (.getfield 31, 3) := by decide +kernel
theorem dX12_lossBy_90 : decode cX12_lossBy 90 = .ok (.sipush 128, 3) := by decide +kernel
theorem dX12_lossBy_93 : decode cX12_lossBy 93 = .ok (.iload 4, 2) := by decide +kernel
theorem dX12_lossBy_95 : decode cX12_lossBy 95 = .ok (.iconst 1, 1) := by decide +kernel
theorem dX12_lossBy_96 : decode cX12_lossBy 96 = .ok (.iadd, 1) := by decide +kernel
theorem dX12_lossBy_97 : decode cX12_lossBy 97 = .ok (.imul, 1) := by decide +kernel
theorem dX12_lossBy_98 : decode cX12_lossBy 98 = .ok (.bipush 16, 2) := by decide +kernel
theorem dX12_lossBy_100 : decode cX12_lossBy 100 = .ok (.iload 8, 2) := by decide +kernel
theorem dX12_lossBy_102 : decode cX12_lossBy 102 = .ok (.imul, 1) := by decide +kernel
theorem dX12_lossBy_103 : decode cX12_lossBy 103 = .ok (.iadd, 1) := by decide +kernel
theorem dX12_lossBy_104 : decode cX12_lossBy 104 = .ok (.iload 7, 2) := by decide +kernel
theorem dX12_lossBy_106 : decode cX12_lossBy 106 = .ok (.iadd, 1) := by decide +kernel
theorem dX12_lossBy_107 : decode cX12_lossBy 107 = .ok (.laload, 1) := by decide +kernel
theorem dX12_lossBy_108 : decode cX12_lossBy 108 = .ok (.goto 4, 3) := by decide +kernel
theorem dX12_lossBy_111 : decode cX12_lossBy 111 = .ok (.lconst 0, 1) := by decide +kernel
theorem dX12_lossBy_112 : decode cX12_lossBy 112 = .ok (.ladd, 1) := by decide +kernel
theorem dX12_lossBy_113 : decode cX12_lossBy 113 = .ok (.lstore 5, 2) := by decide +kernel
theorem dX12_lossBy_115 : decode cX12_lossBy 115 = .ok (.iinc 8 1, 3) := by decide +kernel
theorem dX12_lossBy_118 : decode cX12_lossBy 118 = .ok (.goto (-102), 3) := by decide +kernel
theorem dX12_lossBy_121 : decode cX12_lossBy 121 = .ok (.lload 5, 2) := by decide +kernel
theorem dX12_lossBy_123 : decode cX12_lossBy 123 = .ok (.lreturn, 1) := by decide +kernel
set_option maxRecDepth 20000 in
theorem ggX12_findBest_X12_groupOf : GoodIn wsX12_findBest wsX12_groupOf := goodIn_r _ [8, 9, 32, 33, 34, 35, 36, 37, 38, 39, 40, 41, 42, 43, 44, 45, 46, 47, 48, 49, 50, 51, 52, 53] (by decide +kernel) (by decide +kernel)
set_option maxRecDepth 20000 in
theorem gX12_findBest_X12_groupOf : GoodIn wsX12_findBest (wsV RX12 111 RX12 yX12_groupOf wsX12_groupOf) := goodIn_app (goodIn_of _ (by decide +kernel)) ggX12_findBest_X12_groupOf
set_option maxRecDepth 20000 in
theorem ggX12_findBest_X12_lossBy : GoodIn wsX12_findBest wsX12_lossBy := goodIn_r _ [13, 1, 14, 2, 15, 16, 17, 7, 18, 19, 4, 5, 6, 8, 9, 20, 21, 22, 23, 24, 25, 26, 27, 28, 29, 30, 31, 32, 33, 34, 35, 36, 37, 38, 39, 40, 41, 42, 43, 44, 45, 46, 47, 48, 49, 50, 51, 52, 53] (by decide +kernel) (by decide +kernel)
set_option maxRecDepth 20000 in
theorem gX12_findBest_X12_lossBy : GoodIn wsX12_findBest (wsV RX12 118 RX12 yX12_lossBy wsX12_lossBy) := goodIn_app (goodIn_of _ (by decide +kernel)) ggX12_findBest_X12_lossBy
theorem dX12_findBest_0 : decode cX12_findBest 0 = .ok (.bipush 7, 2) := by decide +kernel
theorem dX12_findBest_2 : decode cX12_findBest 2 = .ok (.istore_n 1, 1) := by decide +kernel
theorem dX12_findBest_3 : decode cX12_findBest 3 = .ok (.iload_n 1, 1) := by decide +kernel
theorem dX12_findBest_4 : decode cX12_findBest 4 = .ok (.ifCond .lt 187, 3) := by decide +kernel
theorem dX12_findBest_7 : decode cX12_findBest 7 = .ok (.iconst 0, 1) := by decide +kernel
theorem dX12_findBest_8 : decode cX12_findBest 8 = .ok (.istore_n 2, 1) := by decide +kernel
theorem dX12_findBest_9 : decode cX12_findBest 9 = .ok (.iload_n 2, 1) := by decide +kernel
theorem dX12_findBest_10 : decode cX12_findBest 10 = .ok (.aload_n 0, 1) := by decide +kernel
theorem dX12_findBest_11 : decode cX12_findBest 11 = .ok (.getfield 87, 3) := by decide +kernel
theorem dX12_findBest_14 : decode cX12_findBest 14 = .ok (.if_icmp .ge 171, 3) := by decide +kernel
theorem dX12_findBest_17 : decode cX12_findBest 17 = .ok (.iconst 0, 1) := by decide +kernel
theorem dX12_findBest_18 : decode cX12_findBest 18 = .ok (.istore_n 3, 1) := by decide +kernel
theorem dX12_findBest_19 : decode cX12_findBest 19 = .ok (.iload_n 3, 1) := by decide +kernel
theorem dX12_findBest_20 : decode cX12_findBest 20 = .ok (.bipush 16, 2) := by decide +kernel
theorem dX12_findBest_22 : decode cX12_findBest 22 = .ok (.if_icmp .ge 157, 3) := by decide +kernel
theorem dX12_findBest_25 : decode cX12_findBest 25 = .ok (.iload_n 3, 1) := by decide +kernel
theorem dX12_findBest_26 : decode cX12_findBest 26 = .ok (.iconst 3, 1) := by decide +kernel
theorem dX12_findBest_27 : decode cX12_findBest 27 = .ok (.if_icmp .lt 27, 3) := by decide +kernel
theorem dX12_findBest_30 : decode cX12_findBest 30 = .ok (.iload_n 3, 1) := by decide +kernel
theorem dX12_findBest_31 : decode cX12_findBest 31 = .ok (.iconst 4, 1) := by decide +kernel
theorem dX12_findBest_32 : decode cX12_findBest 32 = .ok (.if_icmp .eq 22, 3) := by decide +kernel
theorem dX12_findBest_35 : decode cX12_findBest 35 = .ok (.iload_n 3, 1) := by decide +kernel
theorem dX12_findBest_36 : decode cX12_findBest 36 = .ok (.iconst 5, 1) := by decide +kernel
theorem dX12_findBest_37 : decode cX12_findBest 37 = .ok (.if_icmp .eq 17, 3) := by decide +kernel
theorem dX12_findBest_40 : decode cX12_findBest 40 = .ok (.iload_n 3, 1) := by decide +kernel
theorem dX12_findBest_41 : decode cX12_findBest 41 = .ok (.bipush 8, 2) := by decide +kernel
theorem dX12_findBest_43 : decode cX12_findBest 43 = .ok (.if_icmp .le 15, 3) := by decide +kernel
theorem dX12_findBest_46 : decode cX12_findBest 46 = .ok (.iload_n 3, 1) := by decide +kernel
theorem dX12_findBest_47 : decode cX12_findBest 47 = .ok (.bipush 8, 2) := by decide +kernel
theorem dX12_findBest_49 : decode cX12_findBest 49 = .ok (.iload_n 1, 1) := by decide +kernel
theorem dX12_findBest_50 : decode cX12_findBest 50 = .ok (.iadd, 1) := by decide +kernel
theorem dX12_findBest_51 : decode cX12_findBest 51 = .ok (.if_icmp .gt 7, 3) := by decide +kernel
theorem dX12_findBest_54 : decode cX12_findBest 54 = .ok (.iconst 1, 1) := by decide +kernel
theorem dX12_findBest_55 : decode cX12_findBest 55 = .ok (.goto 4, 3) := by decide +kernel
theorem dX12_findBest_58 : decode cX12_findBest 58 = .ok (.iconst 0, 1) := by decide +kernel
theorem dX12_findBest_59 : decode cX12_findBest 59 = .ok (.istore 4, 2) := by decide +kernel
theorem dX12_findBest_61 : decode cX12_findBest 61 = .ok (.iload 4, 2) := by decide +kernel
theorem dX12_findBest_63 : decode cX12_findBest 63 = .ok (.ifCond .eq 110, 3) := by decide +kernel
theorem dX12_findBest_66 : decode cX12_findBest 66 = .ok (.aload_n 0, 1) := by decide +kernel
theorem dX12_findBest_67 : decode cX12_findBest 67 = .ok (.iload_n 2, 1) := by decide +kernel
theorem dX12_findBest_68 : decode cX12_findBest 68 = .ok (.iload_n 1, 1) := by decide +kernel
theorem dX12_findBest_69 : decode cX12_findBest 69 = .ok (.invokevirtual 111, 3) := by decide +kernel
theorem dX12_findBest_72 : decode cX12_findBest 72 = .ok (.iload_n 2, 1) := by decide +kernel
theorem dX12_findBest_73 : decode cX12_findBest 73 = .ok (.if_icmp .ne 100, 3) := by decide +kernel
theorem dX12_findBest_76 : decode cX12_findBest 76 = .ok (.sipush 128, 3) := by decide +kernel
theorem dX12_findBest_79 : decode cX12_findBest 79 = .ok (.iload_n 1, 1) := by decide +kernel
theorem dX12_findBest_80 : decode cX12_findBest 80 = .ok (.imul, 1) := by decide +kernel
theorem dX12_findBest_81 : decode cX12_findBest 81 = .ok (.bipush 16, 2) := by decide +kernel
theorem dX12_findBest_83 : decode cX12_findBest 83 = .ok (.iload_n 2, 1) := by decide +kernel
theorem dX12_findBest_84 : decode cX12_findBest 84 = .ok (.imul, 1) := by decide +kernel
theorem dX12_findBest_85 : decode cX12_findBest 85 = .ok (.iadd, 1) := by decide +kernel
theorem dX12_findBest_86 : decode cX12_findBest 86 = .ok (.iload_n 3, 1) := by decide +kernel
theorem dX12_findBest_87 : decode cX12_findBest 87 = .ok (.iadd, 1) := by decide +kernel
theorem dX12_findBest_88 : decode cX12_findBest 88 = .ok (.istore 5, 2) := by decide +kernel
theorem dX12_findBest_90 : decode cX12_findBest 90 = .ok (.aload_n 0, 1) := by decide +kernel
theorem dX12_findBest_91 : decode cX12_findBest 91 = .ok (.getfield 31, 3) := by decide +kernel
theorem dX12_findBest_94 : decode cX12_findBest 94 = .ok (.iload 5, 2) := by decide +kernel
theorem dX12_findBest_96 : decode cX12_findBest 96 = .ok (.aload_n 0, 1) := by decide +kernel
theorem dX12_findBest_97 : decode cX12_findBest 97 = .ok (.iload_n 2, 1) := by decide +kernel
theorem dX12_findBest_98 : decode cX12_findBest 98 = .ok (.iload_n 3, 1) := by decide +kernel
theorem dX12_findBest_99 : decode cX12_findBest 99 = .ok (.iconst 0, 1) := by decide +kernel
theorem dX12_findBest_100 : decode cX12_findBest 100 = .ok (.iload_n 1, 1) := by decide +kernel
theorem dX12_findBest_101 : decode cX12_findBest 101 = .ok (.invokevirtual 118, 3) := by decide +kernel
theorem dX12_findBest_104 : decode cX12_findBest 104 = .ok (.lastore, 1) := by decide +kernel
theorem dX12_findBest_105 : decode cX12_findBest 105 = .ok (.aload_n 0, 1) := by decide +kernel
theorem dX12_findBest_106 : decode cX12_findBest 106 = .ok (.getfield 35, 3) := by decide +kernel
theorem dX12_findBest_109 : decode cX12_findBest 109 = .ok (.iload 5, 2) := by decide +kernel
theorem dX12_findBest_111 : decode cX12_findBest 111 = .ok (.iconst 0, 1) := by decide +kernel
theorem dX12_findBest_112 : decode cX12_findBest 112 = .ok (.bastore, 1) := by decide +kernel
theorem dX12_findBest_113 : decode cX12_findBest 113 = .ok (.iload_n 3, 1) := by decide +kernel
theorem dX12_findBest_114 : decode cX12_findBest 114 = .ok (.ifCond .eq 9, 3) := by decide +kernel
theorem dX12_findBest_117 : decode cX12_findBest 117 = .ok (.iload_n 3, 1) := by decide +kernel
theorem dX12_findBest_118 : decode cX12_findBest 118 = .ok (.bipush 8, 2) := by decide +kernel
theorem dX12_findBest_120 : decode cX12_findBest 120 = .ok (.if_icmp .le 14, 3) := by decide +kernel
theorem dX12_findBest_123 : decode cX12_findBest 123 = .ok (.aload_n 0, 1) := by decide +kernel
theorem dX12_findBest_124 : decode cX12_findBest 124 = .ok (.iload_n 2, 1) := by decide +kernel
theorem dX12_findBest_125 : decode cX12_findBest 125 = .ok (.iload_n 3, 1) := by decide +kernel
theorem dX12_findBest_126 : decode cX12_findBest 126 = .ok (.iconst 1, 1) := by decide +kernel
theorem dX12_findBest_127 : decode cX12_findBest 127 = .ok (.iload_n 1, 1) := by decide +kernel
theorem dX12_findBest_128 : decode cX12_findBest 128 = .ok (.invokevirtual 118, 3) := by decide +kernel
theorem dX12_findBest_131 : decode cX12_findBest 131 = .ok (.goto 10, 3) := by decide +kernel
theorem dX12_findBest_134 : decode cX12_findBest 134 = .ok (.aload_n 0, 1) := by decide +kernel
theorem dX12_findBest_135 : decode cX12_findBest 135 = .ok (.getfield 31, 3) := by decide +kernel
theorem dX12_findBest_138 : decode cX12_findBest 138 = .ok (.iload 5, 2) := by decide +kernel
theorem dX12_findBest_140 : decode cX12_findBest 140 = .ok (.laload, 1) := by decide +kernel
theorem dX12_findBest_141 : decode cX12_findBest 141 = .ok (.lstore 6, 2) := by decide +kernel
theorem dX12_findBest_143 : decode cX12_findBest 143 = .ok (.lload 6, 2) := by decide +kernel
theorem dX12_findBest_145 : decode cX12_findBest 145 = .ok (.aload_n 0, 1) := by decide +kernel
theorem dX12_findBest_146 : decode cX12_findBest 146 = .ok (.getfield 31, 3) := by decide +kernel
theorem dX12_findBest_149 : decode cX12_findBest 149 = .ok (.iload 5, 2) := by decide +kernel
theorem dX12_findBest_151 : decode cX12_findBest 151 = .ok (.laload, 1) := by decide +kernel
theorem dX12_findBest_152 : decode cX12_findBest 152 = .ok (.lcmp, 1) := by decide +kernel
theorem dX12_findBest_153 : decode cX12_findBest 153 = .ok (.ifCond .ge 20, 3) := by decide +kernel
theorem dX12_findBest_156 : decode cX12_findBest 156 = .ok (.aload_n 0, 1) := by decide +kernel
theorem dX12_findBest_157 : decode cX12_findBest 157 = .ok (.getfield 31, 3) := by decide +kernel
theorem dX12_findBest_160 : decode cX12_findBest 160 = .ok (.iload 5, 2) := by decide +kernel
theorem dX12_findBest_162 : decode cX12_findBest 162 = .ok (.lload 6, 2) := by decide +kernel
theorem dX12_findBest_164 : decode cX12_findBest 164 = .ok (.lastore, 1) := by decide +kernel
theorem dX12_findBest_165 : decode cX12_findBest 165 = .ok (.aload_n 0, 1) := by decide +kernel
theorem dX12_findBest_166 : decode cX12_findBest 166 = .ok (.getfield 35, 3) := by decide +kernel
theorem dX12_findBest_169 : decode cX12_findBest 169 = .ok (.iload 5, 2) := by decide +kernel
theorem dX12_findBest_171 : decode cX12_findBest 171 = .ok (.iconst 1, 1) := by decide +kernel
theorem dX12_findBest_172 : decode cX12_findBest 172 = .ok (.bastore, 1) := by decide +kernel
theorem dX12_findBest_173 : decode cX12_findBest 173 = .ok (.iinc 3 1, 3) := by decide +kernel
theorem dX12_findBest_176 : decode cX12_findBest 176 = .ok (.goto (-157), 3) := by decide +kernel
theorem dX12_findBest_179 : decode cX12_findBest 179 = .ok (.iinc 2 1, 3) := by decide +kernel
theorem dX12_findBest_182 : decode cX12_findBest 182 = .ok (.goto (-173), 3) := by decide +kernel
theorem dX12_findBest_185 : decode cX12_findBest 185 = .ok (.iinc 1 (-1), 3) := by decide +kernel
theorem dX12_findBest_188 : decode cX12_findBest 188 = .ok (.goto (-185), 3) := by decide +kernel
theorem dX12_findBest_191 : decode cX12_findBest 191 = .ok (.return_, 1) := by decide +kernel
set_option maxRecDepth 20000 in
theorem ggX12_best_X12_findBest : GoodIn wsX12_best wsX12_findBest := goodIn_r _ [8, 2, 3, 9, 10, 11, 12, 7, 13, 14, 15, 16, 17, 18, 19, 20, 21, 22, 23, 24, 25, 26, 27, 28, 29, 30, 31, 32, 33, 34, 35, 36, 37, 38, 39, 40, 41, 42, 43, 44, 45, 46, 47, 48, 49, 50, 51, 52, 53, 54, 55, 56, 57, 58] (by decide +kernel) (by decide +kernel)
set_option maxRecDepth 20000 in
theorem gX12_best_X12_findBest : GoodIn wsX12_best (wsV RX12 122 RX12 yX12_findBest wsX12_findBest) := goodIn_app (goodIn_of _ (by decide +kernel)) ggX12_best_X12_findBest
set_option maxRecDepth 20000 in
theorem ggX12_best_X12_groupOf : GoodIn wsX12_best wsX12_groupOf := goodIn_r _ [13, 14, 37, 38, 39, 40, 41, 42, 43, 44, 45, 46, 47, 48, 49, 50, 51, 52, 53, 54, 55, 56, 57, 58] (by decide +kernel) (by decide +kernel)
set_option maxRecDepth 20000 in
theorem gX12_best_X12_groupOf : GoodIn wsX12_best (wsV RX12 111 RX12 yX12_groupOf wsX12_groupOf) := goodIn_app (goodIn_of _ (by decide +kernel)) ggX12_best_X12_groupOf
theorem dX12_best_0 : decode cX12_best 0 = .ok (.aload_n 0, 1) := by decide +kernel
theorem dX12_best_1 : decode cX12_best 1 = .ok (.iconst 0, 1) := by decide +kernel
theorem dX12_best_2 : decode cX12_best 2 = .ok (.putfield 60, 3) := by decide +kernel
theorem dX12_best_5 : decode cX12_best 5 = .ok (.aload_n 0, 1) := by decide +kernel
theorem dX12_best_6 : decode cX12_best 6 = .ok (.invokevirtual 122, 3) := by decide +kernel
theorem dX12_best_9 : decode cX12_best 9 = .ok (.lconst 0, 1) := by decide +kernel
theorem dX12_best_10 : decode cX12_best 10 = .ok (.lstore_n 1, 1) := by decide +kernel
theorem dX12_best_11 : decode cX12_best 11 = .ok (.iconst 0, 1) := by decide +kernel
theorem dX12_best_12 : decode cX12_best 12 = .ok (.istore_n 3, 1) := by decide +kernel
theorem dX12_best_13 : decode cX12_best 13 = .ok (.iload_n 3, 1) := by decide +kernel
theorem dX12_best_14 : decode cX12_best 14 = .ok (.aload_n 0, 1) := by decide +kernel
theorem dX12_best_15 : decode cX12_best 15 = .ok (.getfield 87, 3) := by decide +kernel
theorem dX12_best_18 : decode cX12_best 18 = .ok (.if_icmp .ge 35, 3) := by decide +kernel
theorem dX12_best_21 : decode cX12_best 21 = .ok (.lload_n 1, 1) := by decide +kernel
theorem dX12_best_22 : decode cX12_best 22 = .ok (.aload_n 0, 1) := by decide +kernel
theorem dX12_best_23 : decode cX12_best 23 = .ok (.iload_n 3, 1) := by decide +kernel
theorem dX12_best_24 : decode cX12_best 24 = .ok (.iconst 0, 1) := by decide +kernel
theorem dX12_best_25 : decode cX12_best 25 = .ok (.invokevirtual 111, 3) := by decide +kernel
theorem dX12_best_28 : decode cX12_best 28 = .ok (.iload_n 3, 1) := by decide +kernel
theorem dX12_best_29 : decode cX12_best 29 = .ok (.if_icmp .ne 15, 3) := by decide +kernel
theorem dX12_best_32 : decode cX12_best 32 = .ok (.aload_n 0, 1) := by decide +kernel
theorem dX12_best_33 : decode cX12_best 33 = .ok (.getfield 31, 3) := by decide +kernel
theorem dX12_best_36 : decode cX12_best 36 = .ok (.bipush 16, 2) := by decide +kernel
theorem dX12_best_38 : decode cX12_best 38 = .ok (.iload_n 3, 1) := by decide +kernel
theorem dX12_best_39 : decode cX12_best 39 = .ok (.imul, 1) := by decide +kernel
theorem dX12_best_40 : decode cX12_best 40 = .ok (.laload, 1) := by decide +kernel
theorem dX12_best_41 : decode cX12_best 41 = .ok (.goto 4, 3) := by decide +kernel
theorem dX12_best_44 : decode cX12_best 44 = .ok (.lconst 0, 1) := by decide +kernel
theorem dX12_best_45 : decode cX12_best 45 = .ok (.ladd, 1) := by decide +kernel
theorem dX12_best_46 : decode cX12_best 46 = .ok (.lstore_n 1, 1) := by decide +kernel
theorem dX12_best_47 : decode cX12_best 47 = .ok (.iinc 3 1, 3) := by decide +kernel
theorem dX12_best_50 : decode cX12_best 50 = .ok (.goto (-37), 3) := by decide +kernel
theorem dX12_best_53 : decode cX12_best 53 = .ok (.lload_n 1, 1) := by decide +kernel
theorem dX12_best_54 : decode cX12_best 54 = .ok (.lreturn, 1) := by decide +kernel
set_option maxRecDepth 20000 in
theorem ggX12_hour_X12_in : GoodIn wsX12_hour wsX12_in := goodIn_r _ [10] (by decide +kernel) (by decide +kernel)
set_option maxRecDepth 20000 in
theorem gX12_hour_X12_in : GoodIn wsX12_hour (va_wsS RX12 70 yX12_in wsX12_in) := goodIn_app (goodIn_of _ (by decide +kernel)) ggX12_hour_X12_in
set_option maxRecDepth 20000 in
theorem ggX12_hour_X12_findBest : GoodIn wsX12_hour wsX12_findBest := goodIn_r _ [14, 2, 15, 6, 16, 17, 18, 9, 19, 20, 21, 22, 23, 24, 25, 26, 27, 28, 29, 30, 31, 32, 33, 34, 35, 36, 37, 38, 39, 40, 41, 42, 43, 44, 45, 46, 47, 48, 49, 50, 51, 52, 53, 54, 55, 56, 57, 58, 59, 60, 61, 62, 63, 64] (by decide +kernel) (by decide +kernel)
set_option maxRecDepth 20000 in
theorem gX12_hour_X12_findBest : GoodIn wsX12_hour (wsV RX12 122 RX12 yX12_findBest wsX12_findBest) := goodIn_app (goodIn_of _ (by decide +kernel)) ggX12_hour_X12_findBest
set_option maxRecDepth 20000 in
theorem ggX12_hour_X12_groupOf : GoodIn wsX12_hour wsX12_groupOf := goodIn_r _ [19, 20, 43, 44, 45, 46, 47, 48, 49, 50, 51, 52, 53, 54, 55, 56, 57, 58, 59, 60, 61, 62, 63, 64] (by decide +kernel) (by decide +kernel)
set_option maxRecDepth 20000 in
theorem gX12_hour_X12_groupOf : GoodIn wsX12_hour (wsV RX12 111 RX12 yX12_groupOf wsX12_groupOf) := goodIn_app (goodIn_of _ (by decide +kernel)) ggX12_hour_X12_groupOf
set_option maxRecDepth 20000 in
theorem ggX12_hour_X12_after : GoodIn wsX12_hour wsX12_after := goodIn_r _ [29, 30, 43, 44, 45, 46, 47, 48, 49, 50, 51, 52, 53, 54, 55, 56, 57, 58, 59, 60, 61, 62, 63, 64] (by decide +kernel) (by decide +kernel)
set_option maxRecDepth 20000 in
theorem gX12_hour_X12_after : GoodIn wsX12_hour (wsV RX12 107 RX12 yX12_after wsX12_after) := goodIn_app (goodIn_of _ (by decide +kernel)) ggX12_hour_X12_after
set_option maxRecDepth 20000 in
theorem ggX12_hour_X12_stateIn : GoodIn wsX12_hour wsX12_stateIn := goodIn_r _ [37] (by decide +kernel) (by decide +kernel)
set_option maxRecDepth 20000 in
theorem gX12_hour_X12_stateIn : GoodIn wsX12_hour (va_wsS RX12 99 yX12_stateIn wsX12_stateIn) := goodIn_app (goodIn_of _ (by decide +kernel)) ggX12_hour_X12_stateIn
set_option maxRecDepth 20000 in
theorem ggX12_hour_X12_waterIn : GoodIn wsX12_hour wsX12_waterIn := goodIn_r _ [41, 20, 42, 35, 36, 9, 37, 43, 44, 45, 46, 47, 48, 49, 50, 51, 52, 53, 54, 55, 56, 57, 58, 59, 60, 61, 62, 63, 64] (by decide +kernel) (by decide +kernel)
set_option maxRecDepth 20000 in
theorem gX12_hour_X12_waterIn : GoodIn wsX12_hour (wsV RX12 103 RX12 yX12_waterIn wsX12_waterIn) := goodIn_app (goodIn_of _ (by decide +kernel)) ggX12_hour_X12_waterIn
set_option maxRecDepth 20000 in
theorem ggX12_hour_X12_lostIn : GoodIn wsX12_hour wsX12_lostIn := goodIn_r _ [34, 30, 20, 35, 36, 9, 37, 38, 39, 40, 41, 42, 43, 44, 45, 46, 47, 48, 49, 50, 51, 52, 53, 54, 55, 56, 57, 58, 59, 60, 61, 62, 63, 64] (by decide +kernel) (by decide +kernel)
set_option maxRecDepth 20000 in
theorem gX12_hour_X12_lostIn : GoodIn wsX12_hour (wsV RX12 115 RX12 yX12_lostIn wsX12_lostIn) := goodIn_app (goodIn_of _ (by decide +kernel)) ggX12_hour_X12_lostIn
theorem dX12_hour_0 : decode cX12_hour 0 = .ok (.aload_n 0, 1) := by decide +kernel
theorem dX12_hour_1 : decode cX12_hour 1 = .ok (.iconst 0, 1) := by decide +kernel
theorem dX12_hour_2 : decode cX12_hour 2 = .ok (.putfield 60, 3) := by decide +kernel
theorem dX12_hour_5 : decode cX12_hour 5 = .ok (.iload_n 1, 1) := by decide +kernel
theorem dX12_hour_6 : decode cX12_hour 6 = .ok (.i2l, 1) := by decide +kernel
theorem dX12_hour_7 : decode cX12_hour 7 = .ok (.lconst 0, 1) := by decide +kernel
theorem dX12_hour_8 : decode cX12_hour 8 = .ok (.aload_n 0, 1) := by decide +kernel
theorem dX12_hour_9 : decode cX12_hour 9 = .ok (.getfield 87, 3) := by decide +kernel
theorem dX12_hour_12 : decode cX12_hour 12 = .ok (.iconst 1, 1) := by decide +kernel
theorem dX12_hour_13 : decode cX12_hour 13 = .ok (.isub, 1) := by decide +kernel
theorem dX12_hour_14 : decode cX12_hour 14 = .ok (.i2l, 1) := by decide +kernel
theorem dX12_hour_15 : decode cX12_hour 15 = .ok (.invokestatic 70, 3) := by decide +kernel
theorem dX12_hour_18 : decode cX12_hour 18 = .ok (.ifCond .eq 27, 3) := by decide +kernel
theorem dX12_hour_21 : decode cX12_hour 21 = .ok (.iload_n 2, 1) := by decide +kernel
theorem dX12_hour_22 : decode cX12_hour 22 = .ok (.i2l, 1) := by decide +kernel
theorem dX12_hour_23 : decode cX12_hour 23 = .ok (.lconst 0, 1) := by decide +kernel
theorem dX12_hour_24 : decode cX12_hour 24 = .ok (.ldc2_w 68, 3) := by decide +kernel
theorem dX12_hour_27 : decode cX12_hour 27 = .ok (.invokestatic 70, 3) := by decide +kernel
theorem dX12_hour_30 : decode cX12_hour 30 = .ok (.ifCond .eq 15, 3) := by decide +kernel
theorem dX12_hour_33 : decode cX12_hour 33 = .ok (.iload_n 3, 1) := by decide +kernel
theorem dX12_hour_34 : decode cX12_hour 34 = .ok (.i2l, 1) := by decide +kernel
theorem dX12_hour_35 : decode cX12_hour 35 = .ok (.lconst 0, 1) := by decide +kernel
theorem dX12_hour_36 : decode cX12_hour 36 = .ok (.ldc2_w 97, 3) := by decide +kernel
theorem dX12_hour_39 : decode cX12_hour 39 = .ok (.invokestatic 70, 3) := by decide +kernel
theorem dX12_hour_42 : decode cX12_hour 42 = .ok (.ifCond .ne 6, 3) := by decide +kernel
theorem dX12_hour_45 : decode cX12_hour 45 = .ok (.ldc 80, 2) := by decide +kernel
theorem dX12_hour_47 : decode cX12_hour 47 = .ok (.ireturn, 1) := by decide +kernel
theorem dX12_hour_48 : decode cX12_hour 48 = .ok (.aload_n 0, 1) := by decide +kernel
theorem dX12_hour_49 : decode cX12_hour 49 = .ok (.invokevirtual 122, 3) := by decide +kernel
theorem dX12_hour_52 : decode cX12_hour 52 = .ok (.iconst 0, 1) := by decide +kernel
theorem dX12_hour_53 : decode cX12_hour 53 = .ok (.istore 4, 2) := by decide +kernel
theorem dX12_hour_55 : decode cX12_hour 55 = .ok (.iconst 0, 1) := by decide +kernel
theorem dX12_hour_56 : decode cX12_hour 56 = .ok (.istore 5, 2) := by decide +kernel
theorem dX12_hour_58 : decode cX12_hour 58 = .ok (.iload 5, 2) := by decide +kernel
theorem dX12_hour_60 : decode cX12_hour 60 = .ok (.iload_n 2, 1) := by decide +kernel
theorem dX12_hour_61 : decode cX12_hour 61 = .ok (.if_icmp .ge 44, 3) := by decide +kernel
theorem dX12_hour_64 : decode cX12_hour 64 = .ok (.aload_n 0, 1) := by decide +kernel
theorem dX12_hour_65 : decode cX12_hour 65 = .ok (.iload 4, 2) := by decide +kernel
theorem dX12_hour_67 : decode cX12_hour 67 = .ok (.aload_n 0, 1) := by decide +kernel
theorem dX12_hour_68 : decode cX12_hour 68 = .ok (.getfield 35, 3) := by decide +kernel
theorem dX12_hour_71 : decode cX12_hour 71 = .ok (.sipush 128, 3) := by decide +kernel
theorem dX12_hour_74 : decode cX12_hour 74 = .ok (.iload 5, 2) := by decide +kernel
theorem dX12_hour_76 : decode cX12_hour 76 = .ok (.imul, 1) := by decide +kernel
theorem dX12_hour_77 : decode cX12_hour 77 = .ok (.bipush 16, 2) := by decide +kernel
theorem dX12_hour_79 : decode cX12_hour 79 = .ok (.aload_n 0, 1) := by decide +kernel
theorem dX12_hour_80 : decode cX12_hour 80 = .ok (.iload_n 1, 1) := by decide +kernel
theorem dX12_hour_81 : decode cX12_hour 81 = .ok (.iload 5, 2) := by decide +kernel
theorem dX12_hour_83 : decode cX12_hour 83 = .ok (.invokevirtual 111, 3) := by decide +kernel
theorem dX12_hour_86 : decode cX12_hour 86 = .ok (.imul, 1) := by decide +kernel
theorem dX12_hour_87 : decode cX12_hour 87 = .ok (.iadd, 1) := by decide +kernel
theorem dX12_hour_88 : decode cX12_hour 88 = .ok (.iload 4, 2) := by decide +kernel
theorem dX12_hour_90 : decode cX12_hour 90 = .ok (.iadd, 1) := by decide +kernel
theorem dX12_hour_91 : decode cX12_hour 91 = .ok (.baload, 1) := by decide +kernel
theorem dX12_hour_92 : decode cX12_hour 92 = .ok (.iload 5, 2) := by decide +kernel
theorem dX12_hour_94 : decode cX12_hour 94 = .ok (.invokevirtual 107, 3) := by decide +kernel
theorem dX12_hour_97 : decode cX12_hour 97 = .ok (.istore 4, 2) := by decide +kernel
theorem dX12_hour_99 : decode cX12_hour 99 = .ok (.iinc 5 1, 3) := by decide +kernel
theorem dX12_hour_102 : decode cX12_hour 102 = .ok (.goto (-44), 3) := by decide +kernel
theorem dX12_hour_105 : decode cX12_hour 105 = .ok (.aload_n 0, 1) := by decide +kernel
theorem dX12_hour_106 : decode cX12_hour 106 = .ok (.getfield 35, 3) := by decide +kernel
theorem dX12_hour_109 : decode cX12_hour 109 = .ok (.sipush 128, 3) := by decide +kernel
theorem dX12_hour_112 : decode cX12_hour 112 = .ok (.iload_n 2, 1) := by decide +kernel
theorem dX12_hour_113 : decode cX12_hour 113 = .ok (.imul, 1) := by decide +kernel
theorem dX12_hour_114 : decode cX12_hour 114 = .ok (.bipush 16, 2) := by decide +kernel
theorem dX12_hour_116 : decode cX12_hour 116 = .ok (.aload_n 0, 1) := by decide +kernel
theorem dX12_hour_117 : decode cX12_hour 117 = .ok (.iload_n 1, 1) := by decide +kernel
theorem dX12_hour_118 : decode cX12_hour 118 = .ok (.iload_n 2, 1) := by decide +kernel
theorem dX12_hour_119 : decode cX12_hour 119 = .ok (.invokevirtual 111, 3) := by decide +kernel
theorem dX12_hour_122 : decode cX12_hour 122 = .ok (.imul, 1) := by decide +kernel
theorem dX12_hour_123 : decode cX12_hour 123 = .ok (.iadd, 1) := by decide +kernel
theorem dX12_hour_124 : decode cX12_hour 124 = .ok (.iload 4, 2) := by decide +kernel
theorem dX12_hour_126 : decode cX12_hour 126 = .ok (.iadd, 1) := by decide +kernel
theorem dX12_hour_127 : decode cX12_hour 127 = .ok (.baload, 1) := by decide +kernel
theorem dX12_hour_128 : decode cX12_hour 128 = .ok (.istore 5, 2) := by decide +kernel
theorem dX12_hour_130 : decode cX12_hour 130 = .ok (.iload_n 3, 1) := by decide +kernel
theorem dX12_hour_131 : decode cX12_hour 131 = .ok (.ifCond .ne 25, 3) := by decide +kernel
theorem dX12_hour_134 : decode cX12_hour 134 = .ok (.iload 5, 2) := by decide +kernel
theorem dX12_hour_136 : decode cX12_hour 136 = .ok (.ifCond .ne 7, 3) := by decide +kernel
theorem dX12_hour_139 : decode cX12_hour 139 = .ok (.iconst 0, 1) := by decide +kernel
theorem dX12_hour_140 : decode cX12_hour 140 = .ok (.goto 59, 3) := by decide +kernel
theorem dX12_hour_143 : decode cX12_hour 143 = .ok (.iload 4, 2) := by decide +kernel
theorem dX12_hour_145 : decode cX12_hour 145 = .ok (.ifCond .ne 7, 3) := by decide +kernel
theorem dX12_hour_148 : decode cX12_hour 148 = .ok (.iconst 1, 1) := by decide +kernel
theorem dX12_hour_149 : decode cX12_hour 149 = .ok (.goto 50, 3) := by decide +kernel
theorem dX12_hour_152 : decode cX12_hour 152 = .ok (.iconst 2, 1) := by decide +kernel
theorem dX12_hour_153 : decode cX12_hour 153 = .ok (.goto 46, 3) := by decide +kernel
theorem dX12_hour_156 : decode cX12_hour 156 = .ok (.iload_n 3, 1) := by decide +kernel
theorem dX12_hour_157 : decode cX12_hour 157 = .ok (.iconst 1, 1) := by decide +kernel
theorem dX12_hour_158 : decode cX12_hour 158 = .ok (.if_icmp .ne 13, 3) := by decide +kernel
theorem dX12_hour_161 : decode cX12_hour 161 = .ok (.iload 4, 2) := by decide +kernel
theorem dX12_hour_163 : decode cX12_hour 163 = .ok (.iload 5, 2) := by decide +kernel
theorem dX12_hour_165 : decode cX12_hour 165 = .ok (.invokestatic 99, 3) := by decide +kernel
theorem dX12_hour_168 : decode cX12_hour 168 = .ok (.goto 31, 3) := by decide +kernel
theorem dX12_hour_171 : decode cX12_hour 171 = .ok (.iload_n 3, 1) := by decide +kernel
theorem dX12_hour_172 : decode cX12_hour 172 = .ok (.iconst 2, 1) := by decide +kernel
theorem dX12_hour_173 : decode cX12_hour 173 = .ok (.if_icmp .ne 16, 3) := by decide +kernel
theorem dX12_hour_176 : decode cX12_hour 176 = .ok (.aload_n 0, 1) := by decide +kernel
theorem dX12_hour_177 : decode cX12_hour 177 = .ok (.iload_n 1, 1) := by decide +kernel
theorem dX12_hour_178 : decode cX12_hour 178 = .ok (.iload 4, 2) := by decide +kernel
theorem dX12_hour_180 : decode cX12_hour 180 = .ok (.iload 5, 2) := by decide +kernel
theorem dX12_hour_182 : decode cX12_hour 182 = .ok (.iload_n 2, 1) := by decide +kernel
theorem dX12_hour_183 : decode cX12_hour 183 = .ok (.invokevirtual 103, 3) := by decide +kernel
theorem dX12_hour_186 : decode cX12_hour 186 = .ok (.goto 13, 3) := by decide +kernel
theorem dX12_hour_189 : decode cX12_hour 189 = .ok (.aload_n 0, 1) := by decide +kernel
theorem dX12_hour_190 : decode cX12_hour 190 = .ok (.iload_n 1, 1) := by decide +kernel
theorem dX12_hour_191 : decode cX12_hour 191 = .ok (.iload 4, 2) := by decide +kernel
theorem dX12_hour_193 : decode cX12_hour 193 = .ok (.iload 5, 2) := by decide +kernel
theorem dX12_hour_195 : decode cX12_hour 195 = .ok (.iload_n 2, 1) := by decide +kernel
theorem dX12_hour_196 : decode cX12_hour 196 = .ok (.invokevirtual 115, 3) := by decide +kernel
theorem dX12_hour_199 : decode cX12_hour 199 = .ok (.ireturn, 1) := by decide +kernel
set_option maxRecDepth 20000 in
theorem ggX12_shutAt_X12_in : GoodIn wsX12_shutAt wsX12_in := goodIn_r _ [9] (by decide +kernel) (by decide +kernel)
