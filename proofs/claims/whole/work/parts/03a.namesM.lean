theorem dX12_init_0 : decode cX12_init 0 = .ok (.aload_n 0, 1) := by decide +kernel
theorem dX12_init_1 : decode cX12_init 1 = .ok (.invokespecial 1, 3) := by decide +kernel
theorem dX12_init_4 : decode cX12_init 4 = .ok (.aload_n 0, 1) := by decide +kernel
theorem dX12_init_5 : decode cX12_init 5 = .ok (.bipush 8, 2) := by decide +kernel
theorem dX12_init_7 : decode cX12_init 7 = .ok (.newarray .int, 2) := by decide +kernel
theorem dX12_init_9 : decode cX12_init 9 = .ok (.dup, 1) := by decide +kernel
theorem dX12_init_10 : decode cX12_init 10 = .ok (.iconst 0, 1) := by decide +kernel
theorem dX12_init_11 : decode cX12_init 11 = .ok (.iconst 1, 1) := by decide +kernel
theorem dX12_init_12 : decode cX12_init 12 = .ok (.iastore, 1) := by decide +kernel
theorem dX12_init_13 : decode cX12_init 13 = .ok (.dup, 1) := by decide +kernel
theorem dX12_init_14 : decode cX12_init 14 = .ok (.iconst 1, 1) := by decide +kernel
theorem dX12_init_15 : decode cX12_init 15 = .ok (.iconst 1, 1) := by decide +kernel
theorem dX12_init_16 : decode cX12_init 16 = .ok (.iastore, 1) := by decide +kernel
theorem dX12_init_17 : decode cX12_init 17 = .ok (.dup, 1) := by decide +kernel
theorem dX12_init_18 : decode cX12_init 18 = .ok (.iconst 2, 1) := by decide +kernel
theorem dX12_init_19 : decode cX12_init 19 = .ok (.sipush 300, 3) := by decide +kernel
theorem dX12_init_22 : decode cX12_init 22 = .ok (.iastore, 1) := by decide +kernel
theorem dX12_init_23 : decode cX12_init 23 = .ok (.dup, 1) := by decide +kernel
theorem dX12_init_24 : decode cX12_init 24 = .ok (.iconst 3, 1) := by decide +kernel
theorem dX12_init_25 : decode cX12_init 25 = .ok (.sipush 200, 3) := by decide +kernel
theorem dX12_init_28 : decode cX12_init 28 = .ok (.iastore, 1) := by decide +kernel
theorem dX12_init_29 : decode cX12_init 29 = .ok (.dup, 1) := by decide +kernel
theorem dX12_init_30 : decode cX12_init 30 = .ok (.iconst 4, 1) := by decide +kernel
theorem dX12_init_31 : decode cX12_init 31 = .ok (.bipush 50, 2) := by decide +kernel
theorem dX12_init_33 : decode cX12_init 33 = .ok (.iastore, 1) := by decide +kernel
theorem dX12_init_34 : decode cX12_init 34 = .ok (.dup, 1) := by decide +kernel
theorem dX12_init_35 : decode cX12_init 35 = .ok (.iconst 5, 1) := by decide +kernel
theorem dX12_init_36 : decode cX12_init 36 = .ok (.iconst 5, 1) := by decide +kernel
theorem dX12_init_37 : decode cX12_init 37 = .ok (.iastore, 1) := by decide +kernel
theorem dX12_init_38 : decode cX12_init 38 = .ok (.dup, 1) := by decide +kernel
theorem dX12_init_39 : decode cX12_init 39 = .ok (.bipush 6, 2) := by decide +kernel
theorem dX12_init_41 : decode cX12_init 41 = .ok (.bipush 10, 2) := by decide +kernel
theorem dX12_init_43 : decode cX12_init 43 = .ok (.iastore, 1) := by decide +kernel
theorem dX12_init_44 : decode cX12_init 44 = .ok (.dup, 1) := by decide +kernel
theorem dX12_init_45 : decode cX12_init 45 = .ok (.bipush 7, 2) := by decide +kernel
theorem dX12_init_47 : decode cX12_init 47 = .ok (.iconst 3, 1) := by decide +kernel
theorem dX12_init_48 : decode cX12_init 48 = .ok (.iastore, 1) := by decide +kernel
theorem dX12_init_49 : decode cX12_init 49 = .ok (.putfield 7, 3) := by decide +kernel
theorem dX12_init_52 : decode cX12_init 52 = .ok (.aload_n 0, 1) := by decide +kernel
theorem dX12_init_53 : decode cX12_init 53 = .ok (.bipush 8, 2) := by decide +kernel
theorem dX12_init_55 : decode cX12_init 55 = .ok (.newarray .int, 2) := by decide +kernel
theorem dX12_init_57 : decode cX12_init 57 = .ok (.dup, 1) := by decide +kernel
theorem dX12_init_58 : decode cX12_init 58 = .ok (.iconst 0, 1) := by decide +kernel
theorem dX12_init_59 : decode cX12_init 59 = .ok (.bipush 10, 2) := by decide +kernel
theorem dX12_init_61 : decode cX12_init 61 = .ok (.iastore, 1) := by decide +kernel
theorem dX12_init_62 : decode cX12_init 62 = .ok (.dup, 1) := by decide +kernel
theorem dX12_init_63 : decode cX12_init 63 = .ok (.iconst 1, 1) := by decide +kernel
theorem dX12_init_64 : decode cX12_init 64 = .ok (.bipush 10, 2) := by decide +kernel
theorem dX12_init_66 : decode cX12_init 66 = .ok (.iastore, 1) := by decide +kernel
theorem dX12_init_67 : decode cX12_init 67 = .ok (.dup, 1) := by decide +kernel
theorem dX12_init_68 : decode cX12_init 68 = .ok (.iconst 2, 1) := by decide +kernel
theorem dX12_init_69 : decode cX12_init 69 = .ok (.bipush 10, 2) := by decide +kernel
theorem dX12_init_71 : decode cX12_init 71 = .ok (.iastore, 1) := by decide +kernel
theorem dX12_init_72 : decode cX12_init 72 = .ok (.dup, 1) := by decide +kernel
theorem dX12_init_73 : decode cX12_init 73 = .ok (.iconst 3, 1) := by decide +kernel
theorem dX12_init_74 : decode cX12_init 74 = .ok (.bipush 10, 2) := by decide +kernel
theorem dX12_init_76 : decode cX12_init 76 = .ok (.iastore, 1) := by decide +kernel
theorem dX12_init_77 : decode cX12_init 77 = .ok (.dup, 1) := by decide +kernel
theorem dX12_init_78 : decode cX12_init 78 = .ok (.iconst 4, 1) := by decide +kernel
theorem dX12_init_79 : decode cX12_init 79 = .ok (.bipush 10, 2) := by decide +kernel
theorem dX12_init_81 : decode cX12_init 81 = .ok (.iastore, 1) := by decide +kernel
theorem dX12_init_82 : decode cX12_init 82 = .ok (.dup, 1) := by decide +kernel
theorem dX12_init_83 : decode cX12_init 83 = .ok (.iconst 5, 1) := by decide +kernel
theorem dX12_init_84 : decode cX12_init 84 = .ok (.bipush 10, 2) := by decide +kernel
theorem dX12_init_86 : decode cX12_init 86 = .ok (.iastore, 1) := by decide +kernel
theorem dX12_init_87 : decode cX12_init 87 = .ok (.dup, 1) := by decide +kernel
theorem dX12_init_88 : decode cX12_init 88 = .ok (.bipush 6, 2) := by decide +kernel
theorem dX12_init_90 : decode cX12_init 90 = .ok (.bipush 10, 2) := by decide +kernel
theorem dX12_init_92 : decode cX12_init 92 = .ok (.iastore, 1) := by decide +kernel
theorem dX12_init_93 : decode cX12_init 93 = .ok (.dup, 1) := by decide +kernel
theorem dX12_init_94 : decode cX12_init 94 = .ok (.bipush 7, 2) := by decide +kernel
theorem dX12_init_96 : decode cX12_init 96 = .ok (.bipush 10, 2) := by decide +kernel
theorem dX12_init_98 : decode cX12_init 98 = .ok (.iastore, 1) := by decide +kernel
theorem dX12_init_99 : decode cX12_init 99 = .ok (.putfield 13, 3) := by decide +kernel
theorem dX12_init_102 : decode cX12_init 102 = .ok (.aload_n 0, 1) := by decide +kernel
theorem dX12_init_103 : decode cX12_init 103 = .ok (.bipush 8, 2) := by decide +kernel
theorem dX12_init_105 : decode cX12_init 105 = .ok (.newarray .int, 2) := by decide +kernel
theorem dX12_init_107 : decode cX12_init 107 = .ok (.dup, 1) := by decide +kernel
theorem dX12_init_108 : decode cX12_init 108 = .ok (.iconst 0, 1) := by decide +kernel
theorem dX12_init_109 : decode cX12_init 109 = .ok (.iconst (-1), 1) := by decide +kernel
theorem dX12_init_110 : decode cX12_init 110 = .ok (.iastore, 1) := by decide +kernel
theorem dX12_init_111 : decode cX12_init 111 = .ok (.dup, 1) := by decide +kernel
theorem dX12_init_112 : decode cX12_init 112 = .ok (.iconst 1, 1) := by decide +kernel
theorem dX12_init_113 : decode cX12_init 113 = .ok (.iconst (-1), 1) := by decide +kernel
theorem dX12_init_114 : decode cX12_init 114 = .ok (.iastore, 1) := by decide +kernel
theorem dX12_init_115 : decode cX12_init 115 = .ok (.dup, 1) := by decide +kernel
theorem dX12_init_116 : decode cX12_init 116 = .ok (.iconst 2, 1) := by decide +kernel
theorem dX12_init_117 : decode cX12_init 117 = .ok (.iconst (-1), 1) := by decide +kernel
theorem dX12_init_118 : decode cX12_init 118 = .ok (.iastore, 1) := by decide +kernel
theorem dX12_init_119 : decode cX12_init 119 = .ok (.dup, 1) := by decide +kernel
theorem dX12_init_120 : decode cX12_init 120 = .ok (.iconst 3, 1) := by decide +kernel
theorem dX12_init_121 : decode cX12_init 121 = .ok (.iconst (-1), 1) := by decide +kernel
theorem dX12_init_122 : decode cX12_init 122 = .ok (.iastore, 1) := by decide +kernel
theorem dX12_init_123 : decode cX12_init 123 = .ok (.dup, 1) := by decide +kernel
theorem dX12_init_124 : decode cX12_init 124 = .ok (.iconst 4, 1) := by decide +kernel
theorem dX12_init_125 : decode cX12_init 125 = .ok (.iconst (-1), 1) := by decide +kernel
theorem dX12_init_126 : decode cX12_init 126 = .ok (.iastore, 1) := by decide +kernel
theorem dX12_init_127 : decode cX12_init 127 = .ok (.dup, 1) := by decide +kernel
theorem dX12_init_128 : decode cX12_init 128 = .ok (.iconst 5, 1) := by decide +kernel
theorem dX12_init_129 : decode cX12_init 129 = .ok (.iconst (-1), 1) := by decide +kernel
theorem dX12_init_130 : decode cX12_init 130 = .ok (.iastore, 1) := by decide +kernel
theorem dX12_init_131 : decode cX12_init 131 = .ok (.dup, 1) := by decide +kernel
theorem dX12_init_132 : decode cX12_init 132 = .ok (.bipush 6, 2) := by decide +kernel
theorem dX12_init_134 : decode cX12_init 134 = .ok (.iconst (-1), 1) := by decide +kernel
theorem dX12_init_135 : decode cX12_init 135 = .ok (.iastore, 1) := by decide +kernel
theorem dX12_init_136 : decode cX12_init 136 = .ok (.dup, 1) := by decide +kernel
theorem dX12_init_137 : decode cX12_init 137 = .ok (.bipush 7, 2) := by decide +kernel
theorem dX12_init_139 : decode cX12_init 139 = .ok (.iconst (-1), 1) := by decide +kernel
theorem dX12_init_140 : decode cX12_init 140 = .ok (.iastore, 1) := by decide +kernel
theorem dX12_init_141 : decode cX12_init 141 = .ok (.putfield 16, 3) := by decide +kernel
theorem dX12_init_144 : decode cX12_init 144 = .ok (.aload_n 0, 1) := by decide +kernel
theorem dX12_init_145 : decode cX12_init 145 = .ok (.bipush 8, 2) := by decide +kernel
theorem dX12_init_147 : decode cX12_init 147 = .ok (.newarray .int, 2) := by decide +kernel
theorem dX12_init_149 : decode cX12_init 149 = .ok (.putfield 19, 3) := by decide +kernel
theorem dX12_init_152 : decode cX12_init 152 = .ok (.aload_n 0, 1) := by decide +kernel
theorem dX12_init_153 : decode cX12_init 153 = .ok (.sipush 480, 3) := by decide +kernel
theorem dX12_init_156 : decode cX12_init 156 = .ok (.newarray .int, 2) := by decide +kernel
theorem dX12_init_158 : decode cX12_init 158 = .ok (.putfield 22, 3) := by decide +kernel
theorem dX12_init_161 : decode cX12_init 161 = .ok (.aload_n 0, 1) := by decide +kernel
theorem dX12_init_162 : decode cX12_init 162 = .ok (.bipush 8, 2) := by decide +kernel
theorem dX12_init_164 : decode cX12_init 164 = .ok (.newarray .int, 2) := by decide +kernel
theorem dX12_init_166 : decode cX12_init 166 = .ok (.putfield 25, 3) := by decide +kernel
theorem dX12_init_169 : decode cX12_init 169 = .ok (.aload_n 0, 1) := by decide +kernel
theorem dX12_init_170 : decode cX12_init 170 = .ok (.bipush 64, 2) := by decide +kernel
theorem dX12_init_172 : decode cX12_init 172 = .ok (.newarray .int, 2) := by decide +kernel
theorem dX12_init_174 : decode cX12_init 174 = .ok (.putfield 28, 3) := by decide +kernel
theorem dX12_init_177 : decode cX12_init 177 = .ok (.aload_n 0, 1) := by decide +kernel
theorem dX12_init_178 : decode cX12_init 178 = .ok (.sipush 1152, 3) := by decide +kernel
theorem dX12_init_181 : decode cX12_init 181 = .ok (.newarray .long, 2) := by decide +kernel
theorem dX12_init_183 : decode cX12_init 183 = .ok (.putfield 31, 3) := by decide +kernel
theorem dX12_init_186 : decode cX12_init 186 = .ok (.aload_n 0, 1) := by decide +kernel
theorem dX12_init_187 : decode cX12_init 187 = .ok (.sipush 1152, 3) := by decide +kernel
theorem dX12_init_190 : decode cX12_init 190 = .ok (.newarray .boolean, 2) := by decide +kernel
theorem dX12_init_192 : decode cX12_init 192 = .ok (.putfield 35, 3) := by decide +kernel
theorem dX12_init_195 : decode cX12_init 195 = .ok (.aload_n 0, 1) := by decide +kernel
theorem dX12_init_196 : decode cX12_init 196 = .ok (.bipush 6, 2) := by decide +kernel
theorem dX12_init_198 : decode cX12_init 198 = .ok (.newarray .int, 2) := by decide +kernel
theorem dX12_init_200 : decode cX12_init 200 = .ok (.putfield 39, 3) := by decide +kernel
theorem dX12_init_203 : decode cX12_init 203 = .ok (.aload_n 0, 1) := by decide +kernel
theorem dX12_init_204 : decode cX12_init 204 = .ok (.bipush 6, 2) := by decide +kernel
theorem dX12_init_206 : decode cX12_init 206 = .ok (.newarray .int, 2) := by decide +kernel
theorem dX12_init_208 : decode cX12_init 208 = .ok (.putfield 42, 3) := by decide +kernel
theorem dX12_init_211 : decode cX12_init 211 = .ok (.aload_n 0, 1) := by decide +kernel
theorem dX12_init_212 : decode cX12_init 212 = .ok (.bipush 6, 2) := by decide +kernel
theorem dX12_init_214 : decode cX12_init 214 = .ok (.newarray .boolean, 2) := by decide +kernel
theorem dX12_init_216 : decode cX12_init 216 = .ok (.putfield 45, 3) := by decide +kernel
theorem dX12_init_219 : decode cX12_init 219 = .ok (.aload_n 0, 1) := by decide +kernel
theorem dX12_init_220 : decode cX12_init 220 = .ok (.iconst 3, 1) := by decide +kernel
theorem dX12_init_221 : decode cX12_init 221 = .ok (.newarray .int, 2) := by decide +kernel
theorem dX12_init_223 : decode cX12_init 223 = .ok (.putfield 48, 3) := by decide +kernel
theorem dX12_init_226 : decode cX12_init 226 = .ok (.aload_n 0, 1) := by decide +kernel
theorem dX12_init_227 : decode cX12_init 227 = .ok (.bipush 20, 2) := by decide +kernel
theorem dX12_init_229 : decode cX12_init 229 = .ok (.newarray .int, 2) := by decide +kernel
theorem dX12_init_231 : decode cX12_init 231 = .ok (.putfield 51, 3) := by decide +kernel
theorem dX12_init_234 : decode cX12_init 234 = .ok (.aload_n 0, 1) := by decide +kernel
theorem dX12_init_235 : decode cX12_init 235 = .ok (.bipush 20, 2) := by decide +kernel
theorem dX12_init_237 : decode cX12_init 237 = .ok (.newarray .int, 2) := by decide +kernel
theorem dX12_init_239 : decode cX12_init 239 = .ok (.putfield 54, 3) := by decide +kernel
theorem dX12_init_242 : decode cX12_init 242 = .ok (.aload_n 0, 1) := by decide +kernel
theorem dX12_init_243 : decode cX12_init 243 = .ok (.bipush 16, 2) := by decide +kernel
theorem dX12_init_245 : decode cX12_init 245 = .ok (.newarray .int, 2) := by decide +kernel
theorem dX12_init_247 : decode cX12_init 247 = .ok (.putfield 57, 3) := by decide +kernel
theorem dX12_init_250 : decode cX12_init 250 = .ok (.return_, 1) := by decide +kernel
theorem dX12_in_0 : decode cX12_in 0 = .ok (.lload_n 0, 1) := by decide +kernel
theorem dX12_in_1 : decode cX12_in 1 = .ok (.lload_n 2, 1) := by decide +kernel
theorem dX12_in_2 : decode cX12_in 2 = .ok (.lcmp, 1) := by decide +kernel
theorem dX12_in_3 : decode cX12_in 3 = .ok (.ifCond .lt 14, 3) := by decide +kernel
theorem dX12_in_6 : decode cX12_in 6 = .ok (.lload_n 0, 1) := by decide +kernel
theorem dX12_in_7 : decode cX12_in 7 = .ok (.lload 4, 2) := by decide +kernel
theorem dX12_in_9 : decode cX12_in 9 = .ok (.lcmp, 1) := by decide +kernel
theorem dX12_in_10 : decode cX12_in 10 = .ok (.ifCond .gt 7, 3) := by decide +kernel
theorem dX12_in_13 : decode cX12_in 13 = .ok (.iconst 1, 1) := by decide +kernel
theorem dX12_in_14 : decode cX12_in 14 = .ok (.goto 4, 3) := by decide +kernel
theorem dX12_in_17 : decode cX12_in 17 = .ok (.iconst 0, 1) := by decide +kernel
theorem dX12_in_18 : decode cX12_in 18 = .ok (.ireturn, 1) := by decide +kernel
theorem dX12_found_0 : decode cX12_found 0 = .ok (.aload_n 0, 1) := by decide +kernel
theorem dX12_found_1 : decode cX12_found 1 = .ok (.iload_n 1, 1) := by decide +kernel
theorem dX12_found_2 : decode cX12_found 2 = .ok (.putfield 64, 3) := by decide +kernel
theorem dX12_found_5 : decode cX12_found 5 = .ok (.ldc 67, 2) := by decide +kernel
theorem dX12_found_7 : decode cX12_found 7 = .ok (.iload_n 1, 1) := by decide +kernel
theorem dX12_found_8 : decode cX12_found 8 = .ok (.isub, 1) := by decide +kernel
theorem dX12_found_9 : decode cX12_found 9 = .ok (.ireturn, 1) := by decide +kernel
set_option maxRecDepth 20000 in
theorem ggX12_isSheet_X12_in : GoodIn wsX12_isSheet wsX12_in := goodIn_r _ [5] (by decide +kernel) (by decide +kernel)
set_option maxRecDepth 20000 in
theorem gX12_isSheet_X12_in : GoodIn wsX12_isSheet (va_wsS RX12 70 yX12_in wsX12_in) := goodIn_app (goodIn_of _ (by decide +kernel)) ggX12_isSheet_X12_in
theorem dX12_isSheet_0 : decode cX12_isSheet 0 = .ok (.iload_n 0, 1) := by decide +kernel
theorem dX12_isSheet_1 : decode cX12_isSheet 1 = .ok (.i2l, 1) := by decide +kernel
theorem dX12_isSheet_2 : decode cX12_isSheet 2 = .ok (.lconst 0, 1) := by decide +kernel
theorem dX12_isSheet_3 : decode cX12_isSheet 3 = .ok (.ldc2_w 68, 3) := by decide +kernel
theorem dX12_isSheet_6 : decode cX12_isSheet 6 = .ok (.invokestatic 70, 3) := by decide +kernel
theorem dX12_isSheet_9 : decode cX12_isSheet 9 = .ok (.ireturn, 1) := by decide +kernel
set_option maxRecDepth 20000 in
theorem ggX12_sheet_X12_isSheet : GoodIn wsX12_sheet wsX12_isSheet := goodIn_r _ [11, 12, 13, 14, 10, 15] (by decide +kernel) (by decide +kernel)
set_option maxRecDepth 20000 in
theorem gX12_sheet_X12_isSheet : GoodIn wsX12_sheet (va_wsS RX12 74 yX12_isSheet wsX12_isSheet) := goodIn_app (goodIn_of _ (by decide +kernel)) ggX12_sheet_X12_isSheet
set_option maxRecDepth 20000 in
theorem ggX12_sheet_X12_in : GoodIn wsX12_sheet wsX12_in := goodIn_r _ [15] (by decide +kernel) (by decide +kernel)
set_option maxRecDepth 20000 in
theorem gX12_sheet_X12_in : GoodIn wsX12_sheet (va_wsS RX12 70 yX12_in wsX12_in) := goodIn_app (goodIn_of _ (by decide +kernel)) ggX12_sheet_X12_in
set_option maxRecDepth 20000 in
theorem ggX12_sheet_X12_found : GoodIn wsX12_sheet wsX12_found := goodIn_r _ [19, 4, 20, 21, 22, 23, 24, 25, 26, 27, 28, 29, 30, 31, 32, 33, 34, 35, 36, 37, 38, 39, 40, 41, 42] (by decide +kernel) (by decide +kernel)
set_option maxRecDepth 20000 in
theorem gX12_sheet_X12_found : GoodIn wsX12_sheet (wsV RX12 81 RX12 yX12_found wsX12_found) := goodIn_app (goodIn_of _ (by decide +kernel)) ggX12_sheet_X12_found
theorem dX12_sheet_0 : decode cX12_sheet 0 = .ok (.aload_n 0, 1) := by decide +kernel
theorem dX12_sheet_1 : decode cX12_sheet 1 = .ok (.iconst 0, 1) := by decide +kernel
theorem dX12_sheet_2 : decode cX12_sheet 2 = .ok (.putfield 60, 3) := by decide +kernel
theorem dX12_sheet_5 : decode cX12_sheet 5 = .ok (.iload_n 1, 1) := by decide +kernel
theorem dX12_sheet_6 : decode cX12_sheet 6 = .ok (.invokestatic 74, 3) := by decide +kernel
theorem dX12_sheet_9 : decode cX12_sheet 9 = .ok (.ifCond .eq 21, 3) := by decide +kernel
theorem dX12_sheet_12 : decode cX12_sheet 12 = .ok (.iload_n 2, 1) := by decide +kernel
theorem dX12_sheet_13 : decode cX12_sheet 13 = .ok (.i2l, 1) := by decide +kernel
theorem dX12_sheet_14 : decode cX12_sheet 14 = .ok (.lconst 0, 1) := by decide +kernel
theorem dX12_sheet_15 : decode cX12_sheet 15 = .ok (.ldc2_w 78, 3) := by decide +kernel
theorem dX12_sheet_18 : decode cX12_sheet 18 = .ok (.invokestatic 70, 3) := by decide +kernel
theorem dX12_sheet_21 : decode cX12_sheet 21 = .ok (.ifCond .eq 9, 3) := by decide +kernel
theorem dX12_sheet_24 : decode cX12_sheet 24 = .ok (.iload_n 3, 1) := by decide +kernel
theorem dX12_sheet_25 : decode cX12_sheet 25 = .ok (.bipush 60, 2) := by decide +kernel
theorem dX12_sheet_27 : decode cX12_sheet 27 = .ok (.if_icmp .le 6, 3) := by decide +kernel
theorem dX12_sheet_30 : decode cX12_sheet 30 = .ok (.ldc 80, 2) := by decide +kernel
theorem dX12_sheet_32 : decode cX12_sheet 32 = .ok (.ireturn, 1) := by decide +kernel
theorem dX12_sheet_33 : decode cX12_sheet 33 = .ok (.aload_n 0, 1) := by decide +kernel
theorem dX12_sheet_34 : decode cX12_sheet 34 = .ok (.iconst 0, 1) := by decide +kernel
theorem dX12_sheet_35 : decode cX12_sheet 35 = .ok (.putfield 64, 3) := by decide +kernel
theorem dX12_sheet_38 : decode cX12_sheet 38 = .ok (.iload_n 3, 1) := by decide +kernel
theorem dX12_sheet_39 : decode cX12_sheet 39 = .ok (.ifCond .ge 9, 3) := by decide +kernel
theorem dX12_sheet_42 : decode cX12_sheet 42 = .ok (.aload_n 0, 1) := by decide +kernel
theorem dX12_sheet_43 : decode cX12_sheet 43 = .ok (.iconst 4, 1) := by decide +kernel
theorem dX12_sheet_44 : decode cX12_sheet 44 = .ok (.invokevirtual 81, 3) := by decide +kernel
theorem dX12_sheet_47 : decode cX12_sheet 47 = .ok (.ireturn, 1) := by decide +kernel
theorem dX12_sheet_48 : decode cX12_sheet 48 = .ok (.aload_n 0, 1) := by decide +kernel
theorem dX12_sheet_49 : decode cX12_sheet 49 = .ok (.getfield 16, 3) := by decide +kernel
theorem dX12_sheet_52 : decode cX12_sheet 52 = .ok (.iload_n 1, 1) := by decide +kernel
theorem dX12_sheet_53 : decode cX12_sheet 53 = .ok (.iload_n 2, 1) := by decide +kernel
theorem dX12_sheet_54 : decode cX12_sheet 54 = .ok (.iastore, 1) := by decide +kernel
theorem dX12_sheet_55 : decode cX12_sheet 55 = .ok (.aload_n 0, 1) := by decide +kernel
theorem dX12_sheet_56 : decode cX12_sheet 56 = .ok (.getfield 19, 3) := by decide +kernel
theorem dX12_sheet_59 : decode cX12_sheet 59 = .ok (.iload_n 1, 1) := by decide +kernel
theorem dX12_sheet_60 : decode cX12_sheet 60 = .ok (.iload_n 3, 1) := by decide +kernel
theorem dX12_sheet_61 : decode cX12_sheet 61 = .ok (.iastore, 1) := by decide +kernel
theorem dX12_sheet_62 : decode cX12_sheet 62 = .ok (.iconst 0, 1) := by decide +kernel
theorem dX12_sheet_63 : decode cX12_sheet 63 = .ok (.istore 4, 2) := by decide +kernel
theorem dX12_sheet_65 : decode cX12_sheet 65 = .ok (.iload 4, 2) := by decide +kernel
theorem dX12_sheet_67 : decode cX12_sheet 67 = .ok (.bipush 60, 2) := by decide +kernel
theorem dX12_sheet_69 : decode cX12_sheet 69 = .ok (.if_icmp .ge 22, 3) := by decide +kernel
theorem dX12_sheet_72 : decode cX12_sheet 72 = .ok (.aload_n 0, 1) := by decide +kernel
theorem dX12_sheet_73 : decode cX12_sheet 73 = .ok (.getfield 22, 3) := by decide +kernel
theorem dX12_sheet_76 : decode cX12_sheet 76 = .ok (.bipush 60, 2) := by decide +kernel
theorem dX12_sheet_78 : decode cX12_sheet 78 = .ok (.iload_n 1, 1) := by decide +kernel
theorem dX12_sheet_79 : decode cX12_sheet 79 = .ok (.imul, 1) := by decide +kernel
theorem dX12_sheet_80 : decode cX12_sheet 80 = .ok (.iload 4, 2) := by decide +kernel
theorem dX12_sheet_82 : decode cX12_sheet 82 = .ok (.iadd, 1) := by decide +kernel
theorem dX12_sheet_83 : decode cX12_sheet 83 = .ok (.iconst 0, 1) := by decide +kernel
theorem dX12_sheet_84 : decode cX12_sheet 84 = .ok (.iastore, 1) := by decide +kernel
theorem dX12_sheet_85 : decode cX12_sheet 85 = .ok (.iinc 4 1, 3) := by decide +kernel
theorem dX12_sheet_88 : decode cX12_sheet 88 = .ok (.goto (-23), 3) := by decide +kernel
theorem dX12_sheet_91 : decode cX12_sheet 91 = .ok (.iload_n 3, 1) := by decide +kernel
theorem dX12_sheet_92 : decode cX12_sheet 92 = .ok (.ireturn, 1) := by decide +kernel
set_option maxRecDepth 20000 in
theorem ggX12_set_X12_isSheet : GoodIn wsX12_set wsX12_isSheet := goodIn_r _ [10, 11, 12, 13, 9, 14] (by decide +kernel) (by decide +kernel)
set_option maxRecDepth 20000 in
theorem gX12_set_X12_isSheet : GoodIn wsX12_set (va_wsS RX12 74 yX12_isSheet wsX12_isSheet) := goodIn_app (goodIn_of _ (by decide +kernel)) ggX12_set_X12_isSheet
set_option maxRecDepth 20000 in
theorem ggX12_set_X12_found : GoodIn wsX12_set wsX12_found := goodIn_r _ [18, 3, 19, 20, 21, 22, 23, 24, 25, 26, 27, 28, 29, 30, 31, 32, 33, 34, 35, 36, 37, 38, 39, 40, 41] (by decide +kernel) (by decide +kernel)
set_option maxRecDepth 20000 in
theorem gX12_set_X12_found : GoodIn wsX12_set (wsV RX12 81 RX12 yX12_found wsX12_found) := goodIn_app (goodIn_of _ (by decide +kernel)) ggX12_set_X12_found
set_option maxRecDepth 20000 in
theorem ggX12_set_X12_in : GoodIn wsX12_set wsX12_in := goodIn_r _ [14] (by decide +kernel) (by decide +kernel)
set_option maxRecDepth 20000 in
theorem gX12_set_X12_in : GoodIn wsX12_set (va_wsS RX12 70 yX12_in wsX12_in) := goodIn_app (goodIn_of _ (by decide +kernel)) ggX12_set_X12_in
theorem dX12_set_0 : decode cX12_set 0 = .ok (.aload_n 0, 1) := by decide +kernel
theorem dX12_set_1 : decode cX12_set 1 = .ok (.iconst 0, 1) := by decide +kernel
theorem dX12_set_2 : decode cX12_set 2 = .ok (.putfield 60, 3) := by decide +kernel
theorem dX12_set_5 : decode cX12_set 5 = .ok (.iload_n 1, 1) := by decide +kernel
theorem dX12_set_6 : decode cX12_set 6 = .ok (.invokestatic 74, 3) := by decide +kernel
theorem dX12_set_9 : decode cX12_set 9 = .ok (.ifCond .ne 6, 3) := by decide +kernel
theorem dX12_set_12 : decode cX12_set 12 = .ok (.ldc 80, 2) := by decide +kernel
theorem dX12_set_14 : decode cX12_set 14 = .ok (.ireturn, 1) := by decide +kernel
theorem dX12_set_15 : decode cX12_set 15 = .ok (.aload_n 0, 1) := by decide +kernel
theorem dX12_set_16 : decode cX12_set 16 = .ok (.iconst 0, 1) := by decide +kernel
theorem dX12_set_17 : decode cX12_set 17 = .ok (.putfield 64, 3) := by decide +kernel
theorem dX12_set_20 : decode cX12_set 20 = .ok (.aload_n 0, 1) := by decide +kernel
theorem dX12_set_21 : decode cX12_set 21 = .ok (.getfield 16, 3) := by decide +kernel
theorem dX12_set_24 : decode cX12_set 24 = .ok (.iload_n 1, 1) := by decide +kernel
theorem dX12_set_25 : decode cX12_set 25 = .ok (.iaload, 1) := by decide +kernel
theorem dX12_set_26 : decode cX12_set 26 = .ok (.ifCond .ge 9, 3) := by decide +kernel
theorem dX12_set_29 : decode cX12_set 29 = .ok (.aload_n 0, 1) := by decide +kernel
theorem dX12_set_30 : decode cX12_set 30 = .ok (.iconst 1, 1) := by decide +kernel
theorem dX12_set_31 : decode cX12_set 31 = .ok (.invokevirtual 81, 3) := by decide +kernel
theorem dX12_set_34 : decode cX12_set 34 = .ok (.ireturn, 1) := by decide +kernel
theorem dX12_set_35 : decode cX12_set 35 = .ok (.iload_n 2, 1) := by decide +kernel
theorem dX12_set_36 : decode cX12_set 36 = .ok (.i2l, 1) := by decide +kernel
theorem dX12_set_37 : decode cX12_set 37 = .ok (.lconst 0, 1) := by decide +kernel
theorem dX12_set_38 : decode cX12_set 38 = .ok (.aload_n 0, 1) := by decide +kernel
theorem dX12_set_39 : decode cX12_set 39 = .ok (.getfield 19, 3) := by decide +kernel
theorem dX12_set_42 : decode cX12_set 42 = .ok (.iload_n 1, 1) := by decide +kernel
theorem dX12_set_43 : decode cX12_set 43 = .ok (.iaload, 1) := by decide +kernel
theorem dX12_set_44 : decode cX12_set 44 = .ok (.iconst 1, 1) := by decide +kernel
theorem dX12_set_45 : decode cX12_set 45 = .ok (.isub, 1) := by decide +kernel
theorem dX12_set_46 : decode cX12_set 46 = .ok (.i2l, 1) := by decide +kernel
theorem dX12_set_47 : decode cX12_set 47 = .ok (.invokestatic 70, 3) := by decide +kernel
theorem dX12_set_50 : decode cX12_set 50 = .ok (.ifCond .ne 9, 3) := by decide +kernel
theorem dX12_set_53 : decode cX12_set 53 = .ok (.aload_n 0, 1) := by decide +kernel
theorem dX12_set_54 : decode cX12_set 54 = .ok (.iconst 2, 1) := by decide +kernel
theorem dX12_set_55 : decode cX12_set 55 = .ok (.invokevirtual 81, 3) := by decide +kernel
theorem dX12_set_58 : decode cX12_set 58 = .ok (.ireturn, 1) := by decide +kernel
theorem dX12_set_59 : decode cX12_set 59 = .ok (.aload_n 0, 1) := by decide +kernel
theorem dX12_set_60 : decode cX12_set 60 = .ok (.getfield 22, 3) := by decide +kernel
theorem dX12_set_63 : decode cX12_set 63 = .ok (.bipush 60, 2) := by decide +kernel
theorem dX12_set_65 : decode cX12_set 65 = .ok (.iload_n 1, 1) := by decide +kernel
theorem dX12_set_66 : decode cX12_set 66 = .ok (.imul, 1) := by decide +kernel
theorem dX12_set_67 : decode cX12_set 67 = .ok (.iload_n 2, 1) := by decide +kernel
theorem dX12_set_68 : decode cX12_set 68 = .ok (.iadd, 1) := by decide +kernel
theorem dX12_set_69 : decode cX12_set 69 = .ok (.aload_n 0, 1) := by decide +kernel
theorem dX12_set_70 : decode cX12_set 70 = .ok (.getfield 16, 3) := by decide +kernel
theorem dX12_set_73 : decode cX12_set 73 = .ok (.iload_n 1, 1) := by decide +kernel
theorem dX12_set_74 : decode cX12_set 74 = .ok (.iaload, 1) := by decide +kernel
theorem dX12_set_75 : decode cX12_set 75 = .ok (.ifCond .ne 8, 3) := by decide +kernel
theorem dX12_set_78 : decode cX12_set 78 = .ok (.iload_n 3, 1) := by decide +kernel
theorem dX12_set_79 : decode cX12_set 79 = .ok (.i2b, 1) := by decide +kernel
theorem dX12_set_80 : decode cX12_set 80 = .ok (.goto 19, 3) := by decide +kernel
theorem dX12_set_83 : decode cX12_set 83 = .ok (.aload_n 0, 1) := by decide +kernel
theorem dX12_set_84 : decode cX12_set 84 = .ok (.getfield 16, 3) := by decide +kernel
theorem dX12_set_87 : decode cX12_set 87 = .ok (.iload_n 1, 1) := by decide +kernel
theorem dX12_set_88 : decode cX12_set 88 = .ok (.iaload, 1) := by decide +kernel
theorem dX12_set_89 : decode cX12_set 89 = .ok (.iconst 1, 1) := by decide +kernel
theorem dX12_set_90 : decode cX12_set 90 = .ok (.if_icmp .ne 8, 3) := by decide +kernel
theorem dX12_set_93 : decode cX12_set 93 = .ok (.iload_n 3, 1) := by decide +kernel
theorem dX12_set_94 : decode cX12_set 94 = .ok (.i2s, 1) := by decide +kernel
theorem dX12_set_95 : decode cX12_set 95 = .ok (.goto 4, 3) := by decide +kernel
theorem dX12_set_98 : decode cX12_set 98 = .ok (.iload_n 3, 1) := by decide +kernel
theorem dX12_set_99 : decode cX12_set 99 = .ok (.iastore, 1) := by decide +kernel
theorem dX12_set_100 : decode cX12_set 100 = .ok (.aload_n 0, 1) := by decide +kernel
theorem dX12_set_101 : decode cX12_set 101 = .ok (.getfield 22, 3) := by decide +kernel
theorem dX12_set_104 : decode cX12_set 104 = .ok (.bipush 60, 2) := by decide +kernel
theorem dX12_set_106 : decode cX12_set 106 = .ok (.iload_n 1, 1) := by decide +kernel
theorem dX12_set_107 : decode cX12_set 107 = .ok (.imul, 1) := by decide +kernel
theorem dX12_set_108 : decode cX12_set 108 = .ok (.iload_n 2, 1) := by decide +kernel
theorem dX12_set_109 : decode cX12_set 109 = .ok (.iadd, 1) := by decide +kernel
theorem dX12_set_110 : decode cX12_set 110 = .ok (.iaload, 1) := by decide +kernel
theorem dX12_set_111 : decode cX12_set 111 = .ok (.ireturn, 1) := by decide +kernel
set_option maxRecDepth 20000 in
theorem ggX12_copy_X12_isSheet : GoodIn wsX12_copy wsX12_isSheet := goodIn_r _ [10, 11, 12, 13, 9, 14] (by decide +kernel) (by decide +kernel)
set_option maxRecDepth 20000 in
theorem gX12_copy_X12_isSheet : GoodIn wsX12_copy (va_wsS RX12 74 yX12_isSheet wsX12_isSheet) := goodIn_app (goodIn_of _ (by decide +kernel)) ggX12_copy_X12_isSheet
set_option maxRecDepth 20000 in
theorem ggX12_copy_X12_found : GoodIn wsX12_copy wsX12_found := goodIn_r _ [18, 3, 19, 20, 21, 22, 23, 24, 25, 26, 27, 28, 29, 30, 31, 32, 33, 34, 35, 36, 37, 38, 39, 40, 41] (by decide +kernel) (by decide +kernel)
set_option maxRecDepth 20000 in
theorem gX12_copy_X12_found : GoodIn wsX12_copy (wsV RX12 81 RX12 yX12_found wsX12_found) := goodIn_app (goodIn_of _ (by decide +kernel)) ggX12_copy_X12_found
theorem dX12_copy_0 : decode cX12_copy 0 = .ok (.aload_n 0, 1) := by decide +kernel
theorem dX12_copy_1 : decode cX12_copy 1 = .ok (.iconst 0, 1) := by decide +kernel
theorem dX12_copy_2 : decode cX12_copy 2 = .ok (.putfield 60, 3) := by decide +kernel
theorem dX12_copy_5 : decode cX12_copy 5 = .ok (.iload_n 1, 1) := by decide +kernel
theorem dX12_copy_6 : decode cX12_copy 6 = .ok (.invokestatic 74, 3) := by decide +kernel
theorem dX12_copy_9 : decode cX12_copy 9 = .ok (.ifCond .eq 10, 3) := by decide +kernel
theorem dX12_copy_12 : decode cX12_copy 12 = .ok (.iload_n 3, 1) := by decide +kernel
theorem dX12_copy_13 : decode cX12_copy 13 = .ok (.invokestatic 74, 3) := by decide +kernel
theorem dX12_copy_16 : decode cX12_copy 16 = .ok (.ifCond .ne 6, 3) := by decide +kernel
theorem dX12_copy_19 : decode cX12_copy 19 = .ok (.ldc 80, 2) := by decide +kernel
theorem dX12_copy_21 : decode cX12_copy 21 = .ok (.ireturn, 1) := by decide +kernel
theorem dX12_copy_22 : decode cX12_copy 22 = .ok (.aload_n 0, 1) := by decide +kernel
theorem dX12_copy_23 : decode cX12_copy 23 = .ok (.iconst 0, 1) := by decide +kernel
theorem dX12_copy_24 : decode cX12_copy 24 = .ok (.putfield 64, 3) := by decide +kernel
theorem dX12_copy_27 : decode cX12_copy 27 = .ok (.aload_n 0, 1) := by decide +kernel
theorem dX12_copy_28 : decode cX12_copy 28 = .ok (.getfield 16, 3) := by decide +kernel
theorem dX12_copy_31 : decode cX12_copy 31 = .ok (.iload_n 1, 1) := by decide +kernel
theorem dX12_copy_32 : decode cX12_copy 32 = .ok (.iaload, 1) := by decide +kernel
theorem dX12_copy_33 : decode cX12_copy 33 = .ok (.ifCond .lt 12, 3) := by decide +kernel
theorem dX12_copy_36 : decode cX12_copy 36 = .ok (.aload_n 0, 1) := by decide +kernel
theorem dX12_copy_37 : decode cX12_copy 37 = .ok (.getfield 16, 3) := by decide +kernel
theorem dX12_copy_40 : decode cX12_copy 40 = .ok (.iload_n 3, 1) := by decide +kernel
theorem dX12_copy_41 : decode cX12_copy 41 = .ok (.iaload, 1) := by decide +kernel
theorem dX12_copy_42 : decode cX12_copy 42 = .ok (.ifCond .ge 9, 3) := by decide +kernel
theorem dX12_copy_45 : decode cX12_copy 45 = .ok (.aload_n 0, 1) := by decide +kernel
theorem dX12_copy_46 : decode cX12_copy 46 = .ok (.iconst 1, 1) := by decide +kernel
theorem dX12_copy_47 : decode cX12_copy 47 = .ok (.invokevirtual 81, 3) := by decide +kernel
theorem dX12_copy_50 : decode cX12_copy 50 = .ok (.ireturn, 1) := by decide +kernel
theorem dX12_copy_51 : decode cX12_copy 51 = .ok (.aload_n 0, 1) := by decide +kernel
theorem dX12_copy_52 : decode cX12_copy 52 = .ok (.getfield 16, 3) := by decide +kernel
theorem dX12_copy_55 : decode cX12_copy 55 = .ok (.iload_n 1, 1) := by decide +kernel
theorem dX12_copy_56 : decode cX12_copy 56 = .ok (.iaload, 1) := by decide +kernel
theorem dX12_copy_57 : decode cX12_copy 57 = .ok (.aload_n 0, 1) := by decide +kernel
theorem dX12_copy_58 : decode cX12_copy 58 = .ok (.getfield 16, 3) := by decide +kernel
theorem dX12_copy_61 : decode cX12_copy 61 = .ok (.iload_n 3, 1) := by decide +kernel
theorem dX12_copy_62 : decode cX12_copy 62 = .ok (.iaload, 1) := by decide +kernel
theorem dX12_copy_63 : decode cX12_copy 63 = .ok (.if_icmp .eq 9, 3) := by decide +kernel
theorem dX12_copy_66 : decode cX12_copy 66 = .ok (.aload_n 0, 1) := by decide +kernel
theorem dX12_copy_67 : decode cX12_copy 67 = .ok (.iconst 5, 1) := by decide +kernel
theorem dX12_copy_68 : decode cX12_copy 68 = .ok (.invokevirtual 81, 3) := by decide +kernel
theorem dX12_copy_71 : decode cX12_copy 71 = .ok (.ireturn, 1) := by decide +kernel
theorem dX12_copy_72 : decode cX12_copy 72 = .ok (.iload_n 2, 1) := by decide +kernel
theorem dX12_copy_73 : decode cX12_copy 73 = .ok (.ifCond .lt 48, 3) := by decide +kernel
theorem dX12_copy_76 : decode cX12_copy 76 = .ok (.iload 4, 2) := by decide +kernel
theorem dX12_copy_78 : decode cX12_copy 78 = .ok (.ifCond .lt 43, 3) := by decide +kernel
theorem dX12_copy_81 : decode cX12_copy 81 = .ok (.iload 5, 2) := by decide +kernel
theorem dX12_copy_83 : decode cX12_copy 83 = .ok (.ifCond .lt 38, 3) := by decide +kernel
theorem dX12_copy_86 : decode cX12_copy 86 = .ok (.iload_n 2, 1) := by decide +kernel
theorem dX12_copy_87 : decode cX12_copy 87 = .ok (.i2l, 1) := by decide +kernel
theorem dX12_copy_88 : decode cX12_copy 88 = .ok (.iload 5, 2) := by decide +kernel
theorem dX12_copy_90 : decode cX12_copy 90 = .ok (.i2l, 1) := by decide +kernel
theorem dX12_copy_91 : decode cX12_copy 91 = .ok (.ladd, 1) := by decide +kernel
theorem dX12_copy_92 : decode cX12_copy 92 = .ok (.aload_n 0, 1) := by decide +kernel
theorem dX12_copy_93 : decode cX12_copy 93 = .ok (.getfield 19, 3) := by decide +kernel
theorem dX12_copy_96 : decode cX12_copy 96 = .ok (.iload_n 1, 1) := by decide +kernel
theorem dX12_copy_97 : decode cX12_copy 97 = .ok (.iaload, 1) := by decide +kernel
theorem dX12_copy_98 : decode cX12_copy 98 = .ok (.i2l, 1) := by decide +kernel
theorem dX12_copy_99 : decode cX12_copy 99 = .ok (.lcmp, 1) := by decide +kernel
theorem dX12_copy_100 : decode cX12_copy 100 = .ok (.ifCond .gt 21, 3) := by decide +kernel
theorem dX12_copy_103 : decode cX12_copy 103 = .ok (.iload 4, 2) := by decide +kernel
theorem dX12_copy_105 : decode cX12_copy 105 = .ok (.i2l, 1) := by decide +kernel
theorem dX12_copy_106 : decode cX12_copy 106 = .ok (.iload 5, 2) := by decide +kernel
theorem dX12_copy_108 : decode cX12_copy 108 = .ok (.i2l, 1) := by decide +kernel
theorem dX12_copy_109 : decode cX12_copy 109 = .ok (.ladd, 1) := by decide +kernel
theorem dX12_copy_110 : decode cX12_copy 110 = .ok (.aload_n 0, 1) := by decide +kernel
theorem dX12_copy_111 : decode cX12_copy 111 = .ok (.getfield 19, 3) := by decide +kernel
theorem dX12_copy_114 : decode cX12_copy 114 = .ok (.iload_n 3, 1) := by decide +kernel
theorem dX12_copy_115 : decode cX12_copy 115 = .ok (.iaload, 1) := by decide +kernel
theorem dX12_copy_116 : decode cX12_copy 116 = .ok (.i2l, 1) := by decide +kernel
theorem dX12_copy_117 : decode cX12_copy 117 = .ok (.lcmp, 1) := by decide +kernel
theorem dX12_copy_118 : decode cX12_copy 118 = .ok (.ifCond .le 9, 3) := by decide +kernel
theorem dX12_copy_121 : decode cX12_copy 121 = .ok (.aload_n 0, 1) := by decide +kernel
theorem dX12_copy_122 : decode cX12_copy 122 = .ok (.iconst 2, 1) := by decide +kernel
theorem dX12_copy_123 : decode cX12_copy 123 = .ok (.invokevirtual 81, 3) := by decide +kernel
theorem dX12_copy_126 : decode cX12_copy 126 = .ok (.ireturn, 1) := by decide +kernel
theorem dX12_copy_127 : decode cX12_copy 127 = .ok (.iload_n 2, 1) := by decide +kernel
theorem dX12_copy_128 : decode cX12_copy 128 = .ok (.iload 4, 2) := by decide +kernel
theorem dX12_copy_130 : decode cX12_copy 130 = .ok (.if_icmp .lt 7, 3) := by decide +kernel
theorem dX12_copy_133 : decode cX12_copy 133 = .ok (.iconst 1, 1) := by decide +kernel
theorem dX12_copy_134 : decode cX12_copy 134 = .ok (.goto 4, 3) := by decide +kernel
theorem dX12_copy_137 : decode cX12_copy 137 = .ok (.iconst 0, 1) := by decide +kernel
theorem dX12_copy_138 : decode cX12_copy 138 = .ok (.istore 6, 2) := by decide +kernel
theorem dX12_copy_140 : decode cX12_copy 140 = .ok (.iconst 0, 1) := by decide +kernel
theorem dX12_copy_141 : decode cX12_copy 141 = .ok (.istore 7, 2) := by decide +kernel
theorem dX12_copy_143 : decode cX12_copy 143 = .ok (.iload 7, 2) := by decide +kernel
theorem dX12_copy_145 : decode cX12_copy 145 = .ok (.iload 5, 2) := by decide +kernel
theorem dX12_copy_147 : decode cX12_copy 147 = .ok (.if_icmp .ge 57, 3) := by decide +kernel
theorem dX12_copy_150 : decode cX12_copy 150 = .ok (.iload 6, 2) := by decide +kernel
theorem dX12_copy_152 : decode cX12_copy 152 = .ok (.ifCond .eq 8, 3) := by decide +kernel
theorem dX12_copy_155 : decode cX12_copy 155 = .ok (.iload 7, 2) := by decide +kernel
theorem dX12_copy_157 : decode cX12_copy 157 = .ok (.goto 10, 3) := by decide +kernel
theorem dX12_copy_160 : decode cX12_copy 160 = .ok (.iload 5, 2) := by decide +kernel
theorem dX12_copy_162 : decode cX12_copy 162 = .ok (.iconst 1, 1) := by decide +kernel
theorem dX12_copy_163 : decode cX12_copy 163 = .ok (.isub, 1) := by decide +kernel
theorem dX12_copy_164 : decode cX12_copy 164 = .ok (.iload 7, 2) := by decide +kernel
theorem dX12_copy_166 : decode cX12_copy 166 = .ok (.isub, 1) := by decide +kernel
theorem dX12_copy_167 : decode cX12_copy 167 = .ok (.istore 8, 2) := by decide +kernel
theorem dX12_copy_169 : decode cX12_copy 169 = .ok (.aload_n 0, 1) := by decide +kernel
theorem dX12_copy_170 : decode cX12_copy 170 = .ok (.getfield 22, 3) := by decide +kernel
theorem dX12_copy_173 : decode cX12_copy 173 = .ok (.bipush 60, 2) := by decide +kernel
theorem dX12_copy_175 : decode cX12_copy 175 = .ok (.iload_n 3, 1) := by decide +kernel
theorem dX12_copy_176 : decode cX12_copy 176 = .ok (.imul, 1) := by decide +kernel
theorem dX12_copy_177 : decode cX12_copy 177 = .ok (.iload 4, 2) := by decide +kernel
theorem dX12_copy_179 : decode cX12_copy 179 = .ok (.iadd, 1) := by decide +kernel
theorem dX12_copy_180 : decode cX12_copy 180 = .ok (.iload 8, 2) := by decide +kernel
theorem dX12_copy_182 : decode cX12_copy 182 = .ok (.iadd, 1) := by decide +kernel
theorem dX12_copy_183 : decode cX12_copy 183 = .ok (.aload_n 0, 1) := by decide +kernel
theorem dX12_copy_184 : decode cX12_copy 184 = .ok (.getfield 22, 3) := by decide +kernel
theorem dX12_copy_187 : decode cX12_copy 187 = .ok (.bipush 60, 2) := by decide +kernel
theorem dX12_copy_189 : decode cX12_copy 189 = .ok (.iload_n 1, 1) := by decide +kernel
theorem dX12_copy_190 : decode cX12_copy 190 = .ok (.imul, 1) := by decide +kernel
theorem dX12_copy_191 : decode cX12_copy 191 = .ok (.iload_n 2, 1) := by decide +kernel
theorem dX12_copy_192 : decode cX12_copy 192 = .ok (.iadd, 1) := by decide +kernel
theorem dX12_copy_193 : decode cX12_copy 193 = .ok (.iload 8, 2) := by decide +kernel
theorem dX12_copy_195 : decode cX12_copy 195 = .ok (.iadd, 1) := by decide +kernel
theorem dX12_copy_196 : decode cX12_copy 196 = .ok (.iaload, 1) := by decide +kernel
theorem dX12_copy_197 : decode cX12_copy 197 = .ok (.iastore, 1) := by decide +kernel
theorem dX12_copy_198 : decode cX12_copy 198 = .ok (.iinc 7 1, 3) := by decide +kernel
theorem dX12_copy_201 : decode cX12_copy 201 = .ok (.goto (-58), 3) := by decide +kernel
theorem dX12_copy_204 : decode cX12_copy 204 = .ok (.iload 5, 2) := by decide +kernel
theorem dX12_copy_206 : decode cX12_copy 206 = .ok (.ireturn, 1) := by decide +kernel
set_option maxRecDepth 20000 in
theorem ggX12_drop_X12_isSheet : GoodIn wsX12_drop wsX12_isSheet := goodIn_r _ [9, 10, 11, 12, 8, 13] (by decide +kernel) (by decide +kernel)
set_option maxRecDepth 20000 in
theorem gX12_drop_X12_isSheet : GoodIn wsX12_drop (va_wsS RX12 74 yX12_isSheet wsX12_isSheet) := goodIn_app (goodIn_of _ (by decide +kernel)) ggX12_drop_X12_isSheet
set_option maxRecDepth 20000 in
theorem ggX12_drop_X12_found : GoodIn wsX12_drop wsX12_found := goodIn_r _ [17, 3, 18, 19, 20, 21, 22, 23, 24, 25, 26, 27, 28, 29, 30, 31, 32, 33, 34, 35, 36, 37, 38, 39, 40] (by decide +kernel) (by decide +kernel)
set_option maxRecDepth 20000 in
theorem gX12_drop_X12_found : GoodIn wsX12_drop (wsV RX12 81 RX12 yX12_found wsX12_found) := goodIn_app (goodIn_of _ (by decide +kernel)) ggX12_drop_X12_found
theorem dX12_drop_0 : decode cX12_drop 0 = .ok (.aload_n 0, 1) := by decide +kernel
theorem dX12_drop_1 : decode cX12_drop 1 = .ok (.iconst 0, 1) := by decide +kernel
theorem dX12_drop_2 : decode cX12_drop 2 = .ok (.putfield 60, 3) := by decide +kernel
theorem dX12_drop_5 : decode cX12_drop 5 = .ok (.iload_n 1, 1) := by decide +kernel
theorem dX12_drop_6 : decode cX12_drop 6 = .ok (.invokestatic 74, 3) := by decide +kernel
theorem dX12_drop_9 : decode cX12_drop 9 = .ok (.ifCond .ne 6, 3) := by decide +kernel
theorem dX12_drop_12 : decode cX12_drop 12 = .ok (.ldc 80, 2) := by decide +kernel
theorem dX12_drop_14 : decode cX12_drop 14 = .ok (.ireturn, 1) := by decide +kernel
theorem dX12_drop_15 : decode cX12_drop 15 = .ok (.aload_n 0, 1) := by decide +kernel
theorem dX12_drop_16 : decode cX12_drop 16 = .ok (.iconst 0, 1) := by decide +kernel
theorem dX12_drop_17 : decode cX12_drop 17 = .ok (.putfield 64, 3) := by decide +kernel
theorem dX12_drop_20 : decode cX12_drop 20 = .ok (.aload_n 0, 1) := by decide +kernel
theorem dX12_drop_21 : decode cX12_drop 21 = .ok (.getfield 16, 3) := by decide +kernel
theorem dX12_drop_24 : decode cX12_drop 24 = .ok (.iload_n 1, 1) := by decide +kernel
theorem dX12_drop_25 : decode cX12_drop 25 = .ok (.iaload, 1) := by decide +kernel
theorem dX12_drop_26 : decode cX12_drop 26 = .ok (.ifCond .ge 9, 3) := by decide +kernel
theorem dX12_drop_29 : decode cX12_drop 29 = .ok (.aload_n 0, 1) := by decide +kernel
theorem dX12_drop_30 : decode cX12_drop 30 = .ok (.iconst 1, 1) := by decide +kernel
theorem dX12_drop_31 : decode cX12_drop 31 = .ok (.invokevirtual 81, 3) := by decide +kernel
theorem dX12_drop_34 : decode cX12_drop 34 = .ok (.ireturn, 1) := by decide +kernel
theorem dX12_drop_35 : decode cX12_drop 35 = .ok (.aload_n 0, 1) := by decide +kernel
theorem dX12_drop_36 : decode cX12_drop 36 = .ok (.getfield 16, 3) := by decide +kernel
theorem dX12_drop_39 : decode cX12_drop 39 = .ok (.iload_n 1, 1) := by decide +kernel
theorem dX12_drop_40 : decode cX12_drop 40 = .ok (.iconst (-1), 1) := by decide +kernel
theorem dX12_drop_41 : decode cX12_drop 41 = .ok (.iastore, 1) := by decide +kernel
theorem dX12_drop_42 : decode cX12_drop 42 = .ok (.aload_n 0, 1) := by decide +kernel
theorem dX12_drop_43 : decode cX12_drop 43 = .ok (.getfield 19, 3) := by decide +kernel
theorem dX12_drop_46 : decode cX12_drop 46 = .ok (.iload_n 1, 1) := by decide +kernel
theorem dX12_drop_47 : decode cX12_drop 47 = .ok (.iaload, 1) := by decide +kernel
theorem dX12_drop_48 : decode cX12_drop 48 = .ok (.ireturn, 1) := by decide +kernel
set_option maxRecDepth 20000 in
theorem ggX12_world_X12_in : GoodIn wsX12_world wsX12_in := goodIn_r _ [17] (by decide +kernel) (by decide +kernel)
set_option maxRecDepth 20000 in
theorem gX12_world_X12_in : GoodIn wsX12_world (va_wsS RX12 70 yX12_in wsX12_in) := goodIn_app (goodIn_of _ (by decide +kernel)) ggX12_world_X12_in
set_option maxRecDepth 20000 in
theorem ggX12_world_X12_isSheet : GoodIn wsX12_world wsX12_isSheet := goodIn_r _ [20, 21, 14, 15, 16, 17] (by decide +kernel) (by decide +kernel)
set_option maxRecDepth 20000 in
theorem gX12_world_X12_isSheet : GoodIn wsX12_world (va_wsS RX12 74 yX12_isSheet wsX12_isSheet) := goodIn_app (goodIn_of _ (by decide +kernel)) ggX12_world_X12_isSheet
set_option maxRecDepth 20000 in
theorem ggX12_world_X12_found : GoodIn wsX12_world wsX12_found := goodIn_r _ [25, 11, 26, 27, 28, 29, 30, 31, 32, 33, 34, 35, 36, 37, 38, 39, 40, 41, 42, 43, 44, 45, 46, 47, 48] (by decide +kernel) (by decide +kernel)
set_option maxRecDepth 20000 in
theorem gX12_world_X12_found : GoodIn wsX12_world (wsV RX12 81 RX12 yX12_found wsX12_found) := goodIn_app (goodIn_of _ (by decide +kernel)) ggX12_world_X12_found
theorem dX12_world_0 : decode cX12_world 0 = .ok (.aload_n 0, 1) := by decide +kernel
theorem dX12_world_1 : decode cX12_world 1 = .ok (.iconst 0, 1) := by decide +kernel
theorem dX12_world_2 : decode cX12_world 2 = .ok (.putfield 60, 3) := by decide +kernel
theorem dX12_world_5 : decode cX12_world 5 = .ok (.iload_n 1, 1) := by decide +kernel
theorem dX12_world_6 : decode cX12_world 6 = .ok (.i2l, 1) := by decide +kernel
theorem dX12_world_7 : decode cX12_world 7 = .ok (.lconst 1, 1) := by decide +kernel
theorem dX12_world_8 : decode cX12_world 8 = .ok (.ldc2_w 85, 3) := by decide +kernel
theorem dX12_world_11 : decode cX12_world 11 = .ok (.invokestatic 70, 3) := by decide +kernel
theorem dX12_world_14 : decode cX12_world 14 = .ok (.ifCond .eq 10, 3) := by decide +kernel
theorem dX12_world_17 : decode cX12_world 17 = .ok (.iload_n 2, 1) := by decide +kernel
theorem dX12_world_18 : decode cX12_world 18 = .ok (.invokestatic 74, 3) := by decide +kernel
theorem dX12_world_21 : decode cX12_world 21 = .ok (.ifCond .ne 6, 3) := by decide +kernel
theorem dX12_world_24 : decode cX12_world 24 = .ok (.ldc 80, 2) := by decide +kernel
theorem dX12_world_26 : decode cX12_world 26 = .ok (.ireturn, 1) := by decide +kernel
theorem dX12_world_27 : decode cX12_world 27 = .ok (.aload_n 0, 1) := by decide +kernel
theorem dX12_world_28 : decode cX12_world 28 = .ok (.getfield 87, 3) := by decide +kernel
theorem dX12_world_31 : decode cX12_world 31 = .ok (.bipush 8, 2) := by decide +kernel
theorem dX12_world_33 : decode cX12_world 33 = .ok (.if_icmp .ne 6, 3) := by decide +kernel
theorem dX12_world_36 : decode cX12_world 36 = .ok (.ldc 90, 2) := by decide +kernel
theorem dX12_world_38 : decode cX12_world 38 = .ok (.ireturn, 1) := by decide +kernel
theorem dX12_world_39 : decode cX12_world 39 = .ok (.aload_n 0, 1) := by decide +kernel
theorem dX12_world_40 : decode cX12_world 40 = .ok (.getfield 16, 3) := by decide +kernel
theorem dX12_world_43 : decode cX12_world 43 = .ok (.iload_n 2, 1) := by decide +kernel
theorem dX12_world_44 : decode cX12_world 44 = .ok (.iaload, 1) := by decide +kernel
theorem dX12_world_45 : decode cX12_world 45 = .ok (.ifCond .ge 9, 3) := by decide +kernel
theorem dX12_world_48 : decode cX12_world 48 = .ok (.aload_n 0, 1) := by decide +kernel
theorem dX12_world_49 : decode cX12_world 49 = .ok (.iconst 1, 1) := by decide +kernel
theorem dX12_world_50 : decode cX12_world 50 = .ok (.invokevirtual 81, 3) := by decide +kernel
theorem dX12_world_53 : decode cX12_world 53 = .ok (.ireturn, 1) := by decide +kernel
theorem dX12_world_54 : decode cX12_world 54 = .ok (.iload_n 3, 1) := by decide +kernel
theorem dX12_world_55 : decode cX12_world 55 = .ok (.ifCond .lt 20, 3) := by decide +kernel
theorem dX12_world_58 : decode cX12_world 58 = .ok (.iload_n 3, 1) := by decide +kernel
theorem dX12_world_59 : decode cX12_world 59 = .ok (.i2l, 1) := by decide +kernel
theorem dX12_world_60 : decode cX12_world 60 = .ok (.ldc2_w 91, 3) := by decide +kernel
theorem dX12_world_63 : decode cX12_world 63 = .ok (.ladd, 1) := by decide +kernel
theorem dX12_world_64 : decode cX12_world 64 = .ok (.aload_n 0, 1) := by decide +kernel
theorem dX12_world_65 : decode cX12_world 65 = .ok (.getfield 19, 3) := by decide +kernel
theorem dX12_world_68 : decode cX12_world 68 = .ok (.iload_n 2, 1) := by decide +kernel
theorem dX12_world_69 : decode cX12_world 69 = .ok (.iaload, 1) := by decide +kernel
theorem dX12_world_70 : decode cX12_world 70 = .ok (.i2l, 1) := by decide +kernel
theorem dX12_world_71 : decode cX12_world 71 = .ok (.lcmp, 1) := by decide +kernel
theorem dX12_world_72 : decode cX12_world 72 = .ok (.ifCond .le 9, 3) := by decide +kernel
theorem dX12_world_75 : decode cX12_world 75 = .ok (.aload_n 0, 1) := by decide +kernel
theorem dX12_world_76 : decode cX12_world 76 = .ok (.iconst 2, 1) := by decide +kernel
theorem dX12_world_77 : decode cX12_world 77 = .ok (.invokevirtual 81, 3) := by decide +kernel
theorem dX12_world_80 : decode cX12_world 80 = .ok (.ireturn, 1) := by decide +kernel
theorem dX12_world_81 : decode cX12_world 81 = .ok (.iconst 0, 1) := by decide +kernel
theorem dX12_world_82 : decode cX12_world 82 = .ok (.istore 4, 2) := by decide +kernel
theorem dX12_world_84 : decode cX12_world 84 = .ok (.iload 4, 2) := by decide +kernel
theorem dX12_world_86 : decode cX12_world 86 = .ok (.bipush 8, 2) := by decide +kernel
theorem dX12_world_88 : decode cX12_world 88 = .ok (.if_icmp .ge 37, 3) := by decide +kernel
theorem dX12_world_91 : decode cX12_world 91 = .ok (.aload_n 0, 1) := by decide +kernel
theorem dX12_world_92 : decode cX12_world 92 = .ok (.getfield 22, 3) := by decide +kernel
theorem dX12_world_95 : decode cX12_world 95 = .ok (.bipush 60, 2) := by decide +kernel
theorem dX12_world_97 : decode cX12_world 97 = .ok (.iload_n 2, 1) := by decide +kernel
theorem dX12_world_98 : decode cX12_world 98 = .ok (.imul, 1) := by decide +kernel
theorem dX12_world_99 : decode cX12_world 99 = .ok (.iload_n 3, 1) := by decide +kernel
theorem dX12_world_100 : decode cX12_world 100 = .ok (.iadd, 1) := by decide +kernel
theorem dX12_world_101 : decode cX12_world 101 = .ok (.iload 4, 2) := by decide +kernel
theorem dX12_world_103 : decode cX12_world 103 = .ok (.iadd, 1) := by decide +kernel
theorem dX12_world_104 : decode cX12_world 104 = .ok (.iaload, 1) := by decide +kernel
theorem dX12_world_105 : decode cX12_world 105 = .ok (.i2l, 1) := by decide +kernel
theorem dX12_world_106 : decode cX12_world 106 = .ok (.lconst 0, 1) := by decide +kernel
theorem dX12_world_107 : decode cX12_world 107 = .ok (.ldc2_w 93, 3) := by decide +kernel
theorem dX12_world_110 : decode cX12_world 110 = .ok (.invokestatic 70, 3) := by decide +kernel
theorem dX12_world_113 : decode cX12_world 113 = .ok (.ifCond .ne 6, 3) := by decide +kernel
theorem dX12_world_116 : decode cX12_world 116 = .ok (.ldc 80, 2) := by decide +kernel
theorem dX12_world_118 : decode cX12_world 118 = .ok (.ireturn, 1) := by decide +kernel
theorem dX12_world_119 : decode cX12_world 119 = .ok (.iinc 4 1, 3) := by decide +kernel
theorem dX12_world_122 : decode cX12_world 122 = .ok (.goto (-38), 3) := by decide +kernel
theorem dX12_world_125 : decode cX12_world 125 = .ok (.aload_n 0, 1) := by decide +kernel
theorem dX12_world_126 : decode cX12_world 126 = .ok (.iconst 0, 1) := by decide +kernel
theorem dX12_world_127 : decode cX12_world 127 = .ok (.putfield 64, 3) := by decide +kernel
theorem dX12_world_130 : decode cX12_world 130 = .ok (.iconst 0, 1) := by decide +kernel
theorem dX12_world_131 : decode cX12_world 131 = .ok (.istore 4, 2) := by decide +kernel
theorem dX12_world_133 : decode cX12_world 133 = .ok (.iload 4, 2) := by decide +kernel
theorem dX12_world_135 : decode cX12_world 135 = .ok (.bipush 8, 2) := by decide +kernel
theorem dX12_world_137 : decode cX12_world 137 = .ok (.if_icmp .ge 38, 3) := by decide +kernel
theorem dX12_world_140 : decode cX12_world 140 = .ok (.aload_n 0, 1) := by decide +kernel
theorem dX12_world_141 : decode cX12_world 141 = .ok (.getfield 28, 3) := by decide +kernel
theorem dX12_world_144 : decode cX12_world 144 = .ok (.bipush 8, 2) := by decide +kernel
theorem dX12_world_146 : decode cX12_world 146 = .ok (.aload_n 0, 1) := by decide +kernel
theorem dX12_world_147 : decode cX12_world 147 = .ok (.getfield 87, 3) := by decide +kernel
theorem dX12_world_150 : decode cX12_world 150 = .ok (.imul, 1) := by decide +kernel
theorem dX12_world_151 : decode cX12_world 151 = .ok (.iload 4, 2) := by decide +kernel
theorem dX12_world_153 : decode cX12_world 153 = .ok (.iadd, 1) := by decide +kernel
theorem dX12_world_154 : decode cX12_world 154 = .ok (.aload_n 0, 1) := by decide +kernel
theorem dX12_world_155 : decode cX12_world 155 = .ok (.getfield 22, 3) := by decide +kernel
theorem dX12_world_158 : decode cX12_world 158 = .ok (.bipush 60, 2) := by decide +kernel
theorem dX12_world_160 : decode cX12_world 160 = .ok (.iload_n 2, 1) := by decide +kernel
theorem dX12_world_161 : decode cX12_world 161 = .ok (.imul, 1) := by decide +kernel
theorem dX12_world_162 : decode cX12_world 162 = .ok (.iload_n 3, 1) := by decide +kernel
theorem dX12_world_163 : decode cX12_world 163 = .ok (.iadd, 1) := by decide +kernel
theorem dX12_world_164 : decode cX12_world 164 = .ok (.iload 4, 2) := by decide +kernel
theorem dX12_world_166 : decode cX12_world 166 = .ok (.iadd, 1) := by decide +kernel
theorem dX12_world_167 : decode cX12_world 167 = .ok (.iaload, 1) := by decide +kernel
theorem dX12_world_168 : decode cX12_world 168 = .ok (.iastore, 1) := by decide +kernel
theorem dX12_world_169 : decode cX12_world 169 = .ok (.iinc 4 1, 3) := by decide +kernel
theorem dX12_world_172 : decode cX12_world 172 = .ok (.goto (-39), 3) := by decide +kernel
theorem dX12_world_175 : decode cX12_world 175 = .ok (.aload_n 0, 1) := by decide +kernel
theorem dX12_world_176 : decode cX12_world 176 = .ok (.getfield 25, 3) := by decide +kernel
theorem dX12_world_179 : decode cX12_world 179 = .ok (.aload_n 0, 1) := by decide +kernel
theorem dX12_world_180 : decode cX12_world 180 = .ok (.getfield 87, 3) := by decide +kernel
theorem dX12_world_183 : decode cX12_world 183 = .ok (.iload_n 1, 1) := by decide +kernel
theorem dX12_world_184 : decode cX12_world 184 = .ok (.iastore, 1) := by decide +kernel
theorem dX12_world_185 : decode cX12_world 185 = .ok (.aload_n 0, 1) := by decide +kernel
theorem dX12_world_186 : decode cX12_world 186 = .ok (.dup, 1) := by decide +kernel
theorem dX12_world_187 : decode cX12_world 187 = .ok (.getfield 87, 3) := by decide +kernel
theorem dX12_world_190 : decode cX12_world 190 = .ok (.iconst 1, 1) := by decide +kernel
theorem dX12_world_191 : decode cX12_world 191 = .ok (.iadd, 1) := by decide +kernel
theorem dX12_world_192 : decode cX12_world 192 = .ok (.putfield 87, 3) := by decide +kernel
theorem dX12_world_195 : decode cX12_world 195 = .ok (.aload_n 0, 1) := by decide +kernel
theorem dX12_world_196 : decode cX12_world 196 = .ok (.getfield 87, 3) := by decide +kernel
theorem dX12_world_199 : decode cX12_world 199 = .ok (.iconst 1, 1) := by decide +kernel
theorem dX12_world_200 : decode cX12_world 200 = .ok (.isub, 1) := by decide +kernel
theorem dX12_world_201 : decode cX12_world 201 = .ok (.ireturn, 1) := by decide +kernel
set_option maxRecDepth 20000 in
theorem ggX12_river_X12_in : GoodIn wsX12_river wsX12_in := goodIn_r _ [9] (by decide +kernel) (by decide +kernel)
set_option maxRecDepth 20000 in
theorem gX12_river_X12_in : GoodIn wsX12_river (va_wsS RX12 70 yX12_in wsX12_in) := goodIn_app (goodIn_of _ (by decide +kernel)) ggX12_river_X12_in
theorem dX12_river_0 : decode cX12_river 0 = .ok (.aload_n 0, 1) := by decide +kernel
theorem dX12_river_1 : decode cX12_river 1 = .ok (.iconst 0, 1) := by decide +kernel
theorem dX12_river_2 : decode cX12_river 2 = .ok (.putfield 60, 3) := by decide +kernel
theorem dX12_river_5 : decode cX12_river 5 = .ok (.iload_n 1, 1) := by decide +kernel
theorem dX12_river_6 : decode cX12_river 6 = .ok (.i2l, 1) := by decide +kernel
theorem dX12_river_7 : decode cX12_river 7 = .ok (.lconst 0, 1) := by decide +kernel
theorem dX12_river_8 : decode cX12_river 8 = .ok (.ldc2_w 68, 3) := by decide +kernel
theorem dX12_river_11 : decode cX12_river 11 = .ok (.invokestatic 70, 3) := by decide +kernel
theorem dX12_river_14 : decode cX12_river 14 = .ok (.ifCond .eq 15, 3) := by decide +kernel
theorem dX12_river_17 : decode cX12_river 17 = .ok (.iload_n 2, 1) := by decide +kernel
theorem dX12_river_18 : decode cX12_river 18 = .ok (.i2l, 1) := by decide +kernel
theorem dX12_river_19 : decode cX12_river 19 = .ok (.lconst 0, 1) := by decide +kernel
theorem dX12_river_20 : decode cX12_river 20 = .ok (.ldc2_w 95, 3) := by decide +kernel
theorem dX12_river_23 : decode cX12_river 23 = .ok (.invokestatic 70, 3) := by decide +kernel
theorem dX12_river_26 : decode cX12_river 26 = .ok (.ifCond .ne 6, 3) := by decide +kernel
theorem dX12_river_29 : decode cX12_river 29 = .ok (.ldc 80, 2) := by decide +kernel
theorem dX12_river_31 : decode cX12_river 31 = .ok (.ireturn, 1) := by decide +kernel
theorem dX12_river_32 : decode cX12_river 32 = .ok (.aload_n 0, 1) := by decide +kernel
theorem dX12_river_33 : decode cX12_river 33 = .ok (.getfield 13, 3) := by decide +kernel
theorem dX12_river_36 : decode cX12_river 36 = .ok (.iload_n 1, 1) := by decide +kernel
theorem dX12_river_37 : decode cX12_river 37 = .ok (.iaload, 1) := by decide +kernel
theorem dX12_river_38 : decode cX12_river 38 = .ok (.istore_n 3, 1) := by decide +kernel
theorem dX12_river_39 : decode cX12_river 39 = .ok (.aload_n 0, 1) := by decide +kernel
theorem dX12_river_40 : decode cX12_river 40 = .ok (.getfield 13, 3) := by decide +kernel
theorem dX12_river_43 : decode cX12_river 43 = .ok (.iload_n 1, 1) := by decide +kernel
theorem dX12_river_44 : decode cX12_river 44 = .ok (.iload_n 2, 1) := by decide +kernel
theorem dX12_river_45 : decode cX12_river 45 = .ok (.iastore, 1) := by decide +kernel
theorem dX12_river_46 : decode cX12_river 46 = .ok (.iload_n 3, 1) := by decide +kernel
theorem dX12_river_47 : decode cX12_river 47 = .ok (.ireturn, 1) := by decide +kernel
set_option maxRecDepth 20000 in
theorem ggX12_rule_X12_in : GoodIn wsX12_rule wsX12_in := goodIn_r _ [10] (by decide +kernel) (by decide +kernel)
set_option maxRecDepth 20000 in
theorem gX12_rule_X12_in : GoodIn wsX12_rule (va_wsS RX12 70 yX12_in wsX12_in) := goodIn_app (goodIn_of _ (by decide +kernel)) ggX12_rule_X12_in
theorem dX12_rule_0 : decode cX12_rule 0 = .ok (.aload_n 0, 1) := by decide +kernel
theorem dX12_rule_1 : decode cX12_rule 1 = .ok (.iconst 0, 1) := by decide +kernel
theorem dX12_rule_2 : decode cX12_rule 2 = .ok (.putfield 60, 3) := by decide +kernel
theorem dX12_rule_5 : decode cX12_rule 5 = .ok (.iload_n 1, 1) := by decide +kernel
theorem dX12_rule_6 : decode cX12_rule 6 = .ok (.i2l, 1) := by decide +kernel
theorem dX12_rule_7 : decode cX12_rule 7 = .ok (.lconst 0, 1) := by decide +kernel
theorem dX12_rule_8 : decode cX12_rule 8 = .ok (.ldc2_w 68, 3) := by decide +kernel
theorem dX12_rule_11 : decode cX12_rule 11 = .ok (.invokestatic 70, 3) := by decide +kernel
theorem dX12_rule_14 : decode cX12_rule 14 = .ok (.ifCond .eq 35, 3) := by decide +kernel
theorem dX12_rule_17 : decode cX12_rule 17 = .ok (.iload_n 1, 1) := by decide +kernel
theorem dX12_rule_18 : decode cX12_rule 18 = .ok (.iconst 2, 1) := by decide +kernel
theorem dX12_rule_19 : decode cX12_rule 19 = .ok (.if_icmp .ge 18, 3) := by decide +kernel
theorem dX12_rule_22 : decode cX12_rule 22 = .ok (.iload_n 2, 1) := by decide +kernel
theorem dX12_rule_23 : decode cX12_rule 23 = .ok (.i2l, 1) := by decide +kernel
theorem dX12_rule_24 : decode cX12_rule 24 = .ok (.lconst 1, 1) := by decide +kernel
theorem dX12_rule_25 : decode cX12_rule 25 = .ok (.ldc2_w 97, 3) := by decide +kernel
theorem dX12_rule_28 : decode cX12_rule 28 = .ok (.invokestatic 70, 3) := by decide +kernel
theorem dX12_rule_31 : decode cX12_rule 31 = .ok (.ifCond .ne 21, 3) := by decide +kernel
theorem dX12_rule_34 : decode cX12_rule 34 = .ok (.goto 15, 3) := by decide +kernel
theorem dX12_rule_37 : decode cX12_rule 37 = .ok (.iload_n 2, 1) := by decide +kernel
theorem dX12_rule_38 : decode cX12_rule 38 = .ok (.i2l, 1) := by decide +kernel
theorem dX12_rule_39 : decode cX12_rule 39 = .ok (.lconst 0, 1) := by decide +kernel
theorem dX12_rule_40 : decode cX12_rule 40 = .ok (.ldc2_w 93, 3) := by decide +kernel
theorem dX12_rule_43 : decode cX12_rule 43 = .ok (.invokestatic 70, 3) := by decide +kernel
theorem dX12_rule_46 : decode cX12_rule 46 = .ok (.ifCond .ne 6, 3) := by decide +kernel
theorem dX12_rule_49 : decode cX12_rule 49 = .ok (.ldc 80, 2) := by decide +kernel
theorem dX12_rule_51 : decode cX12_rule 51 = .ok (.ireturn, 1) := by decide +kernel
theorem dX12_rule_52 : decode cX12_rule 52 = .ok (.aload_n 0, 1) := by decide +kernel
theorem dX12_rule_53 : decode cX12_rule 53 = .ok (.getfield 7, 3) := by decide +kernel
theorem dX12_rule_56 : decode cX12_rule 56 = .ok (.iload_n 1, 1) := by decide +kernel
theorem dX12_rule_57 : decode cX12_rule 57 = .ok (.iaload, 1) := by decide +kernel
theorem dX12_rule_58 : decode cX12_rule 58 = .ok (.istore_n 3, 1) := by decide +kernel
theorem dX12_rule_59 : decode cX12_rule 59 = .ok (.aload_n 0, 1) := by decide +kernel
theorem dX12_rule_60 : decode cX12_rule 60 = .ok (.getfield 7, 3) := by decide +kernel
theorem dX12_rule_63 : decode cX12_rule 63 = .ok (.iload_n 1, 1) := by decide +kernel
theorem dX12_rule_64 : decode cX12_rule 64 = .ok (.iload_n 2, 1) := by decide +kernel
theorem dX12_rule_65 : decode cX12_rule 65 = .ok (.iastore, 1) := by decide +kernel
theorem dX12_rule_66 : decode cX12_rule 66 = .ok (.iload_n 3, 1) := by decide +kernel
theorem dX12_rule_67 : decode cX12_rule 67 = .ok (.ireturn, 1) := by decide +kernel
theorem dX12_groupOf_0 : decode cX12_groupOf 0 = .ok (.iconst 0, 1) := by decide +kernel
theorem dX12_groupOf_1 : decode cX12_groupOf 1 = .ok (.istore_n 3, 1) := by decide +kernel
theorem dX12_groupOf_2 : decode cX12_groupOf 2 = .ok (.iload_n 3, 1) := by decide +kernel
theorem dX12_groupOf_3 : decode cX12_groupOf 3 = .ok (.iload_n 1, 1) := by decide +kernel
theorem dX12_groupOf_4 : decode cX12_groupOf 4 = .ok (.if_icmp .ge 73, 3) := by decide +kernel
theorem dX12_groupOf_7 : decode cX12_groupOf 7 = .ok (.iconst 1, 1) := by decide +kernel
theorem dX12_groupOf_8 : decode cX12_groupOf 8 = .ok (.istore 4, 2) := by decide +kernel
theorem dX12_groupOf_10 : decode cX12_groupOf 10 = .ok (.iconst 0, 1) := by decide +kernel
theorem dX12_groupOf_11 : decode cX12_groupOf 11 = .ok (.istore 5, 2) := by decide +kernel
theorem dX12_groupOf_13 : decode cX12_groupOf 13 = .ok (.iload 5, 2) := by decide +kernel
theorem dX12_groupOf_15 : decode cX12_groupOf 15 = .ok (.iload_n 2, 1) := by decide +kernel
theorem dX12_groupOf_16 : decode cX12_groupOf 16 = .ok (.if_icmp .gt 48, 3) := by decide +kernel
theorem dX12_groupOf_19 : decode cX12_groupOf 19 = .ok (.iload 4, 2) := by decide +kernel
theorem dX12_groupOf_21 : decode cX12_groupOf 21 = .ok (.ifCond .eq 34, 3) := by decide +kernel
theorem dX12_groupOf_24 : decode cX12_groupOf 24 = .ok (.aload_n 0, 1) := by decide +kernel
theorem dX12_groupOf_25 : decode cX12_groupOf 25 = .ok (.getfield 28, 3) := by decide +kernel
theorem dX12_groupOf_28 : decode cX12_groupOf 28 = .ok (.bipush 8, 2) := by decide +kernel
theorem dX12_groupOf_30 : decode cX12_groupOf 30 = .ok (.iload_n 3, 1) := by decide +kernel
theorem dX12_groupOf_31 : decode cX12_groupOf 31 = .ok (.imul, 1) := by decide +kernel
theorem dX12_groupOf_32 : decode cX12_groupOf 32 = .ok (.iload 5, 2) := by decide +kernel
theorem dX12_groupOf_34 : decode cX12_groupOf 34 = .ok (.iadd, 1) := by decide +kernel
theorem dX12_groupOf_35 : decode cX12_groupOf 35 = .ok (.iaload, 1) := by decide +kernel
theorem dX12_groupOf_36 : decode cX12_groupOf 36 = .ok (.aload_n 0, 1) := by decide +kernel
theorem dX12_groupOf_37 : decode cX12_groupOf 37 = .ok (.getfield 28, 3) := by decide +kernel
theorem dX12_groupOf_40 : decode cX12_groupOf 40 = .ok (.bipush 8, 2) := by decide +kernel
theorem dX12_groupOf_42 : decode cX12_groupOf 42 = .ok (.iload_n 1, 1) := by decide +kernel
theorem dX12_groupOf_43 : decode cX12_groupOf 43 = .ok (.imul, 1) := by decide +kernel
theorem dX12_groupOf_44 : decode cX12_groupOf 44 = .ok (.iload 5, 2) := by decide +kernel
theorem dX12_groupOf_46 : decode cX12_groupOf 46 = .ok (.iadd, 1) := by decide +kernel
theorem dX12_groupOf_47 : decode cX12_groupOf 47 = .ok (.iaload, 1) := by decide +kernel
theorem dX12_groupOf_48 : decode cX12_groupOf 48 = .ok (.if_icmp .ne 7, 3) := by decide +kernel
theorem dX12_groupOf_51 : decode cX12_groupOf 51 = .ok (.iconst 1, 1) := by decide +kernel
theorem dX12_groupOf_52 : decode cX12_groupOf 52 = .ok (.goto 4, 3) := by decide +kernel
theorem dX12_groupOf_55 : decode cX12_groupOf 55 = .ok (.iconst 0, 1) := by decide +kernel
theorem dX12_groupOf_56 : decode cX12_groupOf 56 = .ok (.istore 4, 2) := by decide +kernel
theorem dX12_groupOf_58 : decode cX12_groupOf 58 = .ok (.iinc 5 1, 3) := by decide +kernel
theorem dX12_groupOf_61 : decode cX12_groupOf 61 = .ok (.goto (-48), 3) := by decide +kernel
theorem dX12_groupOf_64 : decode cX12_groupOf 64 = .ok (.iload 4, 2) := by decide +kernel
theorem dX12_groupOf_66 : decode cX12_groupOf 66 = .ok (.ifCond .eq 5, 3) := by decide +kernel
theorem dX12_groupOf_69 : decode cX12_groupOf 69 = .ok (.iload_n 3, 1) := by decide +kernel
theorem dX12_groupOf_70 : decode cX12_groupOf 70 = .ok (.ireturn, 1) := by decide +kernel
theorem dX12_groupOf_71 : decode cX12_groupOf 71 = .ok (.iinc 3 1, 3) := by decide +kernel
theorem dX12_groupOf_74 : decode cX12_groupOf 74 = .ok (.goto (-72), 3) := by decide +kernel
theorem dX12_groupOf_77 : decode cX12_groupOf 77 = .ok (.iload_n 1, 1) := by decide +kernel
theorem dX12_groupOf_78 : decode cX12_groupOf 78 = .ok (.ireturn, 1) := by decide +kernel
theorem dX12_stateIn_0 : decode cX12_stateIn 0 = .ok (.iload_n 0, 1) := by decide +kernel
theorem dX12_stateIn_1 : decode cX12_stateIn 1 = .ok (.ifCond .ne 13, 3) := by decide +kernel
theorem dX12_stateIn_4 : decode cX12_stateIn 4 = .ok (.iload_n 1, 1) := by decide +kernel
theorem dX12_stateIn_5 : decode cX12_stateIn 5 = .ok (.ifCond .eq 7, 3) := by decide +kernel
theorem dX12_stateIn_8 : decode cX12_stateIn 8 = .ok (.iconst 1, 1) := by decide +kernel
theorem dX12_stateIn_9 : decode cX12_stateIn 9 = .ok (.goto 4, 3) := by decide +kernel
theorem dX12_stateIn_12 : decode cX12_stateIn 12 = .ok (.iconst 0, 1) := by decide +kernel
theorem dX12_stateIn_13 : decode cX12_stateIn 13 = .ok (.ireturn, 1) := by decide +kernel
theorem dX12_stateIn_14 : decode cX12_stateIn 14 = .ok (.iload_n 0, 1) := by decide +kernel
theorem dX12_stateIn_15 : decode cX12_stateIn 15 = .ok (.iconst 3, 1) := by decide +kernel
theorem dX12_stateIn_16 : decode cX12_stateIn 16 = .ok (.if_icmp .ge 7, 3) := by decide +kernel
theorem dX12_stateIn_19 : decode cX12_stateIn 19 = .ok (.iconst 1, 1) := by decide +kernel
theorem dX12_stateIn_20 : decode cX12_stateIn 20 = .ok (.goto 22, 3) := by decide +kernel
theorem dX12_stateIn_23 : decode cX12_stateIn 23 = .ok (.iload_n 0, 1) := by decide +kernel
theorem dX12_stateIn_24 : decode cX12_stateIn 24 = .ok (.bipush 6, 2) := by decide +kernel
theorem dX12_stateIn_26 : decode cX12_stateIn 26 = .ok (.if_icmp .ge 7, 3) := by decide +kernel
theorem dX12_stateIn_29 : decode cX12_stateIn 29 = .ok (.iconst 3, 1) := by decide +kernel
theorem dX12_stateIn_30 : decode cX12_stateIn 30 = .ok (.goto 12, 3) := by decide +kernel
theorem dX12_stateIn_33 : decode cX12_stateIn 33 = .ok (.iload_n 1, 1) := by decide +kernel
theorem dX12_stateIn_34 : decode cX12_stateIn 34 = .ok (.ifCond .eq 7, 3) := by decide +kernel
theorem dX12_stateIn_37 : decode cX12_stateIn 37 = .ok (.iconst 3, 1) := by decide +kernel
theorem dX12_stateIn_38 : decode cX12_stateIn 38 = .ok (.goto 4, 3) := by decide +kernel
theorem dX12_stateIn_41 : decode cX12_stateIn 41 = .ok (.iconst 2, 1) := by decide +kernel
theorem dX12_stateIn_42 : decode cX12_stateIn 42 = .ok (.ireturn, 1) := by decide +kernel
theorem dX12_after_0 : decode cX12_after 0 = .ok (.iload_n 1, 1) := by decide +kernel
theorem dX12_after_1 : decode cX12_after 1 = .ok (.ifCond .ne 41, 3) := by decide +kernel
theorem dX12_after_4 : decode cX12_after 4 = .ok (.iload_n 2, 1) := by decide +kernel
theorem dX12_after_5 : decode cX12_after 5 = .ok (.ifCond .ne 7, 3) := by decide +kernel
theorem dX12_after_8 : decode cX12_after 8 = .ok (.iconst 0, 1) := by decide +kernel
theorem dX12_after_9 : decode cX12_after 9 = .ok (.goto 32, 3) := by decide +kernel
theorem dX12_after_12 : decode cX12_after 12 = .ok (.aload_n 0, 1) := by decide +kernel
theorem dX12_after_13 : decode cX12_after 13 = .ok (.getfield 7, 3) := by decide +kernel
theorem dX12_after_16 : decode cX12_after 16 = .ok (.iconst 0, 1) := by decide +kernel
theorem dX12_after_17 : decode cX12_after 17 = .ok (.iaload, 1) := by decide +kernel
theorem dX12_after_18 : decode cX12_after 18 = .ok (.iconst 1, 1) := by decide +kernel
theorem dX12_after_19 : decode cX12_after 19 = .ok (.if_icmp .ne 12, 3) := by decide +kernel
theorem dX12_after_22 : decode cX12_after 22 = .ok (.bipush 8, 2) := by decide +kernel
theorem dX12_after_24 : decode cX12_after 24 = .ok (.iload_n 3, 1) := by decide +kernel
theorem dX12_after_25 : decode cX12_after 25 = .ok (.iadd, 1) := by decide +kernel
theorem dX12_after_26 : decode cX12_after 26 = .ok (.iconst 1, 1) := by decide +kernel
theorem dX12_after_27 : decode cX12_after 27 = .ok (.iadd, 1) := by decide +kernel
theorem dX12_after_28 : decode cX12_after 28 = .ok (.goto 13, 3) := by decide +kernel
theorem dX12_after_31 : decode cX12_after 31 = .ok (.iconst 0, 1) := by decide +kernel
theorem dX12_after_32 : decode cX12_after 32 = .ok (.aload_n 0, 1) := by decide +kernel
theorem dX12_after_33 : decode cX12_after 33 = .ok (.getfield 7, 3) := by decide +kernel
theorem dX12_after_36 : decode cX12_after 36 = .ok (.iconst 0, 1) := by decide +kernel
theorem dX12_after_37 : decode cX12_after 37 = .ok (.iaload, 1) := by decide +kernel
theorem dX12_after_38 : decode cX12_after 38 = .ok (.iadd, 1) := by decide +kernel
theorem dX12_after_39 : decode cX12_after 39 = .ok (.iconst 1, 1) := by decide +kernel
theorem dX12_after_40 : decode cX12_after 40 = .ok (.isub, 1) := by decide +kernel
theorem dX12_after_41 : decode cX12_after 41 = .ok (.ireturn, 1) := by decide +kernel
theorem dX12_after_42 : decode cX12_after 42 = .ok (.iload_n 1, 1) := by decide +kernel
theorem dX12_after_43 : decode cX12_after 43 = .ok (.iconst 3, 1) := by decide +kernel
theorem dX12_after_44 : decode cX12_after 44 = .ok (.if_icmp .ge 21, 3) := by decide +kernel
theorem dX12_after_47 : decode cX12_after 47 = .ok (.iload_n 1, 1) := by decide +kernel
theorem dX12_after_48 : decode cX12_after 48 = .ok (.iconst 1, 1) := by decide +kernel
theorem dX12_after_49 : decode cX12_after 49 = .ok (.if_icmp .ne 12, 3) := by decide +kernel
theorem dX12_after_52 : decode cX12_after 52 = .ok (.bipush 8, 2) := by decide +kernel
theorem dX12_after_54 : decode cX12_after 54 = .ok (.iload_n 3, 1) := by decide +kernel
theorem dX12_after_55 : decode cX12_after 55 = .ok (.iadd, 1) := by decide +kernel
theorem dX12_after_56 : decode cX12_after 56 = .ok (.iconst 1, 1) := by decide +kernel
theorem dX12_after_57 : decode cX12_after 57 = .ok (.iadd, 1) := by decide +kernel
theorem dX12_after_58 : decode cX12_after 58 = .ok (.goto 6, 3) := by decide +kernel
theorem dX12_after_61 : decode cX12_after 61 = .ok (.iload_n 1, 1) := by decide +kernel
theorem dX12_after_62 : decode cX12_after 62 = .ok (.iconst 1, 1) := by decide +kernel
theorem dX12_after_63 : decode cX12_after 63 = .ok (.isub, 1) := by decide +kernel
theorem dX12_after_64 : decode cX12_after 64 = .ok (.ireturn, 1) := by decide +kernel
theorem dX12_after_65 : decode cX12_after 65 = .ok (.iload_n 1, 1) := by decide +kernel
theorem dX12_after_66 : decode cX12_after 66 = .ok (.bipush 6, 2) := by decide +kernel
theorem dX12_after_68 : decode cX12_after 68 = .ok (.if_icmp .ge 16, 3) := by decide +kernel
theorem dX12_after_71 : decode cX12_after 71 = .ok (.iload_n 1, 1) := by decide +kernel
theorem dX12_after_72 : decode cX12_after 72 = .ok (.iconst 4, 1) := by decide +kernel
theorem dX12_after_73 : decode cX12_after 73 = .ok (.if_icmp .ne 7, 3) := by decide +kernel
theorem dX12_after_76 : decode cX12_after 76 = .ok (.iconst 0, 1) := by decide +kernel
theorem dX12_after_77 : decode cX12_after 77 = .ok (.goto 6, 3) := by decide +kernel
theorem dX12_after_80 : decode cX12_after 80 = .ok (.iload_n 1, 1) := by decide +kernel
theorem dX12_after_81 : decode cX12_after 81 = .ok (.iconst 1, 1) := by decide +kernel
theorem dX12_after_82 : decode cX12_after 82 = .ok (.isub, 1) := by decide +kernel
theorem dX12_after_83 : decode cX12_after 83 = .ok (.ireturn, 1) := by decide +kernel
theorem dX12_after_84 : decode cX12_after 84 = .ok (.iload_n 2, 1) := by decide +kernel
theorem dX12_after_85 : decode cX12_after 85 = .ok (.ifCond .ne 7, 3) := by decide +kernel
theorem dX12_after_88 : decode cX12_after 88 = .ok (.iload_n 1, 1) := by decide +kernel
theorem dX12_after_89 : decode cX12_after 89 = .ok (.goto 27, 3) := by decide +kernel
theorem dX12_after_92 : decode cX12_after 92 = .ok (.aload_n 0, 1) := by decide +kernel
theorem dX12_after_93 : decode cX12_after 93 = .ok (.getfield 7, 3) := by decide +kernel
theorem dX12_after_96 : decode cX12_after 96 = .ok (.iconst 1, 1) := by decide +kernel
theorem dX12_after_97 : decode cX12_after 97 = .ok (.iaload, 1) := by decide +kernel
theorem dX12_after_98 : decode cX12_after 98 = .ok (.iconst 1, 1) := by decide +kernel
theorem dX12_after_99 : decode cX12_after 99 = .ok (.if_icmp .ne 7, 3) := by decide +kernel
theorem dX12_after_102 : decode cX12_after 102 = .ok (.iconst 0, 1) := by decide +kernel
theorem dX12_after_103 : decode cX12_after 103 = .ok (.goto 13, 3) := by decide +kernel
theorem dX12_after_106 : decode cX12_after 106 = .ok (.iconst 3, 1) := by decide +kernel
theorem dX12_after_107 : decode cX12_after 107 = .ok (.aload_n 0, 1) := by decide +kernel
theorem dX12_after_108 : decode cX12_after 108 = .ok (.getfield 7, 3) := by decide +kernel
theorem dX12_after_111 : decode cX12_after 111 = .ok (.iconst 1, 1) := by decide +kernel
theorem dX12_after_112 : decode cX12_after 112 = .ok (.iaload, 1) := by decide +kernel
theorem dX12_after_113 : decode cX12_after 113 = .ok (.iadd, 1) := by decide +kernel
theorem dX12_after_114 : decode cX12_after 114 = .ok (.iconst 1, 1) := by decide +kernel
theorem dX12_after_115 : decode cX12_after 115 = .ok (.isub, 1) := by decide +kernel
theorem dX12_after_116 : decode cX12_after 116 = .ok (.ireturn, 1) := by decide +kernel
set_option maxRecDepth 20000 in
theorem ggX12_waterIn_X12_stateIn : GoodIn wsX12_waterIn wsX12_stateIn := goodIn_r _ [6] (by decide +kernel) (by decide +kernel)
set_option maxRecDepth 20000 in
theorem gX12_waterIn_X12_stateIn : GoodIn wsX12_waterIn (va_wsS RX12 99 yX12_stateIn wsX12_stateIn) := goodIn_app (goodIn_of _ (by decide +kernel)) ggX12_waterIn_X12_stateIn
theorem dX12_waterIn_0 : decode cX12_waterIn 0 = .ok (.iload_n 2, 1) := by decide +kernel
theorem dX12_waterIn_1 : decode cX12_waterIn 1 = .ok (.iload_n 3, 1) := by decide +kernel
theorem dX12_waterIn_2 : decode cX12_waterIn 2 = .ok (.invokestatic 99, 3) := by decide +kernel
theorem dX12_waterIn_5 : decode cX12_waterIn 5 = .ok (.iconst 2, 1) := by decide +kernel
theorem dX12_waterIn_6 : decode cX12_waterIn 6 = .ok (.if_icmp .eq 16, 3) := by decide +kernel
theorem dX12_waterIn_9 : decode cX12_waterIn 9 = .ok (.aload_n 0, 1) := by decide +kernel
theorem dX12_waterIn_10 : decode cX12_waterIn 10 = .ok (.getfield 28, 3) := by decide +kernel
theorem dX12_waterIn_13 : decode cX12_waterIn 13 = .ok (.bipush 8, 2) := by decide +kernel
theorem dX12_waterIn_15 : decode cX12_waterIn 15 = .ok (.iload_n 1, 1) := by decide +kernel
theorem dX12_waterIn_16 : decode cX12_waterIn 16 = .ok (.imul, 1) := by decide +kernel
theorem dX12_waterIn_17 : decode cX12_waterIn 17 = .ok (.iload 4, 2) := by decide +kernel
theorem dX12_waterIn_19 : decode cX12_waterIn 19 = .ok (.iadd, 1) := by decide +kernel
theorem dX12_waterIn_20 : decode cX12_waterIn 20 = .ok (.iaload, 1) := by decide +kernel
theorem dX12_waterIn_21 : decode cX12_waterIn 21 = .ok (.ireturn, 1) := by decide +kernel
theorem dX12_waterIn_22 : decode cX12_waterIn 22 = .ok (.iload_n 2, 1) := by decide +kernel
theorem dX12_waterIn_23 : decode cX12_waterIn 23 = .ok (.bipush 8, 2) := by decide +kernel
theorem dX12_waterIn_25 : decode cX12_waterIn 25 = .ok (.isub, 1) := by decide +kernel
theorem dX12_waterIn_26 : decode cX12_waterIn 26 = .ok (.istore 5, 2) := by decide +kernel
theorem dX12_waterIn_28 : decode cX12_waterIn 28 = .ok (.aload_n 0, 1) := by decide +kernel
theorem dX12_waterIn_29 : decode cX12_waterIn 29 = .ok (.getfield 28, 3) := by decide +kernel
theorem dX12_waterIn_32 : decode cX12_waterIn 32 = .ok (.bipush 8, 2) := by decide +kernel
theorem dX12_waterIn_34 : decode cX12_waterIn 34 = .ok (.iload_n 1, 1) := by decide +kernel
theorem dX12_waterIn_35 : decode cX12_waterIn 35 = .ok (.imul, 1) := by decide +kernel
theorem dX12_waterIn_36 : decode cX12_waterIn 36 = .ok (.iload 5, 2) := by decide +kernel
theorem dX12_waterIn_38 : decode cX12_waterIn 38 = .ok (.iadd, 1) := by decide +kernel
theorem dX12_waterIn_39 : decode cX12_waterIn 39 = .ok (.iconst 1, 1) := by decide +kernel
theorem dX12_waterIn_40 : decode cX12_waterIn 40 = .ok (.isub, 1) := by decide +kernel
theorem dX12_waterIn_41 : decode cX12_waterIn 41 = .ok (.iaload, 1) := by decide +kernel
theorem dX12_waterIn_42 : decode cX12_waterIn 42 = .ok (.istore 6, 2) := by decide +kernel
theorem dX12_waterIn_44 : decode cX12_waterIn 44 = .ok (.iload 5, 2) := by decide +kernel
theorem dX12_waterIn_46 : decode cX12_waterIn 46 = .ok (.istore 7, 2) := by decide +kernel
theorem dX12_waterIn_48 : decode cX12_waterIn 48 = .ok (.iload 7, 2) := by decide +kernel
theorem dX12_waterIn_50 : decode cX12_waterIn 50 = .ok (.iload 4, 2) := by decide +kernel
theorem dX12_waterIn_52 : decode cX12_waterIn 52 = .ok (.if_icmp .gt 21, 3) := by decide +kernel
theorem dX12_waterIn_55 : decode cX12_waterIn 55 = .ok (.iload 6, 2) := by decide +kernel
theorem dX12_waterIn_57 : decode cX12_waterIn 57 = .ok (.aload_n 0, 1) := by decide +kernel
theorem dX12_waterIn_58 : decode cX12_waterIn 58 = .ok (.getfield 13, 3) := by decide +kernel
theorem dX12_waterIn_61 : decode cX12_waterIn 61 = .ok (.iload 7, 2) := by decide +kernel
theorem dX12_waterIn_63 : decode cX12_waterIn 63 = .ok (.iaload, 1) := by decide +kernel
theorem dX12_waterIn_64 : decode cX12_waterIn 64 = .ok (.iadd, 1) := by decide +kernel
theorem dX12_waterIn_65 : decode cX12_waterIn 65 = .ok (.istore 6, 2) := by decide +kernel
theorem dX12_waterIn_67 : decode cX12_waterIn 67 = .ok (.iinc 7 1, 3) := by decide +kernel
theorem dX12_waterIn_70 : decode cX12_waterIn 70 = .ok (.goto (-22), 3) := by decide +kernel
theorem dX12_waterIn_73 : decode cX12_waterIn 73 = .ok (.iload 6, 2) := by decide +kernel
theorem dX12_waterIn_75 : decode cX12_waterIn 75 = .ok (.ireturn, 1) := by decide +kernel
set_option maxRecDepth 20000 in
theorem ggX12_lostIn_X12_stateIn : GoodIn wsX12_lostIn wsX12_stateIn := goodIn_r _ [6] (by decide +kernel) (by decide +kernel)
set_option maxRecDepth 20000 in
theorem gX12_lostIn_X12_stateIn : GoodIn wsX12_lostIn (va_wsS RX12 99 yX12_stateIn wsX12_stateIn) := goodIn_app (goodIn_of _ (by decide +kernel)) ggX12_lostIn_X12_stateIn
set_option maxRecDepth 20000 in
theorem ggX12_lostIn_X12_waterIn : GoodIn wsX12_lostIn wsX12_waterIn := goodIn_r _ [10, 2, 11, 3, 4, 5, 6, 12, 13, 14, 15, 16, 17, 18, 19, 20, 21, 22, 23, 24, 25, 26, 27, 28, 29, 30, 31, 32, 33] (by decide +kernel) (by decide +kernel)
set_option maxRecDepth 20000 in
theorem gX12_lostIn_X12_waterIn : GoodIn wsX12_lostIn (wsV RX12 103 RX12 yX12_waterIn wsX12_waterIn) := goodIn_app (goodIn_of _ (by decide +kernel)) ggX12_lostIn_X12_waterIn
theorem dX12_lostIn_0 : decode cX12_lostIn 0 = .ok (.iload_n 2, 1) := by decide +kernel
theorem dX12_lostIn_1 : decode cX12_lostIn 1 = .ok (.ifCond .ne 16, 3) := by decide +kernel
theorem dX12_lostIn_4 : decode cX12_lostIn 4 = .ok (.iload_n 3, 1) := by decide +kernel
theorem dX12_lostIn_5 : decode cX12_lostIn 5 = .ok (.ifCond .eq 12, 3) := by decide +kernel
theorem dX12_lostIn_8 : decode cX12_lostIn 8 = .ok (.aload_n 0, 1) := by decide +kernel
theorem dX12_lostIn_9 : decode cX12_lostIn 9 = .ok (.getfield 7, 3) := by decide +kernel
theorem dX12_lostIn_12 : decode cX12_lostIn 12 = .ok (.iconst 4, 1) := by decide +kernel
theorem dX12_lostIn_13 : decode cX12_lostIn 13 = .ok (.iaload, 1) := by decide +kernel
theorem dX12_lostIn_14 : decode cX12_lostIn 14 = .ok (.goto 4, 3) := by decide +kernel
theorem dX12_lostIn_17 : decode cX12_lostIn 17 = .ok (.iconst 0, 1) := by decide +kernel
theorem dX12_lostIn_18 : decode cX12_lostIn 18 = .ok (.istore 5, 2) := by decide +kernel
theorem dX12_lostIn_20 : decode cX12_lostIn 20 = .ok (.iload_n 2, 1) := by decide +kernel
theorem dX12_lostIn_21 : decode cX12_lostIn 21 = .ok (.iload_n 3, 1) := by decide +kernel
theorem dX12_lostIn_22 : decode cX12_lostIn 22 = .ok (.invokestatic 99, 3) := by decide +kernel
theorem dX12_lostIn_25 : decode cX12_lostIn 25 = .ok (.iconst 2, 1) := by decide +kernel
theorem dX12_lostIn_26 : decode cX12_lostIn 26 = .ok (.if_icmp .ne 57, 3) := by decide +kernel
theorem dX12_lostIn_29 : decode cX12_lostIn 29 = .ok (.aload_n 0, 1) := by decide +kernel
theorem dX12_lostIn_30 : decode cX12_lostIn 30 = .ok (.iload_n 1, 1) := by decide +kernel
theorem dX12_lostIn_31 : decode cX12_lostIn 31 = .ok (.iload_n 2, 1) := by decide +kernel
theorem dX12_lostIn_32 : decode cX12_lostIn 32 = .ok (.iload_n 3, 1) := by decide +kernel
theorem dX12_lostIn_33 : decode cX12_lostIn 33 = .ok (.iload 4, 2) := by decide +kernel
theorem dX12_lostIn_35 : decode cX12_lostIn 35 = .ok (.invokevirtual 103, 3) := by decide +kernel
theorem dX12_lostIn_38 : decode cX12_lostIn 38 = .ok (.istore 6, 2) := by decide +kernel
theorem dX12_lostIn_40 : decode cX12_lostIn 40 = .ok (.iload 5, 2) := by decide +kernel
theorem dX12_lostIn_42 : decode cX12_lostIn 42 = .ok (.aload_n 0, 1) := by decide +kernel
theorem dX12_lostIn_43 : decode cX12_lostIn 43 = .ok (.getfield 7, 3) := by decide +kernel
theorem dX12_lostIn_46 : decode cX12_lostIn 46 = .ok (.iconst 5, 1) := by decide +kernel
theorem dX12_lostIn_47 : decode cX12_lostIn 47 = .ok (.iaload, 1) := by decide +kernel
theorem dX12_lostIn_48 : decode cX12_lostIn 48 = .ok (.iadd, 1) := by decide +kernel
theorem dX12_lostIn_49 : decode cX12_lostIn 49 = .ok (.iload 6, 2) := by decide +kernel
theorem dX12_lostIn_51 : decode cX12_lostIn 51 = .ok (.aload_n 0, 1) := by decide +kernel
theorem dX12_lostIn_52 : decode cX12_lostIn 52 = .ok (.getfield 7, 3) := by decide +kernel
theorem dX12_lostIn_55 : decode cX12_lostIn 55 = .ok (.iconst 3, 1) := by decide +kernel
theorem dX12_lostIn_56 : decode cX12_lostIn 56 = .ok (.iaload, 1) := by decide +kernel
theorem dX12_lostIn_57 : decode cX12_lostIn 57 = .ok (.if_icmp .le 23, 3) := by decide +kernel
theorem dX12_lostIn_60 : decode cX12_lostIn 60 = .ok (.aload_n 0, 1) := by decide +kernel
theorem dX12_lostIn_61 : decode cX12_lostIn 61 = .ok (.getfield 7, 3) := by decide +kernel
theorem dX12_lostIn_64 : decode cX12_lostIn 64 = .ok (.bipush 7, 2) := by decide +kernel
theorem dX12_lostIn_66 : decode cX12_lostIn 66 = .ok (.iaload, 1) := by decide +kernel
theorem dX12_lostIn_67 : decode cX12_lostIn 67 = .ok (.iload 6, 2) := by decide +kernel
theorem dX12_lostIn_69 : decode cX12_lostIn 69 = .ok (.aload_n 0, 1) := by decide +kernel
theorem dX12_lostIn_70 : decode cX12_lostIn 70 = .ok (.getfield 7, 3) := by decide +kernel
theorem dX12_lostIn_73 : decode cX12_lostIn 73 = .ok (.iconst 3, 1) := by decide +kernel
theorem dX12_lostIn_74 : decode cX12_lostIn 74 = .ok (.iaload, 1) := by decide +kernel
theorem dX12_lostIn_75 : decode cX12_lostIn 75 = .ok (.isub, 1) := by decide +kernel
theorem dX12_lostIn_76 : decode cX12_lostIn 76 = .ok (.imul, 1) := by decide +kernel
theorem dX12_lostIn_77 : decode cX12_lostIn 77 = .ok (.goto 4, 3) := by decide +kernel
theorem dX12_lostIn_80 : decode cX12_lostIn 80 = .ok (.iconst 0, 1) := by decide +kernel
theorem dX12_lostIn_81 : decode cX12_lostIn 81 = .ok (.iadd, 1) := by decide +kernel
theorem dX12_lostIn_82 : decode cX12_lostIn 82 = .ok (.ireturn, 1) := by decide +kernel
theorem dX12_lostIn_83 : decode cX12_lostIn 83 = .ok (.aload_n 0, 1) := by decide +kernel
theorem dX12_lostIn_84 : decode cX12_lostIn 84 = .ok (.getfield 28, 3) := by decide +kernel
theorem dX12_lostIn_87 : decode cX12_lostIn 87 = .ok (.bipush 8, 2) := by decide +kernel
theorem dX12_lostIn_89 : decode cX12_lostIn 89 = .ok (.iload_n 1, 1) := by decide +kernel
theorem dX12_lostIn_90 : decode cX12_lostIn 90 = .ok (.imul, 1) := by decide +kernel
theorem dX12_lostIn_91 : decode cX12_lostIn 91 = .ok (.iload 4, 2) := by decide +kernel
theorem dX12_lostIn_93 : decode cX12_lostIn 93 = .ok (.iadd, 1) := by decide +kernel
theorem dX12_lostIn_94 : decode cX12_lostIn 94 = .ok (.iaload, 1) := by decide +kernel
theorem dX12_lostIn_95 : decode cX12_lostIn 95 = .ok (.istore 6, 2) := by decide +kernel
theorem dX12_lostIn_97 : decode cX12_lostIn 97 = .ok (.iload 5, 2) := by decide +kernel
theorem dX12_lostIn_99 : decode cX12_lostIn 99 = .ok (.iload 6, 2) := by decide +kernel
theorem dX12_lostIn_101 : decode cX12_lostIn 101 = .ok (.aload_n 0, 1) := by decide +kernel
theorem dX12_lostIn_102 : decode cX12_lostIn 102 = .ok (.getfield 7, 3) := by decide +kernel
theorem dX12_lostIn_105 : decode cX12_lostIn 105 = .ok (.iconst 2, 1) := by decide +kernel
theorem dX12_lostIn_106 : decode cX12_lostIn 106 = .ok (.iaload, 1) := by decide +kernel
theorem dX12_lostIn_107 : decode cX12_lostIn 107 = .ok (.if_icmp .le 23, 3) := by decide +kernel
theorem dX12_lostIn_110 : decode cX12_lostIn 110 = .ok (.aload_n 0, 1) := by decide +kernel
theorem dX12_lostIn_111 : decode cX12_lostIn 111 = .ok (.getfield 7, 3) := by decide +kernel
theorem dX12_lostIn_114 : decode cX12_lostIn 114 = .ok (.bipush 6, 2) := by decide +kernel
theorem dX12_lostIn_116 : decode cX12_lostIn 116 = .ok (.iaload, 1) := by decide +kernel
theorem dX12_lostIn_117 : decode cX12_lostIn 117 = .ok (.iload 6, 2) := by decide +kernel
theorem dX12_lostIn_119 : decode cX12_lostIn 119 = .ok (.aload_n 0, 1) := by decide +kernel
theorem dX12_lostIn_120 : decode cX12_lostIn 120 = .ok (.getfield 7, 3) := by decide +kernel
theorem dX12_lostIn_123 : decode cX12_lostIn 123 = .ok (.iconst 2, 1) := by decide +kernel
theorem dX12_lostIn_124 : decode cX12_lostIn 124 = .ok (.iaload, 1) := by decide +kernel
theorem dX12_lostIn_125 : decode cX12_lostIn 125 = .ok (.isub, 1) := by decide +kernel
theorem dX12_lostIn_126 : decode cX12_lostIn 126 = .ok (.imul, 1) := by decide +kernel
theorem dX12_lostIn_127 : decode cX12_lostIn 127 = .ok (.goto 4, 3) := by decide +kernel
theorem dX12_lostIn_130 : decode cX12_lostIn 130 = .ok (.iconst 0, 1) := by decide +kernel
theorem dX12_lostIn_131 : decode cX12_lostIn 131 = .ok (.iadd, 1) := by decide +kernel
theorem dX12_lostIn_132 : decode cX12_lostIn 132 = .ok (.ireturn, 1) := by decide +kernel
set_option maxRecDepth 20000 in
theorem ggX12_lossBy_X12_after : GoodIn wsX12_lossBy wsX12_after := goodIn_r _ [8, 9, 27, 28, 29, 30, 31, 32, 33, 34, 35, 36, 37, 38, 39, 40, 41, 42, 43, 44, 45, 46, 47, 48] (by decide +kernel) (by decide +kernel)
set_option maxRecDepth 20000 in
theorem gX12_lossBy_X12_after : GoodIn wsX12_lossBy (wsV RX12 107 RX12 yX12_after wsX12_after) := goodIn_app (goodIn_of _ (by decide +kernel)) ggX12_lossBy_X12_after
set_option maxRecDepth 20000 in
theorem ggX12_lossBy_X12_groupOf : GoodIn wsX12_lossBy wsX12_groupOf := goodIn_r _ [13, 14, 27, 28, 29, 30, 31, 32, 33, 34, 35, 36, 37, 38, 39, 40, 41, 42, 43, 44, 45, 46, 47, 48] (by decide +kernel) (by decide +kernel)
set_option maxRecDepth 20000 in
theorem gX12_lossBy_X12_groupOf : GoodIn wsX12_lossBy (wsV RX12 111 RX12 yX12_groupOf wsX12_groupOf) := goodIn_app (goodIn_of _ (by decide +kernel)) ggX12_lossBy_X12_groupOf
set_option maxRecDepth 20000 in
theorem ggX12_lossBy_X12_lostIn : GoodIn wsX12_lossBy wsX12_lostIn := goodIn_r _ [18, 9, 14, 19, 20, 7, 21, 22, 23, 24, 25, 26, 27, 28, 29, 30, 31, 32, 33, 34, 35, 36, 37, 38, 39, 40, 41, 42, 43, 44, 45, 46, 47, 48] (by decide +kernel) (by decide +kernel)
set_option maxRecDepth 20000 in
theorem gX12_lossBy_X12_lostIn : GoodIn wsX12_lossBy (wsV RX12 115 RX12 yX12_lostIn wsX12_lostIn) := goodIn_app (goodIn_of _ (by decide +kernel)) ggX12_lossBy_X12_lostIn
theorem dX12_lossBy_0 : decode cX12_lossBy 0 = .ok (.lconst 0, 1) := by decide +kernel
theorem dX12_lossBy_1 : decode cX12_lossBy 1 = .ok (.lstore 5, 2) := by decide +kernel
theorem dX12_lossBy_3 : decode cX12_lossBy 3 = .ok (.aload_n 0, 1) := by decide +kernel
theorem dX12_lossBy_4 : decode cX12_lossBy 4 = .ok (.iload_n 2, 1) := by decide +kernel
theorem dX12_lossBy_5 : decode cX12_lossBy 5 = .ok (.iload_n 3, 1) := by decide +kernel
theorem dX12_lossBy_6 : decode cX12_lossBy 6 = .ok (.iload 4, 2) := by decide +kernel
theorem dX12_lossBy_8 : decode cX12_lossBy 8 = .ok (.invokevirtual 107, 3) := by decide +kernel
theorem dX12_lossBy_11 : decode cX12_lossBy 11 = .ok (.istore 7, 2) := by decide +kernel
theorem dX12_lossBy_13 : decode cX12_lossBy 13 = .ok (.iload_n 1, 1) := by decide +kernel
theorem dX12_lossBy_14 : decode cX12_lossBy 14 = .ok (.istore 8, 2) := by decide +kernel
theorem dX12_lossBy_16 : decode cX12_lossBy 16 = .ok (.iload 8, 2) := by decide +kernel
theorem dX12_lossBy_18 : decode cX12_lossBy 18 = .ok (.aload_n 0, 1) := by decide +kernel
theorem dX12_lossBy_19 : decode cX12_lossBy 19 = .ok (.getfield 87, 3) := by decide +kernel
theorem dX12_lossBy_22 : decode cX12_lossBy 22 = .ok (.if_icmp .ge 99, 3) := by decide +kernel
theorem dX12_lossBy_25 : decode cX12_lossBy 25 = .ok (.aload_n 0, 1) := by decide +kernel
theorem dX12_lossBy_26 : decode cX12_lossBy 26 = .ok (.iload 8, 2) := by decide +kernel
theorem dX12_lossBy_28 : decode cX12_lossBy 28 = .ok (.iload 4, 2) := by decide +kernel
theorem dX12_lossBy_30 : decode cX12_lossBy 30 = .ok (.invokevirtual 111, 3) := by decide +kernel
theorem dX12_lossBy_33 : decode cX12_lossBy 33 = .ok (.iload_n 1, 1) := by decide +kernel
theorem dX12_lossBy_34 : decode cX12_lossBy 34 = .ok (.if_icmp .ne 81, 3) := by decide +kernel
theorem dX12_lossBy_37 : decode cX12_lossBy 37 = .ok (.lload 5, 2) := by decide +kernel
theorem dX12_lossBy_39 : decode cX12_lossBy 39 = .ok (.aload_n 0, 1) := by decide +kernel
theorem dX12_lossBy_40 : decode cX12_lossBy 40 = .ok (.getfield 25, 3) := by decide +kernel
theorem dX12_lossBy_43 : decode cX12_lossBy 43 = .ok (.iload 8, 2) := by decide +kernel
theorem dX12_lossBy_45 : decode cX12_lossBy 45 = .ok (.iaload, 1) := by decide +kernel
theorem dX12_lossBy_46 : decode cX12_lossBy 46 = .ok (.i2l, 1) := by decide +kernel
theorem dX12_lossBy_47 : decode cX12_lossBy 47 = .ok (.aload_n 0, 1) := by decide +kernel
theorem dX12_lossBy_48 : decode cX12_lossBy 48 = .ok (.iload 8, 2) := by decide +kernel
theorem dX12_lossBy_50 : decode cX12_lossBy 50 = .ok (.iload_n 2, 1) := by decide +kernel
theorem dX12_lossBy_51 : decode cX12_lossBy 51 = .ok (.iload_n 3, 1) := by decide +kernel
theorem dX12_lossBy_52 : decode cX12_lossBy 52 = .ok (.iload 4, 2) := by decide +kernel
theorem dX12_lossBy_54 : decode cX12_lossBy 54 = .ok (.invokevirtual 115, 3) := by decide +kernel
theorem dX12_lossBy_57 : decode cX12_lossBy 57 = .ok (.i2l, 1) := by decide +kernel
theorem dX12_lossBy_58 : decode cX12_lossBy 58 = .ok (.lmul, 1) := by decide +kernel
theorem dX12_lossBy_59 : decode cX12_lossBy 59 = .ok (.ladd, 1) := by decide +kernel
theorem dX12_lossBy_60 : decode cX12_lossBy 60 = .ok (.lstore 5, 2) := by decide +kernel
theorem dX12_lossBy_62 : decode cX12_lossBy 62 = .ok (.lload 5, 2) := by decide +kernel
theorem dX12_lossBy_64 : decode cX12_lossBy 64 = .ok (.iload 4, 2) := by decide +kernel
theorem dX12_lossBy_66 : decode cX12_lossBy 66 = .ok (.bipush 7, 2) := by decide +kernel
theorem dX12_lossBy_68 : decode cX12_lossBy 68 = .ok (.if_icmp .ge 43, 3) := by decide +kernel
theorem dX12_lossBy_71 : decode cX12_lossBy 71 = .ok (.aload_n 0, 1) := by decide +kernel
theorem dX12_lossBy_72 : decode cX12_lossBy 72 = .ok (.iload 8, 2) := by decide +kernel
theorem dX12_lossBy_74 : decode cX12_lossBy 74 = .ok (.iload 4, 2) := by decide +kernel
theorem dX12_lossBy_76 : decode cX12_lossBy 76 = .ok (.iconst 1, 1) := by decide +kernel
theorem dX12_lossBy_77 : decode cX12_lossBy 77 = .ok (.iadd, 1) := by decide +kernel
theorem dX12_lossBy_78 : decode cX12_lossBy 78 = .ok (.invokevirtual 111, 3) := by decide +kernel
theorem dX12_lossBy_81 : decode cX12_lossBy 81 = .ok (.iload 8, 2) := by decide +kernel
theorem dX12_lossBy_83 : decode cX12_lossBy 83 = .ok (.if_icmp .ne 28, 3) := by decide +kernel
theorem dX12_lossBy_86 : decode cX12_lossBy 86 = .ok (.aload_n 0, 1) := by decide +kernel
theorem dX12_lossBy_87 : decode cX12_lossBy 87 = .ok (.getfield 31, 3) := by decide +kernel
theorem dX12_lossBy_90 : decode cX12_lossBy 90 = .ok (.sipush 128, 3) := by decide +kernel
theorem dX12_lossBy_93 : decode cX12_lossBy 93 = .ok (.iload 4, 2) := by decide +kernel
theorem dX12_lossBy_95 : decode cX12_lossBy 95 = .ok (.iconst 1, 1) := by decide +kernel
theorem dX12_lossBy_96 : decode cX12_lossBy 96 = .ok (.iadd, 1) := by decide +kernel
theorem dX12_lossBy_97 : decode cX12_lossBy 97 = .ok (.imul, 1) := by decide +kernel
theorem dX12_lossBy_98 : decode cX12_lossBy 98 = .ok (.bipush 16, 2) := by decide +kernel
theorem dX12_lossBy_100 : decode cX12_lossBy 100 = .ok (.iload 8, 2) := by decide +kernel
theorem dX12_lossBy_102 : decode cX12_lossBy 102 = .ok (.imul, 1) := by decide +kernel
theorem dX12_lossBy_103 : decode cX12_lossBy 103 = .ok (.iadd, 1) := by decide +kernel
theorem dX12_lossBy_104 : decode cX12_lossBy 104 = .ok (.iload 7, 2) := by decide +kernel
theorem dX12_lossBy_106 : decode cX12_lossBy 106 = .ok (.iadd, 1) := by decide +kernel
theorem dX12_lossBy_107 : decode cX12_lossBy 107 = .ok (.laload, 1) := by decide +kernel
theorem dX12_lossBy_108 : decode cX12_lossBy 108 = .ok (.goto 4, 3) := by decide +kernel
theorem dX12_lossBy_111 : decode cX12_lossBy 111 = .ok (.lconst 0, 1) := by decide +kernel
theorem dX12_lossBy_112 : decode cX12_lossBy 112 = .ok (.ladd, 1) := by decide +kernel
theorem dX12_lossBy_113 : decode cX12_lossBy 113 = .ok (.lstore 5, 2) := by decide +kernel
theorem dX12_lossBy_115 : decode cX12_lossBy 115 = .ok (.iinc 8 1, 3) := by decide +kernel
theorem dX12_lossBy_118 : decode cX12_lossBy 118 = .ok (.goto (-102), 3) := by decide +kernel
theorem dX12_lossBy_121 : decode cX12_lossBy 121 = .ok (.lload 5, 2) := by decide +kernel
theorem dX12_lossBy_123 : decode cX12_lossBy 123 = .ok (.lreturn, 1) := by decide +kernel
set_option maxRecDepth 20000 in
theorem ggX12_findBest_X12_groupOf : GoodIn wsX12_findBest wsX12_groupOf := goodIn_r _ [8, 9, 32, 33, 34, 35, 36, 37, 38, 39, 40, 41, 42, 43, 44, 45, 46, 47, 48, 49, 50, 51, 52, 53] (by decide +kernel) (by decide +kernel)
set_option maxRecDepth 20000 in
theorem gX12_findBest_X12_groupOf : GoodIn wsX12_findBest (wsV RX12 111 RX12 yX12_groupOf wsX12_groupOf) := goodIn_app (goodIn_of _ (by decide +kernel)) ggX12_findBest_X12_groupOf
set_option maxRecDepth 20000 in
theorem ggX12_findBest_X12_lossBy : GoodIn wsX12_findBest wsX12_lossBy := goodIn_r _ [13, 1, 14, 2, 15, 16, 17, 7, 18, 19, 4, 5, 6, 8, 9, 20, 21, 22, 23, 24, 25, 26, 27, 28, 29, 30, 31, 32, 33, 34, 35, 36, 37, 38, 39, 40, 41, 42, 43, 44, 45, 46, 47, 48, 49, 50, 51, 52, 53] (by decide +kernel) (by decide +kernel)
set_option maxRecDepth 20000 in
theorem gX12_findBest_X12_lossBy : GoodIn wsX12_findBest (wsV RX12 118 RX12 yX12_lossBy wsX12_lossBy) := goodIn_app (goodIn_of _ (by decide +kernel)) ggX12_findBest_X12_lossBy
theorem dX12_findBest_0 : decode cX12_findBest 0 = .ok (.bipush 7, 2) := by decide +kernel
theorem dX12_findBest_2 : decode cX12_findBest 2 = .ok (.istore_n 1, 1) := by decide +kernel
theorem dX12_findBest_3 : decode cX12_findBest 3 = .ok (.iload_n 1, 1) := by decide +kernel
theorem dX12_findBest_4 : decode cX12_findBest 4 = .ok (.ifCond .lt 187, 3) := by decide +kernel
theorem dX12_findBest_7 : decode cX12_findBest 7 = .ok (.iconst 0, 1) := by decide +kernel
theorem dX12_findBest_8 : decode cX12_findBest 8 = .ok (.istore_n 2, 1) := by decide +kernel
theorem dX12_findBest_9 : decode cX12_findBest 9 = .ok (.iload_n 2, 1) := by decide +kernel
theorem dX12_findBest_10 : decode cX12_findBest 10 = .ok (.aload_n 0, 1) := by decide +kernel
theorem dX12_findBest_11 : decode cX12_findBest 11 = .ok (.getfield 87, 3) := by decide +kernel
theorem dX12_findBest_14 : decode cX12_findBest 14 = .ok (.if_icmp .ge 171, 3) := by decide +kernel
theorem dX12_findBest_17 : decode cX12_findBest 17 = .ok (.iconst 0, 1) := by decide +kernel
theorem dX12_findBest_18 : decode cX12_findBest 18 = .ok (.istore_n 3, 1) := by decide +kernel
theorem dX12_findBest_19 : decode cX12_findBest 19 = .ok (.iload_n 3, 1) := by decide +kernel
theorem dX12_findBest_20 : decode cX12_findBest 20 = .ok (.bipush 16, 2) := by decide +kernel
theorem dX12_findBest_22 : decode cX12_findBest 22 = .ok (.if_icmp .ge 157, 3) := by decide +kernel
theorem dX12_findBest_25 : decode cX12_findBest 25 = .ok (.iload_n 3, 1) := by decide +kernel
theorem dX12_findBest_26 : decode cX12_findBest 26 = .ok (.iconst 3, 1) := by decide +kernel
theorem dX12_findBest_27 : decode cX12_findBest 27 = .ok (.if_icmp .lt 27, 3) := by decide +kernel
theorem dX12_findBest_30 : decode cX12_findBest 30 = .ok (.iload_n 3, 1) := by decide +kernel
theorem dX12_findBest_31 : decode cX12_findBest 31 = .ok (.iconst 4, 1) := by decide +kernel
theorem dX12_findBest_32 : decode cX12_findBest 32 = .ok (.if_icmp .eq 22, 3) := by decide +kernel
theorem dX12_findBest_35 : decode cX12_findBest 35 = .ok (.iload_n 3, 1) := by decide +kernel
theorem dX12_findBest_36 : decode cX12_findBest 36 = .ok (.iconst 5, 1) := by decide +kernel
theorem dX12_findBest_37 : decode cX12_findBest 37 = .ok (.if_icmp .eq 17, 3) := by decide +kernel
theorem dX12_findBest_40 : decode cX12_findBest 40 = .ok (.iload_n 3, 1) := by decide +kernel
theorem dX12_findBest_41 : decode cX12_findBest 41 = .ok (.bipush 8, 2) := by decide +kernel
theorem dX12_findBest_43 : decode cX12_findBest 43 = .ok (.if_icmp .le 15, 3) := by decide +kernel
theorem dX12_findBest_46 : decode cX12_findBest 46 = .ok (.iload_n 3, 1) := by decide +kernel
theorem dX12_findBest_47 : decode cX12_findBest 47 = .ok (.bipush 8, 2) := by decide +kernel
theorem dX12_findBest_49 : decode cX12_findBest 49 = .ok (.iload_n 1, 1) := by decide +kernel
theorem dX12_findBest_50 : decode cX12_findBest 50 = .ok (.iadd, 1) := by decide +kernel
theorem dX12_findBest_51 : decode cX12_findBest 51 = .ok (.if_icmp .gt 7, 3) := by decide +kernel
theorem dX12_findBest_54 : decode cX12_findBest 54 = .ok (.iconst 1, 1) := by decide +kernel
theorem dX12_findBest_55 : decode cX12_findBest 55 = .ok (.goto 4, 3) := by decide +kernel
theorem dX12_findBest_58 : decode cX12_findBest 58 = .ok (.iconst 0, 1) := by decide +kernel
theorem dX12_findBest_59 : decode cX12_findBest 59 = .ok (.istore 4, 2) := by decide +kernel
theorem dX12_findBest_61 : decode cX12_findBest 61 = .ok (.iload 4, 2) := by decide +kernel
theorem dX12_findBest_63 : decode cX12_findBest 63 = .ok (.ifCond .eq 110, 3) := by decide +kernel
theorem dX12_findBest_66 : decode cX12_findBest 66 = .ok (.aload_n 0, 1) := by decide +kernel
theorem dX12_findBest_67 : decode cX12_findBest 67 = .ok (.iload_n 2, 1) := by decide +kernel
theorem dX12_findBest_68 : decode cX12_findBest 68 = .ok (.iload_n 1, 1) := by decide +kernel
theorem dX12_findBest_69 : decode cX12_findBest 69 = .ok (.invokevirtual 111, 3) := by decide +kernel
theorem dX12_findBest_72 : decode cX12_findBest 72 = .ok (.iload_n 2, 1) := by decide +kernel
theorem dX12_findBest_73 : decode cX12_findBest 73 = .ok (.if_icmp .ne 100, 3) := by decide +kernel
theorem dX12_findBest_76 : decode cX12_findBest 76 = .ok (.sipush 128, 3) := by decide +kernel
theorem dX12_findBest_79 : decode cX12_findBest 79 = .ok (.iload_n 1, 1) := by decide +kernel
theorem dX12_findBest_80 : decode cX12_findBest 80 = .ok (.imul, 1) := by decide +kernel
theorem dX12_findBest_81 : decode cX12_findBest 81 = .ok (.bipush 16, 2) := by decide +kernel
theorem dX12_findBest_83 : decode cX12_findBest 83 = .ok (.iload_n 2, 1) := by decide +kernel
theorem dX12_findBest_84 : decode cX12_findBest 84 = .ok (.imul, 1) := by decide +kernel
theorem dX12_findBest_85 : decode cX12_findBest 85 = .ok (.iadd, 1) := by decide +kernel
theorem dX12_findBest_86 : decode cX12_findBest 86 = .ok (.iload_n 3, 1) := by decide +kernel
theorem dX12_findBest_87 : decode cX12_findBest 87 = .ok (.iadd, 1) := by decide +kernel
theorem dX12_findBest_88 : decode cX12_findBest 88 = .ok (.istore 5, 2) := by decide +kernel
theorem dX12_findBest_90 : decode cX12_findBest 90 = .ok (.aload_n 0, 1) := by decide +kernel
theorem dX12_findBest_91 : decode cX12_findBest 91 = .ok (.getfield 31, 3) := by decide +kernel
theorem dX12_findBest_94 : decode cX12_findBest 94 = .ok (.iload 5, 2) := by decide +kernel
theorem dX12_findBest_96 : decode cX12_findBest 96 = .ok (.aload_n 0, 1) := by decide +kernel
theorem dX12_findBest_97 : decode cX12_findBest 97 = .ok (.iload_n 2, 1) := by decide +kernel
theorem dX12_findBest_98 : decode cX12_findBest 98 = .ok (.iload_n 3, 1) := by decide +kernel
theorem dX12_findBest_99 : decode cX12_findBest 99 = .ok (.iconst 0, 1) := by decide +kernel
theorem dX12_findBest_100 : decode cX12_findBest 100 = .ok (.iload_n 1, 1) := by decide +kernel
theorem dX12_findBest_101 : decode cX12_findBest 101 = .ok (.invokevirtual 118, 3) := by decide +kernel
theorem dX12_findBest_104 : decode cX12_findBest 104 = .ok (.lastore, 1) := by decide +kernel
theorem dX12_findBest_105 : decode cX12_findBest 105 = .ok (.aload_n 0, 1) := by decide +kernel
theorem dX12_findBest_106 : decode cX12_findBest 106 = .ok (.getfield 35, 3) := by decide +kernel
theorem dX12_findBest_109 : decode cX12_findBest 109 = .ok (.iload 5, 2) := by decide +kernel
theorem dX12_findBest_111 : decode cX12_findBest 111 = .ok (.iconst 0, 1) := by decide +kernel
theorem dX12_findBest_112 : decode cX12_findBest 112 = .ok (.bastore, 1) := by decide +kernel
theorem dX12_findBest_113 : decode cX12_findBest 113 = .ok (.iload_n 3, 1) := by decide +kernel
theorem dX12_findBest_114 : decode cX12_findBest 114 = .ok (.ifCond .eq 9, 3) := by decide +kernel
theorem dX12_findBest_117 : decode cX12_findBest 117 = .ok (.iload_n 3, 1) := by decide +kernel
theorem dX12_findBest_118 : decode cX12_findBest 118 = .ok (.bipush 8, 2) := by decide +kernel
theorem dX12_findBest_120 : decode cX12_findBest 120 = .ok (.if_icmp .le 14, 3) := by decide +kernel
theorem dX12_findBest_123 : decode cX12_findBest 123 = .ok (.aload_n 0, 1) := by decide +kernel
theorem dX12_findBest_124 : decode cX12_findBest 124 = .ok (.iload_n 2, 1) := by decide +kernel
theorem dX12_findBest_125 : decode cX12_findBest 125 = .ok (.iload_n 3, 1) := by decide +kernel
theorem dX12_findBest_126 : decode cX12_findBest 126 = .ok (.iconst 1, 1) := by decide +kernel
theorem dX12_findBest_127 : decode cX12_findBest 127 = .ok (.iload_n 1, 1) := by decide +kernel
theorem dX12_findBest_128 : decode cX12_findBest 128 = .ok (.invokevirtual 118, 3) := by decide +kernel
theorem dX12_findBest_131 : decode cX12_findBest 131 = .ok (.goto 10, 3) := by decide +kernel
theorem dX12_findBest_134 : decode cX12_findBest 134 = .ok (.aload_n 0, 1) := by decide +kernel
theorem dX12_findBest_135 : decode cX12_findBest 135 = .ok (.getfield 31, 3) := by decide +kernel
theorem dX12_findBest_138 : decode cX12_findBest 138 = .ok (.iload 5, 2) := by decide +kernel
theorem dX12_findBest_140 : decode cX12_findBest 140 = .ok (.laload, 1) := by decide +kernel
theorem dX12_findBest_141 : decode cX12_findBest 141 = .ok (.lstore 6, 2) := by decide +kernel
theorem dX12_findBest_143 : decode cX12_findBest 143 = .ok (.lload 6, 2) := by decide +kernel
theorem dX12_findBest_145 : decode cX12_findBest 145 = .ok (.aload_n 0, 1) := by decide +kernel
theorem dX12_findBest_146 : decode cX12_findBest 146 = .ok (.getfield 31, 3) := by decide +kernel
theorem dX12_findBest_149 : decode cX12_findBest 149 = .ok (.iload 5, 2) := by decide +kernel
theorem dX12_findBest_151 : decode cX12_findBest 151 = .ok (.laload, 1) := by decide +kernel
theorem dX12_findBest_152 : decode cX12_findBest 152 = .ok (.lcmp, 1) := by decide +kernel
theorem dX12_findBest_153 : decode cX12_findBest 153 = .ok (.ifCond .ge 20, 3) := by decide +kernel
theorem dX12_findBest_156 : decode cX12_findBest 156 = .ok (.aload_n 0, 1) := by decide +kernel
theorem dX12_findBest_157 : decode cX12_findBest 157 = .ok (.getfield 31, 3) := by decide +kernel
theorem dX12_findBest_160 : decode cX12_findBest 160 = .ok (.iload 5, 2) := by decide +kernel
theorem dX12_findBest_162 : decode cX12_findBest 162 = .ok (.lload 6, 2) := by decide +kernel
theorem dX12_findBest_164 : decode cX12_findBest 164 = .ok (.lastore, 1) := by decide +kernel
theorem dX12_findBest_165 : decode cX12_findBest 165 = .ok (.aload_n 0, 1) := by decide +kernel
theorem dX12_findBest_166 : decode cX12_findBest 166 = .ok (.getfield 35, 3) := by decide +kernel
theorem dX12_findBest_169 : decode cX12_findBest 169 = .ok (.iload 5, 2) := by decide +kernel
theorem dX12_findBest_171 : decode cX12_findBest 171 = .ok (.iconst 1, 1) := by decide +kernel
theorem dX12_findBest_172 : decode cX12_findBest 172 = .ok (.bastore, 1) := by decide +kernel
theorem dX12_findBest_173 : decode cX12_findBest 173 = .ok (.iinc 3 1, 3) := by decide +kernel
theorem dX12_findBest_176 : decode cX12_findBest 176 = .ok (.goto (-157), 3) := by decide +kernel
theorem dX12_findBest_179 : decode cX12_findBest 179 = .ok (.iinc 2 1, 3) := by decide +kernel
theorem dX12_findBest_182 : decode cX12_findBest 182 = .ok (.goto (-173), 3) := by decide +kernel
theorem dX12_findBest_185 : decode cX12_findBest 185 = .ok (.iinc 1 (-1), 3) := by decide +kernel
theorem dX12_findBest_188 : decode cX12_findBest 188 = .ok (.goto (-185), 3) := by decide +kernel
theorem dX12_findBest_191 : decode cX12_findBest 191 = .ok (.return_, 1) := by decide +kernel
set_option maxRecDepth 20000 in
theorem ggX12_best_X12_findBest : GoodIn wsX12_best wsX12_findBest := goodIn_r _ [8, 2, 3, 9, 10, 11, 12, 7, 13, 14, 15, 16, 17, 18, 19, 20, 21, 22, 23, 24, 25, 26, 27, 28, 29, 30, 31, 32, 33, 34, 35, 36, 37, 38, 39, 40, 41, 42, 43, 44, 45, 46, 47, 48, 49, 50, 51, 52, 53, 54, 55, 56, 57, 58] (by decide +kernel) (by decide +kernel)
set_option maxRecDepth 20000 in
theorem gX12_best_X12_findBest : GoodIn wsX12_best (wsV RX12 122 RX12 yX12_findBest wsX12_findBest) := goodIn_app (goodIn_of _ (by decide +kernel)) ggX12_best_X12_findBest
set_option maxRecDepth 20000 in
theorem ggX12_best_X12_groupOf : GoodIn wsX12_best wsX12_groupOf := goodIn_r _ [13, 14, 37, 38, 39, 40, 41, 42, 43, 44, 45, 46, 47, 48, 49, 50, 51, 52, 53, 54, 55, 56, 57, 58] (by decide +kernel) (by decide +kernel)
set_option maxRecDepth 20000 in
theorem gX12_best_X12_groupOf : GoodIn wsX12_best (wsV RX12 111 RX12 yX12_groupOf wsX12_groupOf) := goodIn_app (goodIn_of _ (by decide +kernel)) ggX12_best_X12_groupOf
theorem dX12_best_0 : decode cX12_best 0 = .ok (.aload_n 0, 1) := by decide +kernel
theorem dX12_best_1 : decode cX12_best 1 = .ok (.iconst 0, 1) := by decide +kernel
theorem dX12_best_2 : decode cX12_best 2 = .ok (.putfield 60, 3) := by decide +kernel
theorem dX12_best_5 : decode cX12_best 5 = .ok (.aload_n 0, 1) := by decide +kernel
theorem dX12_best_6 : decode cX12_best 6 = .ok (.invokevirtual 122, 3) := by decide +kernel
theorem dX12_best_9 : decode cX12_best 9 = .ok (.lconst 0, 1) := by decide +kernel
theorem dX12_best_10 : decode cX12_best 10 = .ok (.lstore_n 1, 1) := by decide +kernel
theorem dX12_best_11 : decode cX12_best 11 = .ok (.iconst 0, 1) := by decide +kernel
theorem dX12_best_12 : decode cX12_best 12 = .ok (.istore_n 3, 1) := by decide +kernel
theorem dX12_best_13 : decode cX12_best 13 = .ok (.iload_n 3, 1) := by decide +kernel
theorem dX12_best_14 : decode cX12_best 14 = .ok (.aload_n 0, 1) := by decide +kernel
theorem dX12_best_15 : decode cX12_best 15 = .ok (.getfield 87, 3) := by decide +kernel
theorem dX12_best_18 : decode cX12_best 18 = .ok (.if_icmp .ge 35, 3) := by decide +kernel
theorem dX12_best_21 : decode cX12_best 21 = .ok (.lload_n 1, 1) := by decide +kernel
theorem dX12_best_22 : decode cX12_best 22 = .ok (.aload_n 0, 1) := by decide +kernel
theorem dX12_best_23 : decode cX12_best 23 = .ok (.iload_n 3, 1) := by decide +kernel
theorem dX12_best_24 : decode cX12_best 24 = .ok (.iconst 0, 1) := by decide +kernel
theorem dX12_best_25 : decode cX12_best 25 = .ok (.invokevirtual 111, 3) := by decide +kernel
theorem dX12_best_28 : decode cX12_best 28 = .ok (.iload_n 3, 1) := by decide +kernel
theorem dX12_best_29 : decode cX12_best 29 = .ok (.if_icmp .ne 15, 3) := by decide +kernel
theorem dX12_best_32 : decode cX12_best 32 = .ok (.aload_n 0, 1) := by decide +kernel
theorem dX12_best_33 : decode cX12_best 33 = .ok (.getfield 31, 3) := by decide +kernel
theorem dX12_best_36 : decode cX12_best 36 = .ok (.bipush 16, 2) := by decide +kernel
theorem dX12_best_38 : decode cX12_best 38 = .ok (.iload_n 3, 1) := by decide +kernel
theorem dX12_best_39 : decode cX12_best 39 = .ok (.imul, 1) := by decide +kernel
theorem dX12_best_40 : decode cX12_best 40 = .ok (.laload, 1) := by decide +kernel
theorem dX12_best_41 : decode cX12_best 41 = .ok (.goto 4, 3) := by decide +kernel
theorem dX12_best_44 : decode cX12_best 44 = .ok (.lconst 0, 1) := by decide +kernel
theorem dX12_best_45 : decode cX12_best 45 = .ok (.ladd, 1) := by decide +kernel
theorem dX12_best_46 : decode cX12_best 46 = .ok (.lstore_n 1, 1) := by decide +kernel
theorem dX12_best_47 : decode cX12_best 47 = .ok (.iinc 3 1, 3) := by decide +kernel
theorem dX12_best_50 : decode cX12_best 50 = .ok (.goto (-37), 3) := by decide +kernel
theorem dX12_best_53 : decode cX12_best 53 = .ok (.lload_n 1, 1) := by decide +kernel
theorem dX12_best_54 : decode cX12_best 54 = .ok (.lreturn, 1) := by decide +kernel
set_option maxRecDepth 20000 in
theorem ggX12_hour_X12_in : GoodIn wsX12_hour wsX12_in := goodIn_r _ [10] (by decide +kernel) (by decide +kernel)
set_option maxRecDepth 20000 in
theorem gX12_hour_X12_in : GoodIn wsX12_hour (va_wsS RX12 70 yX12_in wsX12_in) := goodIn_app (goodIn_of _ (by decide +kernel)) ggX12_hour_X12_in
set_option maxRecDepth 20000 in
theorem ggX12_hour_X12_findBest : GoodIn wsX12_hour wsX12_findBest := goodIn_r _ [14, 2, 15, 6, 16, 17, 18, 9, 19, 20, 21, 22, 23, 24, 25, 26, 27, 28, 29, 30, 31, 32, 33, 34, 35, 36, 37, 38, 39, 40, 41, 42, 43, 44, 45, 46, 47, 48, 49, 50, 51, 52, 53, 54, 55, 56, 57, 58, 59, 60, 61, 62, 63, 64] (by decide +kernel) (by decide +kernel)
set_option maxRecDepth 20000 in
theorem gX12_hour_X12_findBest : GoodIn wsX12_hour (wsV RX12 122 RX12 yX12_findBest wsX12_findBest) := goodIn_app (goodIn_of _ (by decide +kernel)) ggX12_hour_X12_findBest
set_option maxRecDepth 20000 in
theorem ggX12_hour_X12_groupOf : GoodIn wsX12_hour wsX12_groupOf := goodIn_r _ [19, 20, 43, 44, 45, 46, 47, 48, 49, 50, 51, 52, 53, 54, 55, 56, 57, 58, 59, 60, 61, 62, 63, 64] (by decide +kernel) (by decide +kernel)
set_option maxRecDepth 20000 in
theorem gX12_hour_X12_groupOf : GoodIn wsX12_hour (wsV RX12 111 RX12 yX12_groupOf wsX12_groupOf) := goodIn_app (goodIn_of _ (by decide +kernel)) ggX12_hour_X12_groupOf
set_option maxRecDepth 20000 in
theorem ggX12_hour_X12_after : GoodIn wsX12_hour wsX12_after := goodIn_r _ [29, 30, 43, 44, 45, 46, 47, 48, 49, 50, 51, 52, 53, 54, 55, 56, 57, 58, 59, 60, 61, 62, 63, 64] (by decide +kernel) (by decide +kernel)
set_option maxRecDepth 20000 in
theorem gX12_hour_X12_after : GoodIn wsX12_hour (wsV RX12 107 RX12 yX12_after wsX12_after) := goodIn_app (goodIn_of _ (by decide +kernel)) ggX12_hour_X12_after
set_option maxRecDepth 20000 in
theorem ggX12_hour_X12_stateIn : GoodIn wsX12_hour wsX12_stateIn := goodIn_r _ [37] (by decide +kernel) (by decide +kernel)
set_option maxRecDepth 20000 in
theorem gX12_hour_X12_stateIn : GoodIn wsX12_hour (va_wsS RX12 99 yX12_stateIn wsX12_stateIn) := goodIn_app (goodIn_of _ (by decide +kernel)) ggX12_hour_X12_stateIn
set_option maxRecDepth 20000 in
theorem ggX12_hour_X12_waterIn : GoodIn wsX12_hour wsX12_waterIn := goodIn_r _ [41, 20, 42, 35, 36, 9, 37, 43, 44, 45, 46, 47, 48, 49, 50, 51, 52, 53, 54, 55, 56, 57, 58, 59, 60, 61, 62, 63, 64] (by decide +kernel) (by decide +kernel)
set_option maxRecDepth 20000 in
theorem gX12_hour_X12_waterIn : GoodIn wsX12_hour (wsV RX12 103 RX12 yX12_waterIn wsX12_waterIn) := goodIn_app (goodIn_of _ (by decide +kernel)) ggX12_hour_X12_waterIn
set_option maxRecDepth 20000 in
theorem ggX12_hour_X12_lostIn : GoodIn wsX12_hour wsX12_lostIn := goodIn_r _ [34, 30, 20, 35, 36, 9, 37, 38, 39, 40, 41, 42, 43, 44, 45, 46, 47, 48, 49, 50, 51, 52, 53, 54, 55, 56, 57, 58, 59, 60, 61, 62, 63, 64] (by decide +kernel) (by decide +kernel)
set_option maxRecDepth 20000 in
theorem gX12_hour_X12_lostIn : GoodIn wsX12_hour (wsV RX12 115 RX12 yX12_lostIn wsX12_lostIn) := goodIn_app (goodIn_of _ (by decide +kernel)) ggX12_hour_X12_lostIn
theorem dX12_hour_0 : decode cX12_hour 0 = .ok (.aload_n 0, 1) := by decide +kernel
theorem dX12_hour_1 : decode cX12_hour 1 = .ok (.iconst 0, 1) := by decide +kernel
theorem dX12_hour_2 : decode cX12_hour 2 = .ok (.putfield 60, 3) := by decide +kernel
theorem dX12_hour_5 : decode cX12_hour 5 = .ok (.iload_n 1, 1) := by decide +kernel
theorem dX12_hour_6 : decode cX12_hour 6 = .ok (.i2l, 1) := by decide +kernel
theorem dX12_hour_7 : decode cX12_hour 7 = .ok (.lconst 0, 1) := by decide +kernel
theorem dX12_hour_8 : decode cX12_hour 8 = .ok (.aload_n 0, 1) := by decide +kernel
theorem dX12_hour_9 : decode cX12_hour 9 = .ok (.getfield 87, 3) := by decide +kernel
theorem dX12_hour_12 : decode cX12_hour 12 = .ok (.iconst 1, 1) := by decide +kernel
theorem dX12_hour_13 : decode cX12_hour 13 = .ok (.isub, 1) := by decide +kernel
theorem dX12_hour_14 : decode cX12_hour 14 = .ok (.i2l, 1) := by decide +kernel
theorem dX12_hour_15 : decode cX12_hour 15 = .ok (.invokestatic 70, 3) := by decide +kernel
theorem dX12_hour_18 : decode cX12_hour 18 = .ok (.ifCond .eq 27, 3) := by decide +kernel
theorem dX12_hour_21 : decode cX12_hour 21 = .ok (.iload_n 2, 1) := by decide +kernel
theorem dX12_hour_22 : decode cX12_hour 22 = .ok (.i2l, 1) := by decide +kernel
theorem dX12_hour_23 : decode cX12_hour 23 = .ok (.lconst 0, 1) := by decide +kernel
theorem dX12_hour_24 : decode cX12_hour 24 = .ok (.ldc2_w 68, 3) := by decide +kernel
theorem dX12_hour_27 : decode cX12_hour 27 = .ok (.invokestatic 70, 3) := by decide +kernel
theorem dX12_hour_30 : decode cX12_hour 30 = .ok (.ifCond .eq 15, 3) := by decide +kernel
theorem dX12_hour_33 : decode cX12_hour 33 = .ok (.iload_n 3, 1) := by decide +kernel
theorem dX12_hour_34 : decode cX12_hour 34 = .ok (.i2l, 1) := by decide +kernel
theorem dX12_hour_35 : decode cX12_hour 35 = .ok (.lconst 0, 1) := by decide +kernel
theorem dX12_hour_36 : decode cX12_hour 36 = .ok (.ldc2_w 97, 3) := by decide +kernel
theorem dX12_hour_39 : decode cX12_hour 39 = .ok (.invokestatic 70, 3) := by decide +kernel
theorem dX12_hour_42 : decode cX12_hour 42 = .ok (.ifCond .ne 6, 3) := by decide +kernel
theorem dX12_hour_45 : decode cX12_hour 45 = .ok (.ldc 80, 2) := by decide +kernel
theorem dX12_hour_47 : decode cX12_hour 47 = .ok (.ireturn, 1) := by decide +kernel
theorem dX12_hour_48 : decode cX12_hour 48 = .ok (.aload_n 0, 1) := by decide +kernel
theorem dX12_hour_49 : decode cX12_hour 49 = .ok (.invokevirtual 122, 3) := by decide +kernel
theorem dX12_hour_52 : decode cX12_hour 52 = .ok (.iconst 0, 1) := by decide +kernel
theorem dX12_hour_53 : decode cX12_hour 53 = .ok (.istore 4, 2) := by decide +kernel
theorem dX12_hour_55 : decode cX12_hour 55 = .ok (.iconst 0, 1) := by decide +kernel
theorem dX12_hour_56 : decode cX12_hour 56 = .ok (.istore 5, 2) := by decide +kernel
theorem dX12_hour_58 : decode cX12_hour 58 = .ok (.iload 5, 2) := by decide +kernel
theorem dX12_hour_60 : decode cX12_hour 60 = .ok (.iload_n 2, 1) := by decide +kernel
theorem dX12_hour_61 : decode cX12_hour 61 = .ok (.if_icmp .ge 44, 3) := by decide +kernel
theorem dX12_hour_64 : decode cX12_hour 64 = .ok (.aload_n 0, 1) := by decide +kernel
theorem dX12_hour_65 : decode cX12_hour 65 = .ok (.iload 4, 2) := by decide +kernel
theorem dX12_hour_67 : decode cX12_hour 67 = .ok (.aload_n 0, 1) := by decide +kernel
theorem dX12_hour_68 : decode cX12_hour 68 = .ok (.getfield 35, 3) := by decide +kernel
theorem dX12_hour_71 : decode cX12_hour 71 = .ok (.sipush 128, 3) := by decide +kernel
theorem dX12_hour_74 : decode cX12_hour 74 = .ok (.iload 5, 2) := by decide +kernel
theorem dX12_hour_76 : decode cX12_hour 76 = .ok (.imul, 1) := by decide +kernel
theorem dX12_hour_77 : decode cX12_hour 77 = .ok (.bipush 16, 2) := by decide +kernel
theorem dX12_hour_79 : decode cX12_hour 79 = .ok (.aload_n 0, 1) := by decide +kernel
theorem dX12_hour_80 : decode cX12_hour 80 = .ok (.iload_n 1, 1) := by decide +kernel
theorem dX12_hour_81 : decode cX12_hour 81 = .ok (.iload 5, 2) := by decide +kernel
theorem dX12_hour_83 : decode cX12_hour 83 = .ok (.invokevirtual 111, 3) := by decide +kernel
theorem dX12_hour_86 : decode cX12_hour 86 = .ok (.imul, 1) := by decide +kernel
theorem dX12_hour_87 : decode cX12_hour 87 = .ok (.iadd, 1) := by decide +kernel
theorem dX12_hour_88 : decode cX12_hour 88 = .ok (.iload 4, 2) := by decide +kernel
theorem dX12_hour_90 : decode cX12_hour 90 = .ok (.iadd, 1) := by decide +kernel
theorem dX12_hour_91 : decode cX12_hour 91 = .ok (.baload, 1) := by decide +kernel
theorem dX12_hour_92 : decode cX12_hour 92 = .ok (.iload 5, 2) := by decide +kernel
theorem dX12_hour_94 : decode cX12_hour 94 = .ok (.invokevirtual 107, 3) := by decide +kernel
theorem dX12_hour_97 : decode cX12_hour 97 = .ok (.istore 4, 2) := by decide +kernel
theorem dX12_hour_99 : decode cX12_hour 99 = .ok (.iinc 5 1, 3) := by decide +kernel
theorem dX12_hour_102 : decode cX12_hour 102 = .ok (.goto (-44), 3) := by decide +kernel
theorem dX12_hour_105 : decode cX12_hour 105 = .ok (.aload_n 0, 1) := by decide +kernel
theorem dX12_hour_106 : decode cX12_hour 106 = .ok (.getfield 35, 3) := by decide +kernel
theorem dX12_hour_109 : decode cX12_hour 109 = .ok (.sipush 128, 3) := by decide +kernel
theorem dX12_hour_112 : decode cX12_hour 112 = .ok (.iload_n 2, 1) := by decide +kernel
theorem dX12_hour_113 : decode cX12_hour 113 = .ok (.imul, 1) := by decide +kernel
theorem dX12_hour_114 : decode cX12_hour 114 = .ok (.bipush 16, 2) := by decide +kernel
theorem dX12_hour_116 : decode cX12_hour 116 = .ok (.aload_n 0, 1) := by decide +kernel
theorem dX12_hour_117 : decode cX12_hour 117 = .ok (.iload_n 1, 1) := by decide +kernel
theorem dX12_hour_118 : decode cX12_hour 118 = .ok (.iload_n 2, 1) := by decide +kernel
theorem dX12_hour_119 : decode cX12_hour 119 = .ok (.invokevirtual 111, 3) := by decide +kernel
theorem dX12_hour_122 : decode cX12_hour 122 = .ok (.imul, 1) := by decide +kernel
theorem dX12_hour_123 : decode cX12_hour 123 = .ok (.iadd, 1) := by decide +kernel
theorem dX12_hour_124 : decode cX12_hour 124 = .ok (.iload 4, 2) := by decide +kernel
theorem dX12_hour_126 : decode cX12_hour 126 = .ok (.iadd, 1) := by decide +kernel
theorem dX12_hour_127 : decode cX12_hour 127 = .ok (.baload, 1) := by decide +kernel
theorem dX12_hour_128 : decode cX12_hour 128 = .ok (.istore 5, 2) := by decide +kernel
theorem dX12_hour_130 : decode cX12_hour 130 = .ok (.iload_n 3, 1) := by decide +kernel
theorem dX12_hour_131 : decode cX12_hour 131 = .ok (.ifCond .ne 25, 3) := by decide +kernel
theorem dX12_hour_134 : decode cX12_hour 134 = .ok (.iload 5, 2) := by decide +kernel
theorem dX12_hour_136 : decode cX12_hour 136 = .ok (.ifCond .ne 7, 3) := by decide +kernel
theorem dX12_hour_139 : decode cX12_hour 139 = .ok (.iconst 0, 1) := by decide +kernel
theorem dX12_hour_140 : decode cX12_hour 140 = .ok (.goto 59, 3) := by decide +kernel
theorem dX12_hour_143 : decode cX12_hour 143 = .ok (.iload 4, 2) := by decide +kernel
theorem dX12_hour_145 : decode cX12_hour 145 = .ok (.ifCond .ne 7, 3) := by decide +kernel
theorem dX12_hour_148 : decode cX12_hour 148 = .ok (.iconst 1, 1) := by decide +kernel
theorem dX12_hour_149 : decode cX12_hour 149 = .ok (.goto 50, 3) := by decide +kernel
theorem dX12_hour_152 : decode cX12_hour 152 = .ok (.iconst 2, 1) := by decide +kernel
theorem dX12_hour_153 : decode cX12_hour 153 = .ok (.goto 46, 3) := by decide +kernel
theorem dX12_hour_156 : decode cX12_hour 156 = .ok (.iload_n 3, 1) := by decide +kernel
theorem dX12_hour_157 : decode cX12_hour 157 = .ok (.iconst 1, 1) := by decide +kernel
theorem dX12_hour_158 : decode cX12_hour 158 = .ok (.if_icmp .ne 13, 3) := by decide +kernel
theorem dX12_hour_161 : decode cX12_hour 161 = .ok (.iload 4, 2) := by decide +kernel
theorem dX12_hour_163 : decode cX12_hour 163 = .ok (.iload 5, 2) := by decide +kernel
theorem dX12_hour_165 : decode cX12_hour 165 = .ok (.invokestatic 99, 3) := by decide +kernel
theorem dX12_hour_168 : decode cX12_hour 168 = .ok (.goto 31, 3) := by decide +kernel
theorem dX12_hour_171 : decode cX12_hour 171 = .ok (.iload_n 3, 1) := by decide +kernel
theorem dX12_hour_172 : decode cX12_hour 172 = .ok (.iconst 2, 1) := by decide +kernel
theorem dX12_hour_173 : decode cX12_hour 173 = .ok (.if_icmp .ne 16, 3) := by decide +kernel
theorem dX12_hour_176 : decode cX12_hour 176 = .ok (.aload_n 0, 1) := by decide +kernel
theorem dX12_hour_177 : decode cX12_hour 177 = .ok (.iload_n 1, 1) := by decide +kernel
theorem dX12_hour_178 : decode cX12_hour 178 = .ok (.iload 4, 2) := by decide +kernel
theorem dX12_hour_180 : decode cX12_hour 180 = .ok (.iload 5, 2) := by decide +kernel
theorem dX12_hour_182 : decode cX12_hour 182 = .ok (.iload_n 2, 1) := by decide +kernel
theorem dX12_hour_183 : decode cX12_hour 183 = .ok (.invokevirtual 103, 3) := by decide +kernel
theorem dX12_hour_186 : decode cX12_hour 186 = .ok (.goto 13, 3) := by decide +kernel
theorem dX12_hour_189 : decode cX12_hour 189 = .ok (.aload_n 0, 1) := by decide +kernel
theorem dX12_hour_190 : decode cX12_hour 190 = .ok (.iload_n 1, 1) := by decide +kernel
theorem dX12_hour_191 : decode cX12_hour 191 = .ok (.iload 4, 2) := by decide +kernel
theorem dX12_hour_193 : decode cX12_hour 193 = .ok (.iload 5, 2) := by decide +kernel
theorem dX12_hour_195 : decode cX12_hour 195 = .ok (.iload_n 2, 1) := by decide +kernel
theorem dX12_hour_196 : decode cX12_hour 196 = .ok (.invokevirtual 115, 3) := by decide +kernel
theorem dX12_hour_199 : decode cX12_hour 199 = .ok (.ireturn, 1) := by decide +kernel
set_option maxRecDepth 20000 in
theorem ggX12_shutAt_X12_in : GoodIn wsX12_shutAt wsX12_in := goodIn_r _ [9] (by decide +kernel) (by decide +kernel)
set_option maxRecDepth 20000 in
theorem gX12_shutAt_X12_in : GoodIn wsX12_shutAt (va_wsS RX12 70 yX12_in wsX12_in) := goodIn_app (goodIn_of _ (by decide +kernel)) ggX12_shutAt_X12_in
set_option maxRecDepth 20000 in
theorem ggX12_shutAt_X12_lostIn : GoodIn wsX12_shutAt wsX12_lostIn := goodIn_r _ [13, 14, 15, 16, 17, 8, 18, 19, 20, 21, 22, 23, 28, 29, 30, 31, 32, 33, 34, 35, 36, 37, 38, 39, 40, 41, 42, 43, 44, 45, 46, 47, 48, 49] (by decide +kernel) (by decide +kernel)
set_option maxRecDepth 20000 in
theorem gX12_shutAt_X12_lostIn : GoodIn wsX12_shutAt (wsV RX12 115 RX12 yX12_lostIn wsX12_lostIn) := goodIn_app (goodIn_of _ (by decide +kernel)) ggX12_shutAt_X12_lostIn
set_option maxRecDepth 20000 in
theorem ggX12_shutAt_X12_after : GoodIn wsX12_shutAt wsX12_after := goodIn_r _ [27, 14, 28, 29, 30, 31, 32, 33, 34, 35, 36, 37, 38, 39, 40, 41, 42, 43, 44, 45, 46, 47, 48, 49] (by decide +kernel) (by decide +kernel)
set_option maxRecDepth 20000 in
theorem gX12_shutAt_X12_after : GoodIn wsX12_shutAt (wsV RX12 107 RX12 yX12_after wsX12_after) := goodIn_app (goodIn_of _ (by decide +kernel)) ggX12_shutAt_X12_after
theorem dX12_shutAt_0 : decode cX12_shutAt 0 = .ok (.aload_n 0, 1) := by decide +kernel
theorem dX12_shutAt_1 : decode cX12_shutAt 1 = .ok (.iconst 0, 1) := by decide +kernel
theorem dX12_shutAt_2 : decode cX12_shutAt 2 = .ok (.putfield 60, 3) := by decide +kernel
theorem dX12_shutAt_5 : decode cX12_shutAt 5 = .ok (.iload_n 1, 1) := by decide +kernel
theorem dX12_shutAt_6 : decode cX12_shutAt 6 = .ok (.i2l, 1) := by decide +kernel
theorem dX12_shutAt_7 : decode cX12_shutAt 7 = .ok (.lconst 0, 1) := by decide +kernel
theorem dX12_shutAt_8 : decode cX12_shutAt 8 = .ok (.ldc2_w 91, 3) := by decide +kernel
theorem dX12_shutAt_11 : decode cX12_shutAt 11 = .ok (.invokestatic 70, 3) := by decide +kernel
theorem dX12_shutAt_14 : decode cX12_shutAt 14 = .ok (.ifCond .ne 7, 3) := by decide +kernel
theorem dX12_shutAt_17 : decode cX12_shutAt 17 = .ok (.ldc2_w 125, 3) := by decide +kernel
theorem dX12_shutAt_20 : decode cX12_shutAt 20 = .ok (.lreturn, 1) := by decide +kernel
theorem dX12_shutAt_21 : decode cX12_shutAt 21 = .ok (.lconst 0, 1) := by decide +kernel
theorem dX12_shutAt_22 : decode cX12_shutAt 22 = .ok (.lstore_n 2, 1) := by decide +kernel
theorem dX12_shutAt_23 : decode cX12_shutAt 23 = .ok (.iconst 0, 1) := by decide +kernel
theorem dX12_shutAt_24 : decode cX12_shutAt 24 = .ok (.istore 4, 2) := by decide +kernel
theorem dX12_shutAt_26 : decode cX12_shutAt 26 = .ok (.iload 4, 2) := by decide +kernel
theorem dX12_shutAt_28 : decode cX12_shutAt 28 = .ok (.aload_n 0, 1) := by decide +kernel
theorem dX12_shutAt_29 : decode cX12_shutAt 29 = .ok (.getfield 87, 3) := by decide +kernel
theorem dX12_shutAt_32 : decode cX12_shutAt 32 = .ok (.if_icmp .ge 83, 3) := by decide +kernel
theorem dX12_shutAt_35 : decode cX12_shutAt 35 = .ok (.iconst 0, 1) := by decide +kernel
theorem dX12_shutAt_36 : decode cX12_shutAt 36 = .ok (.istore 5, 2) := by decide +kernel
theorem dX12_shutAt_38 : decode cX12_shutAt 38 = .ok (.iconst 0, 1) := by decide +kernel
theorem dX12_shutAt_39 : decode cX12_shutAt 39 = .ok (.istore 6, 2) := by decide +kernel
theorem dX12_shutAt_41 : decode cX12_shutAt 41 = .ok (.iload 6, 2) := by decide +kernel
theorem dX12_shutAt_43 : decode cX12_shutAt 43 = .ok (.bipush 8, 2) := by decide +kernel
theorem dX12_shutAt_45 : decode cX12_shutAt 45 = .ok (.if_icmp .ge 64, 3) := by decide +kernel
theorem dX12_shutAt_48 : decode cX12_shutAt 48 = .ok (.lload_n 2, 1) := by decide +kernel
theorem dX12_shutAt_49 : decode cX12_shutAt 49 = .ok (.aload_n 0, 1) := by decide +kernel
theorem dX12_shutAt_50 : decode cX12_shutAt 50 = .ok (.getfield 25, 3) := by decide +kernel
theorem dX12_shutAt_53 : decode cX12_shutAt 53 = .ok (.iload 4, 2) := by decide +kernel
theorem dX12_shutAt_55 : decode cX12_shutAt 55 = .ok (.iaload, 1) := by decide +kernel
theorem dX12_shutAt_56 : decode cX12_shutAt 56 = .ok (.i2l, 1) := by decide +kernel
theorem dX12_shutAt_57 : decode cX12_shutAt 57 = .ok (.aload_n 0, 1) := by decide +kernel
theorem dX12_shutAt_58 : decode cX12_shutAt 58 = .ok (.iload 4, 2) := by decide +kernel
theorem dX12_shutAt_60 : decode cX12_shutAt 60 = .ok (.iload 5, 2) := by decide +kernel
theorem dX12_shutAt_62 : decode cX12_shutAt 62 = .ok (.iload 6, 2) := by decide +kernel
theorem dX12_shutAt_64 : decode cX12_shutAt 64 = .ok (.iload_n 1, 1) := by decide +kernel
theorem dX12_shutAt_65 : decode cX12_shutAt 65 = .ok (.if_icmp .ne 7, 3) := by decide +kernel
theorem dX12_shutAt_68 : decode cX12_shutAt 68 = .ok (.iconst 1, 1) := by decide +kernel
theorem dX12_shutAt_69 : decode cX12_shutAt 69 = .ok (.goto 4, 3) := by decide +kernel
theorem dX12_shutAt_72 : decode cX12_shutAt 72 = .ok (.iconst 0, 1) := by decide +kernel
theorem dX12_shutAt_73 : decode cX12_shutAt 73 = .ok (.iload 6, 2) := by decide +kernel
theorem dX12_shutAt_75 : decode cX12_shutAt 75 = .ok (.invokevirtual 115, 3) := by decide +kernel
theorem dX12_shutAt_78 : decode cX12_shutAt 78 = .ok (.i2l, 1) := by decide +kernel
theorem dX12_shutAt_79 : decode cX12_shutAt 79 = .ok (.lmul, 1) := by decide +kernel
theorem dX12_shutAt_80 : decode cX12_shutAt 80 = .ok (.ladd, 1) := by decide +kernel
theorem dX12_shutAt_81 : decode cX12_shutAt 81 = .ok (.lstore_n 2, 1) := by decide +kernel
theorem dX12_shutAt_82 : decode cX12_shutAt 82 = .ok (.aload_n 0, 1) := by decide +kernel
theorem dX12_shutAt_83 : decode cX12_shutAt 83 = .ok (.iload 5, 2) := by decide +kernel
theorem dX12_shutAt_85 : decode cX12_shutAt 85 = .ok (.iload 6, 2) := by decide +kernel
theorem dX12_shutAt_87 : decode cX12_shutAt 87 = .ok (.iload_n 1, 1) := by decide +kernel
theorem dX12_shutAt_88 : decode cX12_shutAt 88 = .ok (.if_icmp .ne 7, 3) := by decide +kernel
theorem dX12_shutAt_91 : decode cX12_shutAt 91 = .ok (.iconst 1, 1) := by decide +kernel
theorem dX12_shutAt_92 : decode cX12_shutAt 92 = .ok (.goto 4, 3) := by decide +kernel
theorem dX12_shutAt_95 : decode cX12_shutAt 95 = .ok (.iconst 0, 1) := by decide +kernel
theorem dX12_shutAt_96 : decode cX12_shutAt 96 = .ok (.iload 6, 2) := by decide +kernel
theorem dX12_shutAt_98 : decode cX12_shutAt 98 = .ok (.invokevirtual 107, 3) := by decide +kernel
theorem dX12_shutAt_101 : decode cX12_shutAt 101 = .ok (.istore 5, 2) := by decide +kernel
theorem dX12_shutAt_103 : decode cX12_shutAt 103 = .ok (.iinc 6 1, 3) := by decide +kernel
theorem dX12_shutAt_106 : decode cX12_shutAt 106 = .ok (.goto (-65), 3) := by decide +kernel
theorem dX12_shutAt_109 : decode cX12_shutAt 109 = .ok (.iinc 4 1, 3) := by decide +kernel
theorem dX12_shutAt_112 : decode cX12_shutAt 112 = .ok (.goto (-86), 3) := by decide +kernel
theorem dX12_shutAt_115 : decode cX12_shutAt 115 = .ok (.lload_n 2, 1) := by decide +kernel
theorem dX12_shutAt_116 : decode cX12_shutAt 116 = .ok (.lreturn, 1) := by decide +kernel
theorem dX12_alarm_0 : decode cX12_alarm 0 = .ok (.aload_n 0, 1) := by decide +kernel
theorem dX12_alarm_1 : decode cX12_alarm 1 = .ok (.iconst 0, 1) := by decide +kernel
theorem dX12_alarm_2 : decode cX12_alarm 2 = .ok (.putfield 60, 3) := by decide +kernel
theorem dX12_alarm_5 : decode cX12_alarm 5 = .ok (.bipush 8, 2) := by decide +kernel
theorem dX12_alarm_7 : decode cX12_alarm 7 = .ok (.istore_n 1, 1) := by decide +kernel
theorem dX12_alarm_8 : decode cX12_alarm 8 = .ok (.iconst 0, 1) := by decide +kernel
theorem dX12_alarm_9 : decode cX12_alarm 9 = .ok (.istore_n 2, 1) := by decide +kernel
theorem dX12_alarm_10 : decode cX12_alarm 10 = .ok (.iload_n 2, 1) := by decide +kernel
theorem dX12_alarm_11 : decode cX12_alarm 11 = .ok (.bipush 8, 2) := by decide +kernel
theorem dX12_alarm_13 : decode cX12_alarm 13 = .ok (.aload_n 0, 1) := by decide +kernel
theorem dX12_alarm_14 : decode cX12_alarm 14 = .ok (.getfield 87, 3) := by decide +kernel
theorem dX12_alarm_17 : decode cX12_alarm 17 = .ok (.imul, 1) := by decide +kernel
theorem dX12_alarm_18 : decode cX12_alarm 18 = .ok (.if_icmp .ge 41, 3) := by decide +kernel
theorem dX12_alarm_21 : decode cX12_alarm 21 = .ok (.aload_n 0, 1) := by decide +kernel
theorem dX12_alarm_22 : decode cX12_alarm 22 = .ok (.getfield 28, 3) := by decide +kernel
theorem dX12_alarm_25 : decode cX12_alarm 25 = .ok (.iload_n 2, 1) := by decide +kernel
theorem dX12_alarm_26 : decode cX12_alarm 26 = .ok (.iaload, 1) := by decide +kernel
theorem dX12_alarm_27 : decode cX12_alarm 27 = .ok (.aload_n 0, 1) := by decide +kernel
theorem dX12_alarm_28 : decode cX12_alarm 28 = .ok (.getfield 7, 3) := by decide +kernel
theorem dX12_alarm_31 : decode cX12_alarm 31 = .ok (.iconst 2, 1) := by decide +kernel
theorem dX12_alarm_32 : decode cX12_alarm 32 = .ok (.iaload, 1) := by decide +kernel
theorem dX12_alarm_33 : decode cX12_alarm 33 = .ok (.if_icmp .le 18, 3) := by decide +kernel
theorem dX12_alarm_36 : decode cX12_alarm 36 = .ok (.iload_n 2, 1) := by decide +kernel
theorem dX12_alarm_37 : decode cX12_alarm 37 = .ok (.bipush 8, 2) := by decide +kernel
theorem dX12_alarm_39 : decode cX12_alarm 39 = .ok (.irem, 1) := by decide +kernel
theorem dX12_alarm_40 : decode cX12_alarm 40 = .ok (.iload_n 1, 1) := by decide +kernel
theorem dX12_alarm_41 : decode cX12_alarm 41 = .ok (.if_icmp .ge 10, 3) := by decide +kernel
theorem dX12_alarm_44 : decode cX12_alarm 44 = .ok (.iload_n 2, 1) := by decide +kernel
theorem dX12_alarm_45 : decode cX12_alarm 45 = .ok (.bipush 8, 2) := by decide +kernel
theorem dX12_alarm_47 : decode cX12_alarm 47 = .ok (.irem, 1) := by decide +kernel
theorem dX12_alarm_48 : decode cX12_alarm 48 = .ok (.goto 4, 3) := by decide +kernel
theorem dX12_alarm_51 : decode cX12_alarm 51 = .ok (.iload_n 1, 1) := by decide +kernel
theorem dX12_alarm_52 : decode cX12_alarm 52 = .ok (.istore_n 1, 1) := by decide +kernel
theorem dX12_alarm_53 : decode cX12_alarm 53 = .ok (.iinc 2 1, 3) := by decide +kernel
theorem dX12_alarm_56 : decode cX12_alarm 56 = .ok (.goto (-46), 3) := by decide +kernel
theorem dX12_alarm_59 : decode cX12_alarm 59 = .ok (.iload_n 1, 1) := by decide +kernel
theorem dX12_alarm_60 : decode cX12_alarm 60 = .ok (.bipush 8, 2) := by decide +kernel
theorem dX12_alarm_62 : decode cX12_alarm 62 = .ok (.if_icmp .ne 8, 3) := by decide +kernel
theorem dX12_alarm_65 : decode cX12_alarm 65 = .ok (.bipush 8, 2) := by decide +kernel
theorem dX12_alarm_67 : decode cX12_alarm 67 = .ok (.goto 26, 3) := by decide +kernel
theorem dX12_alarm_70 : decode cX12_alarm 70 = .ok (.iload_n 1, 1) := by decide +kernel
theorem dX12_alarm_71 : decode cX12_alarm 71 = .ok (.aload_n 0, 1) := by decide +kernel
theorem dX12_alarm_72 : decode cX12_alarm 72 = .ok (.getfield 7, 3) := by decide +kernel
theorem dX12_alarm_75 : decode cX12_alarm 75 = .ok (.iconst 0, 1) := by decide +kernel
theorem dX12_alarm_76 : decode cX12_alarm 76 = .ok (.iaload, 1) := by decide +kernel
theorem dX12_alarm_77 : decode cX12_alarm 77 = .ok (.if_icmp .ge 8, 3) := by decide +kernel
theorem dX12_alarm_80 : decode cX12_alarm 80 = .ok (.ldc 127, 2) := by decide +kernel
theorem dX12_alarm_82 : decode cX12_alarm 82 = .ok (.goto 11, 3) := by decide +kernel
theorem dX12_alarm_85 : decode cX12_alarm 85 = .ok (.iload_n 1, 1) := by decide +kernel
theorem dX12_alarm_86 : decode cX12_alarm 86 = .ok (.aload_n 0, 1) := by decide +kernel
theorem dX12_alarm_87 : decode cX12_alarm 87 = .ok (.getfield 7, 3) := by decide +kernel
theorem dX12_alarm_90 : decode cX12_alarm 90 = .ok (.iconst 0, 1) := by decide +kernel
theorem dX12_alarm_91 : decode cX12_alarm 91 = .ok (.iaload, 1) := by decide +kernel
theorem dX12_alarm_92 : decode cX12_alarm 92 = .ok (.isub, 1) := by decide +kernel
theorem dX12_alarm_93 : decode cX12_alarm 93 = .ok (.ireturn, 1) := by decide +kernel
set_option maxRecDepth 20000 in
theorem ggX12_groups_X12_in : GoodIn wsX12_groups wsX12_in := goodIn_r _ [8] (by decide +kernel) (by decide +kernel)
set_option maxRecDepth 20000 in
theorem gX12_groups_X12_in : GoodIn wsX12_groups (va_wsS RX12 70 yX12_in wsX12_in) := goodIn_app (goodIn_of _ (by decide +kernel)) ggX12_groups_X12_in
set_option maxRecDepth 20000 in
theorem ggX12_groups_X12_groupOf : GoodIn wsX12_groups wsX12_groupOf := goodIn_r _ [12, 13, 14, 15, 16, 17, 18, 19, 20, 21, 22, 23, 24, 25, 26, 27, 28, 29, 30, 31, 32, 33, 34, 35] (by decide +kernel) (by decide +kernel)
set_option maxRecDepth 20000 in
theorem gX12_groups_X12_groupOf : GoodIn wsX12_groups (wsV RX12 111 RX12 yX12_groupOf wsX12_groupOf) := goodIn_app (goodIn_of _ (by decide +kernel)) ggX12_groups_X12_groupOf
theorem dX12_groups_0 : decode cX12_groups 0 = .ok (.aload_n 0, 1) := by decide +kernel
theorem dX12_groups_1 : decode cX12_groups 1 = .ok (.iconst 0, 1) := by decide +kernel
theorem dX12_groups_2 : decode cX12_groups 2 = .ok (.putfield 60, 3) := by decide +kernel
theorem dX12_groups_5 : decode cX12_groups 5 = .ok (.iload_n 1, 1) := by decide +kernel
theorem dX12_groups_6 : decode cX12_groups 6 = .ok (.i2l, 1) := by decide +kernel
theorem dX12_groups_7 : decode cX12_groups 7 = .ok (.lconst 0, 1) := by decide +kernel
theorem dX12_groups_8 : decode cX12_groups 8 = .ok (.ldc2_w 68, 3) := by decide +kernel
theorem dX12_groups_11 : decode cX12_groups 11 = .ok (.invokestatic 70, 3) := by decide +kernel
theorem dX12_groups_14 : decode cX12_groups 14 = .ok (.ifCond .ne 6, 3) := by decide +kernel
theorem dX12_groups_17 : decode cX12_groups 17 = .ok (.ldc 80, 2) := by decide +kernel
theorem dX12_groups_19 : decode cX12_groups 19 = .ok (.ireturn, 1) := by decide +kernel
theorem dX12_groups_20 : decode cX12_groups 20 = .ok (.iconst 0, 1) := by decide +kernel
theorem dX12_groups_21 : decode cX12_groups 21 = .ok (.istore_n 2, 1) := by decide +kernel
theorem dX12_groups_22 : decode cX12_groups 22 = .ok (.iconst 0, 1) := by decide +kernel
theorem dX12_groups_23 : decode cX12_groups 23 = .ok (.istore_n 3, 1) := by decide +kernel
theorem dX12_groups_24 : decode cX12_groups 24 = .ok (.iload_n 3, 1) := by decide +kernel
theorem dX12_groups_25 : decode cX12_groups 25 = .ok (.aload_n 0, 1) := by decide +kernel
theorem dX12_groups_26 : decode cX12_groups 26 = .ok (.getfield 87, 3) := by decide +kernel
theorem dX12_groups_29 : decode cX12_groups 29 = .ok (.if_icmp .ge 27, 3) := by decide +kernel
theorem dX12_groups_32 : decode cX12_groups 32 = .ok (.iload_n 2, 1) := by decide +kernel
theorem dX12_groups_33 : decode cX12_groups 33 = .ok (.aload_n 0, 1) := by decide +kernel
theorem dX12_groups_34 : decode cX12_groups 34 = .ok (.iload_n 3, 1) := by decide +kernel
theorem dX12_groups_35 : decode cX12_groups 35 = .ok (.iload_n 1, 1) := by decide +kernel
theorem dX12_groups_36 : decode cX12_groups 36 = .ok (.invokevirtual 111, 3) := by decide +kernel
theorem dX12_groups_39 : decode cX12_groups 39 = .ok (.iload_n 3, 1) := by decide +kernel
theorem dX12_groups_40 : decode cX12_groups 40 = .ok (.if_icmp .ne 7, 3) := by decide +kernel
theorem dX12_groups_43 : decode cX12_groups 43 = .ok (.iconst 1, 1) := by decide +kernel
theorem dX12_groups_44 : decode cX12_groups 44 = .ok (.goto 4, 3) := by decide +kernel
theorem dX12_groups_47 : decode cX12_groups 47 = .ok (.iconst 0, 1) := by decide +kernel
theorem dX12_groups_48 : decode cX12_groups 48 = .ok (.iadd, 1) := by decide +kernel
theorem dX12_groups_49 : decode cX12_groups 49 = .ok (.istore_n 2, 1) := by decide +kernel
theorem dX12_groups_50 : decode cX12_groups 50 = .ok (.iinc 3 1, 3) := by decide +kernel
theorem dX12_groups_53 : decode cX12_groups 53 = .ok (.goto (-29), 3) := by decide +kernel
theorem dX12_groups_56 : decode cX12_groups 56 = .ok (.iload_n 2, 1) := by decide +kernel
theorem dX12_groups_57 : decode cX12_groups 57 = .ok (.ireturn, 1) := by decide +kernel
set_option maxRecDepth 20000 in
theorem ggX12_isGate_X12_in : GoodIn wsX12_isGate wsX12_in := goodIn_r _ [5] (by decide +kernel) (by decide +kernel)
set_option maxRecDepth 20000 in
theorem gX12_isGate_X12_in : GoodIn wsX12_isGate (va_wsS RX12 70 yX12_in wsX12_in) := goodIn_app (goodIn_of _ (by decide +kernel)) ggX12_isGate_X12_in
theorem dX12_isGate_0 : decode cX12_isGate 0 = .ok (.iload_n 1, 1) := by decide +kernel
theorem dX12_isGate_1 : decode cX12_isGate 1 = .ok (.i2l, 1) := by decide +kernel
theorem dX12_isGate_2 : decode cX12_isGate 2 = .ok (.lconst 0, 1) := by decide +kernel
theorem dX12_isGate_3 : decode cX12_isGate 3 = .ok (.aload_n 0, 1) := by decide +kernel
theorem dX12_isGate_4 : decode cX12_isGate 4 = .ok (.getfield 128, 3) := by decide +kernel
theorem dX12_isGate_7 : decode cX12_isGate 7 = .ok (.iconst 1, 1) := by decide +kernel
theorem dX12_isGate_8 : decode cX12_isGate 8 = .ok (.isub, 1) := by decide +kernel
theorem dX12_isGate_9 : decode cX12_isGate 9 = .ok (.i2l, 1) := by decide +kernel
theorem dX12_isGate_10 : decode cX12_isGate 10 = .ok (.invokestatic 70, 3) := by decide +kernel
theorem dX12_isGate_13 : decode cX12_isGate 13 = .ok (.ireturn, 1) := by decide +kernel
set_option maxRecDepth 20000 in
theorem ggX12_gate_X12_in : GoodIn wsX12_gate wsX12_in := goodIn_r _ [12] (by decide +kernel) (by decide +kernel)
set_option maxRecDepth 20000 in
theorem gX12_gate_X12_in : GoodIn wsX12_gate (va_wsS RX12 70 yX12_in wsX12_in) := goodIn_app (goodIn_of _ (by decide +kernel)) ggX12_gate_X12_in
theorem dX12_gate_0 : decode cX12_gate 0 = .ok (.aload_n 0, 1) := by decide +kernel
theorem dX12_gate_1 : decode cX12_gate 1 = .ok (.iconst 0, 1) := by decide +kernel
theorem dX12_gate_2 : decode cX12_gate 2 = .ok (.putfield 60, 3) := by decide +kernel
theorem dX12_gate_5 : decode cX12_gate 5 = .ok (.iload_n 1, 1) := by decide +kernel
theorem dX12_gate_6 : decode cX12_gate 6 = .ok (.i2l, 1) := by decide +kernel
theorem dX12_gate_7 : decode cX12_gate 7 = .ok (.lconst 1, 1) := by decide +kernel
theorem dX12_gate_8 : decode cX12_gate 8 = .ok (.ldc2_w 131, 3) := by decide +kernel
theorem dX12_gate_11 : decode cX12_gate 11 = .ok (.invokestatic 70, 3) := by decide +kernel
theorem dX12_gate_14 : decode cX12_gate 14 = .ok (.ifCond .eq 15, 3) := by decide +kernel
theorem dX12_gate_17 : decode cX12_gate 17 = .ok (.iload_n 2, 1) := by decide +kernel
theorem dX12_gate_18 : decode cX12_gate 18 = .ok (.i2l, 1) := by decide +kernel
theorem dX12_gate_19 : decode cX12_gate 19 = .ok (.lconst 0, 1) := by decide +kernel
theorem dX12_gate_20 : decode cX12_gate 20 = .ok (.ldc2_w 133, 3) := by decide +kernel
theorem dX12_gate_23 : decode cX12_gate 23 = .ok (.invokestatic 70, 3) := by decide +kernel
theorem dX12_gate_26 : decode cX12_gate 26 = .ok (.ifCond .ne 6, 3) := by decide +kernel
theorem dX12_gate_29 : decode cX12_gate 29 = .ok (.ldc 80, 2) := by decide +kernel
theorem dX12_gate_31 : decode cX12_gate 31 = .ok (.ireturn, 1) := by decide +kernel
theorem dX12_gate_32 : decode cX12_gate 32 = .ok (.aload_n 0, 1) := by decide +kernel
theorem dX12_gate_33 : decode cX12_gate 33 = .ok (.getfield 128, 3) := by decide +kernel
theorem dX12_gate_36 : decode cX12_gate 36 = .ok (.bipush 6, 2) := by decide +kernel
theorem dX12_gate_38 : decode cX12_gate 38 = .ok (.if_icmp .ne 6, 3) := by decide +kernel
theorem dX12_gate_41 : decode cX12_gate 41 = .ok (.ldc 90, 2) := by decide +kernel
theorem dX12_gate_43 : decode cX12_gate 43 = .ok (.ireturn, 1) := by decide +kernel
theorem dX12_gate_44 : decode cX12_gate 44 = .ok (.aload_n 0, 1) := by decide +kernel
theorem dX12_gate_45 : decode cX12_gate 45 = .ok (.getfield 39, 3) := by decide +kernel
theorem dX12_gate_48 : decode cX12_gate 48 = .ok (.aload_n 0, 1) := by decide +kernel
theorem dX12_gate_49 : decode cX12_gate 49 = .ok (.getfield 128, 3) := by decide +kernel
theorem dX12_gate_52 : decode cX12_gate 52 = .ok (.iload_n 1, 1) := by decide +kernel
theorem dX12_gate_53 : decode cX12_gate 53 = .ok (.iastore, 1) := by decide +kernel
theorem dX12_gate_54 : decode cX12_gate 54 = .ok (.aload_n 0, 1) := by decide +kernel
theorem dX12_gate_55 : decode cX12_gate 55 = .ok (.getfield 42, 3) := by decide +kernel
theorem dX12_gate_58 : decode cX12_gate 58 = .ok (.aload_n 0, 1) := by decide +kernel
theorem dX12_gate_59 : decode cX12_gate 59 = .ok (.getfield 128, 3) := by decide +kernel
theorem dX12_gate_62 : decode cX12_gate 62 = .ok (.iload_n 2, 1) := by decide +kernel
theorem dX12_gate_63 : decode cX12_gate 63 = .ok (.iastore, 1) := by decide +kernel
theorem dX12_gate_64 : decode cX12_gate 64 = .ok (.aload_n 0, 1) := by decide +kernel
theorem dX12_gate_65 : decode cX12_gate 65 = .ok (.dup, 1) := by decide +kernel
theorem dX12_gate_66 : decode cX12_gate 66 = .ok (.getfield 128, 3) := by decide +kernel
theorem dX12_gate_69 : decode cX12_gate 69 = .ok (.iconst 1, 1) := by decide +kernel
theorem dX12_gate_70 : decode cX12_gate 70 = .ok (.iadd, 1) := by decide +kernel
theorem dX12_gate_71 : decode cX12_gate 71 = .ok (.putfield 128, 3) := by decide +kernel
theorem dX12_gate_74 : decode cX12_gate 74 = .ok (.aload_n 0, 1) := by decide +kernel
theorem dX12_gate_75 : decode cX12_gate 75 = .ok (.getfield 128, 3) := by decide +kernel
theorem dX12_gate_78 : decode cX12_gate 78 = .ok (.iconst 1, 1) := by decide +kernel
theorem dX12_gate_79 : decode cX12_gate 79 = .ok (.isub, 1) := by decide +kernel
theorem dX12_gate_80 : decode cX12_gate 80 = .ok (.ireturn, 1) := by decide +kernel
set_option maxRecDepth 20000 in
theorem ggX12_fail_X12_isGate : GoodIn wsX12_fail wsX12_isGate := goodIn_r _ [8, 9, 10, 11, 7, 12, 13, 14, 15, 16, 17, 18, 19, 20, 21, 22, 23, 24, 25, 26, 27, 28, 29, 30, 31, 32, 33, 34] (by decide +kernel) (by decide +kernel)
set_option maxRecDepth 20000 in
theorem gX12_fail_X12_isGate : GoodIn wsX12_fail (wsV RX12 135 RX12 yX12_isGate wsX12_isGate) := goodIn_app (goodIn_of _ (by decide +kernel)) ggX12_fail_X12_isGate
theorem dX12_fail_0 : decode cX12_fail 0 = .ok (.aload_n 0, 1) := by decide +kernel
theorem dX12_fail_1 : decode cX12_fail 1 = .ok (.iconst 0, 1) := by decide +kernel
theorem dX12_fail_2 : decode cX12_fail 2 = .ok (.putfield 60, 3) := by decide +kernel
theorem dX12_fail_5 : decode cX12_fail 5 = .ok (.aload_n 0, 1) := by decide +kernel
theorem dX12_fail_6 : decode cX12_fail 6 = .ok (.iload_n 1, 1) := by decide +kernel
theorem dX12_fail_7 : decode cX12_fail 7 = .ok (.invokevirtual 135, 3) := by decide +kernel
theorem dX12_fail_10 : decode cX12_fail 10 = .ok (.ifCond .ne 6, 3) := by decide +kernel
theorem dX12_fail_13 : decode cX12_fail 13 = .ok (.ldc 80, 2) := by decide +kernel
theorem dX12_fail_15 : decode cX12_fail 15 = .ok (.ireturn, 1) := by decide +kernel
theorem dX12_fail_16 : decode cX12_fail 16 = .ok (.aload_n 0, 1) := by decide +kernel
theorem dX12_fail_17 : decode cX12_fail 17 = .ok (.getfield 45, 3) := by decide +kernel
theorem dX12_fail_20 : decode cX12_fail 20 = .ok (.iload_n 1, 1) := by decide +kernel
theorem dX12_fail_21 : decode cX12_fail 21 = .ok (.baload, 1) := by decide +kernel
theorem dX12_fail_22 : decode cX12_fail 22 = .ok (.istore_n 2, 1) := by decide +kernel
theorem dX12_fail_23 : decode cX12_fail 23 = .ok (.aload_n 0, 1) := by decide +kernel
theorem dX12_fail_24 : decode cX12_fail 24 = .ok (.getfield 45, 3) := by decide +kernel
theorem dX12_fail_27 : decode cX12_fail 27 = .ok (.iload_n 1, 1) := by decide +kernel
theorem dX12_fail_28 : decode cX12_fail 28 = .ok (.iconst 1, 1) := by decide +kernel
theorem dX12_fail_29 : decode cX12_fail 29 = .ok (.bastore, 1) := by decide +kernel
theorem dX12_fail_30 : decode cX12_fail 30 = .ok (.iload_n 2, 1) := by decide +kernel
theorem dX12_fail_31 : decode cX12_fail 31 = .ok (.ifCond .eq 7, 3) := by decide +kernel
theorem dX12_fail_34 : decode cX12_fail 34 = .ok (.iconst 0, 1) := by decide +kernel
theorem dX12_fail_35 : decode cX12_fail 35 = .ok (.goto 4, 3) := by decide +kernel
theorem dX12_fail_38 : decode cX12_fail 38 = .ok (.iconst 1, 1) := by decide +kernel
theorem dX12_fail_39 : decode cX12_fail 39 = .ok (.ireturn, 1) := by decide +kernel
set_option maxRecDepth 20000 in
theorem ggX12_mend_X12_isGate : GoodIn wsX12_mend wsX12_isGate := goodIn_r _ [8, 9, 10, 11, 7, 12, 13, 14, 15, 16, 17, 18, 19, 20, 21, 22, 23, 24, 25, 26, 27, 28, 29, 30, 31, 32, 33, 34] (by decide +kernel) (by decide +kernel)
set_option maxRecDepth 20000 in
theorem gX12_mend_X12_isGate : GoodIn wsX12_mend (wsV RX12 135 RX12 yX12_isGate wsX12_isGate) := goodIn_app (goodIn_of _ (by decide +kernel)) ggX12_mend_X12_isGate
theorem dX12_mend_0 : decode cX12_mend 0 = .ok (.aload_n 0, 1) := by decide +kernel
theorem dX12_mend_1 : decode cX12_mend 1 = .ok (.iconst 0, 1) := by decide +kernel
theorem dX12_mend_2 : decode cX12_mend 2 = .ok (.putfield 60, 3) := by decide +kernel
theorem dX12_mend_5 : decode cX12_mend 5 = .ok (.aload_n 0, 1) := by decide +kernel
theorem dX12_mend_6 : decode cX12_mend 6 = .ok (.iload_n 1, 1) := by decide +kernel
theorem dX12_mend_7 : decode cX12_mend 7 = .ok (.invokevirtual 135, 3) := by decide +kernel
theorem dX12_mend_10 : decode cX12_mend 10 = .ok (.ifCond .ne 6, 3) := by decide +kernel
theorem dX12_mend_13 : decode cX12_mend 13 = .ok (.ldc 80, 2) := by decide +kernel
theorem dX12_mend_15 : decode cX12_mend 15 = .ok (.ireturn, 1) := by decide +kernel
theorem dX12_mend_16 : decode cX12_mend 16 = .ok (.aload_n 0, 1) := by decide +kernel
theorem dX12_mend_17 : decode cX12_mend 17 = .ok (.getfield 45, 3) := by decide +kernel
theorem dX12_mend_20 : decode cX12_mend 20 = .ok (.iload_n 1, 1) := by decide +kernel
theorem dX12_mend_21 : decode cX12_mend 21 = .ok (.baload, 1) := by decide +kernel
theorem dX12_mend_22 : decode cX12_mend 22 = .ok (.istore_n 2, 1) := by decide +kernel
theorem dX12_mend_23 : decode cX12_mend 23 = .ok (.aload_n 0, 1) := by decide +kernel
theorem dX12_mend_24 : decode cX12_mend 24 = .ok (.getfield 45, 3) := by decide +kernel
theorem dX12_mend_27 : decode cX12_mend 27 = .ok (.iload_n 1, 1) := by decide +kernel
theorem dX12_mend_28 : decode cX12_mend 28 = .ok (.iconst 0, 1) := by decide +kernel
theorem dX12_mend_29 : decode cX12_mend 29 = .ok (.bastore, 1) := by decide +kernel
theorem dX12_mend_30 : decode cX12_mend 30 = .ok (.iload_n 2, 1) := by decide +kernel
theorem dX12_mend_31 : decode cX12_mend 31 = .ok (.ifCond .eq 7, 3) := by decide +kernel
theorem dX12_mend_34 : decode cX12_mend 34 = .ok (.iconst 1, 1) := by decide +kernel
theorem dX12_mend_35 : decode cX12_mend 35 = .ok (.goto 4, 3) := by decide +kernel
theorem dX12_mend_38 : decode cX12_mend 38 = .ok (.iconst 0, 1) := by decide +kernel
theorem dX12_mend_39 : decode cX12_mend 39 = .ok (.ireturn, 1) := by decide +kernel
theorem dX12_timeBy_0 : decode cX12_timeBy 0 = .ok (.iconst 0, 1) := by decide +kernel
theorem dX12_timeBy_1 : decode cX12_timeBy 1 = .ok (.istore_n 3, 1) := by decide +kernel
theorem dX12_timeBy_2 : decode cX12_timeBy 2 = .ok (.iload_n 3, 1) := by decide +kernel
theorem dX12_timeBy_3 : decode cX12_timeBy 3 = .ok (.iconst 3, 1) := by decide +kernel
theorem dX12_timeBy_4 : decode cX12_timeBy 4 = .ok (.if_icmp .ge 16, 3) := by decide +kernel
theorem dX12_timeBy_7 : decode cX12_timeBy 7 = .ok (.aload_n 0, 1) := by decide +kernel
theorem dX12_timeBy_8 : decode cX12_timeBy 8 = .ok (.getfield 48, 3) := by decide +kernel
theorem dX12_timeBy_11 : decode cX12_timeBy 11 = .ok (.iload_n 3, 1) := by decide +kernel
theorem dX12_timeBy_12 : decode cX12_timeBy 12 = .ok (.iconst 0, 1) := by decide +kernel
theorem dX12_timeBy_13 : decode cX12_timeBy 13 = .ok (.iastore, 1) := by decide +kernel
theorem dX12_timeBy_14 : decode cX12_timeBy 14 = .ok (.iinc 3 1, 3) := by decide +kernel
theorem dX12_timeBy_17 : decode cX12_timeBy 17 = .ok (.goto (-15), 3) := by decide +kernel
theorem dX12_timeBy_20 : decode cX12_timeBy 20 = .ok (.iconst 0, 1) := by decide +kernel
theorem dX12_timeBy_21 : decode cX12_timeBy 21 = .ok (.istore_n 3, 1) := by decide +kernel
theorem dX12_timeBy_22 : decode cX12_timeBy 22 = .ok (.iconst 0, 1) := by decide +kernel
theorem dX12_timeBy_23 : decode cX12_timeBy 23 = .ok (.istore 4, 2) := by decide +kernel
theorem dX12_timeBy_25 : decode cX12_timeBy 25 = .ok (.iload 4, 2) := by decide +kernel
theorem dX12_timeBy_27 : decode cX12_timeBy 27 = .ok (.aload_n 0, 1) := by decide +kernel
theorem dX12_timeBy_28 : decode cX12_timeBy 28 = .ok (.getfield 128, 3) := by decide +kernel
theorem dX12_timeBy_31 : decode cX12_timeBy 31 = .ok (.if_icmp .ge 148, 3) := by decide +kernel
theorem dX12_timeBy_34 : decode cX12_timeBy 34 = .ok (.aload_n 0, 1) := by decide +kernel
theorem dX12_timeBy_35 : decode cX12_timeBy 35 = .ok (.getfield 45, 3) := by decide +kernel
theorem dX12_timeBy_38 : decode cX12_timeBy 38 = .ok (.iload 4, 2) := by decide +kernel
theorem dX12_timeBy_40 : decode cX12_timeBy 40 = .ok (.baload, 1) := by decide +kernel
theorem dX12_timeBy_41 : decode cX12_timeBy 41 = .ok (.ifCond .ne 9, 3) := by decide +kernel
theorem dX12_timeBy_44 : decode cX12_timeBy 44 = .ok (.iload 4, 2) := by decide +kernel
theorem dX12_timeBy_46 : decode cX12_timeBy 46 = .ok (.iload_n 2, 1) := by decide +kernel
theorem dX12_timeBy_47 : decode cX12_timeBy 47 = .ok (.if_icmp .ne 103, 3) := by decide +kernel
theorem dX12_timeBy_50 : decode cX12_timeBy 50 = .ok (.aload_n 0, 1) := by decide +kernel
theorem dX12_timeBy_51 : decode cX12_timeBy 51 = .ok (.getfield 42, 3) := by decide +kernel
theorem dX12_timeBy_54 : decode cX12_timeBy 54 = .ok (.iload 4, 2) := by decide +kernel
theorem dX12_timeBy_56 : decode cX12_timeBy 56 = .ok (.iaload, 1) := by decide +kernel
theorem dX12_timeBy_57 : decode cX12_timeBy 57 = .ok (.ifCond .ne 6, 3) := by decide +kernel
theorem dX12_timeBy_60 : decode cX12_timeBy 60 = .ok (.ldc 127, 2) := by decide +kernel
theorem dX12_timeBy_62 : decode cX12_timeBy 62 = .ok (.ireturn, 1) := by decide +kernel
theorem dX12_timeBy_63 : decode cX12_timeBy 63 = .ok (.iconst 0, 1) := by decide +kernel
theorem dX12_timeBy_64 : decode cX12_timeBy 64 = .ok (.istore 5, 2) := by decide +kernel
theorem dX12_timeBy_66 : decode cX12_timeBy 66 = .ok (.iconst 1, 1) := by decide +kernel
theorem dX12_timeBy_67 : decode cX12_timeBy 67 = .ok (.istore 6, 2) := by decide +kernel
theorem dX12_timeBy_69 : decode cX12_timeBy 69 = .ok (.iload 6, 2) := by decide +kernel
theorem dX12_timeBy_71 : decode cX12_timeBy 71 = .ok (.iload_n 1, 1) := by decide +kernel
theorem dX12_timeBy_72 : decode cX12_timeBy 72 = .ok (.if_icmp .ge 35, 3) := by decide +kernel
theorem dX12_timeBy_75 : decode cX12_timeBy 75 = .ok (.aload_n 0, 1) := by decide +kernel
theorem dX12_timeBy_76 : decode cX12_timeBy 76 = .ok (.getfield 48, 3) := by decide +kernel
theorem dX12_timeBy_79 : decode cX12_timeBy 79 = .ok (.iload 6, 2) := by decide +kernel
theorem dX12_timeBy_81 : decode cX12_timeBy 81 = .ok (.iaload, 1) := by decide +kernel
theorem dX12_timeBy_82 : decode cX12_timeBy 82 = .ok (.aload_n 0, 1) := by decide +kernel
theorem dX12_timeBy_83 : decode cX12_timeBy 83 = .ok (.getfield 48, 3) := by decide +kernel
theorem dX12_timeBy_86 : decode cX12_timeBy 86 = .ok (.iload 5, 2) := by decide +kernel
theorem dX12_timeBy_88 : decode cX12_timeBy 88 = .ok (.iaload, 1) := by decide +kernel
theorem dX12_timeBy_89 : decode cX12_timeBy 89 = .ok (.if_icmp .ge 8, 3) := by decide +kernel
theorem dX12_timeBy_92 : decode cX12_timeBy 92 = .ok (.iload 6, 2) := by decide +kernel
theorem dX12_timeBy_94 : decode cX12_timeBy 94 = .ok (.goto 5, 3) := by decide +kernel
theorem dX12_timeBy_97 : decode cX12_timeBy 97 = .ok (.iload 5, 2) := by decide +kernel
theorem dX12_timeBy_99 : decode cX12_timeBy 99 = .ok (.istore 5, 2) := by decide +kernel
theorem dX12_timeBy_101 : decode cX12_timeBy 101 = .ok (.iinc 6 1, 3) := by decide +kernel
theorem dX12_timeBy_104 : decode cX12_timeBy 104 = .ok (.goto (-35), 3) := by decide +kernel
theorem dX12_timeBy_107 : decode cX12_timeBy 107 = .ok (.aload_n 0, 1) := by decide +kernel
theorem dX12_timeBy_108 : decode cX12_timeBy 108 = .ok (.getfield 48, 3) := by decide +kernel
theorem dX12_timeBy_111 : decode cX12_timeBy 111 = .ok (.iload 5, 2) := by decide +kernel
theorem dX12_timeBy_113 : decode cX12_timeBy 113 = .ok (.dup2, 1) := by decide +kernel
theorem dX12_timeBy_114 : decode cX12_timeBy 114 = .ok (.iaload, 1) := by decide +kernel
theorem dX12_timeBy_115 : decode cX12_timeBy 115 = .ok (.aload_n 0, 1) := by decide +kernel
theorem dX12_timeBy_116 : decode cX12_timeBy 116 = .ok (.getfield 42, 3) := by decide +kernel
theorem dX12_timeBy_119 : decode cX12_timeBy 119 = .ok (.iload 4, 2) := by decide +kernel
theorem dX12_timeBy_121 : decode cX12_timeBy 121 = .ok (.iaload, 1) := by decide +kernel
theorem dX12_timeBy_122 : decode cX12_timeBy 122 = .ok (.iadd, 1) := by decide +kernel
theorem dX12_timeBy_123 : decode cX12_timeBy 123 = .ok (.iastore, 1) := by decide +kernel
theorem dX12_timeBy_124 : decode cX12_timeBy 124 = .ok (.aload_n 0, 1) := by decide +kernel
theorem dX12_timeBy_125 : decode cX12_timeBy 125 = .ok (.getfield 48, 3) := by decide +kernel
theorem dX12_timeBy_128 : decode cX12_timeBy 128 = .ok (.iload 5, 2) := by decide +kernel
theorem dX12_timeBy_130 : decode cX12_timeBy 130 = .ok (.iaload, 1) := by decide +kernel
theorem dX12_timeBy_131 : decode cX12_timeBy 131 = .ok (.iload_n 3, 1) := by decide +kernel
theorem dX12_timeBy_132 : decode cX12_timeBy 132 = .ok (.if_icmp .le 13, 3) := by decide +kernel
theorem dX12_timeBy_135 : decode cX12_timeBy 135 = .ok (.aload_n 0, 1) := by decide +kernel
theorem dX12_timeBy_136 : decode cX12_timeBy 136 = .ok (.getfield 48, 3) := by decide +kernel
theorem dX12_timeBy_139 : decode cX12_timeBy 139 = .ok (.iload 5, 2) := by decide +kernel
theorem dX12_timeBy_141 : decode cX12_timeBy 141 = .ok (.iaload, 1) := by decide +kernel
theorem dX12_timeBy_142 : decode cX12_timeBy 142 = .ok (.goto 4, 3) := by decide +kernel
theorem dX12_timeBy_145 : decode cX12_timeBy 145 = .ok (.iload_n 3, 1) := by decide +kernel
theorem dX12_timeBy_146 : decode cX12_timeBy 146 = .ok (.istore_n 3, 1) := by decide +kernel
theorem dX12_timeBy_147 : decode cX12_timeBy 147 = .ok (.goto 26, 3) := by decide +kernel
theorem dX12_timeBy_150 : decode cX12_timeBy 150 = .ok (.aload_n 0, 1) := by decide +kernel
theorem dX12_timeBy_151 : decode cX12_timeBy 151 = .ok (.getfield 39, 3) := by decide +kernel
theorem dX12_timeBy_154 : decode cX12_timeBy 154 = .ok (.iload 4, 2) := by decide +kernel
theorem dX12_timeBy_156 : decode cX12_timeBy 156 = .ok (.iaload, 1) := by decide +kernel
theorem dX12_timeBy_157 : decode cX12_timeBy 157 = .ok (.iload_n 3, 1) := by decide +kernel
theorem dX12_timeBy_158 : decode cX12_timeBy 158 = .ok (.if_icmp .le 13, 3) := by decide +kernel
theorem dX12_timeBy_161 : decode cX12_timeBy 161 = .ok (.aload_n 0, 1) := by decide +kernel
theorem dX12_timeBy_162 : decode cX12_timeBy 162 = .ok (.getfield 39, 3) := by decide +kernel
theorem dX12_timeBy_165 : decode cX12_timeBy 165 = .ok (.iload 4, 2) := by decide +kernel
theorem dX12_timeBy_167 : decode cX12_timeBy 167 = .ok (.iaload, 1) := by decide +kernel
theorem dX12_timeBy_168 : decode cX12_timeBy 168 = .ok (.goto 4, 3) := by decide +kernel
theorem dX12_timeBy_171 : decode cX12_timeBy 171 = .ok (.iload_n 3, 1) := by decide +kernel
theorem dX12_timeBy_172 : decode cX12_timeBy 172 = .ok (.istore_n 3, 1) := by decide +kernel
theorem dX12_timeBy_173 : decode cX12_timeBy 173 = .ok (.iinc 4 1, 3) := by decide +kernel
theorem dX12_timeBy_176 : decode cX12_timeBy 176 = .ok (.goto (-151), 3) := by decide +kernel
theorem dX12_timeBy_179 : decode cX12_timeBy 179 = .ok (.iload_n 3, 1) := by decide +kernel
theorem dX12_timeBy_180 : decode cX12_timeBy 180 = .ok (.ireturn, 1) := by decide +kernel
set_option maxRecDepth 20000 in
theorem ggX12_time_X12_in : GoodIn wsX12_time wsX12_in := goodIn_r _ [10] (by decide +kernel) (by decide +kernel)
set_option maxRecDepth 20000 in
theorem gX12_time_X12_in : GoodIn wsX12_time (va_wsS RX12 70 yX12_in wsX12_in) := goodIn_app (goodIn_of _ (by decide +kernel)) ggX12_time_X12_in
set_option maxRecDepth 20000 in
theorem ggX12_time_X12_timeBy : GoodIn wsX12_time wsX12_timeBy := goodIn_r _ [14, 15, 5, 6, 16, 4, 17, 18, 19, 20, 21, 22, 23, 24, 25, 26, 27, 28, 29, 30, 31, 32, 33, 34, 35, 36, 37, 38, 39] (by decide +kernel) (by decide +kernel)
set_option maxRecDepth 20000 in
theorem gX12_time_X12_timeBy : GoodIn wsX12_time (wsV RX12 138 RX12 yX12_timeBy wsX12_timeBy) := goodIn_app (goodIn_of _ (by decide +kernel)) ggX12_time_X12_timeBy
theorem dX12_time_0 : decode cX12_time 0 = .ok (.aload_n 0, 1) := by decide +kernel
theorem dX12_time_1 : decode cX12_time 1 = .ok (.iconst 0, 1) := by decide +kernel
theorem dX12_time_2 : decode cX12_time 2 = .ok (.putfield 60, 3) := by decide +kernel
theorem dX12_time_5 : decode cX12_time 5 = .ok (.iload_n 1, 1) := by decide +kernel
theorem dX12_time_6 : decode cX12_time 6 = .ok (.i2l, 1) := by decide +kernel
theorem dX12_time_7 : decode cX12_time 7 = .ok (.lconst 1, 1) := by decide +kernel
theorem dX12_time_8 : decode cX12_time 8 = .ok (.ldc2_w 97, 3) := by decide +kernel
theorem dX12_time_11 : decode cX12_time 11 = .ok (.invokestatic 70, 3) := by decide +kernel
theorem dX12_time_14 : decode cX12_time 14 = .ok (.ifCond .eq 13, 3) := by decide +kernel
theorem dX12_time_17 : decode cX12_time 17 = .ok (.iload_n 2, 1) := by decide +kernel
theorem dX12_time_18 : decode cX12_time 18 = .ok (.i2l, 1) := by decide +kernel
theorem dX12_time_19 : decode cX12_time 19 = .ok (.lconst 0, 1) := by decide +kernel
theorem dX12_time_20 : decode cX12_time 20 = .ok (.lconst 1, 1) := by decide +kernel
theorem dX12_time_21 : decode cX12_time 21 = .ok (.invokestatic 70, 3) := by decide +kernel
theorem dX12_time_24 : decode cX12_time 24 = .ok (.ifCond .ne 6, 3) := by decide +kernel
theorem dX12_time_27 : decode cX12_time 27 = .ok (.ldc 80, 2) := by decide +kernel
theorem dX12_time_29 : decode cX12_time 29 = .ok (.ireturn, 1) := by decide +kernel
theorem dX12_time_30 : decode cX12_time 30 = .ok (.ldc 127, 2) := by decide +kernel
theorem dX12_time_32 : decode cX12_time 32 = .ok (.istore_n 3, 1) := by decide +kernel
theorem dX12_time_33 : decode cX12_time 33 = .ok (.iconst 0, 1) := by decide +kernel
theorem dX12_time_34 : decode cX12_time 34 = .ok (.istore 4, 2) := by decide +kernel
theorem dX12_time_36 : decode cX12_time 36 = .ok (.iconst 0, 1) := by decide +kernel
theorem dX12_time_37 : decode cX12_time 37 = .ok (.istore 5, 2) := by decide +kernel
theorem dX12_time_39 : decode cX12_time 39 = .ok (.iload 5, 2) := by decide +kernel
theorem dX12_time_41 : decode cX12_time 41 = .ok (.aload_n 0, 1) := by decide +kernel
theorem dX12_time_42 : decode cX12_time 42 = .ok (.getfield 128, 3) := by decide +kernel
theorem dX12_time_45 : decode cX12_time 45 = .ok (.if_icmp .ge 59, 3) := by decide +kernel
theorem dX12_time_48 : decode cX12_time 48 = .ok (.iload_n 2, 1) := by decide +kernel
theorem dX12_time_49 : decode cX12_time 49 = .ok (.iconst 1, 1) := by decide +kernel
theorem dX12_time_50 : decode cX12_time 50 = .ok (.if_icmp .ne 54, 3) := by decide +kernel
theorem dX12_time_53 : decode cX12_time 53 = .ok (.aload_n 0, 1) := by decide +kernel
theorem dX12_time_54 : decode cX12_time 54 = .ok (.getfield 45, 3) := by decide +kernel
theorem dX12_time_57 : decode cX12_time 57 = .ok (.iload 5, 2) := by decide +kernel
theorem dX12_time_59 : decode cX12_time 59 = .ok (.baload, 1) := by decide +kernel
theorem dX12_time_60 : decode cX12_time 60 = .ok (.ifCond .ne 38, 3) := by decide +kernel
theorem dX12_time_63 : decode cX12_time 63 = .ok (.aload_n 0, 1) := by decide +kernel
theorem dX12_time_64 : decode cX12_time 64 = .ok (.iload_n 1, 1) := by decide +kernel
theorem dX12_time_65 : decode cX12_time 65 = .ok (.iload 5, 2) := by decide +kernel
theorem dX12_time_67 : decode cX12_time 67 = .ok (.invokevirtual 138, 3) := by decide +kernel
theorem dX12_time_70 : decode cX12_time 70 = .ok (.istore 6, 2) := by decide +kernel
theorem dX12_time_72 : decode cX12_time 72 = .ok (.iload 6, 2) := by decide +kernel
theorem dX12_time_74 : decode cX12_time 74 = .ok (.ldc 127, 2) := by decide +kernel
theorem dX12_time_76 : decode cX12_time 76 = .ok (.if_icmp .ne 6, 3) := by decide +kernel
theorem dX12_time_79 : decode cX12_time 79 = .ok (.ldc 127, 2) := by decide +kernel
theorem dX12_time_81 : decode cX12_time 81 = .ok (.ireturn, 1) := by decide +kernel
theorem dX12_time_82 : decode cX12_time 82 = .ok (.iload 6, 2) := by decide +kernel
theorem dX12_time_84 : decode cX12_time 84 = .ok (.iload_n 3, 1) := by decide +kernel
theorem dX12_time_85 : decode cX12_time 85 = .ok (.if_icmp .le 8, 3) := by decide +kernel
theorem dX12_time_88 : decode cX12_time 88 = .ok (.iload 6, 2) := by decide +kernel
theorem dX12_time_90 : decode cX12_time 90 = .ok (.goto 4, 3) := by decide +kernel
theorem dX12_time_93 : decode cX12_time 93 = .ok (.iload_n 3, 1) := by decide +kernel
theorem dX12_time_94 : decode cX12_time 94 = .ok (.istore_n 3, 1) := by decide +kernel
theorem dX12_time_95 : decode cX12_time 95 = .ok (.iconst 1, 1) := by decide +kernel
theorem dX12_time_96 : decode cX12_time 96 = .ok (.istore 4, 2) := by decide +kernel
theorem dX12_time_98 : decode cX12_time 98 = .ok (.iinc 5 1, 3) := by decide +kernel
theorem dX12_time_101 : decode cX12_time 101 = .ok (.goto (-62), 3) := by decide +kernel
theorem dX12_time_104 : decode cX12_time 104 = .ok (.iload 4, 2) := by decide +kernel
theorem dX12_time_106 : decode cX12_time 106 = .ok (.ifCond .eq 7, 3) := by decide +kernel
theorem dX12_time_109 : decode cX12_time 109 = .ok (.iload_n 3, 1) := by decide +kernel
theorem dX12_time_110 : decode cX12_time 110 = .ok (.goto 9, 3) := by decide +kernel
theorem dX12_time_113 : decode cX12_time 113 = .ok (.aload_n 0, 1) := by decide +kernel
theorem dX12_time_114 : decode cX12_time 114 = .ok (.iload_n 1, 1) := by decide +kernel
theorem dX12_time_115 : decode cX12_time 115 = .ok (.iconst (-1), 1) := by decide +kernel
theorem dX12_time_116 : decode cX12_time 116 = .ok (.invokevirtual 138, 3) := by decide +kernel
theorem dX12_time_119 : decode cX12_time 119 = .ok (.ireturn, 1) := by decide +kernel
set_option maxRecDepth 20000 in
theorem ggX12_ship_X12_in : GoodIn wsX12_ship wsX12_in := goodIn_r _ [12] (by decide +kernel) (by decide +kernel)
set_option maxRecDepth 20000 in
theorem gX12_ship_X12_in : GoodIn wsX12_ship (va_wsS RX12 70 yX12_in wsX12_in) := goodIn_app (goodIn_of _ (by decide +kernel)) ggX12_ship_X12_in
theorem dX12_ship_0 : decode cX12_ship 0 = .ok (.aload_n 0, 1) := by decide +kernel
theorem dX12_ship_1 : decode cX12_ship 1 = .ok (.iconst 0, 1) := by decide +kernel
theorem dX12_ship_2 : decode cX12_ship 2 = .ok (.putfield 60, 3) := by decide +kernel
theorem dX12_ship_5 : decode cX12_ship 5 = .ok (.iload_n 1, 1) := by decide +kernel
theorem dX12_ship_6 : decode cX12_ship 6 = .ok (.i2l, 1) := by decide +kernel
theorem dX12_ship_7 : decode cX12_ship 7 = .ok (.lconst 0, 1) := by decide +kernel
theorem dX12_ship_8 : decode cX12_ship 8 = .ok (.ldc2_w 141, 3) := by decide +kernel
theorem dX12_ship_11 : decode cX12_ship 11 = .ok (.invokestatic 70, 3) := by decide +kernel
theorem dX12_ship_14 : decode cX12_ship 14 = .ok (.ifCond .eq 15, 3) := by decide +kernel
theorem dX12_ship_17 : decode cX12_ship 17 = .ok (.iload_n 2, 1) := by decide +kernel
theorem dX12_ship_18 : decode cX12_ship 18 = .ok (.i2l, 1) := by decide +kernel
theorem dX12_ship_19 : decode cX12_ship 19 = .ok (.lconst 1, 1) := by decide +kernel
theorem dX12_ship_20 : decode cX12_ship 20 = .ok (.ldc2_w 131, 3) := by decide +kernel
theorem dX12_ship_23 : decode cX12_ship 23 = .ok (.invokestatic 70, 3) := by decide +kernel
theorem dX12_ship_26 : decode cX12_ship 26 = .ok (.ifCond .ne 6, 3) := by decide +kernel
theorem dX12_ship_29 : decode cX12_ship 29 = .ok (.ldc 80, 2) := by decide +kernel
theorem dX12_ship_31 : decode cX12_ship 31 = .ok (.ireturn, 1) := by decide +kernel
theorem dX12_ship_32 : decode cX12_ship 32 = .ok (.aload_n 0, 1) := by decide +kernel
theorem dX12_ship_33 : decode cX12_ship 33 = .ok (.getfield 143, 3) := by decide +kernel
theorem dX12_ship_36 : decode cX12_ship 36 = .ok (.bipush 20, 2) := by decide +kernel
theorem dX12_ship_38 : decode cX12_ship 38 = .ok (.if_icmp .ne 6, 3) := by decide +kernel
theorem dX12_ship_41 : decode cX12_ship 41 = .ok (.ldc 90, 2) := by decide +kernel
theorem dX12_ship_43 : decode cX12_ship 43 = .ok (.ireturn, 1) := by decide +kernel
theorem dX12_ship_44 : decode cX12_ship 44 = .ok (.aload_n 0, 1) := by decide +kernel
theorem dX12_ship_45 : decode cX12_ship 45 = .ok (.getfield 51, 3) := by decide +kernel
theorem dX12_ship_48 : decode cX12_ship 48 = .ok (.aload_n 0, 1) := by decide +kernel
theorem dX12_ship_49 : decode cX12_ship 49 = .ok (.getfield 143, 3) := by decide +kernel
theorem dX12_ship_52 : decode cX12_ship 52 = .ok (.iload_n 1, 1) := by decide +kernel
theorem dX12_ship_53 : decode cX12_ship 53 = .ok (.iastore, 1) := by decide +kernel
theorem dX12_ship_54 : decode cX12_ship 54 = .ok (.aload_n 0, 1) := by decide +kernel
theorem dX12_ship_55 : decode cX12_ship 55 = .ok (.getfield 54, 3) := by decide +kernel
theorem dX12_ship_58 : decode cX12_ship 58 = .ok (.aload_n 0, 1) := by decide +kernel
theorem dX12_ship_59 : decode cX12_ship 59 = .ok (.getfield 143, 3) := by decide +kernel
theorem dX12_ship_62 : decode cX12_ship 62 = .ok (.iload_n 2, 1) := by decide +kernel
theorem dX12_ship_63 : decode cX12_ship 63 = .ok (.iastore, 1) := by decide +kernel
theorem dX12_ship_64 : decode cX12_ship 64 = .ok (.aload_n 0, 1) := by decide +kernel
theorem dX12_ship_65 : decode cX12_ship 65 = .ok (.dup, 1) := by decide +kernel
theorem dX12_ship_66 : decode cX12_ship 66 = .ok (.getfield 143, 3) := by decide +kernel
theorem dX12_ship_69 : decode cX12_ship 69 = .ok (.iconst 1, 1) := by decide +kernel
theorem dX12_ship_70 : decode cX12_ship 70 = .ok (.iadd, 1) := by decide +kernel
theorem dX12_ship_71 : decode cX12_ship 71 = .ok (.putfield 143, 3) := by decide +kernel
theorem dX12_ship_74 : decode cX12_ship 74 = .ok (.aload_n 0, 1) := by decide +kernel
theorem dX12_ship_75 : decode cX12_ship 75 = .ok (.getfield 143, 3) := by decide +kernel
theorem dX12_ship_78 : decode cX12_ship 78 = .ok (.iconst 1, 1) := by decide +kernel
theorem dX12_ship_79 : decode cX12_ship 79 = .ok (.isub, 1) := by decide +kernel
theorem dX12_ship_80 : decode cX12_ship 80 = .ok (.ireturn, 1) := by decide +kernel
set_option maxRecDepth 20000 in
theorem ggX12_waits_X12_in : GoodIn wsX12_waits wsX12_in := goodIn_r _ [11] (by decide +kernel) (by decide +kernel)
set_option maxRecDepth 20000 in
theorem gX12_waits_X12_in : GoodIn wsX12_waits (va_wsS RX12 70 yX12_in wsX12_in) := goodIn_app (goodIn_of _ (by decide +kernel)) ggX12_waits_X12_in
theorem dX12_waits_0 : decode cX12_waits 0 = .ok (.aload_n 0, 1) := by decide +kernel
theorem dX12_waits_1 : decode cX12_waits 1 = .ok (.iconst 0, 1) := by decide +kernel
theorem dX12_waits_2 : decode cX12_waits 2 = .ok (.putfield 60, 3) := by decide +kernel
theorem dX12_waits_5 : decode cX12_waits 5 = .ok (.iload_n 1, 1) := by decide +kernel
theorem dX12_waits_6 : decode cX12_waits 6 = .ok (.i2l, 1) := by decide +kernel
theorem dX12_waits_7 : decode cX12_waits 7 = .ok (.lconst 0, 1) := by decide +kernel
theorem dX12_waits_8 : decode cX12_waits 8 = .ok (.aload_n 0, 1) := by decide +kernel
theorem dX12_waits_9 : decode cX12_waits 9 = .ok (.getfield 143, 3) := by decide +kernel
theorem dX12_waits_12 : decode cX12_waits 12 = .ok (.iconst 1, 1) := by decide +kernel
theorem dX12_waits_13 : decode cX12_waits 13 = .ok (.isub, 1) := by decide +kernel
theorem dX12_waits_14 : decode cX12_waits 14 = .ok (.i2l, 1) := by decide +kernel
theorem dX12_waits_15 : decode cX12_waits 15 = .ok (.invokestatic 70, 3) := by decide +kernel
theorem dX12_waits_18 : decode cX12_waits 18 = .ok (.ifCond .eq 28, 3) := by decide +kernel
theorem dX12_waits_21 : decode cX12_waits 21 = .ok (.iload_n 2, 1) := by decide +kernel
theorem dX12_waits_22 : decode cX12_waits 22 = .ok (.i2l, 1) := by decide +kernel
theorem dX12_waits_23 : decode cX12_waits 23 = .ok (.lconst 0, 1) := by decide +kernel
theorem dX12_waits_24 : decode cX12_waits 24 = .ok (.ldc2_w 141, 3) := by decide +kernel
theorem dX12_waits_27 : decode cX12_waits 27 = .ok (.invokestatic 70, 3) := by decide +kernel
theorem dX12_waits_30 : decode cX12_waits 30 = .ok (.ifCond .eq 16, 3) := by decide +kernel
theorem dX12_waits_33 : decode cX12_waits 33 = .ok (.iload_n 3, 1) := by decide +kernel
theorem dX12_waits_34 : decode cX12_waits 34 = .ok (.i2l, 1) := by decide +kernel
theorem dX12_waits_35 : decode cX12_waits 35 = .ok (.iload_n 2, 1) := by decide +kernel
theorem dX12_waits_36 : decode cX12_waits 36 = .ok (.i2l, 1) := by decide +kernel
theorem dX12_waits_37 : decode cX12_waits 37 = .ok (.ldc2_w 141, 3) := by decide +kernel
theorem dX12_waits_40 : decode cX12_waits 40 = .ok (.invokestatic 70, 3) := by decide +kernel
theorem dX12_waits_43 : decode cX12_waits 43 = .ok (.ifCond .ne 6, 3) := by decide +kernel
theorem dX12_waits_46 : decode cX12_waits 46 = .ok (.ldc 80, 2) := by decide +kernel
theorem dX12_waits_48 : decode cX12_waits 48 = .ok (.ireturn, 1) := by decide +kernel
theorem dX12_waits_49 : decode cX12_waits 49 = .ok (.iconst 0, 1) := by decide +kernel
theorem dX12_waits_50 : decode cX12_waits 50 = .ok (.istore 4, 2) := by decide +kernel
theorem dX12_waits_52 : decode cX12_waits 52 = .ok (.iconst 0, 1) := by decide +kernel
theorem dX12_waits_53 : decode cX12_waits 53 = .ok (.istore 5, 2) := by decide +kernel
theorem dX12_waits_55 : decode cX12_waits 55 = .ok (.ldc 127, 2) := by decide +kernel
theorem dX12_waits_57 : decode cX12_waits 57 = .ok (.istore 6, 2) := by decide +kernel
theorem dX12_waits_59 : decode cX12_waits 59 = .ok (.iconst 0, 1) := by decide +kernel
theorem dX12_waits_60 : decode cX12_waits 60 = .ok (.istore 7, 2) := by decide +kernel
theorem dX12_waits_62 : decode cX12_waits 62 = .ok (.iload 7, 2) := by decide +kernel
theorem dX12_waits_64 : decode cX12_waits 64 = .ok (.aload_n 0, 1) := by decide +kernel
theorem dX12_waits_65 : decode cX12_waits 65 = .ok (.getfield 143, 3) := by decide +kernel
theorem dX12_waits_68 : decode cX12_waits 68 = .ok (.if_icmp .ge 47, 3) := by decide +kernel
theorem dX12_waits_71 : decode cX12_waits 71 = .ok (.iload 4, 2) := by decide +kernel
theorem dX12_waits_73 : decode cX12_waits 73 = .ok (.iload 7, 2) := by decide +kernel
theorem dX12_waits_75 : decode cX12_waits 75 = .ok (.ishr, 1) := by decide +kernel
theorem dX12_waits_76 : decode cX12_waits 76 = .ok (.iconst 1, 1) := by decide +kernel
theorem dX12_waits_77 : decode cX12_waits 77 = .ok (.iand, 1) := by decide +kernel
theorem dX12_waits_78 : decode cX12_waits 78 = .ok (.ifCond .ne 31, 3) := by decide +kernel
theorem dX12_waits_81 : decode cX12_waits 81 = .ok (.iload 6, 2) := by decide +kernel
theorem dX12_waits_83 : decode cX12_waits 83 = .ok (.ldc 127, 2) := by decide +kernel
theorem dX12_waits_85 : decode cX12_waits 85 = .ok (.if_icmp .eq 20, 3) := by decide +kernel
theorem dX12_waits_88 : decode cX12_waits 88 = .ok (.aload_n 0, 1) := by decide +kernel
theorem dX12_waits_89 : decode cX12_waits 89 = .ok (.getfield 51, 3) := by decide +kernel
theorem dX12_waits_92 : decode cX12_waits 92 = .ok (.iload 7, 2) := by decide +kernel
theorem dX12_waits_94 : decode cX12_waits 94 = .ok (.iaload, 1) := by decide +kernel
theorem dX12_waits_95 : decode cX12_waits 95 = .ok (.aload_n 0, 1) := by decide +kernel
theorem dX12_waits_96 : decode cX12_waits 96 = .ok (.getfield 51, 3) := by decide +kernel
theorem dX12_waits_99 : decode cX12_waits 99 = .ok (.iload 6, 2) := by decide +kernel
theorem dX12_waits_101 : decode cX12_waits 101 = .ok (.iaload, 1) := by decide +kernel
theorem dX12_waits_102 : decode cX12_waits 102 = .ok (.if_icmp .ge 7, 3) := by decide +kernel
theorem dX12_waits_105 : decode cX12_waits 105 = .ok (.iload 7, 2) := by decide +kernel
theorem dX12_waits_107 : decode cX12_waits 107 = .ok (.istore 6, 2) := by decide +kernel
theorem dX12_waits_109 : decode cX12_waits 109 = .ok (.iinc 7 1, 3) := by decide +kernel
theorem dX12_waits_112 : decode cX12_waits 112 = .ok (.goto (-50), 3) := by decide +kernel
theorem dX12_waits_115 : decode cX12_waits 115 = .ok (.aload_n 0, 1) := by decide +kernel
theorem dX12_waits_116 : decode cX12_waits 116 = .ok (.getfield 51, 3) := by decide +kernel
theorem dX12_waits_119 : decode cX12_waits 119 = .ok (.iload 6, 2) := by decide +kernel
theorem dX12_waits_121 : decode cX12_waits 121 = .ok (.iaload, 1) := by decide +kernel
theorem dX12_waits_122 : decode cX12_waits 122 = .ok (.iload 5, 2) := by decide +kernel
theorem dX12_waits_124 : decode cX12_waits 124 = .ok (.if_icmp .le 13, 3) := by decide +kernel
theorem dX12_waits_127 : decode cX12_waits 127 = .ok (.aload_n 0, 1) := by decide +kernel
theorem dX12_waits_128 : decode cX12_waits 128 = .ok (.getfield 51, 3) := by decide +kernel
theorem dX12_waits_131 : decode cX12_waits 131 = .ok (.iload 6, 2) := by decide +kernel
theorem dX12_waits_133 : decode cX12_waits 133 = .ok (.iaload, 1) := by decide +kernel
theorem dX12_waits_134 : decode cX12_waits 134 = .ok (.goto 5, 3) := by decide +kernel
theorem dX12_waits_137 : decode cX12_waits 137 = .ok (.iload 5, 2) := by decide +kernel
theorem dX12_waits_139 : decode cX12_waits 139 = .ok (.istore 7, 2) := by decide +kernel
theorem dX12_waits_141 : decode cX12_waits 141 = .ok (.iload 7, 2) := by decide +kernel
theorem dX12_waits_143 : decode cX12_waits 143 = .ok (.iload_n 2, 1) := by decide +kernel
theorem dX12_waits_144 : decode cX12_waits 144 = .ok (.if_icmp .lt 13, 3) := by decide +kernel
theorem dX12_waits_147 : decode cX12_waits 147 = .ok (.iload 7, 2) := by decide +kernel
theorem dX12_waits_149 : decode cX12_waits 149 = .ok (.iload_n 3, 1) := by decide +kernel
theorem dX12_waits_150 : decode cX12_waits 150 = .ok (.if_icmp .ge 7, 3) := by decide +kernel
theorem dX12_waits_153 : decode cX12_waits 153 = .ok (.iload_n 3, 1) := by decide +kernel
theorem dX12_waits_154 : decode cX12_waits 154 = .ok (.goto 5, 3) := by decide +kernel
theorem dX12_waits_157 : decode cX12_waits 157 = .ok (.iload 7, 2) := by decide +kernel
theorem dX12_waits_159 : decode cX12_waits 159 = .ok (.istore 7, 2) := by decide +kernel
theorem dX12_waits_161 : decode cX12_waits 161 = .ok (.iload 6, 2) := by decide +kernel
theorem dX12_waits_163 : decode cX12_waits 163 = .ok (.iload_n 1, 1) := by decide +kernel
theorem dX12_waits_164 : decode cX12_waits 164 = .ok (.if_icmp .ne 13, 3) := by decide +kernel
theorem dX12_waits_167 : decode cX12_waits 167 = .ok (.iload 7, 2) := by decide +kernel
theorem dX12_waits_169 : decode cX12_waits 169 = .ok (.aload_n 0, 1) := by decide +kernel
theorem dX12_waits_170 : decode cX12_waits 170 = .ok (.getfield 51, 3) := by decide +kernel
theorem dX12_waits_173 : decode cX12_waits 173 = .ok (.iload_n 1, 1) := by decide +kernel
theorem dX12_waits_174 : decode cX12_waits 174 = .ok (.iaload, 1) := by decide +kernel
theorem dX12_waits_175 : decode cX12_waits 175 = .ok (.isub, 1) := by decide +kernel
theorem dX12_waits_176 : decode cX12_waits 176 = .ok (.ireturn, 1) := by decide +kernel
theorem dX12_waits_177 : decode cX12_waits 177 = .ok (.iload 7, 2) := by decide +kernel
theorem dX12_waits_179 : decode cX12_waits 179 = .ok (.aload_n 0, 1) := by decide +kernel
theorem dX12_waits_180 : decode cX12_waits 180 = .ok (.getfield 54, 3) := by decide +kernel
theorem dX12_waits_183 : decode cX12_waits 183 = .ok (.iload 6, 2) := by decide +kernel
theorem dX12_waits_185 : decode cX12_waits 185 = .ok (.iaload, 1) := by decide +kernel
theorem dX12_waits_186 : decode cX12_waits 186 = .ok (.iadd, 1) := by decide +kernel
theorem dX12_waits_187 : decode cX12_waits 187 = .ok (.istore 5, 2) := by decide +kernel
theorem dX12_waits_189 : decode cX12_waits 189 = .ok (.iload 4, 2) := by decide +kernel
theorem dX12_waits_191 : decode cX12_waits 191 = .ok (.iconst 1, 1) := by decide +kernel
theorem dX12_waits_192 : decode cX12_waits 192 = .ok (.iload 6, 2) := by decide +kernel
theorem dX12_waits_194 : decode cX12_waits 194 = .ok (.ishl, 1) := by decide +kernel
theorem dX12_waits_195 : decode cX12_waits 195 = .ok (.ior, 1) := by decide +kernel
theorem dX12_waits_196 : decode cX12_waits 196 = .ok (.istore 4, 2) := by decide +kernel
theorem dX12_waits_198 : decode cX12_waits 198 = .ok (.goto (-143), 3) := by decide +kernel
theorem dX12_closingsOf_0 : decode cX12_closingsOf 0 = .ok (.iconst 0, 1) := by decide +kernel
theorem dX12_closingsOf_1 : decode cX12_closingsOf 1 = .ok (.istore 7, 2) := by decide +kernel
theorem dX12_closingsOf_3 : decode cX12_closingsOf 3 = .ok (.iconst 0, 1) := by decide +kernel
theorem dX12_closingsOf_4 : decode cX12_closingsOf 4 = .ok (.istore 8, 2) := by decide +kernel
theorem dX12_closingsOf_6 : decode cX12_closingsOf 6 = .ok (.iload 8, 2) := by decide +kernel
theorem dX12_closingsOf_8 : decode cX12_closingsOf 8 = .ok (.iload_n 3, 1) := by decide +kernel
theorem dX12_closingsOf_9 : decode cX12_closingsOf 9 = .ok (.if_icmp .ge 51, 3) := by decide +kernel
theorem dX12_closingsOf_12 : decode cX12_closingsOf 12 = .ok (.iload 7, 2) := by decide +kernel
theorem dX12_closingsOf_14 : decode cX12_closingsOf 14 = .ok (.aload_n 0, 1) := by decide +kernel
theorem dX12_closingsOf_15 : decode cX12_closingsOf 15 = .ok (.getfield 22, 3) := by decide +kernel
theorem dX12_closingsOf_18 : decode cX12_closingsOf 18 = .ok (.bipush 60, 2) := by decide +kernel
theorem dX12_closingsOf_20 : decode cX12_closingsOf 20 = .ok (.iload_n 1, 1) := by decide +kernel
theorem dX12_closingsOf_21 : decode cX12_closingsOf 21 = .ok (.imul, 1) := by decide +kernel
theorem dX12_closingsOf_22 : decode cX12_closingsOf 22 = .ok (.iload_n 2, 1) := by decide +kernel
theorem dX12_closingsOf_23 : decode cX12_closingsOf 23 = .ok (.iadd, 1) := by decide +kernel
theorem dX12_closingsOf_24 : decode cX12_closingsOf 24 = .ok (.iload 8, 2) := by decide +kernel
theorem dX12_closingsOf_26 : decode cX12_closingsOf 26 = .ok (.iadd, 1) := by decide +kernel
theorem dX12_closingsOf_27 : decode cX12_closingsOf 27 = .ok (.iaload, 1) := by decide +kernel
theorem dX12_closingsOf_28 : decode cX12_closingsOf 28 = .ok (.i2l, 1) := by decide +kernel
theorem dX12_closingsOf_29 : decode cX12_closingsOf 29 = .ok (.iload 6, 2) := by decide +kernel
theorem dX12_closingsOf_31 : decode cX12_closingsOf 31 = .ok (.iload 4, 2) := by decide +kernel
theorem dX12_closingsOf_33 : decode cX12_closingsOf 33 = .ok (.imul, 1) := by decide +kernel
theorem dX12_closingsOf_34 : decode cX12_closingsOf 34 = .ok (.bipush 10, 2) := by decide +kernel
theorem dX12_closingsOf_36 : decode cX12_closingsOf 36 = .ok (.idiv, 1) := by decide +kernel
theorem dX12_closingsOf_37 : decode cX12_closingsOf 37 = .ok (.i2l, 1) := by decide +kernel
theorem dX12_closingsOf_38 : decode cX12_closingsOf 38 = .ok (.ladd, 1) := by decide +kernel
theorem dX12_closingsOf_39 : decode cX12_closingsOf 39 = .ok (.iload 5, 2) := by decide +kernel
theorem dX12_closingsOf_41 : decode cX12_closingsOf 41 = .ok (.i2l, 1) := by decide +kernel
theorem dX12_closingsOf_42 : decode cX12_closingsOf 42 = .ok (.lcmp, 1) := by decide +kernel
theorem dX12_closingsOf_43 : decode cX12_closingsOf 43 = .ok (.ifCond .le 7, 3) := by decide +kernel
theorem dX12_closingsOf_46 : decode cX12_closingsOf 46 = .ok (.iconst 1, 1) := by decide +kernel
theorem dX12_closingsOf_47 : decode cX12_closingsOf 47 = .ok (.goto 4, 3) := by decide +kernel
theorem dX12_closingsOf_50 : decode cX12_closingsOf 50 = .ok (.iconst 0, 1) := by decide +kernel
theorem dX12_closingsOf_51 : decode cX12_closingsOf 51 = .ok (.iadd, 1) := by decide +kernel
theorem dX12_closingsOf_52 : decode cX12_closingsOf 52 = .ok (.istore 7, 2) := by decide +kernel
theorem dX12_closingsOf_54 : decode cX12_closingsOf 54 = .ok (.iinc 8 1, 3) := by decide +kernel
theorem dX12_closingsOf_57 : decode cX12_closingsOf 57 = .ok (.goto (-51), 3) := by decide +kernel
theorem dX12_closingsOf_60 : decode cX12_closingsOf 60 = .ok (.iload 7, 2) := by decide +kernel
theorem dX12_closingsOf_62 : decode cX12_closingsOf 62 = .ok (.ireturn, 1) := by decide +kernel
set_option maxRecDepth 20000 in
theorem ggX12_closings_X12_isSheet : GoodIn wsX12_closings wsX12_isSheet := goodIn_r _ [12, 13, 14, 15, 11, 16] (by decide +kernel) (by decide +kernel)
set_option maxRecDepth 20000 in
theorem gX12_closings_X12_isSheet : GoodIn wsX12_closings (va_wsS RX12 74 yX12_isSheet wsX12_isSheet) := goodIn_app (goodIn_of _ (by decide +kernel)) ggX12_closings_X12_isSheet
set_option maxRecDepth 20000 in
theorem ggX12_closings_X12_in : GoodIn wsX12_closings wsX12_in := goodIn_r _ [16] (by decide +kernel) (by decide +kernel)
set_option maxRecDepth 20000 in
theorem gX12_closings_X12_in : GoodIn wsX12_closings (va_wsS RX12 70 yX12_in wsX12_in) := goodIn_app (goodIn_of _ (by decide +kernel)) ggX12_closings_X12_in
set_option maxRecDepth 20000 in
theorem ggX12_closings_X12_found : GoodIn wsX12_closings wsX12_found := goodIn_r _ [20, 6, 21, 27, 28, 29, 30, 31, 32, 33, 34, 35, 36, 37, 38, 39, 40, 41, 42, 43, 44, 45, 46, 47, 48] (by decide +kernel) (by decide +kernel)
set_option maxRecDepth 20000 in
theorem gX12_closings_X12_found : GoodIn wsX12_closings (wsV RX12 81 RX12 yX12_found wsX12_found) := goodIn_app (goodIn_of _ (by decide +kernel)) ggX12_closings_X12_found
set_option maxRecDepth 20000 in
theorem ggX12_closings_X12_closingsOf : GoodIn wsX12_closings wsX12_closingsOf := goodIn_r _ [25, 26, 27, 28, 29, 30, 31, 32, 33, 34, 35, 36, 37, 38, 39, 40, 41, 42, 43, 44, 45, 46, 47, 48] (by decide +kernel) (by decide +kernel)
set_option maxRecDepth 20000 in
theorem gX12_closings_X12_closingsOf : GoodIn wsX12_closings (wsV RX12 150 RX12 yX12_closingsOf wsX12_closingsOf) := goodIn_app (goodIn_of _ (by decide +kernel)) ggX12_closings_X12_closingsOf
theorem dX12_closings_0 : decode cX12_closings 0 = .ok (.aload_n 0, 1) := by decide +kernel
theorem dX12_closings_1 : decode cX12_closings 1 = .ok (.iconst 0, 1) := by decide +kernel
theorem dX12_closings_2 : decode cX12_closings 2 = .ok (.putfield 60, 3) := by decide +kernel
theorem dX12_closings_5 : decode cX12_closings 5 = .ok (.iload_n 1, 1) := by decide +kernel
theorem dX12_closings_6 : decode cX12_closings 6 = .ok (.invokestatic 74, 3) := by decide +kernel
theorem dX12_closings_9 : decode cX12_closings 9 = .ok (.ifCond .eq 41, 3) := by decide +kernel
theorem dX12_closings_12 : decode cX12_closings 12 = .ok (.iload_n 3, 1) := by decide +kernel
theorem dX12_closings_13 : decode cX12_closings 13 = .ok (.i2l, 1) := by decide +kernel
theorem dX12_closings_14 : decode cX12_closings 14 = .ok (.lconst 1, 1) := by decide +kernel
theorem dX12_closings_15 : decode cX12_closings 15 = .ok (.ldc2_w 146, 3) := by decide +kernel
theorem dX12_closings_18 : decode cX12_closings 18 = .ok (.invokestatic 70, 3) := by decide +kernel
theorem dX12_closings_21 : decode cX12_closings 21 = .ok (.ifCond .eq 29, 3) := by decide +kernel
theorem dX12_closings_24 : decode cX12_closings 24 = .ok (.iload 6, 2) := by decide +kernel
theorem dX12_closings_26 : decode cX12_closings 26 = .ok (.i2l, 1) := by decide +kernel
theorem dX12_closings_27 : decode cX12_closings 27 = .ok (.lconst 0, 1) := by decide +kernel
theorem dX12_closings_28 : decode cX12_closings 28 = .ok (.ldc2_w 148, 3) := by decide +kernel
theorem dX12_closings_31 : decode cX12_closings 31 = .ok (.invokestatic 70, 3) := by decide +kernel
theorem dX12_closings_34 : decode cX12_closings 34 = .ok (.ifCond .eq 16, 3) := by decide +kernel
theorem dX12_closings_37 : decode cX12_closings 37 = .ok (.iload 4, 2) := by decide +kernel
theorem dX12_closings_39 : decode cX12_closings 39 = .ok (.i2l, 1) := by decide +kernel
theorem dX12_closings_40 : decode cX12_closings 40 = .ok (.lconst 0, 1) := by decide +kernel
theorem dX12_closings_41 : decode cX12_closings 41 = .ok (.ldc2_w 95, 3) := by decide +kernel
theorem dX12_closings_44 : decode cX12_closings 44 = .ok (.invokestatic 70, 3) := by decide +kernel
theorem dX12_closings_47 : decode cX12_closings 47 = .ok (.ifCond .ne 6, 3) := by decide +kernel
theorem dX12_closings_50 : decode cX12_closings 50 = .ok (.ldc 80, 2) := by decide +kernel
theorem dX12_closings_52 : decode cX12_closings 52 = .ok (.ireturn, 1) := by decide +kernel
theorem dX12_closings_53 : decode cX12_closings 53 = .ok (.aload_n 0, 1) := by decide +kernel
theorem dX12_closings_54 : decode cX12_closings 54 = .ok (.iconst 0, 1) := by decide +kernel
theorem dX12_closings_55 : decode cX12_closings 55 = .ok (.putfield 64, 3) := by decide +kernel
theorem dX12_closings_58 : decode cX12_closings 58 = .ok (.aload_n 0, 1) := by decide +kernel
theorem dX12_closings_59 : decode cX12_closings 59 = .ok (.getfield 16, 3) := by decide +kernel
theorem dX12_closings_62 : decode cX12_closings 62 = .ok (.iload_n 1, 1) := by decide +kernel
theorem dX12_closings_63 : decode cX12_closings 63 = .ok (.iaload, 1) := by decide +kernel
theorem dX12_closings_64 : decode cX12_closings 64 = .ok (.ifCond .ge 9, 3) := by decide +kernel
theorem dX12_closings_67 : decode cX12_closings 67 = .ok (.aload_n 0, 1) := by decide +kernel
theorem dX12_closings_68 : decode cX12_closings 68 = .ok (.iconst 1, 1) := by decide +kernel
theorem dX12_closings_69 : decode cX12_closings 69 = .ok (.invokevirtual 81, 3) := by decide +kernel
theorem dX12_closings_72 : decode cX12_closings 72 = .ok (.ireturn, 1) := by decide +kernel
theorem dX12_closings_73 : decode cX12_closings 73 = .ok (.iload_n 2, 1) := by decide +kernel
theorem dX12_closings_74 : decode cX12_closings 74 = .ok (.ifCond .lt 19, 3) := by decide +kernel
theorem dX12_closings_77 : decode cX12_closings 77 = .ok (.iload_n 2, 1) := by decide +kernel
theorem dX12_closings_78 : decode cX12_closings 78 = .ok (.i2l, 1) := by decide +kernel
theorem dX12_closings_79 : decode cX12_closings 79 = .ok (.iload_n 3, 1) := by decide +kernel
theorem dX12_closings_80 : decode cX12_closings 80 = .ok (.i2l, 1) := by decide +kernel
theorem dX12_closings_81 : decode cX12_closings 81 = .ok (.ladd, 1) := by decide +kernel
theorem dX12_closings_82 : decode cX12_closings 82 = .ok (.aload_n 0, 1) := by decide +kernel
theorem dX12_closings_83 : decode cX12_closings 83 = .ok (.getfield 19, 3) := by decide +kernel
theorem dX12_closings_86 : decode cX12_closings 86 = .ok (.iload_n 1, 1) := by decide +kernel
theorem dX12_closings_87 : decode cX12_closings 87 = .ok (.iaload, 1) := by decide +kernel
theorem dX12_closings_88 : decode cX12_closings 88 = .ok (.i2l, 1) := by decide +kernel
theorem dX12_closings_89 : decode cX12_closings 89 = .ok (.lcmp, 1) := by decide +kernel
theorem dX12_closings_90 : decode cX12_closings 90 = .ok (.ifCond .le 9, 3) := by decide +kernel
theorem dX12_closings_93 : decode cX12_closings 93 = .ok (.aload_n 0, 1) := by decide +kernel
theorem dX12_closings_94 : decode cX12_closings 94 = .ok (.iconst 2, 1) := by decide +kernel
theorem dX12_closings_95 : decode cX12_closings 95 = .ok (.invokevirtual 81, 3) := by decide +kernel
theorem dX12_closings_98 : decode cX12_closings 98 = .ok (.ireturn, 1) := by decide +kernel
theorem dX12_closings_99 : decode cX12_closings 99 = .ok (.aload_n 0, 1) := by decide +kernel
theorem dX12_closings_100 : decode cX12_closings 100 = .ok (.iload_n 1, 1) := by decide +kernel
theorem dX12_closings_101 : decode cX12_closings 101 = .ok (.iload_n 2, 1) := by decide +kernel
theorem dX12_closings_102 : decode cX12_closings 102 = .ok (.iload_n 3, 1) := by decide +kernel
theorem dX12_closings_103 : decode cX12_closings 103 = .ok (.iload 4, 2) := by decide +kernel
theorem dX12_closings_105 : decode cX12_closings 105 = .ok (.iload 5, 2) := by decide +kernel
theorem dX12_closings_107 : decode cX12_closings 107 = .ok (.iload 6, 2) := by decide +kernel
theorem dX12_closings_109 : decode cX12_closings 109 = .ok (.invokevirtual 150, 3) := by decide +kernel
theorem dX12_closings_112 : decode cX12_closings 112 = .ok (.ireturn, 1) := by decide +kernel
set_option maxRecDepth 20000 in
theorem ggX12_tooMany_X12_isSheet : GoodIn wsX12_tooMany wsX12_isSheet := goodIn_r _ [12, 13, 14, 15, 11, 16] (by decide +kernel) (by decide +kernel)
set_option maxRecDepth 20000 in
theorem gX12_tooMany_X12_isSheet : GoodIn wsX12_tooMany (va_wsS RX12 74 yX12_isSheet wsX12_isSheet) := goodIn_app (goodIn_of _ (by decide +kernel)) ggX12_tooMany_X12_isSheet
set_option maxRecDepth 20000 in
theorem ggX12_tooMany_X12_in : GoodIn wsX12_tooMany wsX12_in := goodIn_r _ [16] (by decide +kernel) (by decide +kernel)
set_option maxRecDepth 20000 in
theorem gX12_tooMany_X12_in : GoodIn wsX12_tooMany (va_wsS RX12 70 yX12_in wsX12_in) := goodIn_app (goodIn_of _ (by decide +kernel)) ggX12_tooMany_X12_in
set_option maxRecDepth 20000 in
theorem ggX12_tooMany_X12_found : GoodIn wsX12_tooMany wsX12_found := goodIn_r _ [20, 5, 21, 27, 28, 29, 30, 31, 32, 33, 34, 35, 36, 37, 38, 39, 40, 41, 42, 43, 44, 45, 46, 47, 48] (by decide +kernel) (by decide +kernel)
set_option maxRecDepth 20000 in
theorem gX12_tooMany_X12_found : GoodIn wsX12_tooMany (wsV RX12 81 RX12 yX12_found wsX12_found) := goodIn_app (goodIn_of _ (by decide +kernel)) ggX12_tooMany_X12_found
set_option maxRecDepth 20000 in
theorem ggX12_tooMany_X12_closingsOf : GoodIn wsX12_tooMany wsX12_closingsOf := goodIn_r _ [25, 26, 27, 28, 29, 30, 31, 32, 33, 34, 35, 36, 37, 38, 39, 40, 41, 42, 43, 44, 45, 46, 47, 48] (by decide +kernel) (by decide +kernel)
set_option maxRecDepth 20000 in
theorem gX12_tooMany_X12_closingsOf : GoodIn wsX12_tooMany (wsV RX12 150 RX12 yX12_closingsOf wsX12_closingsOf) := goodIn_app (goodIn_of _ (by decide +kernel)) ggX12_tooMany_X12_closingsOf
theorem dX12_tooMany_0 : decode cX12_tooMany 0 = .ok (.aload_n 0, 1) := by decide +kernel
theorem dX12_tooMany_1 : decode cX12_tooMany 1 = .ok (.iconst 0, 1) := by decide +kernel
theorem dX12_tooMany_2 : decode cX12_tooMany 2 = .ok (.putfield 60, 3) := by decide +kernel
theorem dX12_tooMany_5 : decode cX12_tooMany 5 = .ok (.iload_n 1, 1) := by decide +kernel
theorem dX12_tooMany_6 : decode cX12_tooMany 6 = .ok (.invokestatic 74, 3) := by decide +kernel
theorem dX12_tooMany_9 : decode cX12_tooMany 9 = .ok (.ifCond .eq 33, 3) := by decide +kernel
theorem dX12_tooMany_12 : decode cX12_tooMany 12 = .ok (.iload_n 3, 1) := by decide +kernel
theorem dX12_tooMany_13 : decode cX12_tooMany 13 = .ok (.i2l, 1) := by decide +kernel
theorem dX12_tooMany_14 : decode cX12_tooMany 14 = .ok (.lconst 1, 1) := by decide +kernel
theorem dX12_tooMany_15 : decode cX12_tooMany 15 = .ok (.ldc2_w 146, 3) := by decide +kernel
theorem dX12_tooMany_18 : decode cX12_tooMany 18 = .ok (.invokestatic 70, 3) := by decide +kernel
theorem dX12_tooMany_21 : decode cX12_tooMany 21 = .ok (.ifCond .eq 21, 3) := by decide +kernel
theorem dX12_tooMany_24 : decode cX12_tooMany 24 = .ok (.iload 4, 2) := by decide +kernel
theorem dX12_tooMany_26 : decode cX12_tooMany 26 = .ok (.i2l, 1) := by decide +kernel
theorem dX12_tooMany_27 : decode cX12_tooMany 27 = .ok (.lconst 0, 1) := by decide +kernel
theorem dX12_tooMany_28 : decode cX12_tooMany 28 = .ok (.ldc2_w 95, 3) := by decide +kernel
theorem dX12_tooMany_31 : decode cX12_tooMany 31 = .ok (.invokestatic 70, 3) := by decide +kernel
theorem dX12_tooMany_34 : decode cX12_tooMany 34 = .ok (.ifCond .eq 8, 3) := by decide +kernel
theorem dX12_tooMany_37 : decode cX12_tooMany 37 = .ok (.iload 6, 2) := by decide +kernel
theorem dX12_tooMany_39 : decode cX12_tooMany 39 = .ok (.ifCond .ge 6, 3) := by decide +kernel
theorem dX12_tooMany_42 : decode cX12_tooMany 42 = .ok (.ldc 80, 2) := by decide +kernel
theorem dX12_tooMany_44 : decode cX12_tooMany 44 = .ok (.ireturn, 1) := by decide +kernel
theorem dX12_tooMany_45 : decode cX12_tooMany 45 = .ok (.aload_n 0, 1) := by decide +kernel
theorem dX12_tooMany_46 : decode cX12_tooMany 46 = .ok (.iconst 0, 1) := by decide +kernel
theorem dX12_tooMany_47 : decode cX12_tooMany 47 = .ok (.putfield 64, 3) := by decide +kernel
theorem dX12_tooMany_50 : decode cX12_tooMany 50 = .ok (.aload_n 0, 1) := by decide +kernel
theorem dX12_tooMany_51 : decode cX12_tooMany 51 = .ok (.getfield 16, 3) := by decide +kernel
theorem dX12_tooMany_54 : decode cX12_tooMany 54 = .ok (.iload_n 1, 1) := by decide +kernel
theorem dX12_tooMany_55 : decode cX12_tooMany 55 = .ok (.iaload, 1) := by decide +kernel
theorem dX12_tooMany_56 : decode cX12_tooMany 56 = .ok (.ifCond .ge 9, 3) := by decide +kernel
theorem dX12_tooMany_59 : decode cX12_tooMany 59 = .ok (.aload_n 0, 1) := by decide +kernel
theorem dX12_tooMany_60 : decode cX12_tooMany 60 = .ok (.iconst 1, 1) := by decide +kernel
theorem dX12_tooMany_61 : decode cX12_tooMany 61 = .ok (.invokevirtual 81, 3) := by decide +kernel
theorem dX12_tooMany_64 : decode cX12_tooMany 64 = .ok (.ireturn, 1) := by decide +kernel
theorem dX12_tooMany_65 : decode cX12_tooMany 65 = .ok (.iload_n 2, 1) := by decide +kernel
theorem dX12_tooMany_66 : decode cX12_tooMany 66 = .ok (.ifCond .lt 19, 3) := by decide +kernel
theorem dX12_tooMany_69 : decode cX12_tooMany 69 = .ok (.iload_n 2, 1) := by decide +kernel
theorem dX12_tooMany_70 : decode cX12_tooMany 70 = .ok (.i2l, 1) := by decide +kernel
theorem dX12_tooMany_71 : decode cX12_tooMany 71 = .ok (.iload_n 3, 1) := by decide +kernel
theorem dX12_tooMany_72 : decode cX12_tooMany 72 = .ok (.i2l, 1) := by decide +kernel
theorem dX12_tooMany_73 : decode cX12_tooMany 73 = .ok (.ladd, 1) := by decide +kernel
theorem dX12_tooMany_74 : decode cX12_tooMany 74 = .ok (.aload_n 0, 1) := by decide +kernel
theorem dX12_tooMany_75 : decode cX12_tooMany 75 = .ok (.getfield 19, 3) := by decide +kernel
theorem dX12_tooMany_78 : decode cX12_tooMany 78 = .ok (.iload_n 1, 1) := by decide +kernel
theorem dX12_tooMany_79 : decode cX12_tooMany 79 = .ok (.iaload, 1) := by decide +kernel
theorem dX12_tooMany_80 : decode cX12_tooMany 80 = .ok (.i2l, 1) := by decide +kernel
theorem dX12_tooMany_81 : decode cX12_tooMany 81 = .ok (.lcmp, 1) := by decide +kernel
theorem dX12_tooMany_82 : decode cX12_tooMany 82 = .ok (.ifCond .le 9, 3) := by decide +kernel
theorem dX12_tooMany_85 : decode cX12_tooMany 85 = .ok (.aload_n 0, 1) := by decide +kernel
theorem dX12_tooMany_86 : decode cX12_tooMany 86 = .ok (.iconst 2, 1) := by decide +kernel
theorem dX12_tooMany_87 : decode cX12_tooMany 87 = .ok (.invokevirtual 81, 3) := by decide +kernel
theorem dX12_tooMany_90 : decode cX12_tooMany 90 = .ok (.ireturn, 1) := by decide +kernel
theorem dX12_tooMany_91 : decode cX12_tooMany 91 = .ok (.iconst 0, 1) := by decide +kernel
theorem dX12_tooMany_92 : decode cX12_tooMany 92 = .ok (.istore 7, 2) := by decide +kernel
theorem dX12_tooMany_94 : decode cX12_tooMany 94 = .ok (.iload 7, 2) := by decide +kernel
theorem dX12_tooMany_96 : decode cX12_tooMany 96 = .ok (.sipush 300, 3) := by decide +kernel
theorem dX12_tooMany_99 : decode cX12_tooMany 99 = .ok (.if_icmp .gt 30, 3) := by decide +kernel
theorem dX12_tooMany_102 : decode cX12_tooMany 102 = .ok (.aload_n 0, 1) := by decide +kernel
theorem dX12_tooMany_103 : decode cX12_tooMany 103 = .ok (.iload_n 1, 1) := by decide +kernel
theorem dX12_tooMany_104 : decode cX12_tooMany 104 = .ok (.iload_n 2, 1) := by decide +kernel
theorem dX12_tooMany_105 : decode cX12_tooMany 105 = .ok (.iload_n 3, 1) := by decide +kernel
theorem dX12_tooMany_106 : decode cX12_tooMany 106 = .ok (.iload 4, 2) := by decide +kernel
theorem dX12_tooMany_108 : decode cX12_tooMany 108 = .ok (.iload 5, 2) := by decide +kernel
theorem dX12_tooMany_110 : decode cX12_tooMany 110 = .ok (.iload 7, 2) := by decide +kernel
theorem dX12_tooMany_112 : decode cX12_tooMany 112 = .ok (.invokevirtual 150, 3) := by decide +kernel
theorem dX12_tooMany_115 : decode cX12_tooMany 115 = .ok (.iload 6, 2) := by decide +kernel
theorem dX12_tooMany_117 : decode cX12_tooMany 117 = .ok (.if_icmp .le 6, 3) := by decide +kernel
theorem dX12_tooMany_120 : decode cX12_tooMany 120 = .ok (.iload 7, 2) := by decide +kernel
theorem dX12_tooMany_122 : decode cX12_tooMany 122 = .ok (.ireturn, 1) := by decide +kernel
theorem dX12_tooMany_123 : decode cX12_tooMany 123 = .ok (.iinc 7 1, 3) := by decide +kernel
theorem dX12_tooMany_126 : decode cX12_tooMany 126 = .ok (.goto (-32), 3) := by decide +kernel
theorem dX12_tooMany_129 : decode cX12_tooMany 129 = .ok (.ldc 127, 2) := by decide +kernel
theorem dX12_tooMany_131 : decode cX12_tooMany 131 = .ok (.ireturn, 1) := by decide +kernel
theorem dX12_kindOf_0 : decode cX12_kindOf 0 = .ok (.aload_n 0, 1) := by decide +kernel
theorem dX12_kindOf_1 : decode cX12_kindOf 1 = .ok (.getfield 42, 3) := by decide +kernel
theorem dX12_kindOf_4 : decode cX12_kindOf 4 = .ok (.iload_n 1, 1) := by decide +kernel
theorem dX12_kindOf_5 : decode cX12_kindOf 5 = .ok (.iaload, 1) := by decide +kernel
theorem dX12_kindOf_6 : decode cX12_kindOf 6 = .ok (.ifCond .le 26, 3) := by decide +kernel
theorem dX12_kindOf_9 : decode cX12_kindOf 9 = .ok (.aload_n 0, 1) := by decide +kernel
theorem dX12_kindOf_10 : decode cX12_kindOf 10 = .ok (.getfield 42, 3) := by decide +kernel
theorem dX12_kindOf_13 : decode cX12_kindOf 13 = .ok (.iload_n 1, 1) := by decide +kernel
theorem dX12_kindOf_14 : decode cX12_kindOf 14 = .ok (.iaload, 1) := by decide +kernel
theorem dX12_kindOf_15 : decode cX12_kindOf 15 = .ok (.aload_n 0, 1) := by decide +kernel
theorem dX12_kindOf_16 : decode cX12_kindOf 16 = .ok (.getfield 39, 3) := by decide +kernel
theorem dX12_kindOf_19 : decode cX12_kindOf 19 = .ok (.iload_n 1, 1) := by decide +kernel
theorem dX12_kindOf_20 : decode cX12_kindOf 20 = .ok (.iaload, 1) := by decide +kernel
theorem dX12_kindOf_21 : decode cX12_kindOf 21 = .ok (.if_icmp .gt 7, 3) := by decide +kernel
theorem dX12_kindOf_24 : decode cX12_kindOf 24 = .ok (.iconst 2, 1) := by decide +kernel
theorem dX12_kindOf_25 : decode cX12_kindOf 25 = .ok (.goto 24, 3) := by decide +kernel
theorem dX12_kindOf_28 : decode cX12_kindOf 28 = .ok (.iconst 1, 1) := by decide +kernel
theorem dX12_kindOf_29 : decode cX12_kindOf 29 = .ok (.goto 20, 3) := by decide +kernel
theorem dX12_kindOf_32 : decode cX12_kindOf 32 = .ok (.aload_n 0, 1) := by decide +kernel
theorem dX12_kindOf_33 : decode cX12_kindOf 33 = .ok (.getfield 39, 3) := by decide +kernel
theorem dX12_kindOf_36 : decode cX12_kindOf 36 = .ok (.iload_n 1, 1) := by decide +kernel
theorem dX12_kindOf_37 : decode cX12_kindOf 37 = .ok (.iaload, 1) := by decide +kernel
theorem dX12_kindOf_38 : decode cX12_kindOf 38 = .ok (.sipush 200, 3) := by decide +kernel
theorem dX12_kindOf_41 : decode cX12_kindOf 41 = .ok (.if_icmp .lt 7, 3) := by decide +kernel
theorem dX12_kindOf_44 : decode cX12_kindOf 44 = .ok (.iconst 3, 1) := by decide +kernel
theorem dX12_kindOf_45 : decode cX12_kindOf 45 = .ok (.goto 4, 3) := by decide +kernel
theorem dX12_kindOf_48 : decode cX12_kindOf 48 = .ok (.iconst 0, 1) := by decide +kernel
theorem dX12_kindOf_49 : decode cX12_kindOf 49 = .ok (.ireturn, 1) := by decide +kernel
set_option maxRecDepth 20000 in
theorem ggX12_kind_X12_isGate : GoodIn wsX12_kind wsX12_isGate := goodIn_r _ [7, 8, 9, 10, 6, 11, 18, 19, 20, 21, 22, 23, 24, 25, 26, 27, 28, 29, 30, 31, 32, 33, 34, 35, 36, 37, 38, 39] (by decide +kernel) (by decide +kernel)
set_option maxRecDepth 20000 in
theorem gX12_kind_X12_isGate : GoodIn wsX12_kind (wsV RX12 135 RX12 yX12_isGate wsX12_isGate) := goodIn_app (goodIn_of _ (by decide +kernel)) ggX12_kind_X12_isGate
set_option maxRecDepth 20000 in
theorem ggX12_kind_X12_kindOf : GoodIn wsX12_kind wsX12_kindOf := goodIn_r _ [15, 16, 17, 18, 19, 20, 21, 22, 23, 24, 25, 26, 27, 28, 29, 30, 31, 32, 33, 34, 35, 36, 37, 38, 39] (by decide +kernel) (by decide +kernel)
set_option maxRecDepth 20000 in
theorem gX12_kind_X12_kindOf : GoodIn wsX12_kind (wsV RX12 154 RX12 yX12_kindOf wsX12_kindOf) := goodIn_app (goodIn_of _ (by decide +kernel)) ggX12_kind_X12_kindOf
theorem dX12_kind_0 : decode cX12_kind 0 = .ok (.aload_n 0, 1) := by decide +kernel
theorem dX12_kind_1 : decode cX12_kind 1 = .ok (.iconst 0, 1) := by decide +kernel
theorem dX12_kind_2 : decode cX12_kind 2 = .ok (.putfield 60, 3) := by decide +kernel
theorem dX12_kind_5 : decode cX12_kind 5 = .ok (.aload_n 0, 1) := by decide +kernel
theorem dX12_kind_6 : decode cX12_kind 6 = .ok (.iload_n 1, 1) := by decide +kernel
theorem dX12_kind_7 : decode cX12_kind 7 = .ok (.invokevirtual 135, 3) := by decide +kernel
theorem dX12_kind_10 : decode cX12_kind 10 = .ok (.ifCond .eq 11, 3) := by decide +kernel
theorem dX12_kind_13 : decode cX12_kind 13 = .ok (.aload_n 0, 1) := by decide +kernel
theorem dX12_kind_14 : decode cX12_kind 14 = .ok (.iload_n 1, 1) := by decide +kernel
theorem dX12_kind_15 : decode cX12_kind 15 = .ok (.invokevirtual 154, 3) := by decide +kernel
theorem dX12_kind_18 : decode cX12_kind 18 = .ok (.goto 5, 3) := by decide +kernel
theorem dX12_kind_21 : decode cX12_kind 21 = .ok (.ldc 80, 2) := by decide +kernel
theorem dX12_kind_23 : decode cX12_kind 23 = .ok (.ireturn, 1) := by decide +kernel
set_option maxRecDepth 20000 in
theorem ggX12_as_X12_isGate : GoodIn wsX12_as wsX12_isGate := goodIn_r _ [10, 11, 12, 13, 9, 14, 25, 26, 27, 28, 29, 30, 31, 32, 33, 34, 35, 36, 37, 38, 39, 40, 41, 42, 43, 44, 45, 46] (by decide +kernel) (by decide +kernel)
set_option maxRecDepth 20000 in
theorem gX12_as_X12_isGate : GoodIn wsX12_as (wsV RX12 135 RX12 yX12_isGate wsX12_isGate) := goodIn_app (goodIn_of _ (by decide +kernel)) ggX12_as_X12_isGate
set_option maxRecDepth 20000 in
theorem ggX12_as_X12_in : GoodIn wsX12_as wsX12_in := goodIn_r _ [14] (by decide +kernel) (by decide +kernel)
set_option maxRecDepth 20000 in
theorem gX12_as_X12_in : GoodIn wsX12_as (va_wsS RX12 70 yX12_in wsX12_in) := goodIn_app (goodIn_of _ (by decide +kernel)) ggX12_as_X12_in
set_option maxRecDepth 20000 in
theorem ggX12_as_X12_kindOf : GoodIn wsX12_as wsX12_kindOf := goodIn_r _ [18, 19, 5, 25, 26, 27, 28, 29, 30, 31, 32, 33, 34, 35, 36, 37, 38, 39, 40, 41, 42, 43, 44, 45, 46] (by decide +kernel) (by decide +kernel)
set_option maxRecDepth 20000 in
theorem gX12_as_X12_kindOf : GoodIn wsX12_as (wsV RX12 154 RX12 yX12_kindOf wsX12_kindOf) := goodIn_app (goodIn_of _ (by decide +kernel)) ggX12_as_X12_kindOf
set_option maxRecDepth 20000 in
theorem ggX12_as_X12_found : GoodIn wsX12_as wsX12_found := goodIn_r _ [23, 4, 24, 25, 26, 27, 28, 29, 30, 31, 32, 33, 34, 35, 36, 37, 38, 39, 40, 41, 42, 43, 44, 45, 46] (by decide +kernel) (by decide +kernel)
set_option maxRecDepth 20000 in
theorem gX12_as_X12_found : GoodIn wsX12_as (wsV RX12 81 RX12 yX12_found wsX12_found) := goodIn_app (goodIn_of _ (by decide +kernel)) ggX12_as_X12_found
theorem dX12_as_0 : decode cX12_as 0 = .ok (.aload_n 0, 1) := by decide +kernel
theorem dX12_as_1 : decode cX12_as 1 = .ok (.iconst 0, 1) := by decide +kernel
theorem dX12_as_2 : decode cX12_as 2 = .ok (.putfield 60, 3) := by decide +kernel
theorem dX12_as_5 : decode cX12_as 5 = .ok (.aload_n 0, 1) := by decide +kernel
theorem dX12_as_6 : decode cX12_as 6 = .ok (.iload_n 1, 1) := by decide +kernel
theorem dX12_as_7 : decode cX12_as 7 = .ok (.invokevirtual 135, 3) := by decide +kernel
theorem dX12_as_10 : decode cX12_as 10 = .ok (.ifCond .eq 15, 3) := by decide +kernel
theorem dX12_as_13 : decode cX12_as 13 = .ok (.iload_n 2, 1) := by decide +kernel
theorem dX12_as_14 : decode cX12_as 14 = .ok (.i2l, 1) := by decide +kernel
theorem dX12_as_15 : decode cX12_as 15 = .ok (.lconst 0, 1) := by decide +kernel
theorem dX12_as_16 : decode cX12_as 16 = .ok (.ldc2_w 97, 3) := by decide +kernel
theorem dX12_as_19 : decode cX12_as 19 = .ok (.invokestatic 70, 3) := by decide +kernel
theorem dX12_as_22 : decode cX12_as 22 = .ok (.ifCond .ne 6, 3) := by decide +kernel
theorem dX12_as_25 : decode cX12_as 25 = .ok (.ldc 80, 2) := by decide +kernel
theorem dX12_as_27 : decode cX12_as 27 = .ok (.ireturn, 1) := by decide +kernel
theorem dX12_as_28 : decode cX12_as 28 = .ok (.aload_n 0, 1) := by decide +kernel
theorem dX12_as_29 : decode cX12_as 29 = .ok (.iconst 0, 1) := by decide +kernel
theorem dX12_as_30 : decode cX12_as 30 = .ok (.putfield 64, 3) := by decide +kernel
theorem dX12_as_33 : decode cX12_as 33 = .ok (.aload_n 0, 1) := by decide +kernel
theorem dX12_as_34 : decode cX12_as 34 = .ok (.iload_n 1, 1) := by decide +kernel
theorem dX12_as_35 : decode cX12_as 35 = .ok (.invokevirtual 154, 3) := by decide +kernel
theorem dX12_as_38 : decode cX12_as 38 = .ok (.istore_n 3, 1) := by decide +kernel
theorem dX12_as_39 : decode cX12_as 39 = .ok (.iload_n 2, 1) := by decide +kernel
theorem dX12_as_40 : decode cX12_as 40 = .ok (.ifCond .eq 18, 3) := by decide +kernel
theorem dX12_as_43 : decode cX12_as 43 = .ok (.iload_n 3, 1) := by decide +kernel
theorem dX12_as_44 : decode cX12_as 44 = .ok (.iload_n 2, 1) := by decide +kernel
theorem dX12_as_45 : decode cX12_as 45 = .ok (.if_icmp .eq 13, 3) := by decide +kernel
theorem dX12_as_48 : decode cX12_as 48 = .ok (.iload_n 2, 1) := by decide +kernel
theorem dX12_as_49 : decode cX12_as 49 = .ok (.iconst 1, 1) := by decide +kernel
theorem dX12_as_50 : decode cX12_as 50 = .ok (.if_icmp .ne 17, 3) := by decide +kernel
theorem dX12_as_53 : decode cX12_as 53 = .ok (.iload_n 3, 1) := by decide +kernel
theorem dX12_as_54 : decode cX12_as 54 = .ok (.iconst 2, 1) := by decide +kernel
theorem dX12_as_55 : decode cX12_as 55 = .ok (.if_icmp .ne 12, 3) := by decide +kernel
theorem dX12_as_58 : decode cX12_as 58 = .ok (.aload_n 0, 1) := by decide +kernel
theorem dX12_as_59 : decode cX12_as 59 = .ok (.getfield 39, 3) := by decide +kernel
theorem dX12_as_62 : decode cX12_as 62 = .ok (.iload_n 1, 1) := by decide +kernel
theorem dX12_as_63 : decode cX12_as 63 = .ok (.iaload, 1) := by decide +kernel
theorem dX12_as_64 : decode cX12_as 64 = .ok (.goto 8, 3) := by decide +kernel
theorem dX12_as_67 : decode cX12_as 67 = .ok (.aload_n 0, 1) := by decide +kernel
theorem dX12_as_68 : decode cX12_as 68 = .ok (.iconst 3, 1) := by decide +kernel
theorem dX12_as_69 : decode cX12_as 69 = .ok (.invokevirtual 81, 3) := by decide +kernel
theorem dX12_as_72 : decode cX12_as 72 = .ok (.ireturn, 1) := by decide +kernel
theorem dX12_began_0 : decode cX12_began 0 = .ok (.aload_n 0, 1) := by decide +kernel
theorem dX12_began_1 : decode cX12_began 1 = .ok (.getfield 157, 3) := by decide +kernel
theorem dX12_began_4 : decode cX12_began 4 = .ok (.bipush 16, 2) := by decide +kernel
theorem dX12_began_6 : decode cX12_began 6 = .ok (.if_icmp .ge 23, 3) := by decide +kernel
theorem dX12_began_9 : decode cX12_began 9 = .ok (.aload_n 0, 1) := by decide +kernel
theorem dX12_began_10 : decode cX12_began 10 = .ok (.getfield 57, 3) := by decide +kernel
theorem dX12_began_13 : decode cX12_began 13 = .ok (.aload_n 0, 1) := by decide +kernel
theorem dX12_began_14 : decode cX12_began 14 = .ok (.getfield 157, 3) := by decide +kernel
theorem dX12_began_17 : decode cX12_began 17 = .ok (.iload_n 1, 1) := by decide +kernel
theorem dX12_began_18 : decode cX12_began 18 = .ok (.iastore, 1) := by decide +kernel
theorem dX12_began_19 : decode cX12_began 19 = .ok (.aload_n 0, 1) := by decide +kernel
theorem dX12_began_20 : decode cX12_began 20 = .ok (.dup, 1) := by decide +kernel
theorem dX12_began_21 : decode cX12_began 21 = .ok (.getfield 157, 3) := by decide +kernel
theorem dX12_began_24 : decode cX12_began 24 = .ok (.iconst 1, 1) := by decide +kernel
theorem dX12_began_25 : decode cX12_began 25 = .ok (.iadd, 1) := by decide +kernel
theorem dX12_began_26 : decode cX12_began 26 = .ok (.putfield 157, 3) := by decide +kernel
theorem dX12_began_29 : decode cX12_began 29 = .ok (.return_, 1) := by decide +kernel
set_option maxRecDepth 20000 in
theorem ggX12_cost_X12_kindOf : GoodIn wsX12_cost wsX12_kindOf := goodIn_r _ [7, 2, 1, 14, 15, 16, 17, 18, 19, 20, 21, 22, 23, 24, 25, 26, 27, 28, 29, 30, 31, 32, 33, 34, 35] (by decide +kernel) (by decide +kernel)
set_option maxRecDepth 20000 in
theorem gX12_cost_X12_kindOf : GoodIn wsX12_cost (wsV RX12 154 RX12 yX12_kindOf wsX12_kindOf) := goodIn_app (goodIn_of _ (by decide +kernel)) ggX12_cost_X12_kindOf
set_option maxRecDepth 20000 in
theorem ggX12_cost_X12_began : GoodIn wsX12_cost wsX12_began := goodIn_r _ [11, 12, 13, 14, 15, 16, 17, 18, 19, 20, 21, 22, 23, 24, 25, 26, 27, 28, 29, 30, 31, 32, 33, 34, 35] (by decide +kernel) (by decide +kernel)
set_option maxRecDepth 20000 in
theorem gX12_cost_X12_began : GoodIn wsX12_cost (wsV RX12 160 RX12 yX12_began wsX12_began) := goodIn_app (goodIn_of _ (by decide +kernel)) ggX12_cost_X12_began
theorem dX12_cost_0 : decode cX12_cost 0 = .ok (.aload_n 0, 1) := by decide +kernel
theorem dX12_cost_1 : decode cX12_cost 1 = .ok (.iload_n 1, 1) := by decide +kernel
theorem dX12_cost_2 : decode cX12_cost 2 = .ok (.invokevirtual 154, 3) := by decide +kernel
theorem dX12_cost_5 : decode cX12_cost 5 = .ok (.istore_n 2, 1) := by decide +kernel
theorem dX12_cost_6 : decode cX12_cost 6 = .ok (.iload_n 2, 1) := by decide +kernel
theorem dX12_cost_7 : decode cX12_cost 7 = .ok (.iconst 1, 1) := by decide +kernel
theorem dX12_cost_8 : decode cX12_cost 8 = .ok (.if_icmp .eq 8, 3) := by decide +kernel
theorem dX12_cost_11 : decode cX12_cost 11 = .ok (.iload_n 2, 1) := by decide +kernel
theorem dX12_cost_12 : decode cX12_cost 12 = .ok (.iconst 2, 1) := by decide +kernel
theorem dX12_cost_13 : decode cX12_cost 13 = .ok (.if_icmp .ne 7, 3) := by decide +kernel
theorem dX12_cost_16 : decode cX12_cost 16 = .ok (.iconst 1, 1) := by decide +kernel
theorem dX12_cost_17 : decode cX12_cost 17 = .ok (.goto 4, 3) := by decide +kernel
theorem dX12_cost_20 : decode cX12_cost 20 = .ok (.iconst 0, 1) := by decide +kernel
theorem dX12_cost_21 : decode cX12_cost 21 = .ok (.istore_n 3, 1) := by decide +kernel
theorem dX12_cost_22 : decode cX12_cost 22 = .ok (.iload_n 2, 1) := by decide +kernel
theorem dX12_cost_23 : decode cX12_cost 23 = .ok (.iconst 3, 1) := by decide +kernel
theorem dX12_cost_24 : decode cX12_cost 24 = .ok (.if_icmp .ne 9, 3) := by decide +kernel
theorem dX12_cost_27 : decode cX12_cost 27 = .ok (.aload_n 0, 1) := by decide +kernel
theorem dX12_cost_28 : decode cX12_cost 28 = .ok (.bipush 13, 2) := by decide +kernel
theorem dX12_cost_30 : decode cX12_cost 30 = .ok (.invokevirtual 160, 3) := by decide +kernel
theorem dX12_cost_33 : decode cX12_cost 33 = .ok (.iload_n 2, 1) := by decide +kernel
theorem dX12_cost_34 : decode cX12_cost 34 = .ok (.iconst 2, 1) := by decide +kernel
theorem dX12_cost_35 : decode cX12_cost 35 = .ok (.if_icmp .ne 9, 3) := by decide +kernel
theorem dX12_cost_38 : decode cX12_cost 38 = .ok (.aload_n 0, 1) := by decide +kernel
theorem dX12_cost_39 : decode cX12_cost 39 = .ok (.bipush 12, 2) := by decide +kernel
theorem dX12_cost_41 : decode cX12_cost 41 = .ok (.invokevirtual 160, 3) := by decide +kernel
theorem dX12_cost_44 : decode cX12_cost 44 = .ok (.iload_n 3, 1) := by decide +kernel
theorem dX12_cost_45 : decode cX12_cost 45 = .ok (.ifCond .eq 9, 3) := by decide +kernel
theorem dX12_cost_48 : decode cX12_cost 48 = .ok (.aload_n 0, 1) := by decide +kernel
theorem dX12_cost_49 : decode cX12_cost 49 = .ok (.bipush 11, 2) := by decide +kernel
theorem dX12_cost_51 : decode cX12_cost 51 = .ok (.invokevirtual 160, 3) := by decide +kernel
theorem dX12_cost_54 : decode cX12_cost 54 = .ok (.aload_n 0, 1) := by decide +kernel
theorem dX12_cost_55 : decode cX12_cost 55 = .ok (.bipush 10, 2) := by decide +kernel
theorem dX12_cost_57 : decode cX12_cost 57 = .ok (.invokevirtual 160, 3) := by decide +kernel
theorem dX12_cost_60 : decode cX12_cost 60 = .ok (.aload_n 0, 1) := by decide +kernel
theorem dX12_cost_61 : decode cX12_cost 61 = .ok (.getfield 39, 3) := by decide +kernel
theorem dX12_cost_64 : decode cX12_cost 64 = .ok (.iload_n 1, 1) := by decide +kernel
theorem dX12_cost_65 : decode cX12_cost 65 = .ok (.iaload, 1) := by decide +kernel
theorem dX12_cost_66 : decode cX12_cost 66 = .ok (.iload_n 3, 1) := by decide +kernel
theorem dX12_cost_67 : decode cX12_cost 67 = .ok (.ifCond .eq 12, 3) := by decide +kernel
theorem dX12_cost_70 : decode cX12_cost 70 = .ok (.aload_n 0, 1) := by decide +kernel
theorem dX12_cost_71 : decode cX12_cost 71 = .ok (.getfield 42, 3) := by decide +kernel
theorem dX12_cost_74 : decode cX12_cost 74 = .ok (.iload_n 1, 1) := by decide +kernel
theorem dX12_cost_75 : decode cX12_cost 75 = .ok (.iaload, 1) := by decide +kernel
theorem dX12_cost_76 : decode cX12_cost 76 = .ok (.goto 4, 3) := by decide +kernel
theorem dX12_cost_79 : decode cX12_cost 79 = .ok (.iconst 0, 1) := by decide +kernel
theorem dX12_cost_80 : decode cX12_cost 80 = .ok (.iadd, 1) := by decide +kernel
theorem dX12_cost_81 : decode cX12_cost 81 = .ok (.istore 4, 2) := by decide +kernel
theorem dX12_cost_83 : decode cX12_cost 83 = .ok (.iload_n 2, 1) := by decide +kernel
theorem dX12_cost_84 : decode cX12_cost 84 = .ok (.iconst 3, 1) := by decide +kernel
theorem dX12_cost_85 : decode cX12_cost 85 = .ok (.if_icmp .ne 12, 3) := by decide +kernel
theorem dX12_cost_88 : decode cX12_cost 88 = .ok (.iload 4, 2) := by decide +kernel
theorem dX12_cost_90 : decode cX12_cost 90 = .ok (.sipush 1000, 3) := by decide +kernel
theorem dX12_cost_93 : decode cX12_cost 93 = .ok (.iadd, 1) := by decide +kernel
theorem dX12_cost_94 : decode cX12_cost 94 = .ok (.goto 17, 3) := by decide +kernel
theorem dX12_cost_97 : decode cX12_cost 97 = .ok (.iload_n 2, 1) := by decide +kernel
theorem dX12_cost_98 : decode cX12_cost 98 = .ok (.iconst 2, 1) := by decide +kernel
theorem dX12_cost_99 : decode cX12_cost 99 = .ok (.if_icmp .ne 10, 3) := by decide +kernel
theorem dX12_cost_102 : decode cX12_cost 102 = .ok (.iload 4, 2) := by decide +kernel
theorem dX12_cost_104 : decode cX12_cost 104 = .ok (.iconst 2, 1) := by decide +kernel
theorem dX12_cost_105 : decode cX12_cost 105 = .ok (.idiv, 1) := by decide +kernel
theorem dX12_cost_106 : decode cX12_cost 106 = .ok (.goto 5, 3) := by decide +kernel
theorem dX12_cost_109 : decode cX12_cost 109 = .ok (.iload 4, 2) := by decide +kernel
theorem dX12_cost_111 : decode cX12_cost 111 = .ok (.ireturn, 1) := by decide +kernel
set_option maxRecDepth 20000 in
theorem ggX12_marked_X12_kindOf : GoodIn wsX12_marked wsX12_kindOf := goodIn_r _ [6, 7, 8, 19, 20, 21, 22, 23, 24, 25, 26, 27, 28, 29, 30, 31, 32, 33, 34, 35, 36, 37, 38, 39, 40] (by decide +kernel) (by decide +kernel)
set_option maxRecDepth 20000 in
theorem gX12_marked_X12_kindOf : GoodIn wsX12_marked (wsV RX12 154 RX12 yX12_kindOf wsX12_kindOf) := goodIn_app (goodIn_of _ (by decide +kernel)) ggX12_marked_X12_kindOf
set_option maxRecDepth 20000 in
theorem ggX12_marked_X12_began : GoodIn wsX12_marked wsX12_began := goodIn_r _ [12, 13, 14, 19, 20, 21, 22, 23, 24, 25, 26, 27, 28, 29, 30, 31, 32, 33, 34, 35, 36, 37, 38, 39, 40] (by decide +kernel) (by decide +kernel)
set_option maxRecDepth 20000 in
theorem gX12_marked_X12_began : GoodIn wsX12_marked (wsV RX12 160 RX12 yX12_began wsX12_began) := goodIn_app (goodIn_of _ (by decide +kernel)) ggX12_marked_X12_began
set_option maxRecDepth 20000 in
theorem ggX12_marked_X12_cost : GoodIn wsX12_marked wsX12_cost := goodIn_r _ [18, 8, 7, 2, 3, 4, 5, 6, 9, 10, 11, 12, 13, 14, 19, 20, 21, 22, 23, 24, 25, 26, 27, 28, 29, 30, 31, 32, 33, 34, 35, 36, 37, 38, 39, 40] (by decide +kernel) (by decide +kernel)
set_option maxRecDepth 20000 in
theorem gX12_marked_X12_cost : GoodIn wsX12_marked (wsV RX12 164 RX12 yX12_cost wsX12_cost) := goodIn_app (goodIn_of _ (by decide +kernel)) ggX12_marked_X12_cost
theorem dX12_marked_0 : decode cX12_marked 0 = .ok (.aload_n 0, 1) := by decide +kernel
theorem dX12_marked_1 : decode cX12_marked 1 = .ok (.iload_n 1, 1) := by decide +kernel
theorem dX12_marked_2 : decode cX12_marked 2 = .ok (.invokevirtual 154, 3) := by decide +kernel
theorem dX12_marked_5 : decode cX12_marked 5 = .ok (.istore_n 2, 1) := by decide +kernel
theorem dX12_marked_6 : decode cX12_marked 6 = .ok (.iload_n 2, 1) := by decide +kernel
theorem dX12_marked_7 : decode cX12_marked 7 = .ok (.iconst 1, 1) := by decide +kernel
theorem dX12_marked_8 : decode cX12_marked 8 = .ok (.if_icmp .eq 8, 3) := by decide +kernel
theorem dX12_marked_11 : decode cX12_marked 11 = .ok (.iload_n 2, 1) := by decide +kernel
theorem dX12_marked_12 : decode cX12_marked 12 = .ok (.iconst 2, 1) := by decide +kernel
theorem dX12_marked_13 : decode cX12_marked 13 = .ok (.if_icmp .ne 7, 3) := by decide +kernel
theorem dX12_marked_16 : decode cX12_marked 16 = .ok (.iconst 1, 1) := by decide +kernel
theorem dX12_marked_17 : decode cX12_marked 17 = .ok (.goto 4, 3) := by decide +kernel
theorem dX12_marked_20 : decode cX12_marked 20 = .ok (.iconst 0, 1) := by decide +kernel
theorem dX12_marked_21 : decode cX12_marked 21 = .ok (.istore_n 3, 1) := by decide +kernel
theorem dX12_marked_22 : decode cX12_marked 22 = .ok (.iload_n 2, 1) := by decide +kernel
theorem dX12_marked_23 : decode cX12_marked 23 = .ok (.iconst 3, 1) := by decide +kernel
theorem dX12_marked_24 : decode cX12_marked 24 = .ok (.if_icmp .ne 9, 3) := by decide +kernel
theorem dX12_marked_27 : decode cX12_marked 27 = .ok (.aload_n 0, 1) := by decide +kernel
theorem dX12_marked_28 : decode cX12_marked 28 = .ok (.bipush 22, 2) := by decide +kernel
theorem dX12_marked_30 : decode cX12_marked 30 = .ok (.invokevirtual 160, 3) := by decide +kernel
theorem dX12_marked_33 : decode cX12_marked 33 = .ok (.iload_n 3, 1) := by decide +kernel
theorem dX12_marked_34 : decode cX12_marked 34 = .ok (.ifCond .eq 9, 3) := by decide +kernel
theorem dX12_marked_37 : decode cX12_marked 37 = .ok (.aload_n 0, 1) := by decide +kernel
theorem dX12_marked_38 : decode cX12_marked 38 = .ok (.bipush 21, 2) := by decide +kernel
theorem dX12_marked_40 : decode cX12_marked 40 = .ok (.invokevirtual 160, 3) := by decide +kernel
theorem dX12_marked_43 : decode cX12_marked 43 = .ok (.aload_n 0, 1) := by decide +kernel
theorem dX12_marked_44 : decode cX12_marked 44 = .ok (.bipush 20, 2) := by decide +kernel
theorem dX12_marked_46 : decode cX12_marked 46 = .ok (.invokevirtual 160, 3) := by decide +kernel
theorem dX12_marked_49 : decode cX12_marked 49 = .ok (.aload_n 0, 1) := by decide +kernel
theorem dX12_marked_50 : decode cX12_marked 50 = .ok (.getfield 45, 3) := by decide +kernel
theorem dX12_marked_53 : decode cX12_marked 53 = .ok (.iload_n 1, 1) := by decide +kernel
theorem dX12_marked_54 : decode cX12_marked 54 = .ok (.baload, 1) := by decide +kernel
theorem dX12_marked_55 : decode cX12_marked 55 = .ok (.ifCond .eq 7, 3) := by decide +kernel
theorem dX12_marked_58 : decode cX12_marked 58 = .ok (.iconst 1, 1) := by decide +kernel
theorem dX12_marked_59 : decode cX12_marked 59 = .ok (.goto 4, 3) := by decide +kernel
theorem dX12_marked_62 : decode cX12_marked 62 = .ok (.iconst 0, 1) := by decide +kernel
theorem dX12_marked_63 : decode cX12_marked 63 = .ok (.istore 4, 2) := by decide +kernel
theorem dX12_marked_65 : decode cX12_marked 65 = .ok (.iload_n 2, 1) := by decide +kernel
theorem dX12_marked_66 : decode cX12_marked 66 = .ok (.iconst 3, 1) := by decide +kernel
theorem dX12_marked_67 : decode cX12_marked 67 = .ok (.if_icmp .ne 14, 3) := by decide +kernel
theorem dX12_marked_70 : decode cX12_marked 70 = .ok (.iload 4, 2) := by decide +kernel
theorem dX12_marked_72 : decode cX12_marked 72 = .ok (.aload_n 0, 1) := by decide +kernel
theorem dX12_marked_73 : decode cX12_marked 73 = .ok (.iload_n 1, 1) := by decide +kernel
theorem dX12_marked_74 : decode cX12_marked 74 = .ok (.invokevirtual 164, 3) := by decide +kernel
theorem dX12_marked_77 : decode cX12_marked 77 = .ok (.isub, 1) := by decide +kernel
theorem dX12_marked_78 : decode cX12_marked 78 = .ok (.goto 20, 3) := by decide +kernel
theorem dX12_marked_81 : decode cX12_marked 81 = .ok (.iload_n 3, 1) := by decide +kernel
theorem dX12_marked_82 : decode cX12_marked 82 = .ok (.ifCond .eq 14, 3) := by decide +kernel
theorem dX12_marked_85 : decode cX12_marked 85 = .ok (.iload 4, 2) := by decide +kernel
theorem dX12_marked_87 : decode cX12_marked 87 = .ok (.aload_n 0, 1) := by decide +kernel
theorem dX12_marked_88 : decode cX12_marked 88 = .ok (.iload_n 1, 1) := by decide +kernel
theorem dX12_marked_89 : decode cX12_marked 89 = .ok (.invokevirtual 164, 3) := by decide +kernel
theorem dX12_marked_92 : decode cX12_marked 92 = .ok (.iadd, 1) := by decide +kernel
theorem dX12_marked_93 : decode cX12_marked 93 = .ok (.goto 5, 3) := by decide +kernel
theorem dX12_marked_96 : decode cX12_marked 96 = .ok (.iload 4, 2) := by decide +kernel
theorem dX12_marked_98 : decode cX12_marked 98 = .ok (.ireturn, 1) := by decide +kernel
set_option maxRecDepth 20000 in
theorem ggX12_ask_X12_isGate : GoodIn wsX12_ask wsX12_isGate := goodIn_r _ [8, 9, 10, 11, 7, 12, 33, 34, 35, 36, 37, 38, 39, 40, 41, 42, 43, 44, 45, 46, 47, 48, 49, 50, 51, 52, 53, 54] (by decide +kernel) (by decide +kernel)
set_option maxRecDepth 20000 in
theorem gX12_ask_X12_isGate : GoodIn wsX12_ask (wsV RX12 135 RX12 yX12_isGate wsX12_isGate) := goodIn_app (goodIn_of _ (by decide +kernel)) ggX12_ask_X12_isGate
set_option maxRecDepth 20000 in
theorem ggX12_ask_X12_in : GoodIn wsX12_ask wsX12_in := goodIn_r _ [12] (by decide +kernel) (by decide +kernel)
set_option maxRecDepth 20000 in
theorem gX12_ask_X12_in : GoodIn wsX12_ask (va_wsS RX12 70 yX12_in wsX12_in) := goodIn_app (goodIn_of _ (by decide +kernel)) ggX12_ask_X12_in
set_option maxRecDepth 20000 in
theorem ggX12_ask_X12_cost : GoodIn wsX12_ask wsX12_cost := goodIn_r _ [16, 17, 18, 19, 20, 21, 7, 22, 23, 24, 25, 26, 3, 27, 33, 34, 35, 36, 37, 38, 39, 40, 41, 42, 43, 44, 45, 46, 47, 48, 49, 50, 51, 52, 53, 54] (by decide +kernel) (by decide +kernel)
set_option maxRecDepth 20000 in
theorem gX12_ask_X12_cost : GoodIn wsX12_ask (wsV RX12 164 RX12 yX12_cost wsX12_cost) := goodIn_app (goodIn_of _ (by decide +kernel)) ggX12_ask_X12_cost
set_option maxRecDepth 20000 in
theorem ggX12_ask_X12_marked : GoodIn wsX12_ask wsX12_marked := goodIn_r _ [31, 32, 19, 20, 21, 7, 22, 18, 17, 23, 24, 25, 26, 3, 27, 13, 14, 15, 16, 33, 34, 35, 36, 37, 38, 39, 40, 41, 42, 43, 44, 45, 46, 47, 48, 49, 50, 51, 52, 53, 54] (by decide +kernel) (by decide +kernel)
set_option maxRecDepth 20000 in
theorem gX12_ask_X12_marked : GoodIn wsX12_ask (wsV RX12 167 RX12 yX12_marked wsX12_marked) := goodIn_app (goodIn_of _ (by decide +kernel)) ggX12_ask_X12_marked
theorem dX12_ask_0 : decode cX12_ask 0 = .ok (.aload_n 0, 1) := by decide +kernel
theorem dX12_ask_1 : decode cX12_ask 1 = .ok (.iconst 0, 1) := by decide +kernel
theorem dX12_ask_2 : decode cX12_ask 2 = .ok (.putfield 60, 3) := by decide +kernel
theorem dX12_ask_5 : decode cX12_ask 5 = .ok (.aload_n 0, 1) := by decide +kernel
theorem dX12_ask_6 : decode cX12_ask 6 = .ok (.iload_n 1, 1) := by decide +kernel
theorem dX12_ask_7 : decode cX12_ask 7 = .ok (.invokevirtual 135, 3) := by decide +kernel
theorem dX12_ask_10 : decode cX12_ask 10 = .ok (.ifCond .eq 13, 3) := by decide +kernel
theorem dX12_ask_13 : decode cX12_ask 13 = .ok (.iload_n 2, 1) := by decide +kernel
theorem dX12_ask_14 : decode cX12_ask 14 = .ok (.i2l, 1) := by decide +kernel
theorem dX12_ask_15 : decode cX12_ask 15 = .ok (.lconst 0, 1) := by decide +kernel
theorem dX12_ask_16 : decode cX12_ask 16 = .ok (.lconst 1, 1) := by decide +kernel
theorem dX12_ask_17 : decode cX12_ask 17 = .ok (.invokestatic 70, 3) := by decide +kernel
theorem dX12_ask_20 : decode cX12_ask 20 = .ok (.ifCond .ne 6, 3) := by decide +kernel
theorem dX12_ask_23 : decode cX12_ask 23 = .ok (.ldc 80, 2) := by decide +kernel
theorem dX12_ask_25 : decode cX12_ask 25 = .ok (.ireturn, 1) := by decide +kernel
theorem dX12_ask_26 : decode cX12_ask 26 = .ok (.aload_n 0, 1) := by decide +kernel
theorem dX12_ask_27 : decode cX12_ask 27 = .ok (.iconst 0, 1) := by decide +kernel
theorem dX12_ask_28 : decode cX12_ask 28 = .ok (.putfield 157, 3) := by decide +kernel
theorem dX12_ask_31 : decode cX12_ask 31 = .ok (.iload_n 2, 1) := by decide +kernel
theorem dX12_ask_32 : decode cX12_ask 32 = .ok (.ifCond .ne 11, 3) := by decide +kernel
theorem dX12_ask_35 : decode cX12_ask 35 = .ok (.aload_n 0, 1) := by decide +kernel
theorem dX12_ask_36 : decode cX12_ask 36 = .ok (.iload_n 1, 1) := by decide +kernel
theorem dX12_ask_37 : decode cX12_ask 37 = .ok (.invokevirtual 164, 3) := by decide +kernel
theorem dX12_ask_40 : decode cX12_ask 40 = .ok (.goto 8, 3) := by decide +kernel
theorem dX12_ask_43 : decode cX12_ask 43 = .ok (.aload_n 0, 1) := by decide +kernel
theorem dX12_ask_44 : decode cX12_ask 44 = .ok (.iload_n 1, 1) := by decide +kernel
theorem dX12_ask_45 : decode cX12_ask 45 = .ok (.invokevirtual 167, 3) := by decide +kernel
theorem dX12_ask_48 : decode cX12_ask 48 = .ok (.ireturn, 1) := by decide +kernel
set_option maxRecDepth 20000 in
theorem ggX12_trace_X12_in : GoodIn wsX12_trace wsX12_in := goodIn_r _ [8] (by decide +kernel) (by decide +kernel)
set_option maxRecDepth 20000 in
theorem gX12_trace_X12_in : GoodIn wsX12_trace (va_wsS RX12 70 yX12_in wsX12_in) := goodIn_app (goodIn_of _ (by decide +kernel)) ggX12_trace_X12_in
theorem dX12_trace_0 : decode cX12_trace 0 = .ok (.aload_n 0, 1) := by decide +kernel
theorem dX12_trace_1 : decode cX12_trace 1 = .ok (.iconst 0, 1) := by decide +kernel
theorem dX12_trace_2 : decode cX12_trace 2 = .ok (.putfield 60, 3) := by decide +kernel
theorem dX12_trace_5 : decode cX12_trace 5 = .ok (.iload_n 1, 1) := by decide +kernel
theorem dX12_trace_6 : decode cX12_trace 6 = .ok (.i2l, 1) := by decide +kernel
theorem dX12_trace_7 : decode cX12_trace 7 = .ok (.lconst 0, 1) := by decide +kernel
theorem dX12_trace_8 : decode cX12_trace 8 = .ok (.aload_n 0, 1) := by decide +kernel
theorem dX12_trace_9 : decode cX12_trace 9 = .ok (.getfield 157, 3) := by decide +kernel
theorem dX12_trace_12 : decode cX12_trace 12 = .ok (.iconst 1, 1) := by decide +kernel
theorem dX12_trace_13 : decode cX12_trace 13 = .ok (.isub, 1) := by decide +kernel
theorem dX12_trace_14 : decode cX12_trace 14 = .ok (.i2l, 1) := by decide +kernel
theorem dX12_trace_15 : decode cX12_trace 15 = .ok (.invokestatic 70, 3) := by decide +kernel
theorem dX12_trace_18 : decode cX12_trace 18 = .ok (.ifCond .eq 12, 3) := by decide +kernel
theorem dX12_trace_21 : decode cX12_trace 21 = .ok (.aload_n 0, 1) := by decide +kernel
theorem dX12_trace_22 : decode cX12_trace 22 = .ok (.getfield 57, 3) := by decide +kernel
theorem dX12_trace_25 : decode cX12_trace 25 = .ok (.iload_n 1, 1) := by decide +kernel
theorem dX12_trace_26 : decode cX12_trace 26 = .ok (.iaload, 1) := by decide +kernel
theorem dX12_trace_27 : decode cX12_trace 27 = .ok (.goto 5, 3) := by decide +kernel
theorem dX12_trace_30 : decode cX12_trace 30 = .ok (.ldc 127, 2) := by decide +kernel
theorem dX12_trace_32 : decode cX12_trace 32 = .ok (.ireturn, 1) := by decide +kernel
theorem dX12_count_0 : decode cX12_count 0 = .ok (.aload_n 0, 1) := by decide +kernel
theorem dX12_count_1 : decode cX12_count 1 = .ok (.iconst 0, 1) := by decide +kernel
theorem dX12_count_2 : decode cX12_count 2 = .ok (.putfield 60, 3) := by decide +kernel
theorem dX12_count_5 : decode cX12_count 5 = .ok (.iconst 0, 1) := by decide +kernel
theorem dX12_count_6 : decode cX12_count 6 = .ok (.istore_n 2, 1) := by decide +kernel
theorem dX12_count_7 : decode cX12_count 7 = .ok (.iload_n 1, 1) := by decide +kernel
theorem dX12_count_8 : decode cX12_count 8 = .ok (.tableswitch 150 0 5 #[40, 73, 78, 105, 110, 145], 40) := by decide +kernel
theorem dX12_count_48 : decode cX12_count 48 = .ok (.iconst 0, 1) := by decide +kernel
theorem dX12_count_49 : decode cX12_count 49 = .ok (.istore_n 3, 1) := by decide +kernel
theorem dX12_count_50 : decode cX12_count 50 = .ok (.iload_n 3, 1) := by decide +kernel
theorem dX12_count_51 : decode cX12_count 51 = .ok (.bipush 8, 2) := by decide +kernel
theorem dX12_count_53 : decode cX12_count 53 = .ok (.if_icmp .ge 26, 3) := by decide +kernel
theorem dX12_count_56 : decode cX12_count 56 = .ok (.iload_n 2, 1) := by decide +kernel
theorem dX12_count_57 : decode cX12_count 57 = .ok (.aload_n 0, 1) := by decide +kernel
theorem dX12_count_58 : decode cX12_count 58 = .ok (.getfield 16, 3) := by decide +kernel
theorem dX12_count_61 : decode cX12_count 61 = .ok (.iload_n 3, 1) := by decide +kernel
theorem dX12_count_62 : decode cX12_count 62 = .ok (.iaload, 1) := by decide +kernel
theorem dX12_count_63 : decode cX12_count 63 = .ok (.ifCond .lt 7, 3) := by decide +kernel
theorem dX12_count_66 : decode cX12_count 66 = .ok (.iconst 1, 1) := by decide +kernel
theorem dX12_count_67 : decode cX12_count 67 = .ok (.goto 4, 3) := by decide +kernel
theorem dX12_count_70 : decode cX12_count 70 = .ok (.iconst 0, 1) := by decide +kernel
theorem dX12_count_71 : decode cX12_count 71 = .ok (.iadd, 1) := by decide +kernel
theorem dX12_count_72 : decode cX12_count 72 = .ok (.istore_n 2, 1) := by decide +kernel
theorem dX12_count_73 : decode cX12_count 73 = .ok (.iinc 3 1, 3) := by decide +kernel
theorem dX12_count_76 : decode cX12_count 76 = .ok (.goto (-26), 3) := by decide +kernel
theorem dX12_count_79 : decode cX12_count 79 = .ok (.iload_n 2, 1) := by decide +kernel
theorem dX12_count_80 : decode cX12_count 80 = .ok (.ireturn, 1) := by decide +kernel
theorem dX12_count_81 : decode cX12_count 81 = .ok (.aload_n 0, 1) := by decide +kernel
theorem dX12_count_82 : decode cX12_count 82 = .ok (.getfield 87, 3) := by decide +kernel
theorem dX12_count_85 : decode cX12_count 85 = .ok (.ireturn, 1) := by decide +kernel
theorem dX12_count_86 : decode cX12_count 86 = .ok (.iconst 0, 1) := by decide +kernel
theorem dX12_count_87 : decode cX12_count 87 = .ok (.istore_n 3, 1) := by decide +kernel
theorem dX12_count_88 : decode cX12_count 88 = .ok (.iload_n 3, 1) := by decide +kernel
theorem dX12_count_89 : decode cX12_count 89 = .ok (.aload_n 0, 1) := by decide +kernel
theorem dX12_count_90 : decode cX12_count 90 = .ok (.getfield 87, 3) := by decide +kernel
theorem dX12_count_93 : decode cX12_count 93 = .ok (.if_icmp .ge 18, 3) := by decide +kernel
theorem dX12_count_96 : decode cX12_count 96 = .ok (.iload_n 2, 1) := by decide +kernel
theorem dX12_count_97 : decode cX12_count 97 = .ok (.aload_n 0, 1) := by decide +kernel
theorem dX12_count_98 : decode cX12_count 98 = .ok (.getfield 25, 3) := by decide +kernel
theorem dX12_count_101 : decode cX12_count 101 = .ok (.iload_n 3, 1) := by decide +kernel
theorem dX12_count_102 : decode cX12_count 102 = .ok (.iaload, 1) := by decide +kernel
theorem dX12_count_103 : decode cX12_count 103 = .ok (.iadd, 1) := by decide +kernel
theorem dX12_count_104 : decode cX12_count 104 = .ok (.istore_n 2, 1) := by decide +kernel
theorem dX12_count_105 : decode cX12_count 105 = .ok (.iinc 3 1, 3) := by decide +kernel
theorem dX12_count_108 : decode cX12_count 108 = .ok (.goto (-20), 3) := by decide +kernel
theorem dX12_count_111 : decode cX12_count 111 = .ok (.iload_n 2, 1) := by decide +kernel
theorem dX12_count_112 : decode cX12_count 112 = .ok (.ireturn, 1) := by decide +kernel
theorem dX12_count_113 : decode cX12_count 113 = .ok (.aload_n 0, 1) := by decide +kernel
theorem dX12_count_114 : decode cX12_count 114 = .ok (.getfield 128, 3) := by decide +kernel
theorem dX12_count_117 : decode cX12_count 117 = .ok (.ireturn, 1) := by decide +kernel
theorem dX12_count_118 : decode cX12_count 118 = .ok (.iconst 0, 1) := by decide +kernel
theorem dX12_count_119 : decode cX12_count 119 = .ok (.istore_n 3, 1) := by decide +kernel
theorem dX12_count_120 : decode cX12_count 120 = .ok (.iload_n 3, 1) := by decide +kernel
theorem dX12_count_121 : decode cX12_count 121 = .ok (.aload_n 0, 1) := by decide +kernel
theorem dX12_count_122 : decode cX12_count 122 = .ok (.getfield 128, 3) := by decide +kernel
theorem dX12_count_125 : decode cX12_count 125 = .ok (.if_icmp .ge 26, 3) := by decide +kernel
theorem dX12_count_128 : decode cX12_count 128 = .ok (.iload_n 2, 1) := by decide +kernel
theorem dX12_count_129 : decode cX12_count 129 = .ok (.aload_n 0, 1) := by decide +kernel
theorem dX12_count_130 : decode cX12_count 130 = .ok (.getfield 45, 3) := by decide +kernel
theorem dX12_count_133 : decode cX12_count 133 = .ok (.iload_n 3, 1) := by decide +kernel
theorem dX12_count_134 : decode cX12_count 134 = .ok (.baload, 1) := by decide +kernel
theorem dX12_count_135 : decode cX12_count 135 = .ok (.ifCond .eq 7, 3) := by decide +kernel
theorem dX12_count_138 : decode cX12_count 138 = .ok (.iconst 1, 1) := by decide +kernel
theorem dX12_count_139 : decode cX12_count 139 = .ok (.goto 4, 3) := by decide +kernel
theorem dX12_count_142 : decode cX12_count 142 = .ok (.iconst 0, 1) := by decide +kernel
theorem dX12_count_143 : decode cX12_count 143 = .ok (.iadd, 1) := by decide +kernel
theorem dX12_count_144 : decode cX12_count 144 = .ok (.istore_n 2, 1) := by decide +kernel
theorem dX12_count_145 : decode cX12_count 145 = .ok (.iinc 3 1, 3) := by decide +kernel
theorem dX12_count_148 : decode cX12_count 148 = .ok (.goto (-28), 3) := by decide +kernel
theorem dX12_count_151 : decode cX12_count 151 = .ok (.iload_n 2, 1) := by decide +kernel
theorem dX12_count_152 : decode cX12_count 152 = .ok (.ireturn, 1) := by decide +kernel
theorem dX12_count_153 : decode cX12_count 153 = .ok (.aload_n 0, 1) := by decide +kernel
theorem dX12_count_154 : decode cX12_count 154 = .ok (.getfield 143, 3) := by decide +kernel
theorem dX12_count_157 : decode cX12_count 157 = .ok (.ireturn, 1) := by decide +kernel
theorem dX12_count_158 : decode cX12_count 158 = .ok (.ldc 80, 2) := by decide +kernel
theorem dX12_count_160 : decode cX12_count 160 = .ok (.ireturn, 1) := by decide +kernel
theorem dX12_status_0 : decode cX12_status 0 = .ok (.aload_n 0, 1) := by decide +kernel
theorem dX12_status_1 : decode cX12_status 1 = .ok (.iconst 0, 1) := by decide +kernel
theorem dX12_status_2 : decode cX12_status 2 = .ok (.putfield 60, 3) := by decide +kernel
theorem dX12_status_5 : decode cX12_status 5 = .ok (.aload_n 0, 1) := by decide +kernel
theorem dX12_status_6 : decode cX12_status 6 = .ok (.getfield 64, 3) := by decide +kernel
theorem dX12_status_9 : decode cX12_status 9 = .ok (.ireturn, 1) := by decide +kernel
